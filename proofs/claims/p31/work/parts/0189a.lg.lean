/-! the law's words, piece by piece -/
theorem goodIn_c1 {big a : List Cond} {c : Cond} (hc : GoodIn big [c]) (ha : GoodIn big a) : GoodIn big (c :: a) := fun w h => (List.mem_cons.mp h).elim (fun e => hc w (by rw [e]; exact List.mem_cons_self)) (ha w)
set_option maxRecDepth 20000 in
theorem ggL_feeds_J0_length_8abf5 : GoodIn wsL_feeds wsJ0_length_8abf5 := goodIn_r _ [6, 7, 8, 9, 10, 5, 11, 12, 13, 62, 63, 64, 65] (by decide +kernel) (by decide +kernel)
set_option maxRecDepth 20000 in
theorem gL_feeds_J0_length_8abf5 : GoodIn wsL_feeds (wsV RL 7 RJ0 yJ0_length_8abf5 wsJ0_length_8abf5) := goodIn_app (goodIn_of _ (by decide +kernel)) ggL_feeds_J0_length_8abf5
set_option maxRecDepth 20000 in
theorem ggL_feeds_J0_charAt_5068e : GoodIn wsL_feeds wsJ0_charAt_5068e := goodIn_r _ [17, 7, 18, 19, 20, 5, 21, 12, 13, 22, 23, 24, 25, 26, 27, 28, 29, 30, 31, 32, 33, 34, 35, 36, 37, 38, 39, 40, 41, 42, 43, 44, 45, 46, 47, 48, 49, 50, 62, 63, 64, 65] (by decide +kernel) (by decide +kernel)
set_option maxRecDepth 20000 in
theorem gL_feeds_J0_charAt_5068e : GoodIn wsL_feeds (wsV RL 13 RJ0 yJ0_charAt_5068e wsJ0_charAt_5068e) := goodIn_app (goodIn_of _ (by decide +kernel)) ggL_feeds_J0_charAt_5068e
set_option maxRecDepth 20000 in
theorem ggL_feeds_X9_append : GoodIn wsL_feeds wsX9_append := goodIn_r _ [55, 56, 57, 58, 59, 54, 60, 61, 66, 67, 68, 69, 70, 71, 72, 73, 74, 75, 76, 77] (by decide +kernel) (by decide +kernel)
set_option maxRecDepth 20000 in
theorem gL_feeds_X9_append : GoodIn wsL_feeds (wsV RL 17 RX9 yX9_append wsX9_append) := goodIn_app (goodIn_of _ (by decide +kernel)) ggL_feeds_X9_append
set_option maxRecDepth 20000 in
theorem gd_L_law_X9_init_0 : GoodIn wsL_law [.code yX9_init cX9_init 1 none] := goodIn_r _ [6] (by decide +kernel) (by decide +kernel)
set_option maxRecDepth 20000 in
theorem gd_L_law_X9_init_r1 : GoodIn wsL_law wsX9_init_r1 := goodIn_r _ [7, 8, 9, 3, 10, 11, 12, 13, 14, 15, 16, 17, 18, 19, 20, 21, 22, 23, 24, 25, 26, 27, 28, 29] (by decide +kernel) (by decide +kernel)
set_option maxRecDepth 20000 in
theorem gd_L_law_X9_init_r2 : GoodIn wsL_law wsX9_init_r2 := goodIn_r _ [30, 31, 32, 33, 34, 35, 36, 37, 38, 39, 40, 41, 42, 43, 44, 45, 46, 47, 48, 49, 50, 51, 52, 53] (by decide +kernel) (by decide +kernel)
set_option maxRecDepth 20000 in
theorem gd_L_law_X9_init_r3 : GoodIn wsL_law wsX9_init_r3 := goodIn_r _ [54, 55, 56, 57, 58, 59, 60, 61, 62, 63, 64, 65, 66, 67, 68, 69, 70, 71, 72, 73, 74, 75, 76, 77] (by decide +kernel) (by decide +kernel)
set_option maxRecDepth 20000 in
theorem gd_L_law_X9_init_r4 : GoodIn wsL_law wsX9_init_r4 := goodIn_r _ [78, 79, 80, 81, 82, 83, 84, 85, 86, 87, 88, 89, 90, 91, 92, 93, 94, 95, 96, 97, 98, 99, 100, 101] (by decide +kernel) (by decide +kernel)
set_option maxRecDepth 20000 in
theorem gd_L_law_X9_init_r5 : GoodIn wsL_law wsX9_init_r5 := goodIn_r _ [102, 103, 104, 105, 106, 107, 108, 109, 110, 111, 112, 113, 114, 115, 116, 117, 118, 119, 120, 121, 122, 123, 124, 125] (by decide +kernel) (by decide +kernel)
set_option maxRecDepth 20000 in
theorem gd_L_law_X9_init_r6 : GoodIn wsL_law wsX9_init_r6 := goodIn_r _ [126, 127, 128, 129, 130, 131, 132, 133, 134, 135, 136, 137, 138, 139, 140, 141, 142, 143, 144, 145, 146, 147, 148, 149] (by decide +kernel) (by decide +kernel)
set_option maxRecDepth 20000 in
theorem gd_L_law_X9_init_r7 : GoodIn wsL_law wsX9_init_r7 := goodIn_r _ [150, 151, 152, 153, 154, 155, 156, 157, 158, 159, 160, 161, 162, 163] (by decide +kernel) (by decide +kernel)
set_option maxRecDepth 20000 in
theorem gd_L_law_X9_init_X90 : GoodIn wsL_law wsX90 := goodIn_r _ [1030, 1031, 1032, 1033, 1034, 1035, 1036, 1037, 1038, 1039, 1040, 1041] (by decide +kernel) (by decide +kernel)
set_option maxRecDepth 20000 in
theorem gd_L_law_X9_init_X10 : GoodIn wsL_law wsX10 := goodIn_r _ [1042, 1043, 1044, 1045, 1046, 1047] (by decide +kernel) (by decide +kernel)
set_option maxRecDepth 20000 in
theorem gd_L_law_X9_init_X50 : GoodIn wsL_law wsX50 := goodIn_r _ [1048, 1049, 1050, 1051, 1052, 1053, 1054, 1055, 1056, 1057, 1058, 1059, 1060, 1061, 1062] (by decide +kernel) (by decide +kernel)
set_option maxRecDepth 20000 in
theorem gd_L_law_X9_init_X70 : GoodIn wsL_law wsX70 := goodIn_r _ [1063, 1064, 1065, 1066, 1067, 1068, 1069, 1070, 1071, 1072, 1073, 1074, 1075, 1076, 1077, 1078, 1079] (by decide +kernel) (by decide +kernel)
set_option maxRecDepth 20000 in
theorem gd_L_law_X9_init_X40 : GoodIn wsL_law wsX40 := goodIn_r _ [1080, 1081, 1082, 1083, 1084] (by decide +kernel) (by decide +kernel)
set_option maxRecDepth 20000 in
theorem gd_L_law_X9_init_X00 : GoodIn wsL_law wsX00 := goodIn_r _ [1085, 1086] (by decide +kernel) (by decide +kernel)
set_option maxRecDepth 20000 in
theorem gd_L_law_X9_init_X30 : GoodIn wsL_law wsX30 := goodIn_r _ [1087, 1088, 1089, 1090, 1091, 1092] (by decide +kernel) (by decide +kernel)
set_option maxRecDepth 20000 in
theorem gd_L_law_X9_init_J40 : GoodIn wsL_law wsJ40 := goodIn_r _ [1093, 1094, 1095, 1096] (by decide +kernel) (by decide +kernel)
set_option maxRecDepth 20000 in
theorem gd_L_law_X9_init_X80 : GoodIn wsL_law wsX80 := goodIn_r _ [1097, 1098, 1099, 1100, 1101] (by decide +kernel) (by decide +kernel)
set_option maxRecDepth 20000 in
theorem gd_L_law_X9_init_X20 : GoodIn wsL_law wsX20 := goodIn_r _ [1102, 1103, 1104, 1105, 1106] (by decide +kernel) (by decide +kernel)
set_option maxRecDepth 20000 in
theorem gd_L_law_X9_init_X60 : GoodIn wsL_law wsX60 := goodIn_r _ [1107, 1108, 1109] (by decide +kernel) (by decide +kernel)
set_option maxRecDepth 20000 in
theorem ggL_law_X9_init : GoodIn wsL_law wsX9_init := (goodIn_c1 gd_L_law_X9_init_0 (goodIn_app (goodIn_app (goodIn_app (goodIn_app (goodIn_app (goodIn_app (goodIn_app (goodIn_app (goodIn_app (goodIn_app (goodIn_app (goodIn_app gd_L_law_X9_init_r1 (goodIn_app gd_L_law_X9_init_r2 (goodIn_app gd_L_law_X9_init_r3 (goodIn_app gd_L_law_X9_init_r4 (goodIn_app gd_L_law_X9_init_r5 (goodIn_app gd_L_law_X9_init_r6 gd_L_law_X9_init_r7)))))) gd_L_law_X9_init_X90) gd_L_law_X9_init_X10) gd_L_law_X9_init_X50) gd_L_law_X9_init_X70) gd_L_law_X9_init_X40) gd_L_law_X9_init_X00) gd_L_law_X9_init_X30) gd_L_law_X9_init_J40) gd_L_law_X9_init_X80) gd_L_law_X9_init_X20) gd_L_law_X9_init_X60))
set_option maxRecDepth 20000 in
theorem gL_law_X9_init : GoodIn wsL_law (wsX9_init) := ggL_law_X9_init
set_option maxRecDepth 20000 in
theorem gd_L_law_L_plays_0 : GoodIn wsL_law [.code yL_plays cL_plays 7 (some .boolean)] := goodIn_r _ [167] (by decide +kernel) (by decide +kernel)
set_option maxRecDepth 20000 in
theorem gd_L_law_L_plays_r1 : GoodIn wsL_law wsL_plays_r1 := goodIn_r _ [168, 40, 41, 169, 145, 146, 147, 148, 149, 150, 151, 8, 9, 152, 153, 154, 155, 156, 157, 158, 159, 160, 161, 162] (by decide +kernel) (by decide +kernel)
set_option maxRecDepth 20000 in
theorem gd_L_law_L_plays_r2 : GoodIn wsL_law wsL_plays_r2 := goodIn_r _ [163, 170, 171, 166, 172, 173, 174, 175, 176, 177, 178, 179, 180, 181, 182, 183, 184, 185, 131, 186, 3, 187, 188, 189] (by decide +kernel) (by decide +kernel)
set_option maxRecDepth 20000 in
theorem gd_L_law_L_plays_r3 : GoodIn wsL_law wsL_plays_r3 := goodIn_r _ [190, 191, 192, 193, 194, 195, 196, 197, 198, 199, 200, 201, 202, 203, 204, 205, 206, 207, 208, 209, 210, 211, 212, 213] (by decide +kernel) (by decide +kernel)
set_option maxRecDepth 20000 in
theorem gd_L_law_L_plays_r4 : GoodIn wsL_law wsL_plays_r4 := goodIn_r _ [214, 215, 216, 217, 218, 219, 220, 221, 222, 223, 224, 225, 226, 227, 228, 229, 230, 231, 232, 233, 234, 235, 236, 237] (by decide +kernel) (by decide +kernel)
set_option maxRecDepth 20000 in
theorem gd_L_law_L_plays_r5 : GoodIn wsL_law wsL_plays_r5 := goodIn_r _ [238, 239, 240, 241, 242, 243, 244, 245, 246, 247, 248, 249, 250, 251, 252, 253, 254, 255, 256, 257, 258, 259, 260, 261] (by decide +kernel) (by decide +kernel)
set_option maxRecDepth 20000 in
theorem gd_L_law_L_plays_r6 : GoodIn wsL_law wsL_plays_r6 := goodIn_r _ [262, 263, 264, 265, 266, 267, 268, 269, 270, 271, 272, 273, 274, 275, 276, 277, 278, 279, 280, 281, 282, 283, 284, 285] (by decide +kernel) (by decide +kernel)
set_option maxRecDepth 20000 in
theorem gd_L_law_L_plays_r7 : GoodIn wsL_law wsL_plays_r7 := goodIn_r _ [286, 287, 288, 289, 290, 291, 292, 293, 294, 295, 296, 297, 298, 299, 300, 301, 302, 303, 304, 305, 306, 307, 308, 309] (by decide +kernel) (by decide +kernel)
