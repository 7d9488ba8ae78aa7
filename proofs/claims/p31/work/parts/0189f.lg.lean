set_option maxRecDepth 20000 in
theorem gd_L_law_L_plays_J00 : GoodIn wsL_law wsJ00 := goodIn_r _ [1141, 1142, 1143, 1144] (by decide +kernel) (by decide +kernel)
set_option maxRecDepth 20000 in
theorem gd_L_law_L_plays_X90 : GoodIn wsL_law wsX90 := goodIn_r _ [1030, 1031, 1032, 1033, 1034, 1035, 1036, 1037, 1038, 1039, 1040, 1041] (by decide +kernel) (by decide +kernel)
set_option maxRecDepth 20000 in
theorem gd_L_law_L_plays_X10 : GoodIn wsL_law wsX10 := goodIn_r _ [1042, 1043, 1044, 1045, 1046, 1047] (by decide +kernel) (by decide +kernel)
set_option maxRecDepth 20000 in
theorem gd_L_law_L_plays_X80 : GoodIn wsL_law wsX80 := goodIn_r _ [1097, 1098, 1099, 1100, 1101] (by decide +kernel) (by decide +kernel)
set_option maxRecDepth 20000 in
theorem gd_L_law_L_plays_X50 : GoodIn wsL_law wsX50 := goodIn_r _ [1048, 1049, 1050, 1051, 1052, 1053, 1054, 1055, 1056, 1057, 1058, 1059, 1060, 1061, 1062] (by decide +kernel) (by decide +kernel)
set_option maxRecDepth 20000 in
theorem gd_L_law_L_plays_X60 : GoodIn wsL_law wsX60 := goodIn_r _ [1107, 1108, 1109] (by decide +kernel) (by decide +kernel)
set_option maxRecDepth 20000 in
theorem gd_L_law_L_plays_X20 : GoodIn wsL_law wsX20 := goodIn_r _ [1102, 1103, 1104, 1105, 1106] (by decide +kernel) (by decide +kernel)
set_option maxRecDepth 20000 in
theorem gd_L_law_L_plays_X70 : GoodIn wsL_law wsX70 := goodIn_r _ [1063, 1064, 1065, 1066, 1067, 1068, 1069, 1070, 1071, 1072, 1073, 1074, 1075, 1076, 1077, 1078, 1079] (by decide +kernel) (by decide +kernel)
set_option maxRecDepth 20000 in
theorem gd_L_law_L_plays_X40 : GoodIn wsL_law wsX40 := goodIn_r _ [1080, 1081, 1082, 1083, 1084] (by decide +kernel) (by decide +kernel)
set_option maxRecDepth 20000 in
theorem gd_L_law_L_plays_X110 : GoodIn wsL_law wsX110 := goodIn_r _ [1145, 1146, 1147, 1148, 1149] (by decide +kernel) (by decide +kernel)
set_option maxRecDepth 20000 in
theorem gd_L_law_L_plays_X00 : GoodIn wsL_law wsX00 := goodIn_r _ [1085, 1086] (by decide +kernel) (by decide +kernel)
set_option maxRecDepth 20000 in
theorem gd_L_law_L_plays_X30 : GoodIn wsL_law wsX30 := goodIn_r _ [1087, 1088, 1089, 1090, 1091, 1092] (by decide +kernel) (by decide +kernel)
set_option maxRecDepth 20000 in
theorem ggL_law_L_plays : GoodIn wsL_law wsL_plays := goodIn_ca (goodIn_ca (goodIn_ca (goodIn_c1 gd_L_law_L_plays_0 (goodIn_app (goodIn_app (goodIn_app (goodIn_app (goodIn_app (goodIn_app (goodIn_app (goodIn_app (goodIn_app (goodIn_app (goodIn_app (goodIn_app (goodIn_app (goodIn_app (goodIn_app (goodIn_app gd_L_law_L_plays_r1 (goodIn_app gd_L_law_L_plays_r2 (goodIn_app gd_L_law_L_plays_r3 (goodIn_app gd_L_law_L_plays_r4 (goodIn_app gd_L_law_L_plays_r5 (goodIn_app gd_L_law_L_plays_r6 (goodIn_app gd_L_law_L_plays_r7 (goodIn_app gd_L_law_L_plays_r8 (goodIn_app gd_L_law_L_plays_r9 (goodIn_app gd_L_law_L_plays_r10 (goodIn_app gd_L_law_L_plays_r11 (goodIn_app gd_L_law_L_plays_r12 (goodIn_app gd_L_law_L_plays_r13 (goodIn_app gd_L_law_L_plays_r14 (goodIn_app gd_L_law_L_plays_r15 (goodIn_app gd_L_law_L_plays_r16 (goodIn_app gd_L_law_L_plays_r17 (goodIn_app gd_L_law_L_plays_r18 (goodIn_app gd_L_law_L_plays_r19 (goodIn_app gd_L_law_L_plays_r20 (goodIn_app gd_L_law_L_plays_r21 (goodIn_app gd_L_law_L_plays_r22 (goodIn_app gd_L_law_L_plays_r23 (goodIn_app gd_L_law_L_plays_r24 (goodIn_app gd_L_law_L_plays_r25 (goodIn_app gd_L_law_L_plays_r26 (goodIn_app gd_L_law_L_plays_r27 (goodIn_app gd_L_law_L_plays_r28 (goodIn_app gd_L_law_L_plays_r29 (goodIn_app gd_L_law_L_plays_r30 (goodIn_app gd_L_law_L_plays_r31 (goodIn_app gd_L_law_L_plays_r32 (goodIn_app gd_L_law_L_plays_r33 (goodIn_app gd_L_law_L_plays_r34 (goodIn_app gd_L_law_L_plays_r35 (goodIn_app gd_L_law_L_plays_r36 (goodIn_app gd_L_law_L_plays_r37 (goodIn_app gd_L_law_L_plays_r38 (goodIn_app gd_L_law_L_plays_r39 (goodIn_app gd_L_law_L_plays_r40 gd_L_law_L_plays_r41)))))))))))))))))))))))))))))))))))))))) gd_L_law_L_plays_J40) gd_L_law_L_plays_X100) gd_L_law_L_plays_X120) gd_L_law_L_plays_J00) gd_L_law_L_plays_X90) gd_L_law_L_plays_X10) gd_L_law_L_plays_X80) gd_L_law_L_plays_X50) gd_L_law_L_plays_X60) gd_L_law_L_plays_X20) gd_L_law_L_plays_X70) gd_L_law_L_plays_X40) gd_L_law_L_plays_X110) gd_L_law_L_plays_X00) gd_L_law_L_plays_X30)) (goodIn_sub (fun _ h => List.mem_append_left _ (List.mem_append_left _ (List.mem_append_right _ h))) (by decide +kernel))) (goodIn_sub (fun _ h => List.mem_append_left _ (List.mem_append_right _ h)) (by decide +kernel))) (goodIn_sub (fun _ h => List.mem_append_right _ h) (by decide +kernel))
set_option maxRecDepth 20000 in
theorem gL_law_L_plays : GoodIn wsL_law (va_wsS RL 26 yL_plays wsL_plays) := goodIn_app (goodIn_of _ (by decide +kernel)) ggL_law_L_plays
set_option maxRecDepth 20000 in
theorem ggL_net_X10_init : GoodIn wsL_net wsX10_init := goodIn_r _ [11, 12, 13, 14, 15, 16, 17, 18, 19, 20, 21, 22, 23, 24, 288, 289, 290, 291, 292, 293, 294, 295, 296, 297, 298, 299, 300, 301, 302, 303, 304, 305, 306, 307, 308, 309, 310, 311] (by decide +kernel) (by decide +kernel)
set_option maxRecDepth 20000 in
theorem gL_net_X10_init_n34 : GoodIn wsL_net (wsX10_init) := ggL_net_X10_init
set_option maxRecDepth 20000 in
theorem ggL_net_L_draw : GoodIn wsL_net wsL_draw := goodIn_r _ [28, 29, 30] (by decide +kernel) (by decide +kernel)
set_option maxRecDepth 20000 in
theorem gL_net_L_draw : GoodIn wsL_net (va_wsS RL 35 yL_draw wsL_draw) := goodIn_app (goodIn_of _ (by decide +kernel)) ggL_net_L_draw
set_option maxRecDepth 20000 in
theorem ggL_net_X12_init : GoodIn wsL_net wsX12_init := goodIn_r _ [32, 33, 13, 14, 34, 21, 35, 312, 313, 314, 315, 316, 317, 318] (by decide +kernel) (by decide +kernel)
set_option maxRecDepth 20000 in
theorem gL_net_X12_init_n49 : GoodIn wsL_net (wsX12_init) := ggL_net_X12_init
set_option maxRecDepth 20000 in
theorem ggL_net_J4_append_15ec4 : GoodIn wsL_net wsJ4_append_15ec4 := goodIn_r _ [39, 40, 41, 42, 43, 44, 45, 46, 47, 48, 49, 50, 51, 52, 53, 54, 55, 56, 57, 58, 59, 60, 61, 62, 63, 64, 65, 66, 67, 68, 69, 70, 71, 72, 73, 74, 75, 76, 77, 78, 79, 80, 81, 82, 83, 84, 85, 86, 87, 88, 89, 90, 91, 92, 93, 94, 95, 96, 97, 98, 99, 100, 101, 102, 103, 104, 105, 106, 107, 108, 109, 110, 111, 112, 113, 114, 115, 116, 117, 118, 119, 120, 121, 122, 123, 124, 125, 126, 127, 128, 129, 130, 131, 132, 133, 134, 135, 136, 137, 138, 139, 140, 141, 142, 143, 144, 145, 146, 147, 148, 149, 150, 151, 152, 153, 154, 155, 156, 157, 158, 159, 160, 161, 162, 163, 164, 165, 166, 167, 168, 169, 170, 171, 172, 173, 174, 175, 176, 177, 178, 179, 180, 181, 319, 320, 321, 322, 323, 324, 325, 326] (by decide +kernel) (by decide +kernel)
set_option maxRecDepth 20000 in
theorem gL_net_J4_append_15ec4 : GoodIn wsL_net (wsV RL 58 RJ4 yJ4_append_15ec4 wsJ4_append_15ec4) := goodIn_app (goodIn_of _ (by decide +kernel)) ggL_net_J4_append_15ec4
set_option maxRecDepth 20000 in
theorem ggL_net_J4_append_bf812 : GoodIn wsL_net wsJ4_append_bf812 := goodIn_r _ [185, 186, 187, 42, 188, 44, 189, 46, 52, 190, 191, 192, 193, 53, 54, 55, 56, 57, 58, 59, 60, 61, 62, 63, 64, 65, 66, 67, 68, 69, 70, 71, 72, 73, 74, 75, 76, 77, 78, 79, 80, 81, 82, 83, 84, 85, 86, 87, 88, 89, 90, 91, 92, 93, 94, 95, 96, 97, 98, 99, 100, 194, 195, 196, 197, 198, 199, 200, 103, 201, 105, 106, 107, 108, 109, 110, 111, 112, 113, 114, 115, 116, 117, 118, 119, 120, 202, 203, 204, 205, 206, 121, 122, 123, 124, 125, 319, 320, 321, 322] (by decide +kernel) (by decide +kernel)
set_option maxRecDepth 20000 in
theorem gL_net_J4_append_bf812 : GoodIn wsL_net (wsV RL 63 RJ4 yJ4_append_bf812 wsJ4_append_bf812) := goodIn_app (goodIn_of _ (by decide +kernel)) ggL_net_J4_append_bf812
