set_option maxRecDepth 20000 in
theorem ggL_net_J4_append_cf468 : GoodIn wsL_net wsJ4_append_cf468 := goodIn_r _ [210, 211, 212, 42, 213, 44, 214, 46, 52, 53, 54, 55, 56, 57, 58, 59, 60, 61, 62, 63, 64, 65, 66, 67, 68, 69, 70, 71, 72, 73, 74, 75, 76, 77, 78, 79, 80, 81, 82, 83, 84, 85, 86, 87, 88, 89, 90, 91, 92, 93, 94, 95, 96, 97, 98, 99, 100, 215, 216, 162, 217, 148, 149, 150, 151, 152, 153, 154, 103, 155, 156, 157, 158, 159, 160, 161, 163, 164, 165, 166, 167, 168, 169, 109, 110, 111, 170, 171, 114, 172, 116, 173, 174, 119, 175, 121, 122, 123, 105, 124, 125, 218, 219, 220, 221, 222, 223, 224, 225, 226, 227, 228, 229, 319, 320, 321, 322] (by decide +kernel) (by decide +kernel)
set_option maxRecDepth 20000 in
theorem gL_net_J4_append_cf468 : GoodIn wsL_net (wsV RL 66 RJ4 yJ4_append_cf468 wsJ4_append_cf468) := goodIn_app (goodIn_of _ (by decide +kernel)) ggL_net_J4_append_cf468
set_option maxRecDepth 20000 in
theorem ggL_net_J4_init_da8c8 : GoodIn wsL_net wsJ4_init_da8c8 := goodIn_r _ [232, 233, 234, 44, 235, 236, 13, 14, 100, 87, 52, 58, 153, 154, 103, 155, 156, 157, 158, 159, 319, 320, 321, 322] (by decide +kernel) (by decide +kernel)
set_option maxRecDepth 20000 in
theorem gL_net_J4_init_da8c8 : GoodIn wsL_net (wsJ4_init_da8c8) := ggL_net_J4_init_da8c8
set_option maxRecDepth 20000 in
theorem ggL_net_J4_toString_0e30d : GoodIn wsL_net wsJ4_toString_0e30d := goodIn_r _ [240, 241, 242, 114, 243, 244, 245, 246, 247, 248, 249, 13, 14, 136, 130, 135, 250, 251, 252, 253, 254, 44, 255, 52, 256, 257, 258, 259, 260, 9, 261, 262, 42, 263, 264, 46, 265, 96, 97, 98, 99, 100, 58, 266, 267, 79, 268, 81, 82, 83, 84, 85, 86, 269, 270, 271, 87, 88, 89, 71, 90, 91, 92, 93, 94, 272, 273, 274, 275, 276, 103, 277, 278, 279, 280, 167, 168, 169, 109, 110, 111, 170, 171, 172, 116, 173, 174, 119, 175, 281, 282, 283, 105, 124, 125, 156, 157, 158, 159, 284, 285, 286, 287, 323, 324, 325, 326, 319, 320, 321, 322] (by decide +kernel) (by decide +kernel)
set_option maxRecDepth 20000 in
theorem gL_net_J4_toString_0e30d : GoodIn wsL_net (wsV RL 127 RJ4 yJ4_toString_0e30d wsJ4_toString_0e30d) := goodIn_app (goodIn_of _ (by decide +kernel)) ggL_net_J4_toString_0e30d
set_option maxRecDepth 20000 in
theorem ggL_plays_J4_init_da8c8 : GoodIn wsL_plays wsJ4_init_da8c8 := goodIn_r _ [6, 7, 8, 9, 10, 11, 12, 13, 14, 15, 16, 17, 18, 19, 20, 21, 22, 23, 24, 25, 968, 969, 970, 971] (by decide +kernel) (by decide +kernel)
set_option maxRecDepth 20000 in
theorem gL_plays_J4_init_da8c8 : GoodIn wsL_plays (wsJ4_init_da8c8) := ggL_plays_J4_init_da8c8
set_option maxRecDepth 20000 in
theorem gd_L_plays_L_net_0 : GoodIn wsL_plays [.code yL_net cL_net 4 (some (.object "TriggerNetworkLaw$Net"))] := goodIn_r _ [29] (by decide +kernel) (by decide +kernel)
set_option maxRecDepth 20000 in
theorem gd_L_plays_L_net_r1 : GoodIn wsL_plays wsL_net_r1 := goodIn_r _ [30, 31, 32, 33, 34, 35, 1, 2, 3, 36, 37, 38, 12, 13, 39, 40, 41, 42, 43, 44, 45, 46, 47, 48] (by decide +kernel) (by decide +kernel)
set_option maxRecDepth 20000 in
theorem gd_L_plays_L_net_r2 : GoodIn wsL_plays wsL_net_r2 := goodIn_r _ [49, 50, 28, 51, 52, 53, 54, 55, 56, 57, 58, 59, 60, 61, 62, 63, 64, 65, 66, 9, 67, 68, 69, 70] (by decide +kernel) (by decide +kernel)
set_option maxRecDepth 20000 in
theorem gd_L_plays_L_net_r3 : GoodIn wsL_plays wsL_net_r3 := goodIn_r _ [71, 72, 73, 16, 74, 75, 76, 77, 78, 17, 79, 80, 81, 82, 83, 84, 85, 86, 87, 88, 89, 90, 91, 92] (by decide +kernel) (by decide +kernel)
set_option maxRecDepth 20000 in
theorem gd_L_plays_L_net_r4 : GoodIn wsL_plays wsL_net_r4 := goodIn_r _ [93, 94, 95, 96, 97, 98, 99, 100, 101, 102, 103, 104, 105, 106, 15, 107, 108, 109, 110, 111, 112, 113, 114, 115] (by decide +kernel) (by decide +kernel)
set_option maxRecDepth 20000 in
theorem gd_L_plays_L_net_r5 : GoodIn wsL_plays wsL_net_r5 := goodIn_r _ [116, 117, 118, 14, 119, 120, 20, 121, 122, 123, 124, 125, 126, 127, 128, 129, 130, 131, 132, 133, 134, 135, 136, 137] (by decide +kernel) (by decide +kernel)
set_option maxRecDepth 20000 in
theorem gd_L_plays_L_net_r6 : GoodIn wsL_plays wsL_net_r6 := goodIn_r _ [138, 139, 140, 141, 142, 143, 144, 145, 146, 147, 148, 149, 150, 151, 152, 153, 154, 155, 156, 157, 158, 159, 160, 161] (by decide +kernel) (by decide +kernel)
set_option maxRecDepth 20000 in
theorem gd_L_plays_L_net_r7 : GoodIn wsL_plays wsL_net_r7 := goodIn_r _ [162, 163, 164, 165, 166, 167, 168, 169, 18, 19, 21, 22, 23, 24, 25, 170, 171, 172, 173, 174, 175, 176, 177, 178] (by decide +kernel) (by decide +kernel)
set_option maxRecDepth 20000 in
theorem gd_L_plays_L_net_r8 : GoodIn wsL_plays wsL_net_r8 := goodIn_r _ [179, 180, 181, 182, 183, 184, 185, 186, 187, 188, 189, 190, 191, 192, 193, 194, 195, 196, 197, 198, 199, 200, 201, 202] (by decide +kernel) (by decide +kernel)
set_option maxRecDepth 20000 in
theorem gd_L_plays_L_net_r9 : GoodIn wsL_plays wsL_net_r9 := goodIn_r _ [203, 204, 205, 206, 207, 208, 209, 210, 211, 212, 213, 214, 215, 216, 217, 218, 219, 220, 221, 222, 223, 224, 225, 226] (by decide +kernel) (by decide +kernel)
set_option maxRecDepth 20000 in
theorem gd_L_plays_L_net_r10 : GoodIn wsL_plays wsL_net_r10 := goodIn_r _ [227, 228, 229, 230, 231, 232, 233, 234, 235, 236, 237, 238, 239, 4, 5, 6, 7, 8, 10, 11, 240, 241, 242, 243] (by decide +kernel) (by decide +kernel)
set_option maxRecDepth 20000 in
theorem gd_L_plays_L_net_r11 : GoodIn wsL_plays wsL_net_r11 := goodIn_r _ [244, 245, 246, 247, 248, 249, 250, 251, 252, 253, 254, 255, 256, 257, 258, 259, 260, 261, 262, 263, 264, 265, 266, 267] (by decide +kernel) (by decide +kernel)
set_option maxRecDepth 20000 in
theorem gd_L_plays_L_net_r12 : GoodIn wsL_plays wsL_net_r12 := goodIn_r _ [268, 269, 270, 271, 272, 273, 274, 275, 276, 277, 278, 279, 280, 281, 282, 283, 284, 285, 286, 287, 288, 289, 290] (by decide +kernel) (by decide +kernel)
set_option maxRecDepth 20000 in
theorem gd_L_plays_L_net_X100 : GoodIn wsL_plays wsX100 := goodIn_r _ [972, 973, 974, 975, 976, 977, 978, 979, 980, 981, 982, 983, 984, 985, 986, 987, 988, 989, 990, 991, 992, 993, 994, 995] (by decide +kernel) (by decide +kernel)
set_option maxRecDepth 20000 in
theorem gd_L_plays_L_net_X120 : GoodIn wsL_plays wsX120 := goodIn_r _ [996, 997, 998, 999, 1000, 1001, 1002] (by decide +kernel) (by decide +kernel)
set_option maxRecDepth 20000 in
theorem gd_L_plays_L_net_J40 : GoodIn wsL_plays wsJ40 := goodIn_r _ [968, 969, 970, 971] (by decide +kernel) (by decide +kernel)
set_option maxRecDepth 20000 in
theorem gd_L_plays_L_net_J00 : GoodIn wsL_plays wsJ00 := goodIn_r _ [1003, 1004, 1005, 1006] (by decide +kernel) (by decide +kernel)
set_option maxRecDepth 20000 in
theorem ggL_plays_L_net : GoodIn wsL_plays wsL_net := (goodIn_c1 gd_L_plays_L_net_0 (goodIn_app (goodIn_app (goodIn_app (goodIn_app (goodIn_app gd_L_plays_L_net_r1 (goodIn_app gd_L_plays_L_net_r2 (goodIn_app gd_L_plays_L_net_r3 (goodIn_app gd_L_plays_L_net_r4 (goodIn_app gd_L_plays_L_net_r5 (goodIn_app gd_L_plays_L_net_r6 (goodIn_app gd_L_plays_L_net_r7 (goodIn_app gd_L_plays_L_net_r8 (goodIn_app gd_L_plays_L_net_r9 (goodIn_app gd_L_plays_L_net_r10 (goodIn_app gd_L_plays_L_net_r11 gd_L_plays_L_net_r12))))))))))) gd_L_plays_L_net_X100) gd_L_plays_L_net_X120) gd_L_plays_L_net_J40) gd_L_plays_L_net_J00))
set_option maxRecDepth 20000 in
theorem gL_plays_L_net : GoodIn wsL_plays (va_wsS RL 143 yL_net wsL_net) := goodIn_app (goodIn_of _ (by decide +kernel)) ggL_plays_L_net
