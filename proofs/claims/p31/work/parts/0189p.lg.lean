set_option maxRecDepth 20000 in
theorem ggL_plays_X10_time : GoodIn wsL_plays wsX10_time := goodIn_r _ [708, 709, 710, 711, 32, 712, 713, 714, 715, 972, 973, 974, 975, 976, 977, 978, 979, 980, 981, 982, 983, 984, 985, 986, 987, 988, 989, 990, 991, 992, 993, 994, 995, 996, 997, 998, 999, 1000, 1001, 1002] (by decide +kernel) (by decide +kernel)
set_option maxRecDepth 20000 in
theorem gL_plays_X10_time : GoodIn wsL_plays (wsV RL 177 RX10 yX10_time wsX10_time) := goodIn_app (goodIn_of _ (by decide +kernel)) ggL_plays_X10_time
set_option maxRecDepth 20000 in
theorem ggL_plays_X9_between : GoodIn wsL_plays wsX9_between := goodIn_ca (goodIn_r _ [966, 508, 558, 559, 560, 313, 561, 562, 563, 538, 967, 785, 786, 347, 787, 481, 1007, 1008, 1009, 1010, 1011, 1012, 1013, 1014, 1015, 1016, 1017, 1018, 1030, 1031, 1032, 1033, 1034, 1035, 1036, 1037, 1038, 1039, 1040, 1041, 1042, 1043, 1044] (by decide +kernel) (by decide +kernel)) (goodIn_sub (fun _ h => List.mem_cons_of_mem _ (List.mem_append_left _ (List.mem_append_right _ h))) (by decide +kernel))
set_option maxRecDepth 20000 in
theorem gL_plays_X9_between : GoodIn wsL_plays (wsV RL 181 RX9 yX9_between wsX9_between) := goodIn_app (goodIn_of _ (by decide +kernel)) ggL_plays_X9_between
set_option maxRecDepth 20000 in
theorem ggL_acts_L_draw : GoodIn wsL_acts wsL_draw := goodIn_r _ [4, 5, 6] (by decide +kernel) (by decide +kernel)
set_option maxRecDepth 20000 in
theorem gL_acts_L_draw : GoodIn wsL_acts (va_wsS RL 35 yL_draw wsL_draw) := goodIn_app (goodIn_of _ (by decide +kernel)) ggL_acts_L_draw
set_option maxRecDepth 20000 in
theorem ggL_acts_X9_setLevel : GoodIn wsL_acts wsX9_setLevel := goodIn_ca (goodIn_ca (goodIn_r _ [11, 12, 13, 14, 15, 16, 17, 10, 18, 19, 20, 21, 22, 23, 24, 25, 26, 27, 28, 29, 30, 31, 32, 33, 34, 35, 36, 37, 38, 39, 40, 41, 42, 43, 44, 45, 46, 47, 48, 49, 50, 51, 52, 53, 54, 55, 56, 57, 58, 59, 60, 61, 62, 63, 64, 65, 66, 67, 68, 69, 332, 333, 334, 335, 336, 337, 338, 339, 340, 341, 342, 343, 344, 345, 346, 347, 348, 349, 350, 351, 352, 353, 354, 355, 356, 357, 358, 359, 360, 361, 362, 363, 364, 365, 366, 367, 368, 369, 370, 371, 372, 373, 374, 375, 376, 377, 378, 379, 380] (by decide +kernel) (by decide +kernel)) (goodIn_sub (fun _ h => List.mem_cons_of_mem _ (List.mem_append_left _ (List.mem_append_left _ (List.mem_append_right _ h)))) (by decide +kernel))) (goodIn_sub (fun _ h => List.mem_cons_of_mem _ (List.mem_append_left _ (List.mem_append_right _ h))) (by decide +kernel))
set_option maxRecDepth 20000 in
theorem gL_acts_X9_setLevel : GoodIn wsL_acts (wsV RL 187 RX9 yX9_setLevel wsX9_setLevel) := goodIn_app (goodIn_of _ (by decide +kernel)) ggL_acts_X9_setLevel
set_option maxRecDepth 20000 in
theorem ggL_acts_X10_mute : GoodIn wsL_acts wsX10_mute := goodIn_r _ [74, 75, 76, 77, 78, 79, 80, 81, 82, 83, 73, 84, 85, 86, 87, 88, 89, 301, 302, 303, 304, 305, 306, 307, 308, 309, 310, 311, 312, 313, 314, 315, 316, 317, 318, 319, 320, 321, 322, 323, 324, 325, 326, 327, 328, 329, 330, 331, 381, 382, 383, 384, 385] (by decide +kernel) (by decide +kernel)
set_option maxRecDepth 20000 in
theorem gL_acts_X10_mute : GoodIn wsL_acts (wsV RL 194 RX10 yX10_mute wsX10_mute) := goodIn_app (goodIn_of _ (by decide +kernel)) ggL_acts_X10_mute
set_option maxRecDepth 20000 in
theorem ggL_acts_L_mutes : GoodIn wsL_acts wsL_mutes := goodIn_ca (goodIn_ca (goodIn_r _ [92, 93, 94, 95, 96, 10, 97, 12, 13, 21, 15, 16, 17, 18, 19, 20, 22, 98, 99, 100, 101, 102, 103, 104, 29, 30, 31, 32, 33, 34, 35, 36, 37, 38, 39, 40, 41, 42, 43, 44, 45, 46, 47, 48, 49, 50, 51, 52, 53, 54, 55, 56, 57, 58, 59, 60, 61, 62, 63, 64, 65, 66, 67, 68, 69, 105, 106, 107, 108, 109, 110, 111, 112, 113, 114, 115, 116, 117, 332, 333, 334, 335, 336, 337, 338, 339, 340, 341, 342, 343, 361, 362, 363, 364, 365, 366, 367, 368, 369, 370, 371, 372, 373, 374, 375, 344, 345, 346, 347, 348, 349, 350, 351, 352, 353, 354, 355, 356, 357, 358, 359, 360, 376, 377, 378, 379, 380] (by decide +kernel) (by decide +kernel)) (goodIn_sub (fun _ h => List.mem_cons_of_mem _ (List.mem_append_left _ (List.mem_append_left _ (List.mem_append_right _ h)))) (by decide +kernel))) (goodIn_sub (fun _ h => List.mem_cons_of_mem _ (List.mem_append_right _ h)) (by decide +kernel))
set_option maxRecDepth 20000 in
theorem gL_acts_L_mutes : GoodIn wsL_acts (va_wsS RL 197 yL_mutes wsL_mutes) := goodIn_app (goodIn_of _ (by decide +kernel)) ggL_acts_L_mutes
