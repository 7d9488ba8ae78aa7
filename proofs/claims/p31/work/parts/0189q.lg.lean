set_option maxRecDepth 20000 in
theorem ggL_acts_X10_ratio : GoodIn wsL_acts wsX10_ratio := goodIn_r _ [121, 122, 123, 124, 125, 126, 127, 73, 128, 129, 130, 131, 39, 132, 301, 302, 303, 304, 305, 306, 307, 308, 309, 310, 311, 312, 313, 314, 315, 316, 317, 318, 319, 320, 321, 322, 323, 324, 325, 326, 327, 328, 329, 330, 331] (by decide +kernel) (by decide +kernel)
set_option maxRecDepth 20000 in
theorem gL_acts_X10_ratio : GoodIn wsL_acts (wsV RL 201 RX10 yX10_ratio wsX10_ratio) := goodIn_app (goodIn_of _ (by decide +kernel)) ggL_acts_X10_ratio
set_option maxRecDepth 20000 in
theorem ggL_acts_L_unmutes : GoodIn wsL_acts wsL_unmutes := goodIn_ca (goodIn_ca (goodIn_r _ [135, 93, 136, 137, 138, 10, 139, 12, 13, 104, 21, 140, 141, 15, 16, 17, 18, 19, 20, 22, 98, 99, 100, 101, 102, 103, 29, 30, 31, 32, 33, 34, 35, 36, 37, 38, 39, 40, 41, 42, 43, 44, 45, 46, 47, 48, 49, 50, 51, 52, 53, 54, 55, 56, 57, 58, 59, 60, 61, 62, 63, 64, 65, 66, 67, 68, 69, 142, 143, 144, 145, 146, 147, 148, 149, 332, 333, 334, 335, 336, 337, 338, 339, 340, 341, 342, 343, 344, 345, 346, 347, 348, 349, 350, 351, 352, 353, 354, 355, 356, 357, 358, 359, 360, 361, 362, 363, 364, 365, 366, 367, 368, 369, 370, 371, 372, 373, 374, 375, 376, 377, 378, 379, 380] (by decide +kernel) (by decide +kernel)) (goodIn_sub (fun _ h => List.mem_cons_of_mem _ (List.mem_append_left _ (List.mem_append_left _ (List.mem_append_right _ h)))) (by decide +kernel))) (goodIn_sub (fun _ h => List.mem_cons_of_mem _ (List.mem_append_right _ h)) (by decide +kernel))
set_option maxRecDepth 20000 in
theorem gL_acts_L_unmutes : GoodIn wsL_acts (va_wsS RL 205 yL_unmutes wsL_unmutes) := goodIn_app (goodIn_of _ (by decide +kernel)) ggL_acts_L_unmutes
set_option maxRecDepth 20000 in
theorem ggL_acts_X10_size : GoodIn wsL_acts wsX10_size := goodIn_r _ [84, 77, 78, 301, 302, 303, 304, 305, 306, 307, 308, 309, 310, 311, 312, 313, 314, 315, 316, 317, 318, 319, 320, 321, 322, 323, 324, 381, 382, 383, 384, 385] (by decide +kernel) (by decide +kernel)
set_option maxRecDepth 20000 in
theorem gL_acts_X10_size : GoodIn wsL_acts (wsV RL 215 RX10 yX10_size wsX10_size) := goodIn_app (goodIn_of _ (by decide +kernel)) ggL_acts_X10_size
set_option maxRecDepth 20000 in
theorem ggL_acts_X10_retract : GoodIn wsL_acts wsX10_retract := goodIn_r _ [88, 89, 77, 78, 301, 302, 303, 304, 305, 306, 307, 308, 309, 310, 311, 312, 313, 314, 315, 316, 317, 318, 319, 320, 321, 322, 323, 324, 381, 382, 383, 384, 385] (by decide +kernel) (by decide +kernel)
set_option maxRecDepth 20000 in
theorem gL_acts_X10_retract : GoodIn wsL_acts (wsV RL 216 RX10 yX10_retract wsX10_retract) := goodIn_app (goodIn_of _ (by decide +kernel)) ggL_acts_X10_retract
set_option maxRecDepth 20000 in
theorem ggL_acts_L_retracts : GoodIn wsL_acts wsL_retracts := goodIn_ca (goodIn_ca (goodIn_r _ [154, 93, 155, 156, 157, 10, 158, 12, 13, 159, 160, 161, 162, 19, 20, 163, 164, 165, 166, 167, 102, 103, 168, 29, 30, 31, 32, 33, 34, 35, 36, 37, 38, 39, 40, 41, 42, 43, 44, 45, 46, 47, 48, 49, 50, 51, 52, 53, 54, 55, 56, 57, 58, 59, 60, 61, 62, 63, 64, 65, 66, 67, 68, 69, 169, 111, 112, 113, 170, 115, 116, 117, 332, 333, 334, 335, 336, 337, 338, 339, 340, 341, 342, 343, 344, 345, 346, 347, 348, 349, 350, 351, 352, 353, 354, 355, 356, 357, 358, 359, 360, 376, 377, 378, 379, 380] (by decide +kernel) (by decide +kernel)) (goodIn_sub (fun _ h => List.mem_cons_of_mem _ (List.mem_append_left _ (List.mem_append_left _ (List.mem_append_right _ h)))) (by decide +kernel))) (goodIn_sub (fun _ h => List.mem_cons_of_mem _ (List.mem_append_right _ h)) (by decide +kernel))
set_option maxRecDepth 20000 in
theorem gL_acts_L_retracts : GoodIn wsL_acts (va_wsS RL 220 yL_retracts wsL_retracts) := goodIn_app (goodIn_of _ (by decide +kernel)) ggL_acts_L_retracts
set_option maxRecDepth 20000 in
theorem ggL_acts_X10_pass : GoodIn wsL_acts wsX10_pass := goodIn_r _ [174, 129, 175, 75, 78, 130, 131, 39, 132, 176, 122, 177, 77, 178, 179, 180, 181, 119, 120, 73, 121, 123, 124, 125, 126, 127, 128, 182, 183, 184, 185, 186, 187, 188, 189, 190, 191, 79, 89, 80, 192, 193, 194, 195, 196, 197, 198, 199, 200, 201, 202, 203, 204, 205, 206, 207, 208, 209, 210, 211, 301, 302, 303, 304, 305, 306, 307, 308, 309, 310, 311, 312, 313, 314, 315, 316, 317, 318, 319, 320, 321, 322, 323, 324, 325, 326, 327, 328, 329, 330, 331, 381, 382, 383, 384, 385] (by decide +kernel) (by decide +kernel)
set_option maxRecDepth 20000 in
theorem gL_acts_X10_pass : GoodIn wsL_acts (wsV RL 226 RX10 yX10_pass wsX10_pass) := goodIn_app (goodIn_of _ (by decide +kernel)) ggL_acts_X10_pass
set_option maxRecDepth 20000 in
theorem gd_L_acts_X9_pass_0 : GoodIn wsL_acts [.code yX9_pass cX9_pass 4 (some .int)] := goodIn_r _ [215] (by decide +kernel) (by decide +kernel)
set_option maxRecDepth 20000 in
theorem gd_L_acts_X9_pass_r1 : GoodIn wsL_acts wsX9_pass_r1 := goodIn_r _ [102, 103, 13, 216, 12, 217, 218, 21, 219, 220, 221, 10, 222, 27, 28, 29, 30, 31, 32, 33, 34, 35, 36, 37] (by decide +kernel) (by decide +kernel)
set_option maxRecDepth 20000 in
theorem gd_L_acts_X9_pass_r2 : GoodIn wsL_acts wsX9_pass_r2 := goodIn_r _ [38, 39, 40, 41, 42, 43, 44, 45, 46, 47, 48, 49, 50, 51, 52, 53, 54, 55, 56, 57, 58, 59, 60, 61] (by decide +kernel) (by decide +kernel)
set_option maxRecDepth 20000 in
theorem gd_L_acts_X9_pass_r3 : GoodIn wsL_acts wsX9_pass_r3 := goodIn_r _ [62, 63, 64, 65, 66, 67, 68, 69, 223, 224, 225, 226, 227, 228, 229, 230, 231, 232, 233, 234, 235, 236, 237, 238] (by decide +kernel) (by decide +kernel)
set_option maxRecDepth 20000 in
theorem gd_L_acts_X9_pass_r4 : GoodIn wsL_acts wsX9_pass_r4 := goodIn_r _ [239, 240, 241, 242, 243, 244, 245, 246, 247, 248, 249, 250, 251, 252, 253, 143, 144, 145, 146, 147, 148, 149, 254, 255] (by decide +kernel) (by decide +kernel)
set_option maxRecDepth 20000 in
theorem gd_L_acts_X9_pass_r5 : GoodIn wsL_acts wsX9_pass_r5 := goodIn_r _ [256, 257, 258, 131, 132, 259, 260, 261, 262, 263, 264, 265, 266, 267, 268, 269, 270, 271, 272, 273, 274, 275, 276, 277] (by decide +kernel) (by decide +kernel)
set_option maxRecDepth 20000 in
theorem gd_L_acts_X9_pass_r6 : GoodIn wsL_acts wsX9_pass_r6 := goodIn_r _ [278, 279, 198, 199, 280, 281, 282, 283, 284, 285, 286, 287, 288, 289, 290, 291, 292, 293, 294, 295, 296, 297, 298, 299] (by decide +kernel) (by decide +kernel)
set_option maxRecDepth 20000 in
theorem gd_L_acts_X9_pass_r7 : GoodIn wsL_acts wsX9_pass_r7 := goodIn_r _ [300] (by decide +kernel) (by decide +kernel)
set_option maxRecDepth 20000 in
theorem gd_L_acts_X9_pass_X90 : GoodIn wsL_acts wsX90 := goodIn_r _ [332, 333, 334, 335, 336, 337, 338, 339, 340, 341, 342, 343] (by decide +kernel) (by decide +kernel)
set_option maxRecDepth 20000 in
theorem gd_L_acts_X9_pass_X70 : GoodIn wsL_acts wsX70 := goodIn_r _ [344, 345, 346, 347, 348, 349, 350, 351, 352, 353, 354, 355, 356, 357, 358, 359, 360] (by decide +kernel) (by decide +kernel)
set_option maxRecDepth 20000 in
theorem gd_L_acts_X9_pass_X40 : GoodIn wsL_acts wsX40 := goodIn_r _ [376, 377, 378, 379, 380] (by decide +kernel) (by decide +kernel)
set_option maxRecDepth 20000 in
theorem gd_L_acts_X9_pass_X50 : GoodIn wsL_acts wsX50 := goodIn_r _ [361, 362, 363, 364, 365, 366, 367, 368, 369, 370, 371, 372, 373, 374, 375] (by decide +kernel) (by decide +kernel)
set_option maxRecDepth 20000 in
theorem gd_L_acts_X9_pass_X00 : GoodIn wsL_acts wsX00 := goodIn_r _ [386, 387] (by decide +kernel) (by decide +kernel)
set_option maxRecDepth 20000 in
theorem ggL_acts_X9_pass : GoodIn wsL_acts wsX9_pass := goodIn_ca (goodIn_ca (goodIn_c1 gd_L_acts_X9_pass_0 (goodIn_app (goodIn_app (goodIn_app (goodIn_app (goodIn_app (goodIn_app gd_L_acts_X9_pass_r1 (goodIn_app gd_L_acts_X9_pass_r2 (goodIn_app gd_L_acts_X9_pass_r3 (goodIn_app gd_L_acts_X9_pass_r4 (goodIn_app gd_L_acts_X9_pass_r5 (goodIn_app gd_L_acts_X9_pass_r6 gd_L_acts_X9_pass_r7)))))) gd_L_acts_X9_pass_X90) gd_L_acts_X9_pass_X70) gd_L_acts_X9_pass_X40) gd_L_acts_X9_pass_X50) gd_L_acts_X9_pass_X00)) (goodIn_sub (fun _ h => List.mem_cons_of_mem _ (List.mem_append_right _ h)) (by decide +kernel))) (goodIn_sub (fun _ h => List.mem_cons_of_mem _ (List.mem_append_left _ (List.mem_append_right _ h))) (by decide +kernel))
set_option maxRecDepth 20000 in
theorem gL_acts_X9_pass : GoodIn wsL_acts (wsV RL 229 RX9 yX9_pass wsX9_pass) := goodIn_app (goodIn_of _ (by decide +kernel)) ggL_acts_X9_pass
