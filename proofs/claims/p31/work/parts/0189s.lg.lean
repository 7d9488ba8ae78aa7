set_option maxRecDepth 20000 in
theorem gd_L_agrees_X9_event_r2 : GoodIn wsL_agrees wsX9_event_r2 := goodIn_r _ [159, 15, 160, 161, 162, 163, 164, 165, 166, 167, 168, 169, 170, 171, 172, 173, 174, 175, 176, 177, 178, 179, 180, 181] (by decide +kernel) (by decide +kernel)
set_option maxRecDepth 20000 in
theorem gd_L_agrees_X9_event_r3 : GoodIn wsL_agrees wsX9_event_r3 := goodIn_r _ [182, 183, 184, 113, 44, 114, 185, 186, 187, 188, 189, 190, 191, 192, 193, 74, 194, 195, 196, 197, 198, 199, 200, 201] (by decide +kernel) (by decide +kernel)
set_option maxRecDepth 20000 in
theorem gd_L_agrees_X9_event_r4 : GoodIn wsL_agrees wsX9_event_r4 := goodIn_r _ [202, 203, 204, 205, 23, 24, 25, 26, 27, 28, 206, 207, 208, 209, 210, 211, 212, 213, 214, 215, 216, 217, 218, 219] (by decide +kernel) (by decide +kernel)
set_option maxRecDepth 20000 in
theorem gd_L_agrees_X9_event_r5 : GoodIn wsL_agrees wsX9_event_r5 := goodIn_r _ [220, 221, 222, 223, 224, 225, 226, 227, 228, 229, 230] (by decide +kernel) (by decide +kernel)
set_option maxRecDepth 20000 in
theorem gd_L_agrees_X9_event_X90 : GoodIn wsL_agrees wsX90 := goodIn_r _ [316, 317, 318, 319, 320, 321, 322, 323, 324, 325, 326, 327] (by decide +kernel) (by decide +kernel)
set_option maxRecDepth 20000 in
theorem gd_L_agrees_X9_event_X70 : GoodIn wsL_agrees wsX70 := goodIn_r _ [328, 329, 330, 331, 332, 333, 334, 335, 336, 337, 338, 339, 340, 341, 342, 343, 344] (by decide +kernel) (by decide +kernel)
set_option maxRecDepth 20000 in
theorem gd_L_agrees_X9_event_X30 : GoodIn wsL_agrees wsX30 := goodIn_r _ [368, 369, 370, 371, 372, 373] (by decide +kernel) (by decide +kernel)
set_option maxRecDepth 20000 in
theorem gd_L_agrees_X9_event_X50 : GoodIn wsL_agrees wsX50 := goodIn_r _ [345, 346, 347, 348, 349, 350, 351, 352, 353, 354, 355, 356, 357, 358, 359] (by decide +kernel) (by decide +kernel)
set_option maxRecDepth 20000 in
theorem gd_L_agrees_X9_event_X20 : GoodIn wsL_agrees wsX20 := goodIn_r _ [363, 364, 365, 366, 367] (by decide +kernel) (by decide +kernel)
set_option maxRecDepth 20000 in
theorem gd_L_agrees_X9_event_X60 : GoodIn wsL_agrees wsX60 := goodIn_r _ [360, 361, 362] (by decide +kernel) (by decide +kernel)
set_option maxRecDepth 20000 in
theorem ggL_agrees_X9_event : GoodIn wsL_agrees wsX9_event := goodIn_ca (goodIn_ca (goodIn_c1 gd_L_agrees_X9_event_0 (goodIn_app (goodIn_app (goodIn_app (goodIn_app (goodIn_app (goodIn_app (goodIn_app gd_L_agrees_X9_event_r1 (goodIn_app gd_L_agrees_X9_event_r2 (goodIn_app gd_L_agrees_X9_event_r3 (goodIn_app gd_L_agrees_X9_event_r4 gd_L_agrees_X9_event_r5)))) gd_L_agrees_X9_event_X90) gd_L_agrees_X9_event_X70) gd_L_agrees_X9_event_X30) gd_L_agrees_X9_event_X50) gd_L_agrees_X9_event_X20) gd_L_agrees_X9_event_X60)) (goodIn_sub (fun _ h => List.mem_cons_of_mem _ (List.mem_append_left _ (List.mem_append_left _ (List.mem_append_right _ h)))) (by decide +kernel))) (goodIn_sub (fun _ h => List.mem_cons_of_mem _ (List.mem_append_left _ (List.mem_append_right _ h))) (by decide +kernel))
set_option maxRecDepth 20000 in
theorem gL_agrees_X9_event : GoodIn wsL_agrees (wsV RL 286 RX9 yX9_event wsX9_event) := goodIn_app (goodIn_of _ (by decide +kernel)) ggL_agrees_X9_event
set_option maxRecDepth 20000 in
theorem ggL_agrees_X10_size : GoodIn wsL_agrees wsX10_size := goodIn_r _ [234, 235, 236, 280, 281, 282, 283, 284, 285, 286, 287, 288, 289, 290, 291, 292, 293, 294, 295, 296, 297, 298, 299, 300, 301, 302, 303, 311, 312, 313, 314, 315] (by decide +kernel) (by decide +kernel)
set_option maxRecDepth 20000 in
theorem gL_agrees_X10_size : GoodIn wsL_agrees (wsV RL 215 RX10 yX10_size wsX10_size) := goodIn_app (goodIn_of _ (by decide +kernel)) ggL_agrees_X10_size
set_option maxRecDepth 20000 in
theorem ggL_agrees_X10_node : GoodIn wsL_agrees wsX10_node := goodIn_r _ [240, 241, 242, 243, 244, 245, 39, 246, 247, 248, 249, 235, 236, 126, 125, 113, 44, 114, 1, 128, 129, 130, 131, 132, 133, 134, 135, 136, 137, 138, 250, 232, 233, 234, 280, 281, 282, 283, 284, 285, 286, 287, 288, 289, 290, 291, 292, 293, 294, 295, 296, 297, 298, 299, 300, 301, 302, 303, 311, 312, 313, 314, 315, 304, 305, 306, 307, 308, 309, 310] (by decide +kernel) (by decide +kernel)
set_option maxRecDepth 20000 in
theorem gL_agrees_X10_node : GoodIn wsL_agrees (wsV RL 291 RX10 yX10_node wsX10_node) := goodIn_app (goodIn_of _ (by decide +kernel)) ggL_agrees_X10_node
set_option maxRecDepth 20000 in
theorem ggL_agrees_X10_fitAt : GoodIn wsL_agrees wsX10_fitAt := goodIn_r _ [246, 247, 241, 248, 249, 235, 236, 126, 125, 113, 44, 114, 1, 128, 129, 130, 39, 131, 132, 133, 134, 135, 136, 137, 138, 250, 232, 233, 234, 280, 281, 282, 283, 284, 285, 286, 287, 288, 289, 290, 291, 292, 293, 294, 295, 296, 297, 298, 299, 300, 301, 302, 303, 311, 312, 313, 314, 315, 304, 305, 306, 307, 308, 309, 310] (by decide +kernel) (by decide +kernel)
set_option maxRecDepth 20000 in
theorem gL_agrees_X10_fitAt : GoodIn wsL_agrees (wsV RL 294 RX10 yX10_fitAt wsX10_fitAt) := goodIn_app (goodIn_of _ (by decide +kernel)) ggL_agrees_X10_fitAt
set_option maxRecDepth 20000 in
theorem ggL_agrees_X9_misfit : GoodIn wsL_agrees wsX9_misfit := goodIn_ca (goodIn_ca (goodIn_r _ [255, 159, 7, 15, 162, 256, 257, 258, 5, 259, 69, 70, 17, 22, 23, 24, 25, 26, 27, 28, 145, 146, 147, 148, 21, 260, 261, 262, 263, 264, 265, 143, 266, 171, 172, 166, 173, 174, 175, 176, 177, 267, 179, 180, 181, 182, 183, 168, 184, 113, 44, 114, 185, 186, 187, 188, 189, 190, 191, 192, 193, 74, 194, 195, 196, 197, 198, 199, 200, 201, 202, 203, 204, 316, 317, 318, 319, 320, 321, 322, 323, 324, 325, 326, 327, 368, 369, 370, 371, 372, 373, 345, 346, 347, 348, 349, 350, 351, 352, 353, 354, 355, 356, 357, 358, 359, 363, 364, 365, 366, 367, 328, 329, 330, 331, 332, 333, 334, 335, 336, 337, 338, 339, 340, 341, 342, 343, 344] (by decide +kernel) (by decide +kernel)) (goodIn_sub (fun _ h => List.mem_cons_of_mem _ (List.mem_append_left _ (List.mem_append_right _ h))) (by decide +kernel))) (goodIn_sub (fun _ h => List.mem_cons_of_mem _ (List.mem_append_right _ h)) (by decide +kernel))
set_option maxRecDepth 20000 in
theorem gL_agrees_X9_misfit : GoodIn wsL_agrees (wsV RL 298 RX9 yX9_misfit wsX9_misfit) := goodIn_app (goodIn_of _ (by decide +kernel)) ggL_agrees_X9_misfit
set_option maxRecDepth 20000 in
theorem ggL_agrees_X10_magnitude : GoodIn wsL_agrees wsX10_magnitude := goodIn_r _ [271, 247, 241, 248, 249, 1, 235, 236, 272, 126, 133, 134, 39, 135, 136, 137, 138, 273, 274, 275, 276, 277, 278, 279, 280, 281, 282, 283, 284, 285, 286, 287, 288, 289, 290, 291, 292, 293, 294, 295, 296, 297, 298, 299, 300, 301, 302, 303, 311, 312, 313, 314, 315, 304, 305, 306, 307, 308, 309, 310] (by decide +kernel) (by decide +kernel)
set_option maxRecDepth 20000 in
theorem gL_agrees_X10_magnitude : GoodIn wsL_agrees (wsV RL 301 RX10 yX10_magnitude wsX10_magnitude) := goodIn_app (goodIn_of _ (by decide +kernel)) ggL_agrees_X10_magnitude
