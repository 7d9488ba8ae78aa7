set_option maxRecDepth 20000 in
theorem ggL_mutes_X9_mute : GoodIn wsL_mutes wsX9_mute := goodIn_ca (goodIn_ca (goodIn_r _ [6, 7, 8, 9, 10, 11, 12, 5, 13, 14, 15, 16, 17, 18, 19, 20, 21, 22, 23, 24, 25, 26, 27, 28, 29, 30, 31, 32, 33, 34, 35, 36, 37, 38, 39, 40, 41, 42, 43, 44, 45, 46, 47, 48, 49, 50, 51, 52, 53, 54, 55, 56, 57, 58, 59, 60, 61, 62, 63, 64, 65, 66, 67, 68, 69, 70, 71, 72, 73, 74, 75, 76, 77, 78, 79, 80, 81, 82, 83, 84, 85, 86, 87, 88, 89, 90, 91, 92, 93, 94, 95, 96, 97, 98, 99, 100, 101, 102, 103, 104, 105, 106, 107, 108, 109, 110, 111, 112, 113, 114, 115, 116, 117, 118, 119, 120, 121, 122, 123, 124, 125, 126] (by decide +kernel) (by decide +kernel)) (goodIn_sub (fun _ h => List.mem_cons_of_mem _ (List.mem_append_left _ (List.mem_append_right _ h))) (by decide +kernel))) (goodIn_sub (fun _ h => List.mem_cons_of_mem _ (List.mem_append_right _ h)) (by decide +kernel))
set_option maxRecDepth 20000 in
theorem gL_mutes_X9_mute : GoodIn wsL_mutes (wsV RL 231 RX9 yX9_mute wsX9_mute) := goodIn_app (goodIn_of _ (by decide +kernel)) ggL_mutes_X9_mute
set_option maxRecDepth 20000 in
theorem ggL_unmutes_X9_unmute : GoodIn wsL_unmutes wsX9_unmute := goodIn_ca (goodIn_ca (goodIn_r _ [6, 7, 8, 9, 10, 11, 12, 13, 14, 15, 5, 16, 17, 18, 19, 20, 21, 22, 23, 24, 25, 26, 27, 28, 29, 30, 31, 32, 33, 34, 35, 36, 37, 38, 39, 40, 41, 42, 43, 44, 45, 46, 47, 48, 49, 50, 51, 52, 53, 54, 55, 56, 57, 58, 59, 60, 61, 62, 63, 64, 65, 66, 67, 68, 69, 70, 71, 72, 73, 74, 75, 76, 77, 78, 79, 80, 81, 82, 83, 84, 85, 86, 87, 88, 89, 90, 91, 92, 93, 94, 95, 96, 97, 98, 99, 100, 101, 102, 103, 104, 105, 106, 107, 108, 109, 110, 111, 112, 113, 114, 115, 116, 117, 118, 119, 120, 121, 122, 123] (by decide +kernel) (by decide +kernel)) (goodIn_sub (fun _ h => List.mem_cons_of_mem _ (List.mem_append_left _ (List.mem_append_right _ h))) (by decide +kernel))) (goodIn_sub (fun _ h => List.mem_cons_of_mem _ (List.mem_append_right _ h)) (by decide +kernel))
set_option maxRecDepth 20000 in
theorem gL_unmutes_X9_unmute : GoodIn wsL_unmutes (wsV RL 234 RX9 yX9_unmute wsX9_unmute) := goodIn_app (goodIn_of _ (by decide +kernel)) ggL_unmutes_X9_unmute
set_option maxRecDepth 20000 in
theorem ggL_retracts_X9_retract : GoodIn wsL_retracts wsX9_retract := goodIn_ca (goodIn_ca (goodIn_r _ [6, 7, 8, 9, 10, 11, 5, 12, 13, 14, 15, 16, 17, 18, 19, 20, 21, 22, 23, 24, 25, 26, 27, 28, 29, 30, 31, 32, 33, 34, 35, 36, 37, 38, 39, 40, 41, 42, 43, 44, 45, 46, 47, 48, 49, 50, 51, 52, 53, 54, 55, 56, 57, 58, 59, 60, 61, 62, 63, 64, 65, 66, 67, 68, 69, 70, 71, 72, 73, 74, 75, 76, 77, 78, 79, 80, 81, 82, 83, 84, 85, 86, 87, 88, 89, 90, 91, 92, 93, 94, 95, 96, 97, 98, 99, 100, 101, 102, 103, 104, 105] (by decide +kernel) (by decide +kernel)) (goodIn_sub (fun _ h => List.mem_cons_of_mem _ (List.mem_append_left _ (List.mem_append_right _ h))) (by decide +kernel))) (goodIn_sub (fun _ h => List.mem_cons_of_mem _ (List.mem_append_right _ h)) (by decide +kernel))
set_option maxRecDepth 20000 in
theorem gL_retracts_X9_retract : GoodIn wsL_retracts (wsV RL 237 RX9 yX9_retract wsX9_retract) := goodIn_app (goodIn_of _ (by decide +kernel)) ggL_retracts_X9_retract
set_option maxRecDepth 20000 in
theorem ggL_agrees_X9_tick : GoodIn wsL_agrees wsX9_tick := goodIn_r _ [6, 7, 8, 316, 317, 318, 319, 320, 321, 322, 323, 324, 325, 326, 327, 328, 329, 330, 331, 332, 333, 334, 335, 336, 337, 338, 339, 340, 341, 342, 343, 344] (by decide +kernel) (by decide +kernel)
set_option maxRecDepth 20000 in
theorem gL_agrees_X9_tick : GoodIn wsL_agrees (wsV RL 239 RX9 yX9_tick wsX9_tick) := goodIn_app (goodIn_of _ (by decide +kernel)) ggL_agrees_X9_tick
set_option maxRecDepth 20000 in
theorem ggL_agrees_X9_size : GoodIn wsL_agrees wsX9_size := goodIn_ca (goodIn_r _ [12, 13, 14, 15, 16, 17, 18, 19, 7, 20, 21, 22, 23, 24, 25, 26, 27, 28, 29, 30, 31, 32, 33, 34, 35, 316, 317, 318, 319, 320, 321, 322, 323, 324, 325, 326, 327, 345, 346, 347, 348, 349, 350, 351, 352, 353, 354, 355, 356, 357, 358, 359, 360, 361, 362, 328, 329, 330, 331, 332, 333, 334, 335, 336, 337, 338, 339, 340, 341, 342, 343, 344, 363, 364, 365, 366, 367] (by decide +kernel) (by decide +kernel)) (goodIn_sub (fun _ h => List.mem_cons_of_mem _ (List.mem_append_left _ (List.mem_append_left _ (List.mem_append_right _ h)))) (by decide +kernel))
set_option maxRecDepth 20000 in
theorem gL_agrees_X9_size : GoodIn wsL_agrees (wsV RL 156 RX9 yX9_size wsX9_size) := goodIn_app (goodIn_of _ (by decide +kernel)) ggL_agrees_X9_size
set_option maxRecDepth 20000 in
theorem ggL_agrees_X10_sum : GoodIn wsL_agrees wsX10_sum := goodIn_r _ [40, 41, 42, 43, 44, 45, 280, 281, 282, 283, 284, 285, 286, 287, 288, 289, 290, 291, 292, 293, 294, 295, 296, 297, 298, 299, 300, 301, 302, 303, 304, 305, 306, 307, 308, 309, 310] (by decide +kernel) (by decide +kernel)
set_option maxRecDepth 20000 in
theorem gL_agrees_X10_sum : GoodIn wsL_agrees (wsV RL 246 RX10 yX10_sum wsX10_sum) := goodIn_app (goodIn_of _ (by decide +kernel)) ggL_agrees_X10_sum
set_option maxRecDepth 20000 in
theorem ggL_agrees_X10_ratio : GoodIn wsL_agrees wsX10_ratio := goodIn_r _ [49, 50, 51, 52, 53, 37, 38, 39, 40, 41, 42, 43, 44, 45, 280, 281, 282, 283, 284, 285, 286, 287, 288, 289, 290, 291, 292, 293, 294, 295, 296, 297, 298, 299, 300, 301, 302, 303, 304, 305, 306, 307, 308, 309, 310] (by decide +kernel) (by decide +kernel)
set_option maxRecDepth 20000 in
theorem gL_agrees_X10_ratio : GoodIn wsL_agrees (wsV RL 201 RX10 yX10_ratio wsX10_ratio) := goodIn_app (goodIn_of _ (by decide +kernel)) ggL_agrees_X10_ratio
set_option maxRecDepth 20000 in
theorem ggL_agrees_X9_station : GoodIn wsL_agrees wsX9_station := goodIn_ca (goodIn_ca (goodIn_r _ [57, 13, 14, 15, 58, 59, 7, 60, 61, 62, 63, 64, 65, 66, 67, 5, 68, 69, 70, 16, 71, 72, 73, 74, 75, 76, 77, 78, 316, 317, 318, 319, 320, 321, 322, 323, 324, 325, 326, 327, 345, 346, 347, 348, 349, 350, 351, 352, 353, 354, 355, 356, 357, 358, 359, 328, 329, 330, 331, 332, 333, 334, 335, 336, 337, 338, 339, 340, 341, 342, 343, 344] (by decide +kernel) (by decide +kernel)) (goodIn_sub (fun _ h => List.mem_cons_of_mem _ (List.mem_append_left _ (List.mem_append_left _ (List.mem_append_right _ h)))) (by decide +kernel))) (goodIn_sub (fun _ h => List.mem_cons_of_mem _ (List.mem_append_left _ (List.mem_append_right _ h))) (by decide +kernel))
set_option maxRecDepth 20000 in
theorem gL_agrees_X9_station : GoodIn wsL_agrees (wsV RL 250 RX9 yX9_station wsX9_station) := goodIn_app (goodIn_of _ (by decide +kernel)) ggL_agrees_X9_station
set_option maxRecDepth 20000 in
theorem ggL_agrees_X9_triggered : GoodIn wsL_agrees wsX9_triggered := goodIn_r _ [82, 7, 83, 84, 85, 32, 86, 87, 316, 317, 318, 319, 320, 321, 322, 323, 324, 325, 326, 327, 328, 329, 330, 331, 332, 333, 334, 335, 336, 337, 338, 339, 340, 341, 342, 343, 344] (by decide +kernel) (by decide +kernel)
set_option maxRecDepth 20000 in
theorem gL_agrees_X9_triggered : GoodIn wsL_agrees (wsV RL 253 RX9 yX9_triggered wsX9_triggered) := goodIn_app (goodIn_of _ (by decide +kernel)) ggL_agrees_X9_triggered
set_option maxRecDepth 20000 in
theorem ggL_agrees_X9_pick : GoodIn wsL_agrees wsX9_pick := goodIn_ca (goodIn_ca (goodIn_r _ [91, 13, 14, 7, 92, 93, 94, 95, 96, 97, 98, 99, 5, 100, 69, 70, 20, 316, 317, 318, 319, 320, 321, 322, 323, 324, 325, 326, 327, 328, 329, 330, 331, 332, 333, 334, 335, 336, 337, 338, 339, 340, 341, 342, 343, 344] (by decide +kernel) (by decide +kernel)) (goodIn_sub (fun _ h => List.mem_cons_of_mem _ (List.mem_append_left _ (List.mem_append_left _ (List.mem_append_right _ h)))) (by decide +kernel))) (goodIn_sub (fun _ h => List.mem_cons_of_mem _ (List.mem_append_left _ (List.mem_append_right _ h))) (by decide +kernel))
set_option maxRecDepth 20000 in
theorem gL_agrees_X9_pick : GoodIn wsL_agrees (wsV RL 260 RX9 yX9_pick wsX9_pick) := goodIn_app (goodIn_of _ (by decide +kernel)) ggL_agrees_X9_pick
set_option maxRecDepth 20000 in
theorem ggL_agrees_X9_fits : GoodIn wsL_agrees wsX9_fits := goodIn_ca (goodIn_r _ [104, 7, 15, 97, 98, 99, 5, 100, 69, 70, 20, 105, 106, 107, 32, 108, 109, 110, 111, 112, 113, 44, 114, 115, 116, 117, 118, 74, 119, 120, 316, 317, 318, 319, 320, 321, 322, 323, 324, 325, 326, 327, 328, 329, 330, 331, 332, 333, 334, 335, 336, 337, 338, 339, 340, 341, 342, 343, 344, 345, 346, 347, 348, 349, 350, 351, 352, 353, 354, 355, 356, 357, 358, 359] (by decide +kernel) (by decide +kernel)) (goodIn_sub (fun _ h => List.mem_cons_of_mem _ (List.mem_append_left _ (List.mem_append_right _ h))) (by decide +kernel))
set_option maxRecDepth 20000 in
theorem gL_agrees_X9_fits : GoodIn wsL_agrees (wsV RL 278 RX9 yX9_fits wsX9_fits) := goodIn_app (goodIn_of _ (by decide +kernel)) ggL_agrees_X9_fits
set_option maxRecDepth 20000 in
theorem ggL_agrees_X10_fit : GoodIn wsL_agrees wsX10_fit := goodIn_r _ [124, 125, 113, 44, 114, 126, 127, 128, 129, 130, 39, 131, 132, 133, 134, 135, 136, 137, 138, 311, 312, 313, 314, 315, 280, 281, 282, 283, 284, 285, 286, 287, 288, 289, 290, 291, 292, 293, 294, 295, 296, 297, 298, 299, 300, 301, 302, 303, 304, 305, 306, 307, 308, 309, 310] (by decide +kernel) (by decide +kernel)
set_option maxRecDepth 20000 in
theorem gL_agrees_X10_fit : GoodIn wsL_agrees (wsV RL 282 RX10 yX10_fit wsX10_fit) := goodIn_app (goodIn_of _ (by decide +kernel)) ggL_agrees_X10_fit
set_option maxRecDepth 20000 in
theorem gd_L_agrees_X9_event_0 : GoodIn wsL_agrees [.code yX9_event cX9_event 3 (some .int)] := goodIn_r _ [142] (by decide +kernel) (by decide +kernel)
set_option maxRecDepth 20000 in
theorem gd_L_agrees_X9_event_r1 : GoodIn wsL_agrees wsX9_event_r1 := goodIn_r _ [13, 14, 7, 143, 144, 145, 146, 147, 5, 148, 69, 70, 21, 149, 150, 151, 32, 152, 153, 154, 155, 156, 157, 158] (by decide +kernel) (by decide +kernel)
