set_option maxRecDepth 20000 in
theorem ggL_plays_X9_ladder : GoodIn wsL_plays wsX9_ladder := goodIn_ca (goodIn_r _ [953, 327, 328, 954, 508, 540, 955, 909, 910, 439, 911, 441, 442, 447, 1007, 1008, 1009, 1010, 1011, 1012, 1013, 1014, 1015, 1016, 1017, 1018, 1030, 1031, 1032, 1033, 1034, 1035, 1036, 1037, 1038, 1039, 1040, 1041, 1042, 1043, 1044, 1045, 1046, 1047] (by decide +kernel) (by decide +kernel)) (goodIn_sub (fun _ h => List.mem_cons_of_mem _ (List.mem_append_left _ (List.mem_append_left _ (List.mem_append_right _ h)))) (by decide +kernel))
set_option maxRecDepth 20000 in
theorem gL_plays_X9_ladder : GoodIn wsL_plays (wsV RL 167 RX9 yX9_ladder wsX9_ladder) := goodIn_app (goodIn_of _ (by decide +kernel)) ggL_plays_X9_ladder
set_option maxRecDepth 20000 in
theorem ggL_plays_X10_rung : GoodIn wsL_plays wsX10_rung := goodIn_r _ [948, 949, 47, 48, 972, 973, 974, 975, 976, 977, 978, 979, 980, 981, 982, 983, 984, 985, 986, 987, 988, 989, 990, 991, 992, 993, 994, 995] (by decide +kernel) (by decide +kernel)
set_option maxRecDepth 20000 in
theorem gL_plays_X10_rung : GoodIn wsL_plays (wsV RL 170 RX10 yX10_rung wsX10_rung) := goodIn_app (goodIn_of _ (by decide +kernel)) ggL_plays_X10_rung
set_option maxRecDepth 20000 in
theorem ggL_plays_X9_travel : GoodIn wsL_plays wsX9_travel := goodIn_ca (goodIn_r _ [960, 508, 934, 935, 936, 313, 937, 562, 563, 539, 544, 493, 494, 364, 495, 368, 369, 558, 559, 560, 561, 538, 961, 887, 888, 347, 889, 890, 891, 892, 893, 482, 488, 489, 490, 491, 352, 1007, 1008, 1009, 1010, 1011, 1012, 1013, 1014, 1015, 1016, 1017, 1018, 1030, 1031, 1032, 1033, 1034, 1035, 1036, 1037, 1038, 1039, 1040, 1041, 1042, 1043, 1044, 1048, 1049, 1050, 1051, 1052] (by decide +kernel) (by decide +kernel)) (goodIn_sub (fun _ h => List.mem_cons_of_mem _ (List.mem_append_left _ (List.mem_append_right _ h))) (by decide +kernel))
set_option maxRecDepth 20000 in
theorem gL_plays_X9_travel : GoodIn wsL_plays (wsV RL 173 RX9 yX9_travel wsX9_travel) := goodIn_app (goodIn_of _ (by decide +kernel)) ggL_plays_X9_travel
