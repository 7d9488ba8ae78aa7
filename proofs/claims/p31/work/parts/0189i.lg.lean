set_option maxRecDepth 20000 in
theorem gd_L_plays_X9_parse_r9 : GoodIn wsL_plays wsX9_parse_r9 := goodIn_r _ [469, 470, 471, 472, 473, 474, 475, 476, 477, 478, 479, 480, 481, 482, 483, 313, 484, 485, 486, 487, 488, 489, 490, 491] (by decide +kernel) (by decide +kernel)
set_option maxRecDepth 20000 in
theorem gd_L_plays_X9_parse_r10 : GoodIn wsL_plays wsX9_parse_r10 := goodIn_r _ [492, 493, 494, 495, 496, 497, 498, 499, 500, 501, 502, 503, 504, 505, 506, 507, 508, 509, 510, 511, 512, 513, 514, 515] (by decide +kernel) (by decide +kernel)
set_option maxRecDepth 20000 in
theorem gd_L_plays_X9_parse_r11 : GoodIn wsL_plays wsX9_parse_r11 := goodIn_r _ [516, 517, 518, 519, 520, 521, 522, 523, 524, 525, 526, 527, 528, 529, 530, 531, 532, 533] (by decide +kernel) (by decide +kernel)
set_option maxRecDepth 20000 in
theorem gd_L_plays_X9_parse_X90 : GoodIn wsL_plays wsX90 := goodIn_r _ [1007, 1008, 1009, 1010, 1011, 1012, 1013, 1014, 1015, 1016, 1017, 1018] (by decide +kernel) (by decide +kernel)
set_option maxRecDepth 20000 in
theorem gd_L_plays_X9_parse_X10 : GoodIn wsL_plays wsX10 := goodIn_r _ [1019, 1020, 1021, 1022, 1023, 1024] (by decide +kernel) (by decide +kernel)
set_option maxRecDepth 20000 in
theorem gd_L_plays_X9_parse_X80 : GoodIn wsL_plays wsX80 := goodIn_r _ [1025, 1026, 1027, 1028, 1029] (by decide +kernel) (by decide +kernel)
set_option maxRecDepth 20000 in
theorem gd_L_plays_X9_parse_X50 : GoodIn wsL_plays wsX50 := goodIn_r _ [1030, 1031, 1032, 1033, 1034, 1035, 1036, 1037, 1038, 1039, 1040, 1041, 1042, 1043, 1044] (by decide +kernel) (by decide +kernel)
set_option maxRecDepth 20000 in
theorem gd_L_plays_X9_parse_X60 : GoodIn wsL_plays wsX60 := goodIn_r _ [1045, 1046, 1047] (by decide +kernel) (by decide +kernel)
set_option maxRecDepth 20000 in
theorem gd_L_plays_X9_parse_X20 : GoodIn wsL_plays wsX20 := goodIn_r _ [1048, 1049, 1050, 1051, 1052] (by decide +kernel) (by decide +kernel)
set_option maxRecDepth 20000 in
theorem gd_L_plays_X9_parse_J00 : GoodIn wsL_plays wsJ00 := goodIn_r _ [1003, 1004, 1005, 1006] (by decide +kernel) (by decide +kernel)
set_option maxRecDepth 20000 in
theorem gd_L_plays_X9_parse_X70 : GoodIn wsL_plays wsX70 := goodIn_r _ [1053, 1054, 1055, 1056, 1057, 1058, 1059, 1060, 1061, 1062, 1063, 1064, 1065, 1066, 1067, 1068, 1069] (by decide +kernel) (by decide +kernel)
set_option maxRecDepth 20000 in
theorem gd_L_plays_X9_parse_X40 : GoodIn wsL_plays wsX40 := goodIn_r _ [1070, 1071, 1072, 1073, 1074] (by decide +kernel) (by decide +kernel)
set_option maxRecDepth 20000 in
theorem ggL_plays_X9_parse : GoodIn wsL_plays wsX9_parse := goodIn_ca (goodIn_c1 gd_L_plays_X9_parse_0 (goodIn_app (goodIn_app (goodIn_app (goodIn_app (goodIn_app (goodIn_app (goodIn_app (goodIn_app (goodIn_app (goodIn_app gd_L_plays_X9_parse_r1 (goodIn_app gd_L_plays_X9_parse_r2 (goodIn_app gd_L_plays_X9_parse_r3 (goodIn_app gd_L_plays_X9_parse_r4 (goodIn_app gd_L_plays_X9_parse_r5 (goodIn_app gd_L_plays_X9_parse_r6 (goodIn_app gd_L_plays_X9_parse_r7 (goodIn_app gd_L_plays_X9_parse_r8 (goodIn_app gd_L_plays_X9_parse_r9 (goodIn_app gd_L_plays_X9_parse_r10 gd_L_plays_X9_parse_r11)))))))))) gd_L_plays_X9_parse_X90) gd_L_plays_X9_parse_X10) gd_L_plays_X9_parse_X80) gd_L_plays_X9_parse_X50) gd_L_plays_X9_parse_X60) gd_L_plays_X9_parse_X20) gd_L_plays_X9_parse_J00) gd_L_plays_X9_parse_X70) gd_L_plays_X9_parse_X40)) (goodIn_sub (fun _ h => List.mem_cons_of_mem _ (List.mem_append_left _ (List.mem_append_left _ (List.mem_append_right _ h)))) (by decide +kernel))
set_option maxRecDepth 20000 in
theorem gL_plays_X9_parse : GoodIn wsL_plays (wsV RL 152 RX9 yX9_parse wsX9_parse) := goodIn_app (goodIn_of _ (by decide +kernel)) ggL_plays_X9_parse
