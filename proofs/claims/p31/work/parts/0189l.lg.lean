set_option maxRecDepth 20000 in
theorem gd_L_plays_L_acts_X100 : GoodIn wsL_plays wsX100 := goodIn_r _ [972, 973, 974, 975, 976, 977, 978, 979, 980, 981, 982, 983, 984, 985, 986, 987, 988, 989, 990, 991, 992, 993, 994, 995] (by decide +kernel) (by decide +kernel)
set_option maxRecDepth 20000 in
theorem gd_L_plays_L_acts_X120 : GoodIn wsL_plays wsX120 := goodIn_r _ [996, 997, 998, 999, 1000, 1001, 1002] (by decide +kernel) (by decide +kernel)
set_option maxRecDepth 20000 in
theorem gd_L_plays_L_acts_X90 : GoodIn wsL_plays wsX90 := goodIn_r _ [1007, 1008, 1009, 1010, 1011, 1012, 1013, 1014, 1015, 1016, 1017, 1018] (by decide +kernel) (by decide +kernel)
set_option maxRecDepth 20000 in
theorem gd_L_plays_L_acts_X70 : GoodIn wsL_plays wsX70 := goodIn_r _ [1053, 1054, 1055, 1056, 1057, 1058, 1059, 1060, 1061, 1062, 1063, 1064, 1065, 1066, 1067, 1068, 1069] (by decide +kernel) (by decide +kernel)
set_option maxRecDepth 20000 in
theorem gd_L_plays_L_acts_X50 : GoodIn wsL_plays wsX50 := goodIn_r _ [1030, 1031, 1032, 1033, 1034, 1035, 1036, 1037, 1038, 1039, 1040, 1041, 1042, 1043, 1044] (by decide +kernel) (by decide +kernel)
set_option maxRecDepth 20000 in
theorem gd_L_plays_L_acts_X40 : GoodIn wsL_plays wsX40 := goodIn_r _ [1070, 1071, 1072, 1073, 1074] (by decide +kernel) (by decide +kernel)
set_option maxRecDepth 20000 in
theorem gd_L_plays_L_acts_X110 : GoodIn wsL_plays wsX110 := goodIn_r _ [1075, 1076, 1077, 1078, 1079] (by decide +kernel) (by decide +kernel)
set_option maxRecDepth 20000 in
theorem gd_L_plays_L_acts_X00 : GoodIn wsL_plays wsX00 := goodIn_r _ [1080, 1081] (by decide +kernel) (by decide +kernel)
set_option maxRecDepth 20000 in
theorem ggL_plays_L_acts : GoodIn wsL_plays wsL_acts := goodIn_ca (goodIn_ca (goodIn_ca (goodIn_c1 gd_L_plays_L_acts_0 (goodIn_app (goodIn_app (goodIn_app (goodIn_app (goodIn_app (goodIn_app (goodIn_app (goodIn_app (goodIn_app gd_L_plays_L_acts_r1 (goodIn_app gd_L_plays_L_acts_r2 (goodIn_app gd_L_plays_L_acts_r3 (goodIn_app gd_L_plays_L_acts_r4 (goodIn_app gd_L_plays_L_acts_r5 (goodIn_app gd_L_plays_L_acts_r6 (goodIn_app gd_L_plays_L_acts_r7 (goodIn_app gd_L_plays_L_acts_r8 (goodIn_app gd_L_plays_L_acts_r9 (goodIn_app gd_L_plays_L_acts_r10 (goodIn_app gd_L_plays_L_acts_r11 (goodIn_app gd_L_plays_L_acts_r12 gd_L_plays_L_acts_r13)))))))))))) gd_L_plays_L_acts_X100) gd_L_plays_L_acts_X120) gd_L_plays_L_acts_X90) gd_L_plays_L_acts_X70) gd_L_plays_L_acts_X50) gd_L_plays_L_acts_X40) gd_L_plays_L_acts_X110) gd_L_plays_L_acts_X00)) (goodIn_sub (fun _ h => List.mem_cons_of_mem _ (List.mem_append_left _ (List.mem_append_right _ h))) (by decide +kernel))) (goodIn_sub (fun _ h => List.mem_cons_of_mem _ (List.mem_append_left _ (List.mem_append_left _ (List.mem_append_right _ h)))) (by decide +kernel))) (goodIn_sub (fun _ h => List.mem_cons_of_mem _ (List.mem_append_right _ h)) (by decide +kernel))
set_option maxRecDepth 20000 in
theorem gL_plays_L_acts : GoodIn wsL_plays (va_wsS RL 159 yL_acts wsL_acts) := goodIn_app (goodIn_of _ (by decide +kernel)) ggL_plays_L_acts
set_option maxRecDepth 20000 in
theorem gd_L_plays_L_agrees_0 : GoodIn wsL_plays [.code yL_agrees cL_agrees 7 (some .boolean)] := goodIn_r _ [805] (by decide +kernel) (by decide +kernel)
set_option maxRecDepth 20000 in
theorem gd_L_plays_L_agrees_r1 : GoodIn wsL_plays wsL_agrees_r1 := goodIn_r _ [45, 806, 807, 808, 313, 809, 509, 720, 534, 535, 536, 537, 327, 328, 508, 538, 539, 540, 541, 542, 543, 544, 493, 494] (by decide +kernel) (by decide +kernel)
set_option maxRecDepth 20000 in
theorem gd_L_plays_L_agrees_r2 : GoodIn wsL_plays wsL_agrees_r2 := goodIn_r _ [364, 495, 368, 369, 545, 546, 547, 514, 548, 518, 549, 810, 640, 641, 32, 642, 643, 644, 90, 91, 92, 632, 633, 634] (by decide +kernel) (by decide +kernel)
set_option maxRecDepth 20000 in
theorem gd_L_plays_L_agrees_r3 : GoodIn wsL_plays wsL_agrees_r3 := goodIn_r _ [635, 636, 637, 638, 639, 811, 812, 813, 814, 815, 816, 557, 652, 653, 817, 618, 558, 559, 560, 561, 562, 563, 654, 655] (by decide +kernel) (by decide +kernel)
