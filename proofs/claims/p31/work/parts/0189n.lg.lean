set_option maxRecDepth 20000 in
theorem gd_L_plays_L_agrees_r11 : GoodIn wsL_plays wsL_agrees_r11 := goodIn_r _ [920, 921, 922, 923, 924, 925, 926, 927, 928, 596, 929, 930, 931, 932, 933, 934, 935, 936, 937, 672, 673, 674, 675, 616] (by decide +kernel) (by decide +kernel)
set_option maxRecDepth 20000 in
theorem gd_L_plays_L_agrees_r12 : GoodIn wsL_plays wsL_agrees_r12 := goodIn_r _ [617, 938, 939, 940, 941, 942, 943, 944, 945, 946, 947, 948, 949, 47, 48] (by decide +kernel) (by decide +kernel)
set_option maxRecDepth 20000 in
theorem gd_L_plays_L_agrees_X100 : GoodIn wsL_plays wsX100 := goodIn_r _ [972, 973, 974, 975, 976, 977, 978, 979, 980, 981, 982, 983, 984, 985, 986, 987, 988, 989, 990, 991, 992, 993, 994, 995] (by decide +kernel) (by decide +kernel)
set_option maxRecDepth 20000 in
theorem gd_L_plays_L_agrees_X120 : GoodIn wsL_plays wsX120 := goodIn_r _ [996, 997, 998, 999, 1000, 1001, 1002] (by decide +kernel) (by decide +kernel)
set_option maxRecDepth 20000 in
theorem gd_L_plays_L_agrees_X110 : GoodIn wsL_plays wsX110 := goodIn_r _ [1075, 1076, 1077, 1078, 1079] (by decide +kernel) (by decide +kernel)
set_option maxRecDepth 20000 in
theorem gd_L_plays_L_agrees_X90 : GoodIn wsL_plays wsX90 := goodIn_r _ [1007, 1008, 1009, 1010, 1011, 1012, 1013, 1014, 1015, 1016, 1017, 1018] (by decide +kernel) (by decide +kernel)
set_option maxRecDepth 20000 in
theorem gd_L_plays_L_agrees_X70 : GoodIn wsL_plays wsX70 := goodIn_r _ [1053, 1054, 1055, 1056, 1057, 1058, 1059, 1060, 1061, 1062, 1063, 1064, 1065, 1066, 1067, 1068, 1069] (by decide +kernel) (by decide +kernel)
set_option maxRecDepth 20000 in
theorem gd_L_plays_L_agrees_X50 : GoodIn wsL_plays wsX50 := goodIn_r _ [1030, 1031, 1032, 1033, 1034, 1035, 1036, 1037, 1038, 1039, 1040, 1041, 1042, 1043, 1044] (by decide +kernel) (by decide +kernel)
set_option maxRecDepth 20000 in
theorem gd_L_plays_L_agrees_X60 : GoodIn wsL_plays wsX60 := goodIn_r _ [1045, 1046, 1047] (by decide +kernel) (by decide +kernel)
set_option maxRecDepth 20000 in
theorem gd_L_plays_L_agrees_X20 : GoodIn wsL_plays wsX20 := goodIn_r _ [1048, 1049, 1050, 1051, 1052] (by decide +kernel) (by decide +kernel)
set_option maxRecDepth 20000 in
theorem gd_L_plays_L_agrees_X30 : GoodIn wsL_plays wsX30 := goodIn_r _ [1082, 1083, 1084, 1085, 1086, 1087] (by decide +kernel) (by decide +kernel)
set_option maxRecDepth 20000 in
theorem ggL_plays_L_agrees : GoodIn wsL_plays wsL_agrees := goodIn_ca (goodIn_ca (goodIn_ca (goodIn_c1 gd_L_plays_L_agrees_0 (goodIn_app (goodIn_app (goodIn_app (goodIn_app (goodIn_app (goodIn_app (goodIn_app (goodIn_app (goodIn_app (goodIn_app gd_L_plays_L_agrees_r1 (goodIn_app gd_L_plays_L_agrees_r2 (goodIn_app gd_L_plays_L_agrees_r3 (goodIn_app gd_L_plays_L_agrees_r4 (goodIn_app gd_L_plays_L_agrees_r5 (goodIn_app gd_L_plays_L_agrees_r6 (goodIn_app gd_L_plays_L_agrees_r7 (goodIn_app gd_L_plays_L_agrees_r8 (goodIn_app gd_L_plays_L_agrees_r9 (goodIn_app gd_L_plays_L_agrees_r10 (goodIn_app gd_L_plays_L_agrees_r11 gd_L_plays_L_agrees_r12))))))))))) gd_L_plays_L_agrees_X100) gd_L_plays_L_agrees_X120) gd_L_plays_L_agrees_X110) gd_L_plays_L_agrees_X90) gd_L_plays_L_agrees_X70) gd_L_plays_L_agrees_X50) gd_L_plays_L_agrees_X60) gd_L_plays_L_agrees_X20) gd_L_plays_L_agrees_X30)) (goodIn_sub (fun _ h => List.mem_cons_of_mem _ (List.mem_append_left _ (List.mem_append_left _ (List.mem_append_right _ h)))) (by decide +kernel))) (goodIn_sub (fun _ h => List.mem_cons_of_mem _ (List.mem_append_left _ (List.mem_append_right _ h))) (by decide +kernel))) (goodIn_sub (fun _ h => List.mem_cons_of_mem _ (List.mem_append_right _ h)) (by decide +kernel))
set_option maxRecDepth 20000 in
theorem gL_plays_L_agrees : GoodIn wsL_plays (va_wsS RL 163 yL_agrees wsL_agrees) := goodIn_app (goodIn_of _ (by decide +kernel)) ggL_plays_L_agrees
set_option maxRecDepth 20000 in
theorem ggL_plays_L_draw : GoodIn wsL_plays wsL_draw := goodIn_r _ [51, 52, 53] (by decide +kernel) (by decide +kernel)
set_option maxRecDepth 20000 in
theorem gL_plays_L_draw : GoodIn wsL_plays (va_wsS RL 35 yL_draw wsL_draw) := goodIn_app (goodIn_of _ (by decide +kernel)) ggL_plays_L_draw
