/-! the law's words for its wrapper of describe, piece by piece -/
theorem goodIn_c1 {big a : List Cond} {c : Cond} (hc : GoodIn big [c]) (ha : GoodIn big a) : GoodIn big (c :: a) := fun w h => (List.mem_cons.mp h).elim (fun e => hc w (by rw [e]; exact List.mem_cons_self)) (ha w)
theorem gd_L_describe_0 : GoodIn wsL_law [.codeWith yL_describe cL_describe 4 (some .int) [(0, 9, 12, 22)]] := goodIn_r _ [891] (by decide +kernel) (by decide +kernel)
set_option maxRecDepth 20000 in
theorem gd_L_describe_r1 : GoodIn wsL_law wsL_describe_r1 := goodIn_r _ [558, 892, 893, 894, 2, 895, 46, 29, 761, 763, 764, 765, 766, 567, 568, 524, 896, 897, 898, 45, 899, 900, 901, 902] (by decide +kernel) (by decide +kernel)
set_option maxRecDepth 20000 in
theorem gd_L_describe_r2 : GoodIn wsL_law wsL_describe_r2 := goodIn_r _ [903, 153, 904, 905, 906, 907, 908, 158, 909, 910, 911, 912, 913, 914, 159, 915, 916, 917, 918, 919, 920, 921, 922, 923] (by decide +kernel) (by decide +kernel)
set_option maxRecDepth 20000 in
theorem gd_L_describe_r3 : GoodIn wsL_law wsL_describe_r3 := goodIn_r _ [924, 925, 926, 742, 927, 928, 929, 930, 931, 932, 933, 246, 934, 935, 936, 937, 938, 939, 940, 157, 941, 942, 943, 944] (by decide +kernel) (by decide +kernel)
set_option maxRecDepth 20000 in
theorem gd_L_describe_r4 : GoodIn wsL_law wsL_describe_r4 := goodIn_r _ [945, 946, 947, 948, 949, 950, 951, 952, 156, 953, 954, 313, 955, 956, 957, 958, 959, 960, 961, 962, 44, 963, 964, 965] (by decide +kernel) (by decide +kernel)
set_option maxRecDepth 20000 in
theorem gd_L_describe_r5 : GoodIn wsL_law wsL_describe_r5 := goodIn_r _ [966, 967, 162, 968, 969, 970, 971, 972, 973, 974, 975, 976, 977, 978, 979, 980, 981, 982, 983, 984, 985, 336, 986, 987] (by decide +kernel) (by decide +kernel)
set_option maxRecDepth 20000 in
theorem gd_L_describe_r6 : GoodIn wsL_law wsL_describe_r6 := goodIn_r _ [988, 329, 330, 331, 989, 990, 294, 991, 318, 992, 993, 321, 994, 995, 996, 997, 337, 338, 998, 292, 293, 295, 296, 297] (by decide +kernel) (by decide +kernel)
set_option maxRecDepth 20000 in
theorem gd_L_describe_r7 : GoodIn wsL_law wsL_describe_r7 := goodIn_r _ [298, 299, 300, 301, 302, 999, 1000, 1001, 1002, 1003, 1004, 1005, 1006, 1007, 1008, 1009, 1010, 1011, 1012, 1013, 1014, 160, 161, 163] (by decide +kernel) (by decide +kernel)
set_option maxRecDepth 20000 in
theorem gd_L_describe_r8 : GoodIn wsL_law wsL_describe_r8 := goodIn_r _ [164, 165, 166, 167, 1015, 1016, 1017, 1018, 1019, 1020, 1021, 1022, 1023, 1024, 1025, 1026, 1027, 1028, 1029, 1030, 1031, 1032, 1033, 1034] (by decide +kernel) (by decide +kernel)
set_option maxRecDepth 20000 in
theorem gd_L_describe_r9 : GoodIn wsL_law wsL_describe_r9 := goodIn_r _ [1035, 1036, 1037, 1038, 1039, 1040, 1041, 1042, 1043, 1044, 1045, 1046, 1047, 1048, 1049, 1050, 1051, 1052, 1053, 1054, 1055, 1056, 1057, 1058] (by decide +kernel) (by decide +kernel)
set_option maxRecDepth 20000 in
theorem gd_L_describe_r10 : GoodIn wsL_law wsL_describe_r10 := goodIn_r _ [1059, 1060, 1061, 1062, 1063, 1064, 42, 24, 520, 775, 1065, 778, 779, 780, 41, 781, 782, 783, 784, 785, 786, 787, 788, 789] (by decide +kernel) (by decide +kernel)
set_option maxRecDepth 20000 in
theorem gd_L_describe_r11 : GoodIn wsL_law wsL_describe_r11 := goodIn_r _ [790, 146, 791, 792, 793, 794, 795, 796, 797, 741, 743, 798, 799, 800, 801, 802, 803, 804, 608, 609, 23, 610, 611, 612] (by decide +kernel) (by decide +kernel)
set_option maxRecDepth 20000 in
theorem gd_L_describe_r12 : GoodIn wsL_law wsL_describe_r12 := goodIn_r _ [613, 614, 79, 395, 396, 397, 398, 93, 805, 400, 401, 70, 402, 108, 109, 806, 807, 808, 809, 147, 810, 811, 812, 813] (by decide +kernel) (by decide +kernel)
set_option maxRecDepth 20000 in
theorem gd_L_describe_r13 : GoodIn wsL_law wsL_describe_r13 := goodIn_r _ [814, 815, 816, 817, 818, 640, 641, 74, 642, 354, 86, 87, 819, 820, 821, 822, 1066, 404, 405, 406, 106, 110, 1067, 1068] (by decide +kernel) (by decide +kernel)
set_option maxRecDepth 20000 in
theorem gd_L_describe_r14 : GoodIn wsL_law wsL_describe_r14 := goodIn_r _ [1069, 1070, 1071, 1072, 1073, 1074, 1075, 1076, 1077, 1078, 1079, 1080, 326, 327, 328, 332, 316, 317, 319, 320, 322, 1081, 408, 409] (by decide +kernel) (by decide +kernel)
set_option maxRecDepth 20000 in
theorem gd_L_describe_r15 : GoodIn wsL_law wsL_describe_r15 := goodIn_r _ [410, 107, 1082, 1083, 1084, 1085, 1086, 1087, 1088, 1089] (by decide +kernel) (by decide +kernel)
set_option maxRecDepth 20000 in
theorem gd_L_describe_X90 : GoodIn wsL_law wsX90 := goodIn_r _ [1402, 1403, 1404, 1405, 1406, 1407, 1408, 1409, 1410, 1411, 1412, 1413] (by decide +kernel) (by decide +kernel)
set_option maxRecDepth 20000 in
theorem gd_L_describe_X70 : GoodIn wsL_law wsX70 := goodIn_r _ [1461, 1462, 1463, 1464, 1465, 1466, 1467, 1468, 1469, 1470, 1471, 1472, 1473, 1474, 1475, 1476, 1477] (by decide +kernel) (by decide +kernel)
set_option maxRecDepth 20000 in
theorem gd_L_describe_Jx7c7330 : GoodIn wsL_law wsJx7c7330 := goodIn_r _ [1512, 1513, 1514, 1515, 1516, 1517] (by decide +kernel) (by decide +kernel)
set_option maxRecDepth 20000 in
theorem gd_L_describe_J40 : GoodIn wsL_law wsJ40 := goodIn_r _ [1491, 1492, 1493, 1494] (by decide +kernel) (by decide +kernel)
set_option maxRecDepth 20000 in
theorem gd_L_describe_Jx000600 : GoodIn wsL_law wsJx000600 := goodIn_r _ [1518, 1519, 1520, 1521, 1522, 1523] (by decide +kernel) (by decide +kernel)
set_option maxRecDepth 20000 in
theorem gd_L_describe_J00 : GoodIn wsL_law wsJ00 := goodIn_r _ [1508, 1509, 1510, 1511] (by decide +kernel) (by decide +kernel)
set_option maxRecDepth 20000 in
theorem gd_L_describe_X50 : GoodIn wsL_law wsX50 := goodIn_r _ [1446, 1447, 1448, 1449, 1450, 1451, 1452, 1453, 1454, 1455, 1456, 1457, 1458, 1459, 1460] (by decide +kernel) (by decide +kernel)
set_option maxRecDepth 20000 in
theorem gd_L_describe_X30 : GoodIn wsL_law wsX30 := goodIn_r _ [1485, 1486, 1487, 1488, 1489, 1490] (by decide +kernel) (by decide +kernel)
set_option maxRecDepth 20000 in
theorem gd_L_describe_X20 : GoodIn wsL_law wsX20 := goodIn_r _ [1500, 1501, 1502, 1503, 1504] (by decide +kernel) (by decide +kernel)
set_option maxRecDepth 20000 in
theorem gd_L_describe_X60 : GoodIn wsL_law wsX60 := goodIn_r _ [1505, 1506, 1507] (by decide +kernel) (by decide +kernel)
set_option maxRecDepth 20000 in
theorem ggL_law_L_describe : GoodIn wsL_law wsL_describe := goodIn_ca (goodIn_ca (goodIn_c1 gd_L_describe_0 (goodIn_app (goodIn_app (goodIn_app (goodIn_app (goodIn_app (goodIn_app (goodIn_app (goodIn_app (goodIn_app (goodIn_app (goodIn_app gd_L_describe_r1 (goodIn_app gd_L_describe_r2 (goodIn_app gd_L_describe_r3 (goodIn_app gd_L_describe_r4 (goodIn_app gd_L_describe_r5 (goodIn_app gd_L_describe_r6 (goodIn_app gd_L_describe_r7 (goodIn_app gd_L_describe_r8 (goodIn_app gd_L_describe_r9 (goodIn_app gd_L_describe_r10 (goodIn_app gd_L_describe_r11 (goodIn_app gd_L_describe_r12 (goodIn_app gd_L_describe_r13 (goodIn_app gd_L_describe_r14 gd_L_describe_r15)))))))))))))) gd_L_describe_X90) gd_L_describe_X70) gd_L_describe_Jx7c7330) gd_L_describe_J40) gd_L_describe_Jx000600) gd_L_describe_J00) gd_L_describe_X50) gd_L_describe_X30) gd_L_describe_X20) gd_L_describe_X60)) (goodIn_sub (fun _ h => List.mem_append_left _ (List.mem_append_left _ (List.mem_append_left _ (List.mem_append_right _ h)))) (by decide +kernel))) (goodIn_sub (fun _ h => List.mem_append_left _ (List.mem_append_right _ h)) (by decide +kernel))
