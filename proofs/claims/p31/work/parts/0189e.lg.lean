set_option maxRecDepth 20000 in
theorem gd_L_law_L_plays_r37 : GoodIn wsL_law wsL_plays_r37 := goodIn_r _ [929, 930, 931, 932, 933, 934, 935, 142, 936, 937, 938, 939, 940, 941, 942, 943, 944, 945, 946, 947, 948, 949, 950, 951] (by decide +kernel) (by decide +kernel)
set_option maxRecDepth 20000 in
theorem gd_L_law_L_plays_r38 : GoodIn wsL_law wsL_plays_r38 := goodIn_r _ [952, 953, 954, 955, 956, 957, 958, 959, 960, 961, 143, 962, 963, 964, 965, 966, 967, 968, 969, 970, 971, 972, 973, 974] (by decide +kernel) (by decide +kernel)
set_option maxRecDepth 20000 in
theorem gd_L_law_L_plays_r39 : GoodIn wsL_law wsL_plays_r39 := goodIn_r _ [975, 976, 977, 978, 979, 980, 981, 982, 983, 984, 985, 986, 987, 988, 989, 990, 991, 992, 993, 994, 995, 996, 997, 998] (by decide +kernel) (by decide +kernel)
set_option maxRecDepth 20000 in
theorem gd_L_law_L_plays_r40 : GoodIn wsL_law wsL_plays_r40 := goodIn_r _ [999, 1000, 1001, 1002, 1003, 1004, 1005, 1006, 1007, 1008, 1009, 1010, 1011, 1012, 1013, 1014, 1015, 1016, 1017, 1018, 1019, 1020, 1021, 1022] (by decide +kernel) (by decide +kernel)
set_option maxRecDepth 20000 in
theorem gd_L_law_L_plays_r41 : GoodIn wsL_law wsL_plays_r41 := goodIn_r _ [1023, 1024, 1025, 1026, 1027, 1028, 1029] (by decide +kernel) (by decide +kernel)
set_option maxRecDepth 20000 in
theorem gd_L_law_L_plays_J40 : GoodIn wsL_law wsJ40 := goodIn_r _ [1093, 1094, 1095, 1096] (by decide +kernel) (by decide +kernel)
set_option maxRecDepth 20000 in
theorem gd_L_law_L_plays_X100 : GoodIn wsL_law wsX100 := goodIn_r _ [1110, 1111, 1112, 1113, 1114, 1115, 1116, 1117, 1118, 1119, 1120, 1121, 1122, 1123, 1124, 1125, 1126, 1127, 1128, 1129, 1130, 1131, 1132, 1133] (by decide +kernel) (by decide +kernel)
set_option maxRecDepth 20000 in
theorem gd_L_law_L_plays_X120 : GoodIn wsL_law wsX120 := goodIn_r _ [1134, 1135, 1136, 1137, 1138, 1139, 1140] (by decide +kernel) (by decide +kernel)
