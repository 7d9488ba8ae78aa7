/-! L, part a, more of it -/
set_option maxRecDepth 40000 in
theorem wsL_law0_r21_in : ∀ w ∈ wsL_law0_r21, w ∈ lw_big := tin_p _ [976, 977, 978, 79, 979, 980, 981, 982, 983, 984, 985, 986, 987, 988, 989, 990, 991, 992, 993, 994, 996, 2, 997, 106] (by decide +kernel)
set_option maxRecDepth 40000 in
theorem wsL_law0_r22_in : ∀ w ∈ wsL_law0_r22, w ∈ lw_big := tin_p _ [1026, 82, 998, 1000, 3, 1001, 1024, 1002, 1004, 4, 1005, 1006, 1007, 1008, 1018, 1019, 1020, 1021, 1022, 1023, 1028, 1030, 5, 1031] (by decide +kernel)
set_option maxRecDepth 40000 in
theorem wsL_law0_r23_in : ∀ w ∈ wsL_law0_r23, w ∈ lw_big := tin_p _ [87, 1032, 1034, 6, 1035, 181, 1044, 1036, 1037, 1038, 1039, 154, 1040, 1041, 1042, 1043, 1046, 1048, 7, 1049, 1050, 1052, 1054, 8] (by decide +kernel)
set_option maxRecDepth 40000 in
theorem wsL_law0_r24_in : ∀ w ∈ wsL_law0_r24, w ∈ lw_big := tin_p _ [1055, 177, 183, 186, 190, 193, 196, 199, 202, 206, 1056, 1057, 1058, 1059, 1060, 1061, 1062, 1063, 1064, 1065, 1066, 1067, 1068, 1070] (by decide +kernel)
set_option maxRecDepth 40000 in
theorem wsL_law0_r25_in : ∀ w ∈ wsL_law0_r25, w ∈ lw_big := tin_p _ [1071, 1072, 1073, 1074, 1075, 1076, 1077, 1078, 1079, 1080, 1081, 1082, 1083, 1084, 1085, 1086, 1087, 1088, 1089, 1090, 1091, 1093, 9, 1094] (by decide +kernel)
set_option maxRecDepth 40000 in
theorem wsL_law0_r26_in : ∀ w ∈ wsL_law0_r26, w ∈ lw_big := tin_p _ [1095, 1096, 1097, 1098, 253, 256, 260, 1099, 1100, 1101, 1102, 1103, 1104, 1105, 1106, 1107, 209, 176, 179, 156, 259, 262, 1108, 1109] (by decide +kernel)
set_option maxRecDepth 40000 in
theorem wsL_law0_r27_in : ∀ w ∈ wsL_law0_r27, w ∈ lw_big := tin_p _ [1110, 1111, 1112, 1114, 1115, 1116, 1117, 1118, 1119, 1120, 265, 1121, 1123, 10, 1124, 1125, 56, 1141, 1143, 11, 1144, 1146, 1147, 1148] (by decide +kernel)
set_option maxRecDepth 40000 in
theorem wsL_law0_r28_in : ∀ w ∈ wsL_law0_r28, w ∈ lw_big := tin_p _ [1149, 1159, 1150, 1151, 1152, 1153, 1155, 1156, 1157, 1158, 1160, 1161, 1162, 1163, 508, 510, 536, 1164, 1165, 1166, 1167, 1168, 1169, 1170] (by decide +kernel)
set_option maxRecDepth 40000 in
theorem wsL_law0_r29_in : ∀ w ∈ wsL_law0_r29, w ∈ lw_big := tin_p _ [1171, 1172, 1173, 1174, 1175, 1176, 1177, 1178, 1179, 1180, 1182, 12, 1183, 1184, 57, 278, 1200, 1201, 1202, 1203, 200, 1204, 1205, 1206] (by decide +kernel)
set_option maxRecDepth 40000 in
theorem wsL_law0_r30_in : ∀ w ∈ wsL_law0_r30, w ∈ lw_big := tin_p _ [1207, 1208, 1209, 1210, 1211, 1212, 1213, 1214, 1215, 530, 528, 1221, 1216, 1217, 1218, 1219, 511, 1220, 1222, 1223, 1224, 1225, 1226, 1227] (by decide +kernel)
set_option maxRecDepth 40000 in
theorem wsL_law0_r31_in : ∀ w ∈ wsL_law0_r31, w ∈ lw_big := tin_p _ [1228, 269, 272, 1229, 1230, 1231, 1232, 1233, 1234, 1235, 1236, 1237, 1238, 1239, 1240, 1241, 1242, 1243, 1245, 13, 1246, 1248, 1250, 14] (by decide +kernel)
set_option maxRecDepth 40000 in
theorem wsL_law0_r32_in : ∀ w ∈ wsL_law0_r32, w ∈ lw_big := tin_p _ [1251, 303, 1253, 1254, 1255, 1256, 1257, 1258, 506, 534, 532, 1260, 58, 1259, 1262, 1263, 1264, 1271, 1287, 1289, 15, 1290, 1291, 1292] (by decide +kernel)
set_option maxRecDepth 40000 in
theorem wsL_law0_r33_in : ∀ w ∈ wsL_law0_r33, w ∈ lw_big := tin_p _ [1293, 1294, 1295, 1296, 1297, 538, 1298, 1299, 1300, 1301, 525, 1302, 1303, 1304, 1305, 1306, 1307, 1308, 1309, 1310, 1311, 255, 1312, 1314] (by decide +kernel)
set_option maxRecDepth 40000 in
theorem wsL_law0_r34_in : ∀ w ∈ wsL_law0_r34, w ∈ lw_big := tin_p _ [16, 1315, 1318, 1319, 1320, 1321, 254, 207, 258, 1322, 1323, 1324, 1325, 185, 189, 1326, 1327, 1328, 1329, 1330, 1331, 1332, 264, 268] (by decide +kernel)
set_option maxRecDepth 40000 in
theorem wsL_law0_r35_in : ∀ w ∈ wsL_law0_r35, w ∈ lw_big := tin_p _ [271, 274, 280, 195, 188, 277, 192, 1333, 1334, 1335, 1336, 288, 1337, 1338, 1339, 1340, 1341, 1342, 1344, 17, 1345, 261, 302, 293] (by decide +kernel)
set_option maxRecDepth 40000 in
theorem wsL_law0_r36_in : ∀ w ∈ wsL_law0_r36, w ∈ lw_big := tin_p _ [372, 198, 1346, 1347, 1348, 1349, 1350, 1351, 1352, 1353, 203, 1354, 1355, 1356, 1357, 1358, 1360, 18, 1361, 296, 1362, 1364, 19, 1365] (by decide +kernel)
set_option maxRecDepth 40000 in
theorem wsL_law0_r37_in : ∀ w ∈ wsL_law0_r37, w ∈ lw_big := tin_p _ [1366, 1368, 20, 1369, 299, 1370, 1371, 1372, 1373, 1374, 1375, 1376, 1377, 1378, 1379, 1380, 1381, 211, 213, 275, 1383, 1384, 1385, 1386] (by decide +kernel)
set_option maxRecDepth 40000 in
theorem wsL_law0_r38_in : ∀ w ∈ wsL_law0_r38, w ∈ lw_big := tin_p _ [1387, 1388, 1389, 1390, 1391, 1392, 1393, 1394, 283, 286, 290, 294, 297, 1395, 1397, 21, 1398, 1401, 1402, 1403, 1404, 1405, 1406, 1407] (by decide +kernel)
set_option maxRecDepth 40000 in
theorem wsL_law0_r39_in : ∀ w ∈ wsL_law0_r39, w ∈ lw_big := tin_p _ [1408, 1409, 1410, 300, 1411, 1413, 22, 1414, 386, 388, 390, 1415, 1416, 1417, 1418, 389, 175, 1419, 1420, 1421, 1422, 384, 257, 292] (by decide +kernel)
set_option maxRecDepth 40000 in
theorem wsL_law0_r40_in : ∀ w ∈ wsL_law0_r40, w ∈ lw_big := tin_p _ [1423, 1424, 1425, 1426, 385, 387, 1439, 1427, 1429, 23, 1430, 285, 282, 1431, 1432, 1433, 1434, 1435, 1436, 1437, 1438, 1440, 1441, 1442] (by decide +kernel)
