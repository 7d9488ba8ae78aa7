/-! L, part a, more of it -/
set_option maxRecDepth 40000 in
theorem wsL_law0_r41_in : ∀ w ∈ wsL_law0_r41, w ∈ lw_big := tin_p _ [1338, 1339, 1295, 1343, 1344, 111, 1366, 1367, 1368, 1369, 1371, 1146, 1147, 1148, 1149, 1964, 1150, 1151, 1152, 1965, 1978, 1154, 1155, 1190] (by decide +kernel)
set_option maxRecDepth 40000 in
theorem wsL_law0_r42_in : ∀ w ∈ wsL_law0_r42, w ∈ lw_big := tin_p _ [1191, 1192, 1193, 1194, 1195, 1196, 1197, 1198, 1199, 1200, 1201, 1202, 1203, 1204, 1205, 1206, 1968, 1979, 1208, 1209, 1210, 1969, 1980, 1212] (by decide +kernel)
set_option maxRecDepth 40000 in
theorem wsL_law0_r43_in : ∀ w ∈ wsL_law0_r43, w ∈ lw_big := tin_p _ [1213, 1214, 1215, 1970, 1981, 1217, 1218, 1219, 1220, 1221, 1222, 1223, 1224, 1225, 1226, 1227, 1228, 1229, 1230, 1231, 1232, 1233, 1234, 1235] (by decide +kernel)
set_option maxRecDepth 40000 in
theorem wsL_law0_r44_in : ∀ w ∈ wsL_law0_r44, w ∈ lw_big := tin_p _ [1236, 1237, 1238, 1239, 1372, 1241, 1242, 1243, 1244, 1971, 1245, 1246, 1247, 1248, 110, 1249, 1250, 1251, 1252, 1253, 1255, 1257, 1258, 1259] (by decide +kernel)
set_option maxRecDepth 40000 in
theorem wsL_law0_r45_in : ∀ w ∈ wsL_law0_r45, w ∈ lw_big := tin_p _ [1260, 1261, 1262, 1263, 1264, 1374, 1376, 23, 1377, 441, 1379, 1380, 1381, 1382, 1383, 1384, 1973, 1385, 1386, 1387, 1388, 1389, 1390, 1391] (by decide +kernel)
set_option maxRecDepth 40000 in
theorem wsL_law0_r46_in : ∀ w ∈ wsL_law0_r46, w ∈ lw_big := tin_p _ [1392, 1393, 561, 562, 563, 564, 565, 1960, 566, 567, 1853, 1854, 1855, 1856, 1554, 1858, 1860, 69, 1861, 1862, 1864, 70, 1865, 557] (by decide +kernel)
set_option maxRecDepth 40000 in
theorem wsL_law0_r47_in : ∀ w ∈ wsL_law0_r47, w ∈ lw_big := tin_p _ [558, 559, 560, 568, 569, 570, 571, 572, 1961, 573, 574, 575, 578, 586, 1872, 1873, 1874, 1875, 1397, 1398, 1399, 1400, 1401, 1402] (by decide +kernel)
set_option maxRecDepth 40000 in
theorem wsL_law0_r48_in : ∀ w ∈ wsL_law0_r48, w ∈ lw_big := tin_p _ [1403, 240, 245, 1404, 1406, 24, 1407, 1409, 1411, 25, 1412, 1414, 1415, 1416, 1417, 621, 622, 623, 624, 1876, 1877, 1878, 1879, 1880] (by decide +kernel)
set_option maxRecDepth 40000 in
theorem wsL_law0_r49_in : ∀ w ∈ wsL_law0_r49, w ∈ lw_big := tin_p _ [1881, 1882, 1418, 1419, 1420, 1421, 1422, 1423, 1424, 1425, 1427, 26, 1428, 602, 603, 604, 605, 607, 608, 609, 610, 1430, 1431, 1432] (by decide +kernel)
set_option maxRecDepth 40000 in
theorem wsL_law0_r50_in : ∀ w ∈ wsL_law0_r50, w ∈ lw_big := tin_p _ [1433, 255, 1434, 1435, 1436, 1437, 1438, 613, 614, 615, 616, 309, 262, 313, 617, 618, 619, 620, 238, 243, 625, 626, 627, 319] (by decide +kernel)
set_option maxRecDepth 40000 in
theorem wsL_law0_r51_in : ∀ w ∈ wsL_law0_r51, w ∈ lw_big := tin_p _ [323, 326, 329, 335, 250, 242, 332, 247, 628, 633, 634, 635, 343, 636, 639, 640, 641, 642, 643, 645, 1, 646, 316, 357] (by decide +kernel)
set_option maxRecDepth 40000 in
theorem wsL_law0_r52_in : ∀ w ∈ wsL_law0_r52, w ∈ lw_big := tin_p _ [348, 428, 253, 647, 648, 649, 650, 661, 663, 2, 664, 351, 665, 667, 3, 668, 669, 671, 4, 672, 354, 1883, 1884, 1885] (by decide +kernel)
set_option maxRecDepth 40000 in
theorem wsL_law0_r53_in : ∀ w ∈ wsL_law0_r53, w ∈ lw_big := tin_p _ [1886, 1887, 1889, 71, 1890, 1891, 1893, 72, 1894, 1895, 1897, 73, 1898, 1899, 1901, 74, 1902, 1903, 1905, 75, 1906, 1907, 1909, 76] (by decide +kernel)
set_option maxRecDepth 40000 in
theorem wsL_law0_r54_in : ∀ w ∈ wsL_law0_r54, w ∈ lw_big := tin_p _ [1910, 1911, 1913, 77, 1914, 598, 599, 600, 601, 1915, 1916, 1917, 1918, 1439, 1440, 1441, 1442, 1443, 1444, 1445, 1446, 1447, 1448, 1449] (by decide +kernel)
set_option maxRecDepth 40000 in
theorem wsL_law0_r55_in : ∀ w ∈ wsL_law0_r55, w ∈ lw_big := tin_p _ [1450, 681, 1919, 1920, 1921, 1922, 1923, 1925, 78, 1926, 1451, 1452, 1453, 1454, 1455, 1456, 1457, 1927, 1928, 1929, 1930, 1459, 1460, 1461] (by decide +kernel)
set_option maxRecDepth 40000 in
theorem wsL_law0_r56_in : ∀ w ∈ wsL_law0_r56, w ∈ lw_big := tin_p _ [1462, 1463, 1464, 1465, 1931, 1932, 1933, 1934, 1466, 1467, 1468, 1469, 1470, 1471, 1472, 1935, 1936, 1937, 1938, 1473, 1474, 1475, 1476, 1477] (by decide +kernel)
set_option maxRecDepth 40000 in
theorem wsL_law0_r57_in : ∀ w ∈ wsL_law0_r57, w ∈ lw_big := tin_p _ [1478, 1479, 1480, 1939, 1940, 1941, 1942, 673, 674, 675, 676, 677, 678, 679, 680, 1943, 1944, 1945, 1946, 1481, 1482, 1483, 1484, 1485] (by decide +kernel)
set_option maxRecDepth 40000 in
theorem wsL_law0_r58_in : ∀ w ∈ wsL_law0_r58, w ∈ lw_big := tin_p _ [1486, 1487, 1488, 1490, 27, 1491, 1493, 1494, 1495, 1496, 1947, 1948, 1949, 1950, 1951, 1953, 79, 1954, 1497, 1498, 1499, 1500, 1501, 1502] (by decide +kernel)
set_option maxRecDepth 40000 in
theorem wsL_law0_r59_in : ∀ w ∈ wsL_law0_r59, w ∈ lw_big := tin_p _ [1503, 406, 1505, 1506, 1507, 1508, 1955, 1956, 1957, 1958] (by decide +kernel)
set_option maxRecDepth 40000 in
theorem wsX90_in : ∀ w ∈ wsX90, w ∈ lw_big := tin_p _ [508, 510, 512, 514, 516, 518, 520, 522, 524, 526, 528, 530] (by decide +kernel)
