/-! L, part a, more of it -/
set_option maxRecDepth 40000 in
theorem wsL_law0_r41_in : ∀ w ∈ wsL_law0_r41, w ∈ lw_big := tin_p _ [1443, 1444, 1445, 1447, 24, 1448, 180, 289, 205, 1449, 1450, 1451, 1452, 1453, 1454, 1456, 25, 1457, 1459, 1460, 1461, 1462, 520, 522] (by decide +kernel)
set_option maxRecDepth 40000 in
theorem wsL_law0_r42_in : ∀ w ∈ wsL_law0_r42, w ∈ lw_big := tin_p _ [1463, 1464, 1465, 1466, 516, 524, 518, 1467, 1468, 1469, 1470, 1471, 1472, 1474, 26, 1475, 1477, 1478, 1479, 1480, 1481, 1482, 540, 1483] (by decide +kernel)
set_option maxRecDepth 40000 in
theorem wsL_law0_r43_in : ∀ w ∈ wsL_law0_r43, w ∈ lw_big := tin_p _ [1484, 1485, 1486, 514, 1487, 1488, 1489, 1490, 1491, 1493, 1494, 1495, 1496, 1497, 1498, 1499, 1500, 1501, 1502, 1503, 1504, 1505] (by decide +kernel)
set_option maxRecDepth 40000 in
theorem wsX90_in : ∀ w ∈ wsX90, w ∈ lw_big := tin_p _ [450, 452, 454, 456, 458, 460, 462, 464, 466, 468, 470, 472] (by decide +kernel)
set_option maxRecDepth 40000 in
theorem wsX10_in : ∀ w ∈ wsX10, w ∈ lw_big := tin_p _ [107, 109, 111, 113, 115, 117] (by decide +kernel)
set_option maxRecDepth 40000 in
theorem wsX50_in : ∀ w ∈ wsX50, w ∈ lw_big := tin_p _ [216, 218, 220, 222, 224, 226, 228, 230, 232, 234, 236, 238, 240, 242, 244] (by decide +kernel)
set_option maxRecDepth 40000 in
theorem wsX70_in : ∀ w ∈ wsX70, w ∈ lw_big := tin_p _ [304, 306, 308, 310, 312, 314, 316, 318, 320, 322, 324, 326, 328, 330, 332, 334, 336] (by decide +kernel)
set_option maxRecDepth 40000 in
theorem wsX40_in : ∀ w ∈ wsX40, w ∈ lw_big := tin_p _ [353, 355, 357, 359, 361] (by decide +kernel)
set_option maxRecDepth 40000 in
theorem wsX00_in : ∀ w ∈ wsX00, w ∈ lw_big := tin_p _ [373, 375] (by decide +kernel)
set_option maxRecDepth 40000 in
theorem wsX30_in : ∀ w ∈ wsX30, w ∈ lw_big := tin_p _ [393, 395, 397, 399, 401, 403] (by decide +kernel)
set_option maxRecDepth 40000 in
theorem wsJ40_in : ∀ w ∈ wsJ40, w ∈ lw_big := tin_p _ [428, 430, 432, 434] (by decide +kernel)
set_option maxRecDepth 40000 in
theorem wsX80_in : ∀ w ∈ wsX80, w ∈ lw_big := tin_p _ [88, 90, 92, 94, 96] (by decide +kernel)
set_option maxRecDepth 40000 in
theorem wsX20_in : ∀ w ∈ wsX20, w ∈ lw_big := tin_p _ [137, 139, 141, 143, 145] (by decide +kernel)
set_option maxRecDepth 40000 in
theorem wsX60_in : ∀ w ∈ wsX60, w ∈ lw_big := tin_p _ [159, 161, 163] (by decide +kernel)
set_option maxRecDepth 40000 in
theorem wsX100_in : ∀ w ∈ wsX100, w ∈ lw_big := tin_p _ [541, 543, 545, 547, 549, 551, 553, 555, 557, 559, 561, 563, 565, 567, 569, 571, 573, 575, 577, 579, 581, 583, 585, 587] (by decide +kernel)
set_option maxRecDepth 40000 in
theorem wsX120_in : ∀ w ∈ wsX120, w ∈ lw_big := tin_p _ [615, 617, 619, 621, 623, 625, 627] (by decide +kernel)
set_option maxRecDepth 40000 in
theorem wsJ00_in : ∀ w ∈ wsJ00, w ∈ lw_big := tin_p _ [858, 860, 862, 864] (by decide +kernel)
set_option maxRecDepth 40000 in
theorem wsX110_in : ∀ w ∈ wsX110, w ∈ lw_big := tin_p _ [1276, 1278, 1280, 1282, 1284] (by decide +kernel)
