/-! L, part a, more of it -/
set_option maxRecDepth 40000 in
theorem wsX100_in : ∀ w ∈ wsX100, w ∈ lw_big := tin_p _ [1560, 1562, 1564, 1566, 1568, 1570, 1572, 1574, 1576, 1578, 1580, 1582, 1584, 1586, 1588, 1590, 1592, 1594, 1596, 1598, 1600, 1602, 1604, 1606, 1608, 1610] (by decide +kernel)
set_option maxRecDepth 40000 in
theorem wsX10_in : ∀ w ∈ wsX10, w ∈ lw_big := tin_p _ [160, 162, 164, 166, 168, 170] (by decide +kernel)
set_option maxRecDepth 40000 in
theorem wsX50_in : ∀ w ∈ wsX50, w ∈ lw_big := tin_p _ [271, 273, 275, 277, 279, 281, 283, 285, 287, 289, 291, 293, 295, 297, 299] (by decide +kernel)
set_option maxRecDepth 40000 in
theorem wsX70_in : ∀ w ∈ wsX70, w ∈ lw_big := tin_p _ [359, 361, 363, 365, 367, 369, 371, 373, 375, 377, 379, 381, 383, 385, 387, 389, 391] (by decide +kernel)
set_option maxRecDepth 40000 in
theorem wsX40_in : ∀ w ∈ wsX40, w ∈ lw_big := tin_p _ [409, 411, 413, 415, 417] (by decide +kernel)
set_option maxRecDepth 40000 in
theorem wsX00_in : ∀ w ∈ wsX00, w ∈ lw_big := tin_p _ [429, 431] (by decide +kernel)
set_option maxRecDepth 40000 in
theorem wsX30_in : ∀ w ∈ wsX30, w ∈ lw_big := tin_p _ [450, 452, 454, 456, 458, 460] (by decide +kernel)
set_option maxRecDepth 40000 in
theorem wsJ40_in : ∀ w ∈ wsJ40, w ∈ lw_big := tin_p _ [486, 488, 490, 492] (by decide +kernel)
set_option maxRecDepth 40000 in
theorem wsX80_in : ∀ w ∈ wsX80, w ∈ lw_big := tin_p _ [141, 143, 145, 147, 149] (by decide +kernel)
set_option maxRecDepth 40000 in
theorem wsX20_in : ∀ w ∈ wsX20, w ∈ lw_big := tin_p _ [190, 192, 194, 196, 198] (by decide +kernel)
set_option maxRecDepth 40000 in
theorem wsX60_in : ∀ w ∈ wsX60, w ∈ lw_big := tin_p _ [212, 214, 216] (by decide +kernel)
set_option maxRecDepth 40000 in
theorem wsJ00_in : ∀ w ∈ wsJ00, w ∈ lw_big := tin_p _ [1314, 1316, 1318, 1320] (by decide +kernel)
set_option maxRecDepth 40000 in
theorem wsJx7c7330_in : ∀ w ∈ wsJx7c7330, w ∈ lw_big := tin_p _ [1324, 1325, 1326, 1327, 1328, 1329] (by decide +kernel)
set_option maxRecDepth 40000 in
theorem wsJx000600_in : ∀ w ∈ wsJx000600, w ∈ lw_big := tin_p _ [1349, 1350, 1351, 1352, 1353, 1364] (by decide +kernel)
