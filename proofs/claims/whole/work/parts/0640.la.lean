/-! L, part a: the law's words are among the tables' -/
def lw_six : List Cond := [Cond.selects RJ4 yJ5_ensureCapacityInternal_d00df yJ5_ensureCapacityInternal_d00df, Cond.selects RJ4 yJ5_newCapacity_0f7a4 yJ5_newCapacity_0f7a4, Cond.selects RJ4 yJ5_appendNull_278bc yJ5_appendNull_278bc, Cond.selects RJ4 yJ5_putStringAt_47b60 yJ5_putStringAt_47b60, Cond.selects RJ4 yJ5_inflateIfNeededFor_a7421 yJ5_inflateIfNeededFor_a7421, Cond.selects RJ4 yJ5_inflate_da8c8 yJ5_inflate_da8c8]
def lw_big : List Cond := lw_tbl ++ lw_six
theorem tin_p {big : List Cond} (ws : List Cond) (ps : List Nat) (h : ws = ps.filterMap (fun i => big[i]?)) : ∀ w ∈ ws, w ∈ big := by
  intro w hw
  rw [h] at hw
  obtain ⟨i, -, hi⟩ := List.mem_filterMap.mp hw
  exact List.mem_of_getElem? hi
set_option maxRecDepth 40000 in
theorem wsL_law0_r1_in : ∀ w ∈ wsL_law0_r1, w ∈ lw_big := tin_p _ [112, 113, 81, 1509, 1510, 95, 1959, 114, 115, 116, 117, 118, 119, 152, 496, 497, 498, 120, 121, 82, 499, 173, 174, 84] (by decide +kernel)
set_option maxRecDepth 40000 in
theorem wsL_law0_r2_in : ∀ w ∈ wsL_law0_r2, w ∈ lw_big := tin_p _ [500, 501, 302, 303, 87, 502, 503, 394, 395, 88, 504, 421, 422, 89, 505, 434, 435, 90, 506, 463, 464, 92, 507, 123] (by decide +kernel)
set_option maxRecDepth 40000 in
theorem wsL_law0_r3_in : ∀ w ∈ wsL_law0_r3, w ∈ lw_big := tin_p _ [124, 125, 153, 126, 127, 83, 155, 156, 157, 129, 130, 131, 134, 136, 138, 139, 175, 176, 177, 178, 179, 180, 85, 227] (by decide +kernel)
set_option maxRecDepth 40000 in
theorem wsL_law0_r4_in : ∀ w ∈ wsL_law0_r4, w ∈ lw_big := tin_p _ [201, 202, 86, 231, 265, 267, 269, 270, 182, 183, 184, 204, 205, 206, 210, 211, 219, 220, 221, 222, 208, 235, 237, 241] (by decide +kernel)
set_option maxRecDepth 40000 in
theorem wsL_law0_r5_in : ∀ w ∈ wsL_law0_r5, w ∈ lw_big := tin_p _ [246, 249, 252, 256, 259, 263, 223, 224, 225, 226, 185, 186, 187, 188, 189, 305, 306, 307, 318, 321, 322, 325, 328, 331] (by decide +kernel)
set_option maxRecDepth 40000 in
theorem wsL_law0_r6_in : ∀ w ∈ wsL_law0_r6, w ∈ lw_big := tin_p _ [334, 336, 339, 342, 346, 350, 353, 356, 396, 397, 398, 399, 400, 403, 404, 420, 405, 407, 408, 424, 425, 426, 427, 437] (by decide +kernel)
set_option maxRecDepth 40000 in
theorem wsL_law0_r7_in : ∀ w ∈ wsL_law0_r7, w ∈ lw_big := tin_p _ [438, 439, 448, 449, 465, 466, 467, 468, 469, 91, 470, 471, 472, 495, 481, 482, 474, 475, 94, 476, 477, 478, 479, 480] (by decide +kernel)
set_option maxRecDepth 40000 in
theorem wsL_law0_r8_in : ∀ w ∈ wsL_law0_r8, w ∈ lw_big := tin_p _ [1511, 1512, 1513, 1514, 1535, 1536, 1537, 1538, 1539, 1540, 1541, 1549, 1552, 1553, 1555, 1557, 1558, 1559, 1515, 1517, 28, 1518, 1519, 1521] (by decide +kernel)
set_option maxRecDepth 40000 in
theorem wsL_law0_r9_in : ∀ w ∈ wsL_law0_r9, w ∈ lw_big := tin_p _ [29, 1522, 1523, 1525, 30, 1526, 1527, 1528, 1529, 1530, 1532, 31, 1533, 1556, 533, 534, 535, 536, 537, 539, 0, 540, 1617, 1618] (by decide +kernel)
set_option maxRecDepth 40000 in
theorem wsL_law0_r10_in : ∀ w ∈ wsL_law0_r10, w ∈ lw_big := tin_p _ [1619, 1620, 1534, 1542, 1621, 1623, 32, 1624, 682, 683, 80, 684, 685, 686, 687, 688, 689, 690, 99, 154, 759, 760, 761, 762] (by decide +kernel)
set_option maxRecDepth 40000 in
theorem wsL_law0_r11_in : ∀ w ∈ wsL_law0_r11, w ∈ lw_big := tin_p _ [158, 133, 137, 763, 764, 765, 100, 766, 767, 768, 769, 770, 132, 771, 772, 773, 774, 775, 776, 777, 778, 779, 780, 781] (by decide +kernel)
set_option maxRecDepth 40000 in
theorem wsL_law0_r12_in : ∀ w ∈ wsL_law0_r12, w ∈ lw_big := tin_p _ [782, 783, 784, 785, 786, 788, 6, 789, 159, 845, 135, 790, 792, 7, 793, 843, 794, 796, 8, 797, 798, 799, 800, 810] (by decide +kernel)
set_option maxRecDepth 40000 in
theorem wsL_law0_r13_in : ∀ w ∈ wsL_law0_r13, w ∈ lw_big := tin_p _ [811, 812, 813, 814, 815, 816, 93, 817, 1312, 818, 819, 820, 821, 822, 1313, 823, 824, 825, 826, 827, 828, 829, 830, 831] (by decide +kernel)
set_option maxRecDepth 40000 in
theorem wsL_law0_r14_in : ∀ w ∈ wsL_law0_r14, w ∈ lw_big := tin_p _ [832, 101, 833, 834, 579, 580, 581, 583, 584, 102, 585, 835, 836, 837, 838, 839, 840, 591, 592, 593, 841, 842, 587, 588] (by decide +kernel)
set_option maxRecDepth 40000 in
theorem wsL_law0_r15_in : ∀ w ∈ wsL_law0_r15, w ∈ lw_big := tin_p _ [589, 594, 596, 847, 849, 9, 850, 140, 851, 853, 10, 854, 234, 863, 855, 856, 857, 858, 207, 859, 860, 861, 862, 865] (by decide +kernel)
set_option maxRecDepth 40000 in
theorem wsL_law0_r16_in : ∀ w ∈ wsL_law0_r16, w ∈ lw_big := tin_p _ [867, 11, 868, 869, 871, 873, 12, 874, 230, 236, 239, 244, 248, 251, 254, 257, 261, 875, 876, 877, 878, 879, 880, 881] (by decide +kernel)
set_option maxRecDepth 40000 in
theorem wsL_law0_r17_in : ∀ w ∈ wsL_law0_r17, w ∈ lw_big := tin_p _ [882, 883, 884, 885, 886, 887, 889, 890, 891, 892, 893, 894, 895, 896, 897, 898, 899, 900, 901, 902, 903, 904, 905, 906] (by decide +kernel)
set_option maxRecDepth 40000 in
theorem wsL_law0_r18_in : ∀ w ∈ wsL_law0_r18, w ∈ lw_big := tin_p _ [907, 908, 909, 910, 912, 13, 913, 914, 915, 916, 917, 308, 311, 315, 918, 919, 920, 921, 922, 1625, 1626, 1627, 1628, 1543] (by decide +kernel)
set_option maxRecDepth 40000 in
theorem wsL_law0_r19_in : ∀ w ∈ wsL_law0_r19, w ∈ lw_big := tin_p _ [1545, 1548, 1551, 1546, 1629, 1630, 1631, 1632, 1634, 33, 1635, 1636, 1638, 34, 1639, 1544, 1547, 1640, 1642, 35, 1643, 1644, 1646, 36] (by decide +kernel)
set_option maxRecDepth 40000 in
theorem wsL_law0_r20_in : ∀ w ∈ wsL_law0_r20, w ∈ lw_big := tin_p _ [1647, 1550, 1649, 1651, 37, 1652, 1653, 1654, 1655, 1657, 38, 1658, 1659, 1661, 39, 1662, 1663, 1665, 40, 1666, 1667, 1669, 41, 1670] (by decide +kernel)
