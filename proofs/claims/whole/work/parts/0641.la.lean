/-! L, part a, more of it -/
set_option maxRecDepth 40000 in
theorem wsL_law0_r21_in : ∀ w ∈ wsL_law0_r21, w ∈ lw_big := tin_p _ [1671, 1673, 42, 1674, 1676, 1678, 43, 1679, 1681, 1683, 44, 1684, 1685, 1687, 45, 1688, 1695, 1697, 46, 1698, 1613, 1614, 1615, 1616] (by decide +kernel)
set_option maxRecDepth 40000 in
theorem wsL_law0_r22_in : ∀ w ∈ wsL_law0_r22, w ∈ lw_big := tin_p _ [541, 542, 543, 544, 1699, 1700, 1701, 1702, 923, 924, 925, 926, 927, 928, 929, 264, 229, 232, 209, 314, 317, 930, 931, 932] (by decide +kernel)
set_option maxRecDepth 40000 in
theorem wsL_law0_r23_in : ∀ w ∈ wsL_law0_r23, w ∈ lw_big := tin_p _ [933, 934, 1703, 1704, 1705, 1706, 1707, 1709, 47, 1710, 1711, 1713, 48, 1714, 1715, 1717, 49, 1718, 545, 546, 547, 548, 310, 1719] (by decide +kernel)
set_option maxRecDepth 40000 in
theorem wsL_law0_r24_in : ∀ w ∈ wsL_law0_r24, w ∈ lw_big := tin_p _ [1720, 1721, 1722, 936, 937, 938, 939, 940, 941, 942, 943, 944, 946, 14, 947, 948, 103, 964, 658, 659, 660, 1723, 1724, 1725] (by decide +kernel)
set_option maxRecDepth 40000 in
theorem wsL_law0_r25_in : ∀ w ∈ wsL_law0_r25, w ∈ lw_big := tin_p _ [1726, 1727, 1729, 50, 1730, 1731, 1733, 51, 1734, 1735, 1737, 52, 1738, 1739, 1740, 1741, 1742, 1744, 53, 1745, 965, 966, 967, 968] (by decide +kernel)
set_option maxRecDepth 40000 in
theorem wsL_law0_r26_in : ∀ w ∈ wsL_law0_r26, w ∈ lw_big := tin_p _ [969, 970, 971, 972, 974, 15, 975, 977, 978, 979, 980, 981, 982, 983, 984, 1746, 1747, 1748, 1749, 1750, 1752, 54, 1753, 1754] (by decide +kernel)
set_option maxRecDepth 40000 in
theorem wsL_law0_r27_in : ∀ w ∈ wsL_law0_r27, w ∈ lw_big := tin_p _ [1756, 55, 1757, 1758, 1760, 56, 1761, 985, 986, 987, 988, 989, 990, 991, 992, 994, 995, 996, 997, 1762, 1763, 1764, 1765, 1766] (by decide +kernel)
set_option maxRecDepth 40000 in
theorem wsL_law0_r28_in : ∀ w ∈ wsL_law0_r28, w ∈ lw_big := tin_p _ [1767, 1769, 57, 1770, 998, 999, 1000, 1001, 1002, 1003, 1004, 266, 268, 320, 324, 327, 330, 333, 1005, 629, 630, 631, 632, 1771] (by decide +kernel)
set_option maxRecDepth 40000 in
theorem wsL_law0_r29_in : ∀ w ∈ wsL_law0_r29, w ∈ lw_big := tin_p _ [1772, 1773, 1774, 1775, 1776, 1777, 1778, 1780, 58, 1781, 1782, 1783, 1784, 1785, 1787, 59, 1788, 1789, 549, 550, 551, 552, 553, 554] (by decide +kernel)
set_option maxRecDepth 40000 in
theorem wsL_law0_r30_in : ∀ w ∈ wsL_law0_r30, w ∈ lw_big := tin_p _ [555, 556, 1790, 1791, 1792, 1793, 1007, 1008, 1009, 1010, 1011, 1012, 1013, 338, 341, 345, 349, 352, 1014, 1016, 16, 1017, 1794, 1795] (by decide +kernel)
set_option maxRecDepth 40000 in
theorem wsL_law0_r31_in : ∀ w ∈ wsL_law0_r31, w ∈ lw_big := tin_p _ [1796, 1797, 1798, 1800, 60, 1801, 1802, 1803, 1804, 1020, 1021, 1022, 1023, 1024, 1025, 1026, 1027, 651, 652, 653, 654, 655, 104, 656] (by decide +kernel)
set_option maxRecDepth 40000 in
theorem wsL_law0_r32_in : ∀ w ∈ wsL_law0_r32, w ∈ lw_big := tin_p _ [258, 657, 1805, 1806, 1807, 1808, 1809, 1811, 61, 1812, 1028, 1029, 1030, 1031, 1032, 1033, 1034, 358, 355, 1035, 1037, 17, 1038, 1040] (by decide +kernel)
set_option maxRecDepth 40000 in
theorem wsL_law0_r33_in : ∀ w ∈ wsL_law0_r33, w ∈ lw_big := tin_p _ [1041, 1042, 1043, 1044, 1046, 18, 1047, 443, 445, 447, 1048, 1049, 1050, 1051, 446, 228, 1052, 1053, 1054, 1055, 440, 312, 347, 1056] (by decide +kernel)
set_option maxRecDepth 40000 in
theorem wsL_law0_r34_in : ∀ w ∈ wsL_law0_r34, w ∈ lw_big := tin_p _ [1057, 1058, 1059, 442, 444, 1065, 1060, 1062, 19, 1063, 340, 337, 1064, 1066, 1067, 1068, 1069, 1070, 1071, 1073, 20, 1074, 233, 344] (by decide +kernel)
set_option maxRecDepth 40000 in
theorem wsL_law0_r35_in : ∀ w ∈ wsL_law0_r35, w ∈ lw_big := tin_p _ [260, 1075, 1076, 1077, 1079, 21, 1080, 1813, 1814, 1815, 1816, 1817, 1819, 62, 1820, 1821, 1823, 63, 1824, 1825, 1827, 64, 1828, 1829] (by decide +kernel)
set_option maxRecDepth 40000 in
theorem wsL_law0_r36_in : ∀ w ∈ wsL_law0_r36, w ∈ lw_big := tin_p _ [1831, 65, 1832, 1833, 1835, 66, 1836, 1837, 1839, 67, 1840, 1841, 1843, 68, 1844, 1082, 1083, 1084, 1085, 1086, 1087, 1088, 1089, 1090] (by decide +kernel)
set_option maxRecDepth 40000 in
theorem wsL_law0_r37_in : ∀ w ∈ wsL_law0_r37, w ∈ lw_big := tin_p _ [1091, 1092, 1845, 1846, 1847, 1848, 1093, 1094, 1095, 1097, 1098, 1099, 1100, 1101, 1103, 22, 1104, 1105, 105, 1121, 1122, 1849, 1850, 1851] (by decide +kernel)
set_option maxRecDepth 40000 in
theorem wsL_law0_r38_in : ∀ w ∈ wsL_law0_r38, w ∈ lw_big := tin_p _ [1852, 1123, 1124, 1125, 1126, 1127, 1128, 1129, 1130, 1131, 1132, 1133, 1134, 1963, 494, 1135, 1136, 1137, 1138, 106, 485, 483, 1156, 1966] (by decide +kernel)
set_option maxRecDepth 40000 in
theorem wsL_law0_r39_in : ∀ w ∈ wsL_law0_r39, w ∈ lw_big := tin_p _ [1976, 1158, 1159, 1160, 1967, 1977, 1162, 1163, 1172, 1164, 1165, 107, 1166, 1167, 637, 638, 1168, 1169, 1170, 1171, 1173, 1174, 1175, 1176] (by decide +kernel)
set_option maxRecDepth 40000 in
theorem wsL_law0_r40_in : ∀ w ∈ wsL_law0_r40, w ∈ lw_big := tin_p _ [1177, 1178, 1179, 1180, 1182, 1183, 576, 577, 1184, 612, 611, 108, 1185, 1187, 1188, 1186, 1189, 1331, 1332, 1333, 1334, 1335, 1336, 1337] (by decide +kernel)
