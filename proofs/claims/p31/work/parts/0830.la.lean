/-! L, part a: the law's words are among the tables' -/
def lw_six : List Cond := [Cond.selects RJ4 yJ5_ensureCapacityInternal_d00df yJ5_ensureCapacityInternal_d00df, Cond.selects RJ4 yJ5_newCapacity_0f7a4 yJ5_newCapacity_0f7a4, Cond.selects RJ4 yJ5_appendNull_278bc yJ5_appendNull_278bc, Cond.selects RJ4 yJ5_putStringAt_47b60 yJ5_putStringAt_47b60, Cond.selects RJ4 yJ5_inflateIfNeededFor_a7421 yJ5_inflateIfNeededFor_a7421, Cond.selects RJ4 yJ5_inflate_da8c8 yJ5_inflate_da8c8]
def lw_big : List Cond := lw_tbl ++ lw_six
theorem tin_p {big : List Cond} (ws : List Cond) (ps : List Nat) (h : ws = ps.filterMap (fun i => big[i]?)) : ∀ w ∈ ws, w ∈ big := by
  intro w hw
  rw [h] at hw
  obtain ⟨i, -, hi⟩ := List.mem_filterMap.mp hw
  exact List.mem_of_getElem? hi
set_option maxRecDepth 40000 in
theorem wsL_law0_r1_in : ∀ w ∈ wsL_law0_r1, w ∈ lw_big := tin_p _ [59, 60, 28, 99, 61, 62, 63, 64, 65, 66, 438, 439, 440, 67, 68, 29, 441, 120, 121, 31, 442, 443, 247, 248] (by decide +kernel)
set_option maxRecDepth 40000 in
theorem wsL_law0_r2_in : ∀ w ∈ wsL_law0_r2, w ∈ lw_big := tin_p _ [34, 444, 445, 339, 340, 35, 446, 365, 366, 36, 447, 378, 379, 37, 448, 406, 407, 39, 449, 70, 71, 72, 100, 73] (by decide +kernel)
set_option maxRecDepth 40000 in
theorem wsL_law0_r3_in : ∀ w ∈ wsL_law0_r3, w ∈ lw_big := tin_p _ [74, 30, 102, 103, 104, 76, 77, 78, 81, 83, 85, 86, 122, 123, 124, 125, 126, 127, 32, 174, 148, 149, 33, 178] (by decide +kernel)
set_option maxRecDepth 40000 in
theorem wsL_law0_r4_in : ∀ w ∈ wsL_law0_r4, w ∈ lw_big := tin_p _ [210, 212, 214, 215, 129, 130, 131, 151, 152, 153, 157, 158, 166, 167, 168, 169, 155, 182, 184, 187, 191, 194, 197, 201] (by decide +kernel)
set_option maxRecDepth 40000 in
theorem wsL_law0_r5_in : ∀ w ∈ wsL_law0_r5, w ∈ lw_big := tin_p _ [204, 208, 170, 171, 172, 173, 132, 133, 134, 135, 136, 250, 251, 252, 263, 266, 267, 270, 273, 276, 279, 281, 284, 287] (by decide +kernel)
set_option maxRecDepth 40000 in
theorem wsL_law0_r6_in : ∀ w ∈ wsL_law0_r6, w ∈ lw_big := tin_p _ [291, 295, 298, 301, 341, 342, 343, 344, 345, 348, 349, 364, 350, 351, 352, 368, 369, 370, 371, 381, 382, 383, 391, 392] (by decide +kernel)
set_option maxRecDepth 40000 in
theorem wsL_law0_r7_in : ∀ w ∈ wsL_law0_r7, w ∈ lw_big := tin_p _ [408, 409, 410, 411, 412, 38, 413, 414, 415, 437, 424, 425, 417, 418, 41, 419, 420, 421, 422, 423, 475, 476, 27, 477] (by decide +kernel)
set_option maxRecDepth 40000 in
theorem wsL_law0_r8_in : ∀ w ∈ wsL_law0_r8, w ∈ lw_big := tin_p _ [478, 479, 480, 481, 482, 483, 484, 42, 595, 596, 43, 486, 487, 488, 489, 493, 491, 495, 497, 499, 501, 503, 590, 591] (by decide +kernel)
set_option maxRecDepth 40000 in
theorem wsL_law0_r9_in : ∀ w ∈ wsL_law0_r9, w ∈ lw_big := tin_p _ [592, 593, 594, 598, 599, 600, 607, 613, 631, 632, 633, 634, 635, 1506, 436, 636, 637, 427, 638, 1507, 1519, 640, 641, 642] (by decide +kernel)
set_option maxRecDepth 40000 in
theorem wsL_law0_r10_in : ∀ w ∈ wsL_law0_r10, w ∈ lw_big := tin_p _ [1508, 1517, 644, 645, 646, 1509, 1518, 648, 649, 660, 650, 651, 44, 652, 653, 654, 45, 655, 656, 657, 658, 659, 661, 662] (by decide +kernel)
set_option maxRecDepth 40000 in
theorem wsL_law0_r11_in : ∀ w ∈ wsL_law0_r11, w ∈ lw_big := tin_p _ [46, 663, 664, 665, 666, 667, 668, 670, 671, 672, 673, 674, 676, 675, 47, 677, 679, 680, 678, 681, 682, 683, 684, 702] (by decide +kernel)
set_option maxRecDepth 40000 in
theorem wsL_law0_r12_in : ∀ w ∈ wsL_law0_r12, w ∈ lw_big := tin_p _ [685, 686, 687, 688, 689, 690, 691, 692, 40, 693, 694, 696, 697, 48, 698, 699, 700, 701, 704, 706, 708, 709, 710, 711] (by decide +kernel)
set_option maxRecDepth 40000 in
theorem wsL_law0_r13_in : ∀ w ∈ wsL_law0_r13, w ∈ lw_big := tin_p _ [856, 712, 713, 714, 715, 716, 857, 717, 1510, 1520, 719, 720, 721, 1511, 1521, 723, 724, 725, 726, 1512, 1522, 728, 729, 730] (by decide +kernel)
set_option maxRecDepth 40000 in
theorem wsL_law0_r14_in : ∀ w ∈ wsL_law0_r14, w ∈ lw_big := tin_p _ [731, 49, 732, 733, 734, 735, 736, 737, 738, 739, 740, 741, 742, 743, 744, 745, 746, 747, 748, 749, 750, 751, 752, 753] (by decide +kernel)
set_option maxRecDepth 40000 in
theorem wsL_law0_r15_in : ∀ w ∈ wsL_law0_r15, w ∈ lw_big := tin_p _ [754, 755, 1513, 756, 757, 758, 759, 51, 760, 761, 762, 763, 764, 766, 768, 769, 770, 771, 772, 773, 774, 775, 776, 777] (by decide +kernel)
set_option maxRecDepth 40000 in
theorem wsL_law0_r16_in : ∀ w ∈ wsL_law0_r16, w ∈ lw_big := tin_p _ [778, 779, 780, 1514, 781, 782, 783, 784, 785, 786, 787, 788, 789, 790, 791, 792, 793, 794, 795, 796, 797, 807, 808, 809] (by decide +kernel)
set_option maxRecDepth 40000 in
theorem wsL_law0_r17_in : ∀ w ∈ wsL_law0_r17, w ∈ lw_big := tin_p _ [810, 811, 812, 813, 814, 815, 816, 817, 818, 819, 426, 820, 822, 823, 821, 824, 825, 827, 826, 828, 829, 830, 831, 826] (by decide +kernel)
set_option maxRecDepth 40000 in
theorem wsL_law0_r18_in : ∀ w ∈ wsL_law0_r18, w ∈ lw_big := tin_p _ [832, 833, 834, 835, 836, 837, 838, 839, 840, 841, 842, 843, 844, 845, 846, 847, 848, 849, 850, 851, 852, 853, 854, 855] (by decide +kernel)
set_option maxRecDepth 40000 in
theorem wsL_law0_r19_in : ∀ w ∈ wsL_law0_r19, w ∈ lw_big := tin_p _ [868, 869, 870, 871, 872, 873, 874, 875, 876, 877, 878, 879, 880, 881, 882, 883, 884, 885, 886, 887, 888, 889, 890, 891] (by decide +kernel)
set_option maxRecDepth 40000 in
theorem wsL_law0_r20_in : ∀ w ∈ wsL_law0_r20, w ∈ lw_big := tin_p _ [893, 0, 894, 895, 1515, 896, 897, 898, 899, 900, 55, 101, 967, 968, 969, 970, 105, 80, 84, 971, 972, 973, 974, 975] (by decide +kernel)
