set_option maxRecDepth 20000 in
theorem gd_L_plays_L_agrees_r4 : GoodIn wsL_plays wsL_agrees_r4 := goodIn_r _ [656, 347, 657, 353, 354, 658, 818, 819, 820, 821, 822, 823, 824, 825, 523, 826, 827, 828, 829, 830, 831, 832, 833, 834] (by decide +kernel) (by decide +kernel)
set_option maxRecDepth 20000 in
theorem gd_L_plays_L_agrees_r5 : GoodIn wsL_plays wsL_agrees_r5 := goodIn_r _ [835, 836, 837, 838, 839, 840, 841, 842, 843, 779, 780, 781, 583, 579, 580, 782, 702, 703, 783, 784, 785, 786, 787, 481] (by decide +kernel) (by decide +kernel)
set_option maxRecDepth 20000 in
theorem gd_L_plays_L_agrees_r6 : GoodIn wsL_plays wsL_agrees_r6 := goodIn_r _ [844, 698, 699, 700, 701, 40, 704, 705, 706, 707, 708, 709, 710, 711, 712, 713, 714, 715, 845, 846, 847, 848, 676, 849] (by decide +kernel) (by decide +kernel)
set_option maxRecDepth 20000 in
theorem gd_L_plays_L_agrees_r7 : GoodIn wsL_plays wsL_agrees_r7 := goodIn_r _ [668, 669, 670, 671, 677, 625, 626, 627, 517, 582, 850, 851, 852, 853, 854, 855, 856, 857, 858, 859, 860, 861, 862, 863] (by decide +kernel) (by decide +kernel)
set_option maxRecDepth 20000 in
theorem gd_L_plays_L_agrees_r8 : GoodIn wsL_plays wsL_agrees_r8 := goodIn_r _ [864, 865, 866, 867, 868, 869, 870, 871, 872, 873, 874, 875, 876, 877, 878, 879, 880, 881, 882, 883, 884, 885, 886, 887] (by decide +kernel) (by decide +kernel)
set_option maxRecDepth 20000 in
theorem gd_L_plays_L_agrees_r9 : GoodIn wsL_plays wsL_agrees_r9 := goodIn_r _ [888, 889, 890, 891, 892, 893, 482, 488, 489, 490, 491, 352, 894, 895, 896, 897, 898, 899, 900, 901, 902, 903, 904, 905] (by decide +kernel) (by decide +kernel)
set_option maxRecDepth 20000 in
theorem gd_L_plays_L_agrees_r10 : GoodIn wsL_plays wsL_agrees_r10 := goodIn_r _ [906, 907, 908, 909, 910, 439, 911, 441, 442, 447, 912, 913, 914, 915, 659, 597, 598, 599, 593, 42, 916, 917, 918, 919] (by decide +kernel) (by decide +kernel)
