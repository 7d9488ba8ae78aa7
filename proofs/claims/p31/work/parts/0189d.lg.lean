set_option maxRecDepth 20000 in
theorem gd_L_law_L_plays_r31 : GoodIn wsL_law wsL_plays_r31 := goodIn_r _ [34, 790, 791, 792, 793, 794, 795, 796, 33, 797, 798, 799, 800, 801, 802, 803, 804, 805, 806, 807, 808, 809, 810, 811] (by decide +kernel) (by decide +kernel)
set_option maxRecDepth 20000 in
theorem gd_L_law_L_plays_r32 : GoodIn wsL_law wsL_plays_r32 := goodIn_r _ [812, 813, 814, 815, 816, 817, 818, 819, 820, 821, 822, 823, 824, 825, 826, 827, 828, 829, 830, 831, 832, 833, 834, 835] (by decide +kernel) (by decide +kernel)
set_option maxRecDepth 20000 in
theorem gd_L_law_L_plays_r33 : GoodIn wsL_law wsL_plays_r33 := goodIn_r _ [836, 837, 838, 839, 840, 841, 842, 843, 844, 845, 846, 847, 848, 849, 850, 851, 852, 853, 854, 855, 856, 857, 858, 138] (by decide +kernel) (by decide +kernel)
set_option maxRecDepth 20000 in
theorem gd_L_law_L_plays_r34 : GoodIn wsL_law wsL_plays_r34 := goodIn_r _ [859, 860, 861, 862, 863, 864, 865, 866, 867, 868, 869, 870, 871, 872, 873, 874, 875, 876, 877, 878, 879, 880, 881, 882] (by decide +kernel) (by decide +kernel)
set_option maxRecDepth 20000 in
theorem gd_L_law_L_plays_r35 : GoodIn wsL_law wsL_plays_r35 := goodIn_r _ [883, 884, 885, 886, 887, 888, 889, 890, 891, 892, 893, 894, 895, 896, 897, 898, 899, 900, 901, 902, 903, 904, 905, 906] (by decide +kernel) (by decide +kernel)
set_option maxRecDepth 20000 in
theorem gd_L_law_L_plays_r36 : GoodIn wsL_law wsL_plays_r36 := goodIn_r _ [907, 908, 909, 910, 911, 912, 913, 914, 915, 916, 917, 918, 919, 38, 920, 921, 922, 923, 924, 925, 37, 926, 927, 928] (by decide +kernel) (by decide +kernel)
