set_option maxRecDepth 20000 in
theorem ggL_plays_X9_size : GoodIn wsL_plays wsX9_size := goodIn_ca (goodIn_r _ [537, 327, 328, 508, 538, 539, 540, 541, 509, 542, 543, 544, 493, 494, 364, 495, 368, 369, 545, 546, 547, 514, 548, 518, 549, 1007, 1008, 1009, 1010, 1011, 1012, 1013, 1014, 1015, 1016, 1017, 1018, 1030, 1031, 1032, 1033, 1034, 1035, 1036, 1037, 1038, 1039, 1040, 1041, 1042, 1043, 1044, 1045, 1046, 1047, 1053, 1054, 1055, 1056, 1057, 1058, 1059, 1060, 1061, 1062, 1063, 1064, 1065, 1066, 1067, 1068, 1069, 1048, 1049, 1050, 1051, 1052] (by decide +kernel) (by decide +kernel)) (goodIn_sub (fun _ h => List.mem_cons_of_mem _ (List.mem_append_left _ (List.mem_append_left _ (List.mem_append_right _ h)))) (by decide +kernel))
set_option maxRecDepth 20000 in
theorem gL_plays_X9_size : GoodIn wsL_plays (wsV RL 156 RX9 yX9_size wsX9_size) := goodIn_app (goodIn_of _ (by decide +kernel)) ggL_plays_X9_size
set_option maxRecDepth 20000 in
theorem gd_L_plays_L_acts_0 : GoodIn wsL_plays [.code yL_acts cL_acts 8 (some .boolean)] := goodIn_r _ [552] (by decide +kernel) (by decide +kernel)
set_option maxRecDepth 20000 in
theorem gd_L_plays_L_acts_r1 : GoodIn wsL_plays wsL_acts_r1 := goodIn_r _ [49, 50, 28, 51, 52, 53, 553, 554, 555, 313, 556, 510, 509, 557, 558, 559, 560, 561, 562, 563, 508, 538, 564, 565] (by decide +kernel) (by decide +kernel)
set_option maxRecDepth 20000 in
theorem gd_L_plays_L_acts_r2 : GoodIn wsL_plays wsL_acts_r2 := goodIn_r _ [566, 567, 327, 328, 568, 569, 570, 530, 571, 572, 573, 532, 574, 108, 91, 109, 575, 576, 577, 514, 578, 516, 517, 518] (by decide +kernel) (by decide +kernel)
set_option maxRecDepth 20000 in
theorem gd_L_plays_L_acts_r3 : GoodIn wsL_plays wsL_acts_r3 := goodIn_r _ [519, 520, 521, 522, 523, 524, 525, 579, 580, 581, 582, 583, 584, 549, 585, 586, 587, 588, 111, 112, 113, 589, 590, 591] (by decide +kernel) (by decide +kernel)
set_option maxRecDepth 20000 in
theorem gd_L_plays_L_acts_r4 : GoodIn wsL_plays wsL_acts_r4 := goodIn_r _ [32, 592, 40, 43, 593, 42, 594, 595, 596, 597, 598, 599, 600, 601, 602, 603, 44, 604, 605, 606, 607, 608, 609, 610] (by decide +kernel) (by decide +kernel)
set_option maxRecDepth 20000 in
theorem gd_L_plays_L_acts_r5 : GoodIn wsL_plays wsL_acts_r5 := goodIn_r _ [611, 612, 613, 614, 615, 616, 617, 618, 619, 620, 621, 622, 623, 624, 625, 626, 627, 628, 629, 630, 631, 632, 633, 634] (by decide +kernel) (by decide +kernel)
