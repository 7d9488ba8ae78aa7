set_option maxRecDepth 20000 in
theorem gd_L_law_L_plays_r22 : GoodIn wsL_law wsL_plays_r22 := goodIn_r _ [597, 598, 599, 20, 25, 30, 600, 601, 602, 24, 603, 604, 605, 606, 110, 111, 112, 113, 114, 115, 116, 607, 608, 609] (by decide +kernel) (by decide +kernel)
set_option maxRecDepth 20000 in
theorem gd_L_law_L_plays_r23 : GoodIn wsL_law wsL_plays_r23 := goodIn_r _ [610, 29, 611, 134, 132, 612, 613, 614, 615, 616, 617, 618, 619, 620, 621, 622, 623, 624, 625, 626, 123, 627, 628, 629] (by decide +kernel) (by decide +kernel)
set_option maxRecDepth 20000 in
theorem gd_L_law_L_plays_r24 : GoodIn wsL_law wsL_plays_r24 := goodIn_r _ [630, 631, 632, 633, 634, 635, 636, 637, 638, 639, 640, 641, 642, 643, 644, 645, 646, 647, 648, 129, 133, 649, 650, 651] (by decide +kernel) (by decide +kernel)
set_option maxRecDepth 20000 in
theorem gd_L_law_L_plays_r25 : GoodIn wsL_law wsL_plays_r25 := goodIn_r _ [652, 653, 117, 118, 119, 120, 121, 122, 654, 655, 656, 657, 658, 659, 660, 661, 662, 663, 664, 665, 666, 667, 668, 669] (by decide +kernel) (by decide +kernel)
set_option maxRecDepth 20000 in
theorem gd_L_law_L_plays_r26 : GoodIn wsL_law wsL_plays_r26 := goodIn_r _ [670, 671, 672, 673, 674, 675, 676, 677, 678, 679, 680, 681, 682, 683, 684, 685, 686, 687, 688, 689, 690, 691, 692, 693] (by decide +kernel) (by decide +kernel)
set_option maxRecDepth 20000 in
theorem gd_L_law_L_plays_r27 : GoodIn wsL_law wsL_plays_r27 := goodIn_r _ [694, 695, 696, 697, 698, 699, 700, 701, 702, 703, 704, 705, 706, 707, 708, 709, 710, 711, 712, 713, 714, 715, 716, 717] (by decide +kernel) (by decide +kernel)
set_option maxRecDepth 20000 in
theorem gd_L_law_L_plays_r28 : GoodIn wsL_law wsL_plays_r28 := goodIn_r _ [718, 719, 720, 721, 722, 723, 724, 725, 726, 727, 728, 729, 730, 731, 732, 733, 734, 735, 736, 737, 738, 739, 740, 741] (by decide +kernel) (by decide +kernel)
set_option maxRecDepth 20000 in
theorem gd_L_law_L_plays_r29 : GoodIn wsL_law wsL_plays_r29 := goodIn_r _ [742, 743, 744, 745, 746, 747, 748, 749, 750, 751, 752, 753, 754, 755, 756, 757, 758, 759, 760, 761, 762, 763, 764, 765] (by decide +kernel) (by decide +kernel)
set_option maxRecDepth 20000 in
theorem gd_L_law_L_plays_r30 : GoodIn wsL_law wsL_plays_r30 := goodIn_r _ [766, 767, 768, 769, 770, 771, 772, 773, 774, 775, 776, 777, 778, 779, 780, 781, 782, 783, 784, 785, 786, 787, 788, 789] (by decide +kernel) (by decide +kernel)
