set_option maxRecDepth 20000 in
theorem gd_L_plays_L_acts_r6 : GoodIn wsL_plays wsL_acts_r6 := goodIn_r _ [635, 636, 637, 638, 639, 640, 641, 642, 643, 644, 90, 92, 645, 646, 647, 648, 649, 650, 651, 652, 653, 654, 655, 656] (by decide +kernel) (by decide +kernel)
set_option maxRecDepth 20000 in
theorem gd_L_plays_L_acts_r7 : GoodIn wsL_plays wsL_acts_r7 := goodIn_r _ [347, 657, 353, 354, 658, 659, 660, 661, 662, 663, 664, 665, 666, 667, 668, 669, 670, 671, 543, 672, 673, 674, 675, 676] (by decide +kernel) (by decide +kernel)
set_option maxRecDepth 20000 in
theorem gd_L_plays_L_acts_r8 : GoodIn wsL_plays wsL_acts_r8 := goodIn_r _ [677, 678, 679, 680, 681, 682, 683, 684, 685, 41, 686, 687, 688, 689, 690, 691, 12, 13, 692, 693, 694, 695, 696, 46] (by decide +kernel) (by decide +kernel)
set_option maxRecDepth 20000 in
theorem gd_L_plays_L_acts_r9 : GoodIn wsL_plays wsL_acts_r9 := goodIn_r _ [697, 698, 699, 700, 701, 702, 703, 704, 705, 706, 707, 708, 709, 710, 711, 712, 713, 714, 715, 716, 717, 718, 719, 720] (by decide +kernel) (by decide +kernel)
set_option maxRecDepth 20000 in
theorem gd_L_plays_L_acts_r10 : GoodIn wsL_plays wsL_acts_r10 := goodIn_r _ [542, 721, 722, 723, 724, 725, 726, 727, 728, 729, 730, 731, 732, 733, 734, 735, 736, 737, 738, 739, 740, 741, 742, 743] (by decide +kernel) (by decide +kernel)
set_option maxRecDepth 20000 in
theorem gd_L_plays_L_acts_r11 : GoodIn wsL_plays wsL_acts_r11 := goodIn_r _ [744, 745, 746, 747, 748, 749, 750, 751, 752, 753, 754, 755, 756, 757, 758, 759, 760, 761, 762, 763, 764, 765, 766, 767] (by decide +kernel) (by decide +kernel)
set_option maxRecDepth 20000 in
theorem gd_L_plays_L_acts_r12 : GoodIn wsL_plays wsL_acts_r12 := goodIn_r _ [768, 769, 770, 771, 772, 773, 774, 775, 776, 777, 778, 779, 780, 781, 782, 783, 784, 785, 786, 787, 481, 788, 789, 790] (by decide +kernel) (by decide +kernel)
set_option maxRecDepth 20000 in
theorem gd_L_plays_L_acts_r13 : GoodIn wsL_plays wsL_acts_r13 := goodIn_r _ [791, 792, 793, 794, 795, 796, 797, 798, 799, 800, 801, 802] (by decide +kernel) (by decide +kernel)
