theorem dX0_init_0 : decode cX0_init 0 = .ok (.aload_n 0, 1) := by decide +kernel
theorem dX0_init_1 : decode cX0_init 1 = .ok (.invokespecial 3, 3) := by decide +kernel
theorem dX0_init_4 : decode cX0_init 4 = .ok (.aload_n 0, 1) := by decide +kernel
theorem dX0_init_5 : decode cX0_init 5 = .ok (.bipush 60, 2) := by decide +kernel
theorem dX0_init_7 : decode cX0_init 7 = .ok (.newarray .int, 2) := by decide +kernel
theorem dX0_init_9 : decode cX0_init 9 = .ok (.putfield 9, 3) := by decide +kernel
theorem dX0_init_12 : decode cX0_init 12 = .ok (.return_, 1) := by decide +kernel
set_option maxRecDepth 20000 in
theorem ggX0_doTick_X7_takeSample : GoodIn wsX0_doTick wsX7_takeSample := goodIn_r _ [8, 9, 10, 11, 12, 13, 14, 15, 16, 17, 18, 7, 19, 100, 101, 102, 103, 104, 105, 106, 107, 108, 109, 110, 111, 112, 113, 114, 115, 116, 117, 118, 119, 120, 121, 122, 123, 124, 125, 126, 127, 128, 129, 130, 131] (by decide +kernel) (by decide +kernel)
set_option maxRecDepth 20000 in
theorem gX0_doTick_X7_takeSample : GoodIn wsX0_doTick (wsV RX0 26 RX7 yX7_takeSample wsX7_takeSample) := goodIn_app (goodIn_of _ (by decide +kernel)) ggX0_doTick_X7_takeSample
set_option maxRecDepth 20000 in
theorem ggX0_doTick_X0_judge : GoodIn wsX0_doTick wsX0_judge := goodIn_r _ [23, 24, 25, 26, 27, 28, 29, 1, 30, 31, 32, 3, 33, 34, 35, 36, 37, 38, 39, 40, 41, 42, 22, 43, 44, 45, 46, 47, 48, 49, 50, 51, 7, 52, 53, 54, 55, 9, 56, 57, 58, 59, 100, 101, 102, 103, 104, 105, 106, 107, 108, 109, 110, 111, 112, 113, 114, 115, 116, 117, 118, 119, 120, 121, 122, 123, 124, 125, 126, 127, 128, 129, 130, 131] (by decide +kernel) (by decide +kernel)
set_option maxRecDepth 20000 in
theorem gX0_doTick_X0_judge : GoodIn wsX0_doTick (va_wsS RX0 30 yX0_judge wsX0_judge) := goodIn_app (goodIn_of _ (by decide +kernel)) ggX0_doTick_X0_judge
set_option maxRecDepth 20000 in
theorem ggX0_doTick_X0_vote : GoodIn wsX0_doTick wsX0_vote := goodIn_r _ [63, 64, 65, 66, 67, 68, 69, 70, 22, 71, 3, 72, 73, 74, 7, 75, 58, 54, 55, 76, 77, 47, 78, 79, 80, 81, 82, 36, 83, 84, 85, 86, 87, 88, 89, 90, 91, 92, 93, 94, 95, 96, 97, 98, 99, 1, 100, 101, 102, 103, 104, 105, 106, 107, 108, 109, 110, 111, 112, 113, 114, 115, 116, 132, 133, 117, 118, 119, 120, 121, 122, 123, 124, 125, 126, 127, 128, 129, 130, 131] (by decide +kernel) (by decide +kernel)
set_option maxRecDepth 20000 in
theorem gX0_doTick_X0_vote : GoodIn wsX0_doTick (wsV RX0 37 RX0 yX0_vote wsX0_vote) := goodIn_app (goodIn_of _ (by decide +kernel)) ggX0_doTick_X0_vote
theorem dX0_doTick_0 : decode cX0_doTick 0 = .ok (.aload_n 2, 1) := by decide +kernel
theorem dX0_doTick_1 : decode cX0_doTick 1 = .ok (.dup, 1) := by decide +kernel
theorem dX0_doTick_2 : decode cX0_doTick 2 = .ok (.getfield 15, 3) := by decide +kernel
theorem dX0_doTick_5 : decode cX0_doTick 5 = .ok (.iconst 1, 1) := by decide +kernel
theorem dX0_doTick_6 : decode cX0_doTick 6 = .ok (.iadd, 1) := by decide +kernel
theorem dX0_doTick_7 : decode cX0_doTick 7 = .ok (.putfield 15, 3) := by decide +kernel
theorem dX0_doTick_10 : decode cX0_doTick 10 = .ok (.iconst 0, 1) := by decide +kernel
theorem dX0_doTick_11 : decode cX0_doTick 11 = .ok (.istore_n 3, 1) := by decide +kernel
theorem dX0_doTick_12 : decode cX0_doTick 12 = .ok (.iload_n 3, 1) := by decide +kernel
theorem dX0_doTick_13 : decode cX0_doTick 13 = .ok (.aload_n 1, 1) := by decide +kernel
theorem dX0_doTick_14 : decode cX0_doTick 14 = .ok (.getfield 21, 3) := by decide +kernel
theorem dX0_doTick_17 : decode cX0_doTick 17 = .ok (.if_icmp .ge 21, 3) := by decide +kernel
theorem dX0_doTick_20 : decode cX0_doTick 20 = .ok (.iload_n 3, 1) := by decide +kernel
theorem dX0_doTick_21 : decode cX0_doTick 21 = .ok (.bipush 8, 2) := by decide +kernel
theorem dX0_doTick_23 : decode cX0_doTick 23 = .ok (.if_icmp .ge 15, 3) := by decide +kernel
theorem dX0_doTick_26 : decode cX0_doTick 26 = .ok (.aload_n 2, 1) := by decide +kernel
theorem dX0_doTick_27 : decode cX0_doTick 27 = .ok (.aload_n 1, 1) := by decide +kernel
theorem dX0_doTick_28 : decode cX0_doTick 28 = .ok (.iload_n 3, 1) := by decide +kernel
theorem dX0_doTick_29 : decode cX0_doTick 29 = .ok (.invokevirtual 26, 3) := by decide +kernel
theorem dX0_doTick_32 : decode cX0_doTick 32 = .ok (.iinc 3 1, 3) := by decide +kernel
theorem dX0_doTick_35 : decode cX0_doTick 35 = .ok (.goto (-23), 3) := by decide +kernel
theorem dX0_doTick_38 : decode cX0_doTick 38 = .ok (.iconst 0, 1) := by decide +kernel
theorem dX0_doTick_39 : decode cX0_doTick 39 = .ok (.istore_n 3, 1) := by decide +kernel
theorem dX0_doTick_40 : decode cX0_doTick 40 = .ok (.iload_n 3, 1) := by decide +kernel
theorem dX0_doTick_41 : decode cX0_doTick 41 = .ok (.aload_n 1, 1) := by decide +kernel
theorem dX0_doTick_42 : decode cX0_doTick 42 = .ok (.getfield 21, 3) := by decide +kernel
theorem dX0_doTick_45 : decode cX0_doTick 45 = .ok (.if_icmp .ge 36, 3) := by decide +kernel
theorem dX0_doTick_48 : decode cX0_doTick 48 = .ok (.iload_n 3, 1) := by decide +kernel
theorem dX0_doTick_49 : decode cX0_doTick 49 = .ok (.bipush 8, 2) := by decide +kernel
theorem dX0_doTick_51 : decode cX0_doTick 51 = .ok (.if_icmp .ge 30, 3) := by decide +kernel
theorem dX0_doTick_54 : decode cX0_doTick 54 = .ok (.aload_n 1, 1) := by decide +kernel
theorem dX0_doTick_55 : decode cX0_doTick 55 = .ok (.aload_n 2, 1) := by decide +kernel
theorem dX0_doTick_56 : decode cX0_doTick 56 = .ok (.iload_n 3, 1) := by decide +kernel
theorem dX0_doTick_57 : decode cX0_doTick 57 = .ok (.invokestatic 30, 3) := by decide +kernel
theorem dX0_doTick_60 : decode cX0_doTick 60 = .ok (.ifCond .eq 15, 3) := by decide +kernel
theorem dX0_doTick_63 : decode cX0_doTick 63 = .ok (.aload_n 0, 1) := by decide +kernel
theorem dX0_doTick_64 : decode cX0_doTick 64 = .ok (.aload_n 1, 1) := by decide +kernel
theorem dX0_doTick_65 : decode cX0_doTick 65 = .ok (.aload_n 2, 1) := by decide +kernel
theorem dX0_doTick_66 : decode cX0_doTick 66 = .ok (.aload_n 2, 1) := by decide +kernel
theorem dX0_doTick_67 : decode cX0_doTick 67 = .ok (.getfield 34, 3) := by decide +kernel
theorem dX0_doTick_70 : decode cX0_doTick 70 = .ok (.iconst 1, 1) := by decide +kernel
theorem dX0_doTick_71 : decode cX0_doTick 71 = .ok (.isub, 1) := by decide +kernel
theorem dX0_doTick_72 : decode cX0_doTick 72 = .ok (.invokevirtual 37, 3) := by decide +kernel
theorem dX0_doTick_75 : decode cX0_doTick 75 = .ok (.iinc 3 1, 3) := by decide +kernel
theorem dX0_doTick_78 : decode cX0_doTick 78 = .ok (.goto (-38), 3) := by decide +kernel
theorem dX0_doTick_81 : decode cX0_doTick 81 = .ok (.return_, 1) := by decide +kernel
set_option maxRecDepth 20000 in
theorem ggX0_judge_X5_ratioOf : GoodIn wsX0_judge wsX5_ratioOf := goodIn_r _ [16, 17, 18, 19, 59, 60, 61, 62, 63, 64, 65, 66, 67, 68, 69, 70, 71, 72, 73] (by decide +kernel) (by decide +kernel)
set_option maxRecDepth 20000 in
theorem gX0_judge_X5_ratioOf : GoodIn wsX0_judge (wsV RX0 50 RX5 yX5_ratioOf wsX5_ratioOf) := goodIn_app (goodIn_of _ (by decide +kernel)) ggX0_judge_X5_ratioOf
set_option maxRecDepth 20000 in
theorem ggX0_judge_X0_raisePeak : GoodIn wsX0_judge wsX0_raisePeak := goodIn_r _ [23, 24, 25, 26, 27, 28, 42, 43, 44, 45, 46, 47, 48, 49, 50, 51, 52, 53, 54, 55, 56, 57, 58] (by decide +kernel) (by decide +kernel)
set_option maxRecDepth 20000 in
theorem gX0_judge_X0_raisePeak : GoodIn wsX0_judge (va_wsS RX0 60 yX0_raisePeak wsX0_raisePeak) := goodIn_app (goodIn_of _ (by decide +kernel)) ggX0_judge_X0_raisePeak
set_option maxRecDepth 20000 in
theorem ggX0_judge_X7_addPick : GoodIn wsX0_judge wsX7_addPick := goodIn_r _ [33, 34, 35, 36, 37, 38, 39, 40, 41, 42, 43, 44, 45, 46, 47, 48, 49, 50, 51, 52, 53, 54, 55, 56, 57, 58] (by decide +kernel) (by decide +kernel)
set_option maxRecDepth 20000 in
theorem gX0_judge_X7_addPick : GoodIn wsX0_judge (wsV RX0 76 RX7 yX7_addPick wsX7_addPick) := goodIn_app (goodIn_of _ (by decide +kernel)) ggX0_judge_X7_addPick
theorem dX0_judge_0 : decode cX0_judge 0 = .ok (.aload_n 1, 1) := by decide +kernel
theorem dX0_judge_1 : decode cX0_judge 1 = .ok (.getfield 41, 3) := by decide +kernel
theorem dX0_judge_4 : decode cX0_judge 4 = .ok (.iload_n 2, 1) := by decide +kernel
theorem dX0_judge_5 : decode cX0_judge 5 = .ok (.iaload, 1) := by decide +kernel
theorem dX0_judge_6 : decode cX0_judge 6 = .ok (.istore_n 3, 1) := by decide +kernel
theorem dX0_judge_7 : decode cX0_judge 7 = .ok (.aload_n 0, 1) := by decide +kernel
theorem dX0_judge_8 : decode cX0_judge 8 = .ok (.aload_n 1, 1) := by decide +kernel
theorem dX0_judge_9 : decode cX0_judge 9 = .ok (.getfield 44, 3) := by decide +kernel
theorem dX0_judge_12 : decode cX0_judge 12 = .ok (.iload_n 2, 1) := by decide +kernel
theorem dX0_judge_13 : decode cX0_judge 13 = .ok (.iaload, 1) := by decide +kernel
theorem dX0_judge_14 : decode cX0_judge 14 = .ok (.aload_n 1, 1) := by decide +kernel
theorem dX0_judge_15 : decode cX0_judge 15 = .ok (.getfield 47, 3) := by decide +kernel
theorem dX0_judge_18 : decode cX0_judge 18 = .ok (.iload_n 2, 1) := by decide +kernel
theorem dX0_judge_19 : decode cX0_judge 19 = .ok (.iaload, 1) := by decide +kernel
theorem dX0_judge_20 : decode cX0_judge 20 = .ok (.invokevirtual 50, 3) := by decide +kernel
theorem dX0_judge_23 : decode cX0_judge 23 = .ok (.istore 4, 2) := by decide +kernel
theorem dX0_judge_25 : decode cX0_judge 25 = .ok (.aload_n 1, 1) := by decide +kernel
theorem dX0_judge_26 : decode cX0_judge 26 = .ok (.getfield 54, 3) := by decide +kernel
theorem dX0_judge_29 : decode cX0_judge 29 = .ok (.iload_n 2, 1) := by decide +kernel
theorem dX0_judge_30 : decode cX0_judge 30 = .ok (.iaload, 1) := by decide +kernel
theorem dX0_judge_31 : decode cX0_judge 31 = .ok (.iconst 1, 1) := by decide +kernel
theorem dX0_judge_32 : decode cX0_judge 32 = .ok (.if_icmp .ne 32, 3) := by decide +kernel
theorem dX0_judge_35 : decode cX0_judge 35 = .ok (.aload_n 1, 1) := by decide +kernel
theorem dX0_judge_36 : decode cX0_judge 36 = .ok (.aload_n 1, 1) := by decide +kernel
theorem dX0_judge_37 : decode cX0_judge 37 = .ok (.getfield 57, 3) := by decide +kernel
theorem dX0_judge_40 : decode cX0_judge 40 = .ok (.iload_n 2, 1) := by decide +kernel
theorem dX0_judge_41 : decode cX0_judge 41 = .ok (.iaload, 1) := by decide +kernel
theorem dX0_judge_42 : decode cX0_judge 42 = .ok (.iload_n 3, 1) := by decide +kernel
theorem dX0_judge_43 : decode cX0_judge 43 = .ok (.invokestatic 60, 3) := by decide +kernel
theorem dX0_judge_46 : decode cX0_judge 46 = .ok (.iload 4, 2) := by decide +kernel
theorem dX0_judge_48 : decode cX0_judge 48 = .ok (.aload_n 0, 1) := by decide +kernel
theorem dX0_judge_49 : decode cX0_judge 49 = .ok (.getfield 64, 3) := by decide +kernel
theorem dX0_judge_52 : decode cX0_judge 52 = .ok (.if_icmp .ge 10, 3) := by decide +kernel
theorem dX0_judge_55 : decode cX0_judge 55 = .ok (.aload_n 1, 1) := by decide +kernel
theorem dX0_judge_56 : decode cX0_judge 56 = .ok (.getfield 54, 3) := by decide +kernel
theorem dX0_judge_59 : decode cX0_judge 59 = .ok (.iload_n 2, 1) := by decide +kernel
theorem dX0_judge_60 : decode cX0_judge 60 = .ok (.iconst 0, 1) := by decide +kernel
theorem dX0_judge_61 : decode cX0_judge 61 = .ok (.iastore, 1) := by decide +kernel
theorem dX0_judge_62 : decode cX0_judge 62 = .ok (.iconst 0, 1) := by decide +kernel
theorem dX0_judge_63 : decode cX0_judge 63 = .ok (.ireturn, 1) := by decide +kernel
theorem dX0_judge_64 : decode cX0_judge 64 = .ok (.aload_n 1, 1) := by decide +kernel
theorem dX0_judge_65 : decode cX0_judge 65 = .ok (.getfield 15, 3) := by decide +kernel
theorem dX0_judge_68 : decode cX0_judge 68 = .ok (.aload_n 0, 1) := by decide +kernel
theorem dX0_judge_69 : decode cX0_judge 69 = .ok (.getfield 67, 3) := by decide +kernel
theorem dX0_judge_72 : decode cX0_judge 72 = .ok (.if_icmp .lt 16, 3) := by decide +kernel
theorem dX0_judge_75 : decode cX0_judge 75 = .ok (.aload_n 1, 1) := by decide +kernel
theorem dX0_judge_76 : decode cX0_judge 76 = .ok (.getfield 70, 3) := by decide +kernel
theorem dX0_judge_79 : decode cX0_judge 79 = .ok (.iload_n 2, 1) := by decide +kernel
theorem dX0_judge_80 : decode cX0_judge 80 = .ok (.iaload, 1) := by decide +kernel
theorem dX0_judge_81 : decode cX0_judge 81 = .ok (.ifCond .ne 7, 3) := by decide +kernel
theorem dX0_judge_84 : decode cX0_judge 84 = .ok (.iconst 1, 1) := by decide +kernel
theorem dX0_judge_85 : decode cX0_judge 85 = .ok (.goto 4, 3) := by decide +kernel
theorem dX0_judge_88 : decode cX0_judge 88 = .ok (.iconst 0, 1) := by decide +kernel
theorem dX0_judge_89 : decode cX0_judge 89 = .ok (.istore 5, 2) := by decide +kernel
theorem dX0_judge_91 : decode cX0_judge 91 = .ok (.iload 5, 2) := by decide +kernel
theorem dX0_judge_93 : decode cX0_judge 93 = .ok (.ifCond .eq 21, 3) := by decide +kernel
theorem dX0_judge_96 : decode cX0_judge 96 = .ok (.iload 4, 2) := by decide +kernel
theorem dX0_judge_98 : decode cX0_judge 98 = .ok (.aload_n 0, 1) := by decide +kernel
theorem dX0_judge_99 : decode cX0_judge 99 = .ok (.getfield 73, 3) := by decide +kernel
theorem dX0_judge_102 : decode cX0_judge 102 = .ok (.if_icmp .lt 12, 3) := by decide +kernel
theorem dX0_judge_105 : decode cX0_judge 105 = .ok (.aload_n 1, 1) := by decide +kernel
theorem dX0_judge_106 : decode cX0_judge 106 = .ok (.getfield 34, 3) := by decide +kernel
theorem dX0_judge_109 : decode cX0_judge 109 = .ok (.bipush 60, 2) := by decide +kernel
theorem dX0_judge_111 : decode cX0_judge 111 = .ok (.if_icmp .lt 5, 3) := by decide +kernel
theorem dX0_judge_114 : decode cX0_judge 114 = .ok (.iconst 0, 1) := by decide +kernel
theorem dX0_judge_115 : decode cX0_judge 115 = .ok (.ireturn, 1) := by decide +kernel
theorem dX0_judge_116 : decode cX0_judge 116 = .ok (.aload_n 1, 1) := by decide +kernel
theorem dX0_judge_117 : decode cX0_judge 117 = .ok (.getfield 54, 3) := by decide +kernel
theorem dX0_judge_120 : decode cX0_judge 120 = .ok (.iload_n 2, 1) := by decide +kernel
theorem dX0_judge_121 : decode cX0_judge 121 = .ok (.iconst 1, 1) := by decide +kernel
theorem dX0_judge_122 : decode cX0_judge 122 = .ok (.iastore, 1) := by decide +kernel
theorem dX0_judge_123 : decode cX0_judge 123 = .ok (.aload_n 1, 1) := by decide +kernel
theorem dX0_judge_124 : decode cX0_judge 124 = .ok (.iload_n 2, 1) := by decide +kernel
theorem dX0_judge_125 : decode cX0_judge 125 = .ok (.iload_n 3, 1) := by decide +kernel
theorem dX0_judge_126 : decode cX0_judge 126 = .ok (.invokevirtual 76, 3) := by decide +kernel
theorem dX0_judge_129 : decode cX0_judge 129 = .ok (.iconst 1, 1) := by decide +kernel
theorem dX0_judge_130 : decode cX0_judge 130 = .ok (.ireturn, 1) := by decide +kernel
theorem dX0_raisePeak_0 : decode cX0_raisePeak 0 = .ok (.iload_n 1, 1) := by decide +kernel
theorem dX0_raisePeak_1 : decode cX0_raisePeak 1 = .ok (.ifCond .lt 25, 3) := by decide +kernel
theorem dX0_raisePeak_4 : decode cX0_raisePeak 4 = .ok (.iload_n 1, 1) := by decide +kernel
theorem dX0_raisePeak_5 : decode cX0_raisePeak 5 = .ok (.bipush 60, 2) := by decide +kernel
theorem dX0_raisePeak_7 : decode cX0_raisePeak 7 = .ok (.if_icmp .ge 19, 3) := by decide +kernel
theorem dX0_raisePeak_10 : decode cX0_raisePeak 10 = .ok (.aload_n 0, 1) := by decide +kernel
theorem dX0_raisePeak_11 : decode cX0_raisePeak 11 = .ok (.getfield 80, 3) := by decide +kernel
theorem dX0_raisePeak_14 : decode cX0_raisePeak 14 = .ok (.iload_n 1, 1) := by decide +kernel
theorem dX0_raisePeak_15 : decode cX0_raisePeak 15 = .ok (.aload_n 0, 1) := by decide +kernel
theorem dX0_raisePeak_16 : decode cX0_raisePeak 16 = .ok (.getfield 80, 3) := by decide +kernel
theorem dX0_raisePeak_19 : decode cX0_raisePeak 19 = .ok (.iload_n 1, 1) := by decide +kernel
theorem dX0_raisePeak_20 : decode cX0_raisePeak 20 = .ok (.iaload, 1) := by decide +kernel
theorem dX0_raisePeak_21 : decode cX0_raisePeak 21 = .ok (.iload_n 2, 1) := by decide +kernel
theorem dX0_raisePeak_22 : decode cX0_raisePeak 22 = .ok (.invokestatic 83, 3) := by decide +kernel
theorem dX0_raisePeak_25 : decode cX0_raisePeak 25 = .ok (.iastore, 1) := by decide +kernel
theorem dX0_raisePeak_26 : decode cX0_raisePeak 26 = .ok (.return_, 1) := by decide +kernel
set_option maxRecDepth 20000 in
theorem ggX0_vote_X0_fitsAllOf : GoodIn wsX0_vote wsX0_fitsAllOf := goodIn_r _ [9, 10, 3, 11, 12, 13, 14, 15, 16, 17, 18, 19, 20, 21, 22, 23, 24, 25, 26, 27, 28, 29, 46, 47, 48, 49, 50, 51, 52, 53, 54, 55, 56, 57, 58, 59, 60, 61, 62, 65, 66, 67, 68, 69, 70, 71, 72, 73, 74, 75, 76, 77, 78, 79] (by decide +kernel) (by decide +kernel)
set_option maxRecDepth 20000 in
theorem gX0_vote_X0_fitsAllOf : GoodIn wsX0_vote (va_wsS RX0 94 yX0_fitsAllOf wsX0_fitsAllOf) := goodIn_app (goodIn_of _ (by decide +kernel)) ggX0_vote_X0_fitsAllOf
set_option maxRecDepth 20000 in
theorem ggX0_vote_X0_formGroup : GoodIn wsX0_vote wsX0_formGroup := goodIn_r _ [33, 34, 4, 10, 3, 35, 36, 37, 38, 8, 39, 11, 12, 13, 14, 15, 16, 17, 18, 19, 20, 21, 22, 23, 24, 25, 26, 27, 28, 29, 63, 64, 46, 47, 48, 49, 50, 51, 52, 53, 54, 55, 56, 57, 58, 59, 60, 61, 62, 65, 66, 67, 68, 69, 70, 71, 72, 73, 74, 75, 76, 77, 78, 79] (by decide +kernel) (by decide +kernel)
set_option maxRecDepth 20000 in
theorem gX0_vote_X0_formGroup : GoodIn wsX0_vote (wsV RX0 101 RX0 yX0_formGroup wsX0_formGroup) := goodIn_app (goodIn_of _ (by decide +kernel)) ggX0_vote_X0_formGroup
set_option maxRecDepth 20000 in
theorem ggX0_vote_X0_declareGroup : GoodIn wsX0_vote wsX0_declareGroup := goodIn_r _ [43, 1, 44, 45, 2, 4, 34, 3, 46, 47, 48, 49, 50, 51, 52, 53, 54, 55, 56, 57, 58, 59, 60, 61, 62, 63, 64] (by decide +kernel) (by decide +kernel)
set_option maxRecDepth 20000 in
theorem gX0_vote_X0_declareGroup : GoodIn wsX0_vote (wsV RX0 110 RX0 yX0_declareGroup wsX0_declareGroup) := goodIn_app (goodIn_of _ (by decide +kernel)) ggX0_vote_X0_declareGroup
theorem dX0_vote_0 : decode cX0_vote 0 = .ok (.iload_n 3, 1) := by decide +kernel
theorem dX0_vote_1 : decode cX0_vote 1 = .ok (.ifCond .lt 9, 3) := by decide +kernel
theorem dX0_vote_4 : decode cX0_vote 4 = .ok (.iload_n 3, 1) := by decide +kernel
theorem dX0_vote_5 : decode cX0_vote 5 = .ok (.bipush 60, 2) := by decide +kernel
theorem dX0_vote_7 : decode cX0_vote 7 = .ok (.if_icmp .lt 4, 3) := by decide +kernel
theorem dX0_vote_10 : decode cX0_vote 10 = .ok (.return_, 1) := by decide +kernel
theorem dX0_vote_11 : decode cX0_vote 11 = .ok (.iconst 0, 1) := by decide +kernel
theorem dX0_vote_12 : decode cX0_vote 12 = .ok (.istore 4, 2) := by decide +kernel
theorem dX0_vote_14 : decode cX0_vote 14 = .ok (.iload 4, 2) := by decide +kernel
theorem dX0_vote_16 : decode cX0_vote 16 = .ok (.aload_n 2, 1) := by decide +kernel
theorem dX0_vote_17 : decode cX0_vote 17 = .ok (.getfield 88, 3) := by decide +kernel
theorem dX0_vote_20 : decode cX0_vote 20 = .ok (.if_icmp .ge 46, 3) := by decide +kernel
theorem dX0_vote_23 : decode cX0_vote 23 = .ok (.iload 4, 2) := by decide +kernel
theorem dX0_vote_25 : decode cX0_vote 25 = .ok (.bipush 20, 2) := by decide +kernel
theorem dX0_vote_27 : decode cX0_vote 27 = .ok (.if_icmp .ge 39, 3) := by decide +kernel
theorem dX0_vote_30 : decode cX0_vote 30 = .ok (.aload_n 2, 1) := by decide +kernel
theorem dX0_vote_31 : decode cX0_vote 31 = .ok (.getfield 91, 3) := by decide +kernel
theorem dX0_vote_34 : decode cX0_vote 34 = .ok (.iload 4, 2) := by decide +kernel
theorem dX0_vote_36 : decode cX0_vote 36 = .ok (.iaload, 1) := by decide +kernel
theorem dX0_vote_37 : decode cX0_vote 37 = .ok (.ifCond .ne 23, 3) := by decide +kernel
theorem dX0_vote_40 : decode cX0_vote 40 = .ok (.aload_n 1, 1) := by decide +kernel
theorem dX0_vote_41 : decode cX0_vote 41 = .ok (.aload_n 2, 1) := by decide +kernel
theorem dX0_vote_42 : decode cX0_vote 42 = .ok (.iload 4, 2) := by decide +kernel
theorem dX0_vote_44 : decode cX0_vote 44 = .ok (.iload_n 3, 1) := by decide +kernel
theorem dX0_vote_45 : decode cX0_vote 45 = .ok (.invokestatic 94, 3) := by decide +kernel
theorem dX0_vote_48 : decode cX0_vote 48 = .ok (.ifCond .eq 12, 3) := by decide +kernel
theorem dX0_vote_51 : decode cX0_vote 51 = .ok (.aload_n 2, 1) := by decide +kernel
theorem dX0_vote_52 : decode cX0_vote 52 = .ok (.getfield 98, 3) := by decide +kernel
theorem dX0_vote_55 : decode cX0_vote 55 = .ok (.iload_n 3, 1) := by decide +kernel
theorem dX0_vote_56 : decode cX0_vote 56 = .ok (.iload 4, 2) := by decide +kernel
theorem dX0_vote_58 : decode cX0_vote 58 = .ok (.iastore, 1) := by decide +kernel
theorem dX0_vote_59 : decode cX0_vote 59 = .ok (.return_, 1) := by decide +kernel
theorem dX0_vote_60 : decode cX0_vote 60 = .ok (.iinc 4 1, 3) := by decide +kernel
theorem dX0_vote_63 : decode cX0_vote 63 = .ok (.goto (-49), 3) := by decide +kernel
theorem dX0_vote_66 : decode cX0_vote 66 = .ok (.aload_n 0, 1) := by decide +kernel
theorem dX0_vote_67 : decode cX0_vote 67 = .ok (.aload_n 1, 1) := by decide +kernel
theorem dX0_vote_68 : decode cX0_vote 68 = .ok (.aload_n 2, 1) := by decide +kernel
theorem dX0_vote_69 : decode cX0_vote 69 = .ok (.iload_n 3, 1) := by decide +kernel
theorem dX0_vote_70 : decode cX0_vote 70 = .ok (.invokevirtual 101, 3) := by decide +kernel
theorem dX0_vote_73 : decode cX0_vote 73 = .ok (.aload_n 0, 1) := by decide +kernel
theorem dX0_vote_74 : decode cX0_vote 74 = .ok (.getfield 104, 3) := by decide +kernel
theorem dX0_vote_77 : decode cX0_vote 77 = .ok (.aload_n 1, 1) := by decide +kernel
theorem dX0_vote_78 : decode cX0_vote 78 = .ok (.getfield 107, 3) := by decide +kernel
theorem dX0_vote_81 : decode cX0_vote 81 = .ok (.if_icmp .lt 17, 3) := by decide +kernel
theorem dX0_vote_84 : decode cX0_vote 84 = .ok (.aload_n 2, 1) := by decide +kernel
theorem dX0_vote_85 : decode cX0_vote 85 = .ok (.getfield 88, 3) := by decide +kernel
theorem dX0_vote_88 : decode cX0_vote 88 = .ok (.bipush 20, 2) := by decide +kernel
theorem dX0_vote_90 : decode cX0_vote 90 = .ok (.if_icmp .ge 8, 3) := by decide +kernel
theorem dX0_vote_93 : decode cX0_vote 93 = .ok (.aload_n 0, 1) := by decide +kernel
theorem dX0_vote_94 : decode cX0_vote 94 = .ok (.aload_n 2, 1) := by decide +kernel
theorem dX0_vote_95 : decode cX0_vote 95 = .ok (.invokevirtual 110, 3) := by decide +kernel
theorem dX0_vote_98 : decode cX0_vote 98 = .ok (.return_, 1) := by decide +kernel
set_option maxRecDepth 20000 in
theorem ggX0_fitsAllOf_X7_picksFit : GoodIn wsX0_fitsAllOf wsX7_picksFit := goodIn_r _ [7, 8, 9, 10, 11, 12, 13, 14, 15, 16, 17, 18, 19, 20, 21, 22, 23, 24, 25, 26, 27, 28, 29, 30, 31, 32, 33, 34, 35, 36, 37, 38, 39, 40, 41, 42, 43, 44, 45, 46, 47, 48, 49, 50, 51, 52, 53] (by decide +kernel) (by decide +kernel)
set_option maxRecDepth 20000 in
theorem gX0_fitsAllOf_X7_picksFit : GoodIn wsX0_fitsAllOf (wsV RX0 114 RX7 yX7_picksFit wsX7_picksFit) := goodIn_app (goodIn_of _ (by decide +kernel)) ggX0_fitsAllOf_X7_picksFit
theorem dX0_fitsAllOf_0 : decode cX0_fitsAllOf 0 = .ok (.iconst 0, 1) := by decide +kernel
theorem dX0_fitsAllOf_1 : decode cX0_fitsAllOf 1 = .ok (.istore 4, 2) := by decide +kernel
theorem dX0_fitsAllOf_3 : decode cX0_fitsAllOf 3 = .ok (.iload 4, 2) := by decide +kernel
theorem dX0_fitsAllOf_5 : decode cX0_fitsAllOf 5 = .ok (.aload_n 1, 1) := by decide +kernel
theorem dX0_fitsAllOf_6 : decode cX0_fitsAllOf 6 = .ok (.getfield 34, 3) := by decide +kernel
theorem dX0_fitsAllOf_9 : decode cX0_fitsAllOf 9 = .ok (.if_icmp .ge 40, 3) := by decide +kernel
theorem dX0_fitsAllOf_12 : decode cX0_fitsAllOf 12 = .ok (.iload 4, 2) := by decide +kernel
theorem dX0_fitsAllOf_14 : decode cX0_fitsAllOf 14 = .ok (.bipush 60, 2) := by decide +kernel
theorem dX0_fitsAllOf_16 : decode cX0_fitsAllOf 16 = .ok (.if_icmp .ge 33, 3) := by decide +kernel
theorem dX0_fitsAllOf_19 : decode cX0_fitsAllOf 19 = .ok (.aload_n 1, 1) := by decide +kernel
theorem dX0_fitsAllOf_20 : decode cX0_fitsAllOf 20 = .ok (.getfield 98, 3) := by decide +kernel
theorem dX0_fitsAllOf_23 : decode cX0_fitsAllOf 23 = .ok (.iload 4, 2) := by decide +kernel
theorem dX0_fitsAllOf_25 : decode cX0_fitsAllOf 25 = .ok (.iaload, 1) := by decide +kernel
theorem dX0_fitsAllOf_26 : decode cX0_fitsAllOf 26 = .ok (.iload_n 2, 1) := by decide +kernel
theorem dX0_fitsAllOf_27 : decode cX0_fitsAllOf 27 = .ok (.if_icmp .ne 16, 3) := by decide +kernel
theorem dX0_fitsAllOf_30 : decode cX0_fitsAllOf 30 = .ok (.aload_n 1, 1) := by decide +kernel
theorem dX0_fitsAllOf_31 : decode cX0_fitsAllOf 31 = .ok (.aload_n 0, 1) := by decide +kernel
theorem dX0_fitsAllOf_32 : decode cX0_fitsAllOf 32 = .ok (.iload 4, 2) := by decide +kernel
theorem dX0_fitsAllOf_34 : decode cX0_fitsAllOf 34 = .ok (.iload_n 3, 1) := by decide +kernel
theorem dX0_fitsAllOf_35 : decode cX0_fitsAllOf 35 = .ok (.invokevirtual 114, 3) := by decide +kernel
theorem dX0_fitsAllOf_38 : decode cX0_fitsAllOf 38 = .ok (.ifCond .ne 5, 3) := by decide +kernel
theorem dX0_fitsAllOf_41 : decode cX0_fitsAllOf 41 = .ok (.iconst 0, 1) := by decide +kernel
theorem dX0_fitsAllOf_42 : decode cX0_fitsAllOf 42 = .ok (.ireturn, 1) := by decide +kernel
theorem dX0_fitsAllOf_43 : decode cX0_fitsAllOf 43 = .ok (.iinc 4 1, 3) := by decide +kernel
theorem dX0_fitsAllOf_46 : decode cX0_fitsAllOf 46 = .ok (.goto (-43), 3) := by decide +kernel
theorem dX0_fitsAllOf_49 : decode cX0_fitsAllOf 49 = .ok (.iconst 1, 1) := by decide +kernel
theorem dX0_fitsAllOf_50 : decode cX0_fitsAllOf 50 = .ok (.ireturn, 1) := by decide +kernel
set_option maxRecDepth 20000 in
theorem ggX0_formGroup_X0_fitsGroup : GoodIn wsX0_formGroup wsX0_fitsGroup := goodIn_r _ [10, 2, 1, 11, 12, 13, 14, 15, 16, 17, 18, 19, 20, 21, 22, 23, 24, 25, 26, 27, 28, 29, 30, 31, 32, 33, 34, 35, 36, 37, 38, 39, 40, 41, 42, 43, 44, 45, 46, 47, 48, 49, 50, 51, 52, 53, 54, 55, 56, 57, 58, 59, 60, 61, 62, 63] (by decide +kernel) (by decide +kernel)
set_option maxRecDepth 20000 in
theorem gX0_formGroup_X0_fitsGroup : GoodIn wsX0_formGroup (wsV RX0 121 RX0 yX0_fitsGroup wsX0_fitsGroup) := goodIn_app (goodIn_of _ (by decide +kernel)) ggX0_formGroup_X0_fitsGroup
theorem dX0_formGroup_0 : decode cX0_formGroup 0 = .ok (.aload_n 0, 1) := by decide +kernel
theorem dX0_formGroup_1 : decode cX0_formGroup 1 = .ok (.getfield 9, 3) := by decide +kernel
theorem dX0_formGroup_4 : decode cX0_formGroup 4 = .ok (.iconst 0, 1) := by decide +kernel
theorem dX0_formGroup_5 : decode cX0_formGroup 5 = .ok (.iload_n 3, 1) := by decide +kernel
theorem dX0_formGroup_6 : decode cX0_formGroup 6 = .ok (.iastore, 1) := by decide +kernel
theorem dX0_formGroup_7 : decode cX0_formGroup 7 = .ok (.aload_n 0, 1) := by decide +kernel
theorem dX0_formGroup_8 : decode cX0_formGroup 8 = .ok (.iconst 1, 1) := by decide +kernel
theorem dX0_formGroup_9 : decode cX0_formGroup 9 = .ok (.putfield 104, 3) := by decide +kernel
theorem dX0_formGroup_12 : decode cX0_formGroup 12 = .ok (.iconst 0, 1) := by decide +kernel
theorem dX0_formGroup_13 : decode cX0_formGroup 13 = .ok (.istore 4, 2) := by decide +kernel
theorem dX0_formGroup_15 : decode cX0_formGroup 15 = .ok (.iload 4, 2) := by decide +kernel
theorem dX0_formGroup_17 : decode cX0_formGroup 17 = .ok (.aload_n 2, 1) := by decide +kernel
theorem dX0_formGroup_18 : decode cX0_formGroup 18 = .ok (.getfield 34, 3) := by decide +kernel
theorem dX0_formGroup_21 : decode cX0_formGroup 21 = .ok (.if_icmp .ge 90, 3) := by decide +kernel
theorem dX0_formGroup_24 : decode cX0_formGroup 24 = .ok (.iload 4, 2) := by decide +kernel
theorem dX0_formGroup_26 : decode cX0_formGroup 26 = .ok (.bipush 60, 2) := by decide +kernel
theorem dX0_formGroup_28 : decode cX0_formGroup 28 = .ok (.if_icmp .ge 83, 3) := by decide +kernel
theorem dX0_formGroup_31 : decode cX0_formGroup 31 = .ok (.aload_n 2, 1) := by decide +kernel
theorem dX0_formGroup_32 : decode cX0_formGroup 32 = .ok (.getfield 98, 3) := by decide +kernel
theorem dX0_formGroup_35 : decode cX0_formGroup 35 = .ok (.iload 4, 2) := by decide +kernel
theorem dX0_formGroup_37 : decode cX0_formGroup 37 = .ok (.iaload, 1) := by decide +kernel
theorem dX0_formGroup_38 : decode cX0_formGroup 38 = .ok (.iconst (-1), 1) := by decide +kernel
theorem dX0_formGroup_39 : decode cX0_formGroup 39 = .ok (.if_icmp .ne 17, 3) := by decide +kernel
theorem dX0_formGroup_42 : decode cX0_formGroup 42 = .ok (.aload_n 2, 1) := by decide +kernel
theorem dX0_formGroup_43 : decode cX0_formGroup 43 = .ok (.getfield 118, 3) := by decide +kernel
theorem dX0_formGroup_46 : decode cX0_formGroup 46 = .ok (.iload 4, 2) := by decide +kernel
theorem dX0_formGroup_48 : decode cX0_formGroup 48 = .ok (.iaload, 1) := by decide +kernel
theorem dX0_formGroup_49 : decode cX0_formGroup 49 = .ok (.ifCond .ne 7, 3) := by decide +kernel
theorem dX0_formGroup_52 : decode cX0_formGroup 52 = .ok (.iconst 1, 1) := by decide +kernel
theorem dX0_formGroup_53 : decode cX0_formGroup 53 = .ok (.goto 4, 3) := by decide +kernel
theorem dX0_formGroup_56 : decode cX0_formGroup 56 = .ok (.iconst 0, 1) := by decide +kernel
theorem dX0_formGroup_57 : decode cX0_formGroup 57 = .ok (.istore 5, 2) := by decide +kernel
theorem dX0_formGroup_59 : decode cX0_formGroup 59 = .ok (.iload 5, 2) := by decide +kernel
theorem dX0_formGroup_61 : decode cX0_formGroup 61 = .ok (.ifCond .eq 44, 3) := by decide +kernel
theorem dX0_formGroup_64 : decode cX0_formGroup 64 = .ok (.aload_n 0, 1) := by decide +kernel
theorem dX0_formGroup_65 : decode cX0_formGroup 65 = .ok (.aload_n 1, 1) := by decide +kernel
theorem dX0_formGroup_66 : decode cX0_formGroup 66 = .ok (.aload_n 2, 1) := by decide +kernel
theorem dX0_formGroup_67 : decode cX0_formGroup 67 = .ok (.iload 4, 2) := by decide +kernel
theorem dX0_formGroup_69 : decode cX0_formGroup 69 = .ok (.invokevirtual 121, 3) := by decide +kernel
theorem dX0_formGroup_72 : decode cX0_formGroup 72 = .ok (.ifCond .eq 33, 3) := by decide +kernel
theorem dX0_formGroup_75 : decode cX0_formGroup 75 = .ok (.aload_n 0, 1) := by decide +kernel
theorem dX0_formGroup_76 : decode cX0_formGroup 76 = .ok (.getfield 104, 3) := by decide +kernel
theorem dX0_formGroup_79 : decode cX0_formGroup 79 = .ok (.bipush 60, 2) := by decide +kernel
theorem dX0_formGroup_81 : decode cX0_formGroup 81 = .ok (.if_icmp .ge 24, 3) := by decide +kernel
theorem dX0_formGroup_84 : decode cX0_formGroup 84 = .ok (.aload_n 0, 1) := by decide +kernel
theorem dX0_formGroup_85 : decode cX0_formGroup 85 = .ok (.getfield 9, 3) := by decide +kernel
theorem dX0_formGroup_88 : decode cX0_formGroup 88 = .ok (.aload_n 0, 1) := by decide +kernel
theorem dX0_formGroup_89 : decode cX0_formGroup 89 = .ok (.getfield 104, 3) := by decide +kernel
theorem dX0_formGroup_92 : decode cX0_formGroup 92 = .ok (.iload 4, 2) := by decide +kernel
theorem dX0_formGroup_94 : decode cX0_formGroup 94 = .ok (.iastore, 1) := by decide +kernel
theorem dX0_formGroup_95 : decode cX0_formGroup 95 = .ok (.aload_n 0, 1) := by decide +kernel
theorem dX0_formGroup_96 : decode cX0_formGroup 96 = .ok (.dup, 1) := by decide +kernel
theorem dX0_formGroup_97 : decode cX0_formGroup 97 = .ok (.getfield 104, 3) := by decide +kernel
theorem dX0_formGroup_100 : decode cX0_formGroup 100 = .ok (.iconst 1, 1) := by decide +kernel
theorem dX0_formGroup_101 : decode cX0_formGroup 101 = .ok (.iadd, 1) := by decide +kernel
theorem dX0_formGroup_102 : decode cX0_formGroup 102 = .ok (.putfield 104, 3) := by decide +kernel
theorem dX0_formGroup_105 : decode cX0_formGroup 105 = .ok (.iinc 4 1, 3) := by decide +kernel
theorem dX0_formGroup_108 : decode cX0_formGroup 108 = .ok (.goto (-93), 3) := by decide +kernel
theorem dX0_formGroup_111 : decode cX0_formGroup 111 = .ok (.return_, 1) := by decide +kernel
set_option maxRecDepth 20000 in
theorem ggX0_fitsGroup_X7_picksFit : GoodIn wsX0_fitsGroup wsX7_picksFit := goodIn_r _ [7, 8, 9, 10, 11, 12, 13, 14, 15, 16, 17, 18, 19, 20, 21, 24, 25, 26, 27, 28, 29, 30, 31, 32, 33, 34, 35, 36, 37, 38, 39, 40, 41, 42, 43, 44, 45, 46, 47, 48, 49, 50, 51, 52, 53, 54, 55] (by decide +kernel) (by decide +kernel)
set_option maxRecDepth 20000 in
theorem gX0_fitsGroup_X7_picksFit : GoodIn wsX0_fitsGroup (wsV RX0 114 RX7 yX7_picksFit wsX7_picksFit) := goodIn_app (goodIn_of _ (by decide +kernel)) ggX0_fitsGroup_X7_picksFit
theorem dX0_fitsGroup_0 : decode cX0_fitsGroup 0 = .ok (.iconst 0, 1) := by decide +kernel
theorem dX0_fitsGroup_1 : decode cX0_fitsGroup 1 = .ok (.istore 4, 2) := by decide +kernel
theorem dX0_fitsGroup_3 : decode cX0_fitsGroup 3 = .ok (.iload 4, 2) := by decide +kernel
theorem dX0_fitsGroup_5 : decode cX0_fitsGroup 5 = .ok (.aload_n 0, 1) := by decide +kernel
theorem dX0_fitsGroup_6 : decode cX0_fitsGroup 6 = .ok (.getfield 104, 3) := by decide +kernel
theorem dX0_fitsGroup_9 : decode cX0_fitsGroup 9 = .ok (.if_icmp .ge 34, 3) := by decide +kernel
theorem dX0_fitsGroup_12 : decode cX0_fitsGroup 12 = .ok (.iload 4, 2) := by decide +kernel
theorem dX0_fitsGroup_14 : decode cX0_fitsGroup 14 = .ok (.bipush 60, 2) := by decide +kernel
theorem dX0_fitsGroup_16 : decode cX0_fitsGroup 16 = .ok (.if_icmp .ge 27, 3) := by decide +kernel
theorem dX0_fitsGroup_19 : decode cX0_fitsGroup 19 = .ok (.aload_n 2, 1) := by decide +kernel
theorem dX0_fitsGroup_20 : decode cX0_fitsGroup 20 = .ok (.aload_n 1, 1) := by decide +kernel
theorem dX0_fitsGroup_21 : decode cX0_fitsGroup 21 = .ok (.aload_n 0, 1) := by decide +kernel
theorem dX0_fitsGroup_22 : decode cX0_fitsGroup 22 = .ok (.getfield 9, 3) := by decide +kernel
theorem dX0_fitsGroup_25 : decode cX0_fitsGroup 25 = .ok (.iload 4, 2) := by decide +kernel
theorem dX0_fitsGroup_27 : decode cX0_fitsGroup 27 = .ok (.iaload, 1) := by decide +kernel
theorem dX0_fitsGroup_28 : decode cX0_fitsGroup 28 = .ok (.iload_n 3, 1) := by decide +kernel
theorem dX0_fitsGroup_29 : decode cX0_fitsGroup 29 = .ok (.invokevirtual 114, 3) := by decide +kernel
theorem dX0_fitsGroup_32 : decode cX0_fitsGroup 32 = .ok (.ifCond .ne 5, 3) := by decide +kernel
theorem dX0_fitsGroup_35 : decode cX0_fitsGroup 35 = .ok (.iconst 0, 1) := by decide +kernel
theorem dX0_fitsGroup_36 : decode cX0_fitsGroup 36 = .ok (.ireturn, 1) := by decide +kernel
theorem dX0_fitsGroup_37 : decode cX0_fitsGroup 37 = .ok (.iinc 4 1, 3) := by decide +kernel
theorem dX0_fitsGroup_40 : decode cX0_fitsGroup 40 = .ok (.goto (-37), 3) := by decide +kernel
theorem dX0_fitsGroup_43 : decode cX0_fitsGroup 43 = .ok (.iconst 1, 1) := by decide +kernel
theorem dX0_fitsGroup_44 : decode cX0_fitsGroup 44 = .ok (.ireturn, 1) := by decide +kernel
theorem dX0_declareGroup_0 : decode cX0_declareGroup 0 = .ok (.aload_n 1, 1) := by decide +kernel
theorem dX0_declareGroup_1 : decode cX0_declareGroup 1 = .ok (.getfield 88, 3) := by decide +kernel
theorem dX0_declareGroup_4 : decode cX0_declareGroup 4 = .ok (.ifCond .lt 12, 3) := by decide +kernel
theorem dX0_declareGroup_7 : decode cX0_declareGroup 7 = .ok (.aload_n 1, 1) := by decide +kernel
theorem dX0_declareGroup_8 : decode cX0_declareGroup 8 = .ok (.getfield 88, 3) := by decide +kernel
theorem dX0_declareGroup_11 : decode cX0_declareGroup 11 = .ok (.bipush 20, 2) := by decide +kernel
theorem dX0_declareGroup_13 : decode cX0_declareGroup 13 = .ok (.if_icmp .lt 4, 3) := by decide +kernel
theorem dX0_declareGroup_16 : decode cX0_declareGroup 16 = .ok (.return_, 1) := by decide +kernel
theorem dX0_declareGroup_17 : decode cX0_declareGroup 17 = .ok (.aload_n 1, 1) := by decide +kernel
theorem dX0_declareGroup_18 : decode cX0_declareGroup 18 = .ok (.getfield 124, 3) := by decide +kernel
theorem dX0_declareGroup_21 : decode cX0_declareGroup 21 = .ok (.aload_n 1, 1) := by decide +kernel
theorem dX0_declareGroup_22 : decode cX0_declareGroup 22 = .ok (.getfield 88, 3) := by decide +kernel
theorem dX0_declareGroup_25 : decode cX0_declareGroup 25 = .ok (.aload_n 1, 1) := by decide +kernel
theorem dX0_declareGroup_26 : decode cX0_declareGroup 26 = .ok (.getfield 15, 3) := by decide +kernel
theorem dX0_declareGroup_29 : decode cX0_declareGroup 29 = .ok (.iastore, 1) := by decide +kernel
theorem dX0_declareGroup_30 : decode cX0_declareGroup 30 = .ok (.aload_n 1, 1) := by decide +kernel
theorem dX0_declareGroup_31 : decode cX0_declareGroup 31 = .ok (.getfield 91, 3) := by decide +kernel
theorem dX0_declareGroup_34 : decode cX0_declareGroup 34 = .ok (.aload_n 1, 1) := by decide +kernel
theorem dX0_declareGroup_35 : decode cX0_declareGroup 35 = .ok (.getfield 88, 3) := by decide +kernel
theorem dX0_declareGroup_38 : decode cX0_declareGroup 38 = .ok (.iconst 0, 1) := by decide +kernel
theorem dX0_declareGroup_39 : decode cX0_declareGroup 39 = .ok (.iastore, 1) := by decide +kernel
theorem dX0_declareGroup_40 : decode cX0_declareGroup 40 = .ok (.iconst 0, 1) := by decide +kernel
theorem dX0_declareGroup_41 : decode cX0_declareGroup 41 = .ok (.istore_n 2, 1) := by decide +kernel
theorem dX0_declareGroup_42 : decode cX0_declareGroup 42 = .ok (.iload_n 2, 1) := by decide +kernel
theorem dX0_declareGroup_43 : decode cX0_declareGroup 43 = .ok (.aload_n 0, 1) := by decide +kernel
theorem dX0_declareGroup_44 : decode cX0_declareGroup 44 = .ok (.getfield 104, 3) := by decide +kernel
theorem dX0_declareGroup_47 : decode cX0_declareGroup 47 = .ok (.if_icmp .ge 42, 3) := by decide +kernel
theorem dX0_declareGroup_50 : decode cX0_declareGroup 50 = .ok (.iload_n 2, 1) := by decide +kernel
theorem dX0_declareGroup_51 : decode cX0_declareGroup 51 = .ok (.bipush 60, 2) := by decide +kernel
theorem dX0_declareGroup_53 : decode cX0_declareGroup 53 = .ok (.if_icmp .ge 36, 3) := by decide +kernel
theorem dX0_declareGroup_56 : decode cX0_declareGroup 56 = .ok (.aload_n 0, 1) := by decide +kernel
theorem dX0_declareGroup_57 : decode cX0_declareGroup 57 = .ok (.getfield 9, 3) := by decide +kernel
theorem dX0_declareGroup_60 : decode cX0_declareGroup 60 = .ok (.iload_n 2, 1) := by decide +kernel
theorem dX0_declareGroup_61 : decode cX0_declareGroup 61 = .ok (.iaload, 1) := by decide +kernel
theorem dX0_declareGroup_62 : decode cX0_declareGroup 62 = .ok (.istore_n 3, 1) := by decide +kernel
theorem dX0_declareGroup_63 : decode cX0_declareGroup 63 = .ok (.iload_n 3, 1) := by decide +kernel
theorem dX0_declareGroup_64 : decode cX0_declareGroup 64 = .ok (.ifCond .lt 19, 3) := by decide +kernel
theorem dX0_declareGroup_67 : decode cX0_declareGroup 67 = .ok (.iload_n 3, 1) := by decide +kernel
theorem dX0_declareGroup_68 : decode cX0_declareGroup 68 = .ok (.bipush 60, 2) := by decide +kernel
theorem dX0_declareGroup_70 : decode cX0_declareGroup 70 = .ok (.if_icmp .ge 13, 3) := by decide +kernel
theorem dX0_declareGroup_73 : decode cX0_declareGroup 73 = .ok (.aload_n 1, 1) := by decide +kernel
theorem dX0_declareGroup_74 : decode cX0_declareGroup 74 = .ok (.getfield 98, 3) := by decide +kernel
theorem dX0_declareGroup_77 : decode cX0_declareGroup 77 = .ok (.iload_n 3, 1) := by decide +kernel
theorem dX0_declareGroup_78 : decode cX0_declareGroup 78 = .ok (.aload_n 1, 1) := by decide +kernel
theorem dX0_declareGroup_79 : decode cX0_declareGroup 79 = .ok (.getfield 88, 3) := by decide +kernel
theorem dX0_declareGroup_82 : decode cX0_declareGroup 82 = .ok (.iastore, 1) := by decide +kernel
theorem dX0_declareGroup_83 : decode cX0_declareGroup 83 = .ok (.iinc 2 1, 3) := by decide +kernel
theorem dX0_declareGroup_86 : decode cX0_declareGroup 86 = .ok (.goto (-44), 3) := by decide +kernel
theorem dX0_declareGroup_89 : decode cX0_declareGroup 89 = .ok (.aload_n 1, 1) := by decide +kernel
theorem dX0_declareGroup_90 : decode cX0_declareGroup 90 = .ok (.dup, 1) := by decide +kernel
theorem dX0_declareGroup_91 : decode cX0_declareGroup 91 = .ok (.getfield 88, 3) := by decide +kernel
theorem dX0_declareGroup_94 : decode cX0_declareGroup 94 = .ok (.iconst 1, 1) := by decide +kernel
theorem dX0_declareGroup_95 : decode cX0_declareGroup 95 = .ok (.iadd, 1) := by decide +kernel
theorem dX0_declareGroup_96 : decode cX0_declareGroup 96 = .ok (.putfield 88, 3) := by decide +kernel
theorem dX0_declareGroup_99 : decode cX0_declareGroup 99 = .ok (.return_, 1) := by decide +kernel
set_option maxRecDepth 20000 in
theorem ggX1_init_X8_init : GoodIn wsX1_init wsX8_init := goodIn_r _ [13, 14, 2, 3, 9, 15, 16, 17, 18, 25, 26, 27, 28, 29] (by decide +kernel) (by decide +kernel)
set_option maxRecDepth 20000 in
theorem gX1_init_X8_init_n17 : GoodIn wsX1_init (wsX8_init) := ggX1_init_X8_init
theorem dX1_init_0 : decode cX1_init 0 = .ok (.aload_n 0, 1) := by decide +kernel
theorem dX1_init_1 : decode cX1_init 1 = .ok (.invokespecial 3, 3) := by decide +kernel
theorem dX1_init_4 : decode cX1_init 4 = .ok (.aload_n 0, 1) := by decide +kernel
theorem dX1_init_5 : decode cX1_init 5 = .ok (.iconst (-1), 1) := by decide +kernel
theorem dX1_init_6 : decode cX1_init 6 = .ok (.putfield 9, 3) := by decide +kernel
theorem dX1_init_9 : decode cX1_init 9 = .ok (.aload_n 0, 1) := by decide +kernel
theorem dX1_init_10 : decode cX1_init 10 = .ok (.new 15, 3) := by decide +kernel
theorem dX1_init_13 : decode cX1_init 13 = .ok (.dup, 1) := by decide +kernel
theorem dX1_init_14 : decode cX1_init 14 = .ok (.invokespecial 17, 3) := by decide +kernel
theorem dX1_init_17 : decode cX1_init 17 = .ok (.putfield 18, 3) := by decide +kernel
theorem dX1_init_20 : decode cX1_init 20 = .ok (.aload_n 0, 1) := by decide +kernel
theorem dX1_init_21 : decode cX1_init 21 = .ok (.bipush 9, 2) := by decide +kernel
theorem dX1_init_23 : decode cX1_init 23 = .ok (.newarray .int, 2) := by decide +kernel
theorem dX1_init_25 : decode cX1_init 25 = .ok (.putfield 22, 3) := by decide +kernel
theorem dX1_init_28 : decode cX1_init 28 = .ok (.aload_n 0, 1) := by decide +kernel
theorem dX1_init_29 : decode cX1_init 29 = .ok (.iconst 5, 1) := by decide +kernel
theorem dX1_init_30 : decode cX1_init 30 = .ok (.newarray .int, 2) := by decide +kernel
theorem dX1_init_32 : decode cX1_init 32 = .ok (.putfield 26, 3) := by decide +kernel
theorem dX1_init_35 : decode cX1_init 35 = .ok (.return_, 1) := by decide +kernel
set_option maxRecDepth 20000 in
theorem ggX1_read_X5_reset : GoodIn wsX1_read wsX5_reset := goodIn_r _ [11, 12, 13, 14, 15, 16, 17, 18, 19, 20, 21, 22, 23, 24, 25, 26, 27, 28, 29, 30, 31, 32, 33, 228, 229, 230, 231, 232, 233, 234, 235, 236, 237, 238, 239, 240, 241, 242, 243, 244, 245, 246, 247, 248, 249, 250] (by decide +kernel) (by decide +kernel)
set_option maxRecDepth 20000 in
theorem gX1_read_X5_reset : GoodIn wsX1_read (wsV RX1 29 RX5 yX5_reset wsX5_reset) := goodIn_app (goodIn_of _ (by decide +kernel)) ggX1_read_X5_reset
set_option maxRecDepth 20000 in
theorem ggX1_read_J7_fill_53178 : GoodIn wsX1_read wsJ7_fill_53178 := goodIn_r _ [37] (by decide +kernel) (by decide +kernel)
set_option maxRecDepth 20000 in
theorem gX1_read_J7_fill_53178 : GoodIn wsX1_read (va_wsS RX1 34 yJ7_fill_53178 wsJ7_fill_53178) := goodIn_app (goodIn_of _ (by decide +kernel)) ggX1_read_J7_fill_53178
set_option maxRecDepth 20000 in
theorem ggX1_read_X8_split : GoodIn wsX1_read wsX8_split := goodIn_r _ [42, 43, 44, 45, 41, 46, 47, 48, 49, 50, 51, 52, 53, 54, 55, 56, 57, 58, 59, 60, 61, 62, 223, 224, 225, 226, 227] (by decide +kernel) (by decide +kernel)
set_option maxRecDepth 20000 in
theorem gX1_read_X8_split : GoodIn wsX1_read (wsV RX1 43 RX8 yX8_split wsX8_split) := goodIn_app (goodIn_of _ (by decide +kernel)) ggX1_read_X8_split
set_option maxRecDepth 20000 in
theorem ggX1_read_X1_take : GoodIn wsX1_read wsX1_take := goodIn_r _ [67, 2, 68, 69, 3, 70, 71, 72, 73, 66, 74, 1, 75, 76, 77, 78, 79, 80, 81, 82, 83, 84, 85, 41, 86, 43, 53, 52, 87, 88, 89, 90, 91, 92, 93, 94, 95, 96, 97, 98, 99, 100, 101, 102, 103, 104, 105, 106, 107, 108, 109, 110, 111, 112, 113, 114, 115, 116, 117, 118, 119, 120, 121, 122, 123, 124, 125, 126, 127, 128, 129, 130, 131, 132, 133, 134, 135, 136, 137, 138, 139, 140, 141, 142, 143, 144, 145, 146, 147, 148, 149, 150, 151, 152, 153, 154, 155, 156, 157, 158, 159, 160, 161, 162, 163, 164, 165, 166, 167, 168, 169, 170, 171, 172, 173, 174, 175, 176, 177, 178, 179, 180, 10, 181, 23, 182, 183, 184, 25, 26, 27, 28, 29, 30, 31, 32, 33, 185, 186, 187, 188, 217, 218, 219, 220, 221, 222, 223, 224, 225, 226, 227, 251, 252, 253, 254, 228, 229, 230, 231, 232, 233, 234, 235, 236, 237, 238, 239, 240, 241, 242, 243, 244, 245, 246, 247, 248, 249, 250] (by decide +kernel) (by decide +kernel)
set_option maxRecDepth 20000 in
theorem gX1_read_X1_take : GoodIn wsX1_read (wsV RX1 49 RX1 yX1_take wsX1_take) := goodIn_app (goodIn_of _ (by decide +kernel)) ggX1_read_X1_take
set_option maxRecDepth 20000 in
theorem ggX1_read_X5_measure : GoodIn wsX1_read wsX5_measure := goodIn_r _ [192, 23, 193, 182, 183, 12, 194, 195, 196, 197, 198, 199, 200, 201, 202, 203, 10, 204, 15, 205, 206, 207, 27, 208, 31, 32, 209, 210, 211, 212, 29, 33, 213, 214, 215, 216, 30, 228, 229, 230, 231, 232, 233, 234, 235, 236, 237, 238, 239, 240, 241, 242, 246, 247, 248, 249, 250] (by decide +kernel) (by decide +kernel)
set_option maxRecDepth 20000 in
theorem gX1_read_X5_measure : GoodIn wsX1_read (wsV RX1 56 RX5 yX5_measure wsX5_measure) := goodIn_app (goodIn_of _ (by decide +kernel)) ggX1_read_X5_measure
theorem dX1_read_0 : decode cX1_read 0 = .ok (.aload_n 3, 1) := by decide +kernel
theorem dX1_read_1 : decode cX1_read 1 = .ok (.invokevirtual 29, 3) := by decide +kernel
theorem dX1_read_4 : decode cX1_read 4 = .ok (.aload_n 0, 1) := by decide +kernel
theorem dX1_read_5 : decode cX1_read 5 = .ok (.getfield 22, 3) := by decide +kernel
theorem dX1_read_8 : decode cX1_read 8 = .ok (.iconst 0, 1) := by decide +kernel
theorem dX1_read_9 : decode cX1_read 9 = .ok (.invokestatic 34, 3) := by decide +kernel
theorem dX1_read_12 : decode cX1_read 12 = .ok (.aload_n 0, 1) := by decide +kernel
theorem dX1_read_13 : decode cX1_read 13 = .ok (.iconst (-1), 1) := by decide +kernel
theorem dX1_read_14 : decode cX1_read 14 = .ok (.putfield 40, 3) := by decide +kernel
theorem dX1_read_17 : decode cX1_read 17 = .ok (.aload_n 0, 1) := by decide +kernel
theorem dX1_read_18 : decode cX1_read 18 = .ok (.getfield 18, 3) := by decide +kernel
theorem dX1_read_21 : decode cX1_read 21 = .ok (.aload_n 1, 1) := by decide +kernel
theorem dX1_read_22 : decode cX1_read 22 = .ok (.iload_n 2, 1) := by decide +kernel
theorem dX1_read_23 : decode cX1_read 23 = .ok (.invokevirtual 43, 3) := by decide +kernel
theorem dX1_read_26 : decode cX1_read 26 = .ok (.iconst 0, 1) := by decide +kernel
theorem dX1_read_27 : decode cX1_read 27 = .ok (.istore 4, 2) := by decide +kernel
theorem dX1_read_29 : decode cX1_read 29 = .ok (.iload 4, 2) := by decide +kernel
theorem dX1_read_31 : decode cX1_read 31 = .ok (.aload_n 0, 1) := by decide +kernel
theorem dX1_read_32 : decode cX1_read 32 = .ok (.getfield 18, 3) := by decide +kernel
theorem dX1_read_35 : decode cX1_read 35 = .ok (.getfield 46, 3) := by decide +kernel
theorem dX1_read_38 : decode cX1_read 38 = .ok (.if_icmp .ge 49, 3) := by decide +kernel
theorem dX1_read_41 : decode cX1_read 41 = .ok (.iload 4, 2) := by decide +kernel
theorem dX1_read_43 : decode cX1_read 43 = .ok (.sipush 500, 3) := by decide +kernel
theorem dX1_read_46 : decode cX1_read 46 = .ok (.if_icmp .ge 41, 3) := by decide +kernel
theorem dX1_read_49 : decode cX1_read 49 = .ok (.aload_n 0, 1) := by decide +kernel
theorem dX1_read_50 : decode cX1_read 50 = .ok (.iload 4, 2) := by decide +kernel
theorem dX1_read_52 : decode cX1_read 52 = .ok (.aload_n 1, 1) := by decide +kernel
theorem dX1_read_53 : decode cX1_read 53 = .ok (.aload_n 3, 1) := by decide +kernel
theorem dX1_read_54 : decode cX1_read 54 = .ok (.invokevirtual 49, 3) := by decide +kernel
theorem dX1_read_57 : decode cX1_read 57 = .ok (.istore 5, 2) := by decide +kernel
theorem dX1_read_59 : decode cX1_read 59 = .ok (.iload 5, 2) := by decide +kernel
theorem dX1_read_61 : decode cX1_read 61 = .ok (.ifCond .eq 20, 3) := by decide +kernel
theorem dX1_read_64 : decode cX1_read 64 = .ok (.aload_n 0, 1) := by decide +kernel
theorem dX1_read_65 : decode cX1_read 65 = .ok (.aload_n 0, 1) := by decide +kernel
theorem dX1_read_66 : decode cX1_read 66 = .ok (.getfield 18, 3) := by decide +kernel
theorem dX1_read_69 : decode cX1_read 69 = .ok (.getfield 53, 3) := by decide +kernel
theorem dX1_read_72 : decode cX1_read 72 = .ok (.iload 4, 2) := by decide +kernel
theorem dX1_read_74 : decode cX1_read 74 = .ok (.iaload, 1) := by decide +kernel
theorem dX1_read_75 : decode cX1_read 75 = .ok (.putfield 9, 3) := by decide +kernel
theorem dX1_read_78 : decode cX1_read 78 = .ok (.iload 5, 2) := by decide +kernel
theorem dX1_read_80 : decode cX1_read 80 = .ok (.ireturn, 1) := by decide +kernel
theorem dX1_read_81 : decode cX1_read 81 = .ok (.iinc 4 1, 3) := by decide +kernel
theorem dX1_read_84 : decode cX1_read 84 = .ok (.goto (-55), 3) := by decide +kernel
theorem dX1_read_87 : decode cX1_read 87 = .ok (.aload_n 0, 1) := by decide +kernel
theorem dX1_read_88 : decode cX1_read 88 = .ok (.getfield 40, 3) := by decide +kernel
theorem dX1_read_91 : decode cX1_read 91 = .ok (.iconst (-1), 1) := by decide +kernel
theorem dX1_read_92 : decode cX1_read 92 = .ok (.if_icmp .eq 10, 3) := by decide +kernel
theorem dX1_read_95 : decode cX1_read 95 = .ok (.aload_n 0, 1) := by decide +kernel
theorem dX1_read_96 : decode cX1_read 96 = .ok (.iload_n 2, 1) := by decide +kernel
theorem dX1_read_97 : decode cX1_read 97 = .ok (.putfield 9, 3) := by decide +kernel
theorem dX1_read_100 : decode cX1_read 100 = .ok (.iconst 1, 1) := by decide +kernel
theorem dX1_read_101 : decode cX1_read 101 = .ok (.ireturn, 1) := by decide +kernel
theorem dX1_read_102 : decode cX1_read 102 = .ok (.aload_n 0, 1) := by decide +kernel
theorem dX1_read_103 : decode cX1_read 103 = .ok (.iconst (-1), 1) := by decide +kernel
theorem dX1_read_104 : decode cX1_read 104 = .ok (.putfield 9, 3) := by decide +kernel
theorem dX1_read_107 : decode cX1_read 107 = .ok (.aload_n 3, 1) := by decide +kernel
theorem dX1_read_108 : decode cX1_read 108 = .ok (.invokevirtual 56, 3) := by decide +kernel
theorem dX1_read_111 : decode cX1_read 111 = .ok (.iconst 0, 1) := by decide +kernel
theorem dX1_read_112 : decode cX1_read 112 = .ok (.ireturn, 1) := by decide +kernel
set_option maxRecDepth 20000 in
theorem ggX1_take_X1_begin : GoodIn wsX1_take wsX1_begin := goodIn_r _ [10, 4, 5, 11, 12, 1, 2, 13, 14, 15, 9, 16, 17, 18, 19, 20, 21, 22, 23, 24, 25, 26, 27, 28, 29, 30, 31, 32, 33, 34, 35, 36, 37, 38, 39, 40, 41, 42, 43, 44, 45, 46, 47, 48, 49, 50, 51, 52, 53, 54, 55, 56, 57, 58, 59, 60, 61, 62, 63, 64, 65, 66, 67, 68, 69, 70, 71, 72, 73, 74, 75, 76, 141, 142, 143, 144, 145, 146, 147, 148, 149, 150, 151, 152, 153, 154, 155] (by decide +kernel) (by decide +kernel)
set_option maxRecDepth 20000 in
theorem gX1_take_X1_begin : GoodIn wsX1_take (wsV RX1 59 RX1 yX1_begin wsX1_begin) := goodIn_app (goodIn_of _ (by decide +kernel)) ggX1_take_X1_begin
set_option maxRecDepth 20000 in
theorem ggX1_take_X1_takeItem : GoodIn wsX1_take wsX1_takeItem := goodIn_r _ [80, 4, 5, 81, 82, 2, 83, 84, 85, 9, 86, 1, 87, 88, 89, 90, 91, 92, 93, 94, 95, 96, 97, 98, 99, 100, 101, 102, 103, 104, 105, 141, 142, 143, 144, 145, 146, 147, 148, 149, 150, 151, 156, 157, 158, 159, 160, 161, 162, 163, 164, 165, 166, 167, 168, 169, 170, 171, 172, 173] (by decide +kernel) (by decide +kernel)
set_option maxRecDepth 20000 in
theorem gX1_take_X1_takeItem : GoodIn wsX1_take (wsV RX1 69 RX1 yX1_takeItem wsX1_takeItem) := goodIn_app (goodIn_of _ (by decide +kernel)) ggX1_take_X1_takeItem
set_option maxRecDepth 20000 in
theorem ggX1_take_X1_finish : GoodIn wsX1_take wsX1_finish := goodIn_r _ [109, 1, 82, 110, 111, 112, 113, 114, 115, 116, 117, 87, 118, 119, 120, 121, 122, 123, 124, 125, 126, 127, 128, 129, 130, 131, 132, 133, 134, 135, 136, 137, 138, 139, 92, 140, 94, 95, 100, 141, 142, 143, 144, 145, 146, 156, 157, 158, 159, 160, 161, 162, 163, 164, 165, 166, 167, 168, 169, 170, 174, 175, 176, 177, 178, 171, 172, 173] (by decide +kernel) (by decide +kernel)
set_option maxRecDepth 20000 in
theorem gX1_take_X1_finish : GoodIn wsX1_take (wsV RX1 76 RX1 yX1_finish wsX1_finish) := goodIn_app (goodIn_of _ (by decide +kernel)) ggX1_take_X1_finish
theorem dX1_take_0 : decode cX1_take 0 = .ok (.aload_n 0, 1) := by decide +kernel
theorem dX1_take_1 : decode cX1_take 1 = .ok (.getfield 40, 3) := by decide +kernel
theorem dX1_take_4 : decode cX1_take 4 = .ok (.ifCond .lt 12, 3) := by decide +kernel
theorem dX1_take_7 : decode cX1_take 7 = .ok (.aload_n 0, 1) := by decide +kernel
theorem dX1_take_8 : decode cX1_take 8 = .ok (.getfield 40, 3) := by decide +kernel
theorem dX1_take_11 : decode cX1_take 11 = .ok (.bipush 9, 2) := by decide +kernel
theorem dX1_take_13 : decode cX1_take 13 = .ok (.if_icmp .lt 10, 3) := by decide +kernel
theorem dX1_take_16 : decode cX1_take 16 = .ok (.aload_n 0, 1) := by decide +kernel
theorem dX1_take_17 : decode cX1_take 17 = .ok (.iload_n 1, 1) := by decide +kernel
theorem dX1_take_18 : decode cX1_take 18 = .ok (.aload_n 2, 1) := by decide +kernel
theorem dX1_take_19 : decode cX1_take 19 = .ok (.invokevirtual 59, 3) := by decide +kernel
theorem dX1_take_22 : decode cX1_take 22 = .ok (.ireturn, 1) := by decide +kernel
theorem dX1_take_23 : decode cX1_take 23 = .ok (.aload_n 0, 1) := by decide +kernel
theorem dX1_take_24 : decode cX1_take 24 = .ok (.getfield 63, 3) := by decide +kernel
theorem dX1_take_27 : decode cX1_take 27 = .ok (.getstatic 66, 3) := by decide +kernel
theorem dX1_take_30 : decode cX1_take 30 = .ok (.aload_n 0, 1) := by decide +kernel
theorem dX1_take_31 : decode cX1_take 31 = .ok (.getfield 40, 3) := by decide +kernel
theorem dX1_take_34 : decode cX1_take 34 = .ok (.iaload, 1) := by decide +kernel
theorem dX1_take_35 : decode cX1_take 35 = .ok (.if_icmp .ge 18, 3) := by decide +kernel
theorem dX1_take_38 : decode cX1_take 38 = .ok (.aload_n 0, 1) := by decide +kernel
theorem dX1_take_39 : decode cX1_take 39 = .ok (.getfield 63, 3) := by decide +kernel
theorem dX1_take_42 : decode cX1_take 42 = .ok (.iconst 5, 1) := by decide +kernel
theorem dX1_take_43 : decode cX1_take 43 = .ok (.if_icmp .ge 10, 3) := by decide +kernel
theorem dX1_take_46 : decode cX1_take 46 = .ok (.aload_n 0, 1) := by decide +kernel
theorem dX1_take_47 : decode cX1_take 47 = .ok (.iload_n 1, 1) := by decide +kernel
theorem dX1_take_48 : decode cX1_take 48 = .ok (.aload_n 3, 1) := by decide +kernel
theorem dX1_take_49 : decode cX1_take 49 = .ok (.invokevirtual 69, 3) := by decide +kernel
theorem dX1_take_52 : decode cX1_take 52 = .ok (.ireturn, 1) := by decide +kernel
theorem dX1_take_53 : decode cX1_take 53 = .ok (.aload_n 0, 1) := by decide +kernel
theorem dX1_take_54 : decode cX1_take 54 = .ok (.getfield 18, 3) := by decide +kernel
theorem dX1_take_57 : decode cX1_take 57 = .ok (.getfield 73, 3) := by decide +kernel
theorem dX1_take_60 : decode cX1_take 60 = .ok (.iload_n 1, 1) := by decide +kernel
theorem dX1_take_61 : decode cX1_take 61 = .ok (.iaload, 1) := by decide +kernel
theorem dX1_take_62 : decode cX1_take 62 = .ok (.iconst 3, 1) := by decide +kernel
theorem dX1_take_63 : decode cX1_take 63 = .ok (.if_icmp .eq 5, 3) := by decide +kernel
theorem dX1_take_66 : decode cX1_take 66 = .ok (.iconst 1, 1) := by decide +kernel
theorem dX1_take_67 : decode cX1_take 67 = .ok (.ireturn, 1) := by decide +kernel
theorem dX1_take_68 : decode cX1_take 68 = .ok (.aload_n 0, 1) := by decide +kernel
theorem dX1_take_69 : decode cX1_take 69 = .ok (.aload_n 3, 1) := by decide +kernel
theorem dX1_take_70 : decode cX1_take 70 = .ok (.invokevirtual 76, 3) := by decide +kernel
theorem dX1_take_73 : decode cX1_take 73 = .ok (.iconst 0, 1) := by decide +kernel
theorem dX1_take_74 : decode cX1_take 74 = .ok (.ireturn, 1) := by decide +kernel
set_option maxRecDepth 20000 in
theorem ggX1_begin_X1_sortOf : GoodIn wsX1_begin wsX1_sortOf := goodIn_r _ [11, 1, 12, 13, 10, 14, 15, 16, 17, 18, 19, 20, 21, 22, 23, 24, 25, 26, 27, 28, 29, 30, 31, 32, 33, 34, 35, 36, 37, 38, 39, 40, 41, 42, 43, 44, 45, 46, 47, 48, 49, 50, 51, 52, 53, 54, 55, 56, 57, 58, 59, 60, 61, 62, 63, 64, 65, 66, 67, 68, 69, 70, 71, 72, 73, 74, 75, 76, 77, 78, 79, 80, 81, 82, 83, 84, 85, 86] (by decide +kernel) (by decide +kernel)
set_option maxRecDepth 20000 in
theorem gX1_begin_X1_sortOf : GoodIn wsX1_begin (wsV RX1 80 RX1 yX1_sortOf wsX1_sortOf) := goodIn_app (goodIn_of _ (by decide +kernel)) ggX1_begin_X1_sortOf
theorem dX1_begin_0 : decode cX1_begin 0 = .ok (.aload_n 0, 1) := by decide +kernel
theorem dX1_begin_1 : decode cX1_begin 1 = .ok (.getfield 18, 3) := by decide +kernel
theorem dX1_begin_4 : decode cX1_begin 4 = .ok (.getfield 73, 3) := by decide +kernel
theorem dX1_begin_7 : decode cX1_begin 7 = .ok (.iload_n 1, 1) := by decide +kernel
theorem dX1_begin_8 : decode cX1_begin 8 = .ok (.iaload, 1) := by decide +kernel
theorem dX1_begin_9 : decode cX1_begin 9 = .ok (.iconst 1, 1) := by decide +kernel
theorem dX1_begin_10 : decode cX1_begin 10 = .ok (.if_icmp .ne 12, 3) := by decide +kernel
theorem dX1_begin_13 : decode cX1_begin 13 = .ok (.aload_n 0, 1) := by decide +kernel
theorem dX1_begin_14 : decode cX1_begin 14 = .ok (.iload_n 1, 1) := by decide +kernel
theorem dX1_begin_15 : decode cX1_begin 15 = .ok (.aload_n 2, 1) := by decide +kernel
theorem dX1_begin_16 : decode cX1_begin 16 = .ok (.invokevirtual 80, 3) := by decide +kernel
theorem dX1_begin_19 : decode cX1_begin 19 = .ok (.goto 4, 3) := by decide +kernel
theorem dX1_begin_22 : decode cX1_begin 22 = .ok (.iconst (-1), 1) := by decide +kernel
theorem dX1_begin_23 : decode cX1_begin 23 = .ok (.istore_n 3, 1) := by decide +kernel
theorem dX1_begin_24 : decode cX1_begin 24 = .ok (.iload_n 3, 1) := by decide +kernel
theorem dX1_begin_25 : decode cX1_begin 25 = .ok (.iconst (-1), 1) := by decide +kernel
theorem dX1_begin_26 : decode cX1_begin 26 = .ok (.if_icmp .ne 5, 3) := by decide +kernel
theorem dX1_begin_29 : decode cX1_begin 29 = .ok (.iconst 1, 1) := by decide +kernel
theorem dX1_begin_30 : decode cX1_begin 30 = .ok (.ireturn, 1) := by decide +kernel
theorem dX1_begin_31 : decode cX1_begin 31 = .ok (.aload_n 0, 1) := by decide +kernel
theorem dX1_begin_32 : decode cX1_begin 32 = .ok (.getfield 22, 3) := by decide +kernel
theorem dX1_begin_35 : decode cX1_begin 35 = .ok (.iload_n 3, 1) := by decide +kernel
theorem dX1_begin_36 : decode cX1_begin 36 = .ok (.iaload, 1) := by decide +kernel
theorem dX1_begin_37 : decode cX1_begin 37 = .ok (.getstatic 83, 3) := by decide +kernel
theorem dX1_begin_40 : decode cX1_begin 40 = .ok (.iload_n 3, 1) := by decide +kernel
theorem dX1_begin_41 : decode cX1_begin 41 = .ok (.iaload, 1) := by decide +kernel
theorem dX1_begin_42 : decode cX1_begin 42 = .ok (.if_icmp .lt 18, 3) := by decide +kernel
theorem dX1_begin_45 : decode cX1_begin 45 = .ok (.getstatic 83, 3) := by decide +kernel
theorem dX1_begin_48 : decode cX1_begin 48 = .ok (.iload_n 3, 1) := by decide +kernel
theorem dX1_begin_49 : decode cX1_begin 49 = .ok (.iaload, 1) := by decide +kernel
theorem dX1_begin_50 : decode cX1_begin 50 = .ok (.iconst 1, 1) := by decide +kernel
theorem dX1_begin_51 : decode cX1_begin 51 = .ok (.if_icmp .ne 7, 3) := by decide +kernel
theorem dX1_begin_54 : decode cX1_begin 54 = .ok (.iconst 2, 1) := by decide +kernel
theorem dX1_begin_55 : decode cX1_begin 55 = .ok (.goto 4, 3) := by decide +kernel
theorem dX1_begin_58 : decode cX1_begin 58 = .ok (.iconst 4, 1) := by decide +kernel
theorem dX1_begin_59 : decode cX1_begin 59 = .ok (.ireturn, 1) := by decide +kernel
theorem dX1_begin_60 : decode cX1_begin 60 = .ok (.aload_n 0, 1) := by decide +kernel
theorem dX1_begin_61 : decode cX1_begin 61 = .ok (.getfield 22, 3) := by decide +kernel
theorem dX1_begin_64 : decode cX1_begin 64 = .ok (.iload_n 3, 1) := by decide +kernel
theorem dX1_begin_65 : decode cX1_begin 65 = .ok (.dup2, 1) := by decide +kernel
theorem dX1_begin_66 : decode cX1_begin 66 = .ok (.iaload, 1) := by decide +kernel
theorem dX1_begin_67 : decode cX1_begin 67 = .ok (.iconst 1, 1) := by decide +kernel
theorem dX1_begin_68 : decode cX1_begin 68 = .ok (.iadd, 1) := by decide +kernel
theorem dX1_begin_69 : decode cX1_begin 69 = .ok (.iastore, 1) := by decide +kernel
theorem dX1_begin_70 : decode cX1_begin 70 = .ok (.aload_n 0, 1) := by decide +kernel
theorem dX1_begin_71 : decode cX1_begin 71 = .ok (.iload_n 3, 1) := by decide +kernel
theorem dX1_begin_72 : decode cX1_begin 72 = .ok (.putfield 40, 3) := by decide +kernel
theorem dX1_begin_75 : decode cX1_begin 75 = .ok (.aload_n 0, 1) := by decide +kernel
theorem dX1_begin_76 : decode cX1_begin 76 = .ok (.iconst 0, 1) := by decide +kernel
theorem dX1_begin_77 : decode cX1_begin 77 = .ok (.putfield 63, 3) := by decide +kernel
theorem dX1_begin_80 : decode cX1_begin 80 = .ok (.iconst 0, 1) := by decide +kernel
theorem dX1_begin_81 : decode cX1_begin 81 = .ok (.ireturn, 1) := by decide +kernel
set_option maxRecDepth 20000 in
theorem ggX1_sortOf_X1_wordOf : GoodIn wsX1_sortOf wsX1_wordOf := goodIn_r _ [5] (by decide +kernel) (by decide +kernel)
set_option maxRecDepth 20000 in
theorem gX1_sortOf_X1_wordOf : GoodIn wsX1_sortOf (va_wsS RX1 86 yX1_wordOf wsX1_wordOf) := goodIn_app (goodIn_of _ (by decide +kernel)) ggX1_sortOf_X1_wordOf
set_option maxRecDepth 20000 in
theorem ggX1_sortOf_X8_spells : GoodIn wsX1_sortOf wsX8_spells := goodIn_r _ [10, 11, 12, 13, 14, 15, 16, 17, 18, 19, 20, 21, 22, 23, 24, 25, 26, 27, 28, 29, 30, 31, 32, 33, 34, 35, 36, 37, 38, 39, 40, 41, 42, 43, 44, 45, 46, 47, 48, 49, 50, 51, 52, 53, 54, 55, 56, 57, 58, 59, 60, 61, 62, 69, 70, 71, 72, 73, 74, 75, 76, 77] (by decide +kernel) (by decide +kernel)
set_option maxRecDepth 20000 in
theorem gX1_sortOf_X8_spells : GoodIn wsX1_sortOf (wsV RX1 90 RX8 yX8_spells wsX8_spells) := goodIn_app (goodIn_of _ (by decide +kernel)) ggX1_sortOf_X8_spells
theorem dX1_sortOf_0 : decode cX1_sortOf 0 = .ok (.iconst 0, 1) := by decide +kernel
theorem dX1_sortOf_1 : decode cX1_sortOf 1 = .ok (.istore_n 3, 1) := by decide +kernel
theorem dX1_sortOf_2 : decode cX1_sortOf 2 = .ok (.iload_n 3, 1) := by decide +kernel
theorem dX1_sortOf_3 : decode cX1_sortOf 3 = .ok (.bipush 9, 2) := by decide +kernel
theorem dX1_sortOf_5 : decode cX1_sortOf 5 = .ok (.if_icmp .ge 27, 3) := by decide +kernel
theorem dX1_sortOf_8 : decode cX1_sortOf 8 = .ok (.aload_n 0, 1) := by decide +kernel
theorem dX1_sortOf_9 : decode cX1_sortOf 9 = .ok (.getfield 18, 3) := by decide +kernel
theorem dX1_sortOf_12 : decode cX1_sortOf 12 = .ok (.iload_n 1, 1) := by decide +kernel
theorem dX1_sortOf_13 : decode cX1_sortOf 13 = .ok (.aload_n 2, 1) := by decide +kernel
theorem dX1_sortOf_14 : decode cX1_sortOf 14 = .ok (.iload_n 3, 1) := by decide +kernel
theorem dX1_sortOf_15 : decode cX1_sortOf 15 = .ok (.invokestatic 86, 3) := by decide +kernel
theorem dX1_sortOf_18 : decode cX1_sortOf 18 = .ok (.invokevirtual 90, 3) := by decide +kernel
theorem dX1_sortOf_21 : decode cX1_sortOf 21 = .ok (.ifCond .eq 5, 3) := by decide +kernel
theorem dX1_sortOf_24 : decode cX1_sortOf 24 = .ok (.iload_n 3, 1) := by decide +kernel
theorem dX1_sortOf_25 : decode cX1_sortOf 25 = .ok (.ireturn, 1) := by decide +kernel
theorem dX1_sortOf_26 : decode cX1_sortOf 26 = .ok (.iinc 3 1, 3) := by decide +kernel
theorem dX1_sortOf_29 : decode cX1_sortOf 29 = .ok (.goto (-27), 3) := by decide +kernel
theorem dX1_sortOf_32 : decode cX1_sortOf 32 = .ok (.iconst (-1), 1) := by decide +kernel
theorem dX1_sortOf_33 : decode cX1_sortOf 33 = .ok (.ireturn, 1) := by decide +kernel
theorem dX1_wordOf_0 : decode cX1_wordOf 0 = .ok (.iload_n 0, 1) := by decide +kernel
theorem dX1_wordOf_1 : decode cX1_wordOf 1 = .ok (.tableswitch 71 0 7 #[47, 50, 53, 56, 59, 62, 65, 68], 47) := by decide +kernel
theorem dX1_wordOf_48 : decode cX1_wordOf 48 = .ok (.ldc 94, 2) := by decide +kernel
theorem dX1_wordOf_50 : decode cX1_wordOf 50 = .ok (.areturn, 1) := by decide +kernel
theorem dX1_wordOf_51 : decode cX1_wordOf 51 = .ok (.ldc 96, 2) := by decide +kernel
theorem dX1_wordOf_53 : decode cX1_wordOf 53 = .ok (.areturn, 1) := by decide +kernel
theorem dX1_wordOf_54 : decode cX1_wordOf 54 = .ok (.ldc 98, 2) := by decide +kernel
theorem dX1_wordOf_56 : decode cX1_wordOf 56 = .ok (.areturn, 1) := by decide +kernel
theorem dX1_wordOf_57 : decode cX1_wordOf 57 = .ok (.ldc 100, 2) := by decide +kernel
theorem dX1_wordOf_59 : decode cX1_wordOf 59 = .ok (.areturn, 1) := by decide +kernel
theorem dX1_wordOf_60 : decode cX1_wordOf 60 = .ok (.ldc 102, 2) := by decide +kernel
theorem dX1_wordOf_62 : decode cX1_wordOf 62 = .ok (.areturn, 1) := by decide +kernel
theorem dX1_wordOf_63 : decode cX1_wordOf 63 = .ok (.ldc 104, 2) := by decide +kernel
theorem dX1_wordOf_65 : decode cX1_wordOf 65 = .ok (.areturn, 1) := by decide +kernel
theorem dX1_wordOf_66 : decode cX1_wordOf 66 = .ok (.ldc 106, 2) := by decide +kernel
theorem dX1_wordOf_68 : decode cX1_wordOf 68 = .ok (.areturn, 1) := by decide +kernel
theorem dX1_wordOf_69 : decode cX1_wordOf 69 = .ok (.ldc 108, 2) := by decide +kernel
theorem dX1_wordOf_71 : decode cX1_wordOf 71 = .ok (.areturn, 1) := by decide +kernel
theorem dX1_wordOf_72 : decode cX1_wordOf 72 = .ok (.ldc 110, 2) := by decide +kernel
theorem dX1_wordOf_74 : decode cX1_wordOf 74 = .ok (.areturn, 1) := by decide +kernel
set_option maxRecDepth 20000 in
theorem ggX1_takeItem_X1_lowest : GoodIn wsX1_takeItem wsX1_lowest := goodIn_r _ [10, 11, 5, 4, 12, 13, 14, 15, 16, 17, 18, 19, 20, 21, 22, 23, 24, 25, 31, 32, 33, 34, 35, 36, 42, 43, 44, 45, 46, 47, 48, 49, 50, 51, 52, 53, 54, 55, 56, 57, 58, 59] (by decide +kernel) (by decide +kernel)
set_option maxRecDepth 20000 in
theorem gX1_takeItem_X1_lowest : GoodIn wsX1_takeItem (wsV RX1 115 RX1 yX1_lowest wsX1_lowest) := goodIn_app (goodIn_of _ (by decide +kernel)) ggX1_takeItem_X1_lowest
set_option maxRecDepth 20000 in
theorem ggX1_takeItem_X1_highest : GoodIn wsX1_takeItem wsX1_highest := goodIn_r _ [29, 11, 5, 4, 30, 31, 32, 33, 34, 35, 36] (by decide +kernel) (by decide +kernel)
set_option maxRecDepth 20000 in
theorem gX1_takeItem_X1_highest : GoodIn wsX1_takeItem (wsV RX1 119 RX1 yX1_highest wsX1_highest) := goodIn_app (goodIn_of _ (by decide +kernel)) ggX1_takeItem_X1_highest
theorem dX1_takeItem_0 : decode cX1_takeItem 0 = .ok (.aload_n 0, 1) := by decide +kernel
theorem dX1_takeItem_1 : decode cX1_takeItem 1 = .ok (.getfield 18, 3) := by decide +kernel
theorem dX1_takeItem_4 : decode cX1_takeItem 4 = .ok (.getfield 73, 3) := by decide +kernel
theorem dX1_takeItem_7 : decode cX1_takeItem 7 = .ok (.iload_n 1, 1) := by decide +kernel
theorem dX1_takeItem_8 : decode cX1_takeItem 8 = .ok (.iaload, 1) := by decide +kernel
theorem dX1_takeItem_9 : decode cX1_takeItem 9 = .ok (.iconst 2, 1) := by decide +kernel
theorem dX1_takeItem_10 : decode cX1_takeItem 10 = .ok (.if_icmp .eq 5, 3) := by decide +kernel
theorem dX1_takeItem_13 : decode cX1_takeItem 13 = .ok (.iconst 1, 1) := by decide +kernel
theorem dX1_takeItem_14 : decode cX1_takeItem 14 = .ok (.ireturn, 1) := by decide +kernel
theorem dX1_takeItem_15 : decode cX1_takeItem 15 = .ok (.aload_n 0, 1) := by decide +kernel
theorem dX1_takeItem_16 : decode cX1_takeItem 16 = .ok (.getfield 18, 3) := by decide +kernel
theorem dX1_takeItem_19 : decode cX1_takeItem 19 = .ok (.getfield 112, 3) := by decide +kernel
theorem dX1_takeItem_22 : decode cX1_takeItem 22 = .ok (.iload_n 1, 1) := by decide +kernel
theorem dX1_takeItem_23 : decode cX1_takeItem 23 = .ok (.iaload, 1) := by decide +kernel
theorem dX1_takeItem_24 : decode cX1_takeItem 24 = .ok (.istore_n 3, 1) := by decide +kernel
theorem dX1_takeItem_25 : decode cX1_takeItem 25 = .ok (.iload_n 3, 1) := by decide +kernel
theorem dX1_takeItem_26 : decode cX1_takeItem 26 = .ok (.aload_n 0, 1) := by decide +kernel
theorem dX1_takeItem_27 : decode cX1_takeItem 27 = .ok (.aload_n 2, 1) := by decide +kernel
theorem dX1_takeItem_28 : decode cX1_takeItem 28 = .ok (.invokevirtual 115, 3) := by decide +kernel
theorem dX1_takeItem_31 : decode cX1_takeItem 31 = .ok (.if_icmp .lt 11, 3) := by decide +kernel
theorem dX1_takeItem_34 : decode cX1_takeItem 34 = .ok (.iload_n 3, 1) := by decide +kernel
theorem dX1_takeItem_35 : decode cX1_takeItem 35 = .ok (.aload_n 0, 1) := by decide +kernel
theorem dX1_takeItem_36 : decode cX1_takeItem 36 = .ok (.invokevirtual 119, 3) := by decide +kernel
theorem dX1_takeItem_39 : decode cX1_takeItem 39 = .ok (.if_icmp .le 5, 3) := by decide +kernel
theorem dX1_takeItem_42 : decode cX1_takeItem 42 = .ok (.iconst 3, 1) := by decide +kernel
theorem dX1_takeItem_43 : decode cX1_takeItem 43 = .ok (.ireturn, 1) := by decide +kernel
theorem dX1_takeItem_44 : decode cX1_takeItem 44 = .ok (.aload_n 0, 1) := by decide +kernel
theorem dX1_takeItem_45 : decode cX1_takeItem 45 = .ok (.getfield 26, 3) := by decide +kernel
theorem dX1_takeItem_48 : decode cX1_takeItem 48 = .ok (.aload_n 0, 1) := by decide +kernel
theorem dX1_takeItem_49 : decode cX1_takeItem 49 = .ok (.getfield 63, 3) := by decide +kernel
theorem dX1_takeItem_52 : decode cX1_takeItem 52 = .ok (.iload_n 3, 1) := by decide +kernel
theorem dX1_takeItem_53 : decode cX1_takeItem 53 = .ok (.iastore, 1) := by decide +kernel
theorem dX1_takeItem_54 : decode cX1_takeItem 54 = .ok (.aload_n 0, 1) := by decide +kernel
theorem dX1_takeItem_55 : decode cX1_takeItem 55 = .ok (.dup, 1) := by decide +kernel
theorem dX1_takeItem_56 : decode cX1_takeItem 56 = .ok (.getfield 63, 3) := by decide +kernel
theorem dX1_takeItem_59 : decode cX1_takeItem 59 = .ok (.iconst 1, 1) := by decide +kernel
theorem dX1_takeItem_60 : decode cX1_takeItem 60 = .ok (.iadd, 1) := by decide +kernel
theorem dX1_takeItem_61 : decode cX1_takeItem 61 = .ok (.putfield 63, 3) := by decide +kernel
theorem dX1_takeItem_64 : decode cX1_takeItem 64 = .ok (.iconst 0, 1) := by decide +kernel
theorem dX1_takeItem_65 : decode cX1_takeItem 65 = .ok (.ireturn, 1) := by decide +kernel
set_option maxRecDepth 20000 in
theorem ggX1_lowest_X6_lowestNextAmplitude : GoodIn wsX1_lowest wsX6_lowestNextAmplitude := goodIn_r _ [10, 11, 12, 39, 40, 41] (by decide +kernel) (by decide +kernel)
set_option maxRecDepth 20000 in
theorem gX1_lowest_X6_lowestNextAmplitude : GoodIn wsX1_lowest (wsV RX1 127 RX6 yX6_lowestNextAmplitude wsX6_lowestNextAmplitude) := goodIn_app (goodIn_of _ (by decide +kernel)) ggX1_lowest_X6_lowestNextAmplitude
set_option maxRecDepth 20000 in
theorem ggX1_lowest_X6_lowestNextMagnitude : GoodIn wsX1_lowest wsX6_lowestNextMagnitude := goodIn_r _ [16, 11, 17, 39, 40, 41] (by decide +kernel) (by decide +kernel)
set_option maxRecDepth 20000 in
theorem gX1_lowest_X6_lowestNextMagnitude : GoodIn wsX1_lowest (wsV RX1 132 RX6 yX6_lowestNextMagnitude wsX6_lowestNextMagnitude) := goodIn_app (goodIn_of _ (by decide +kernel)) ggX1_lowest_X6_lowestNextMagnitude
theorem dX1_lowest_0 : decode cX1_lowest 0 = .ok (.aload_n 0, 1) := by decide +kernel
theorem dX1_lowest_1 : decode cX1_lowest 1 = .ok (.getfield 40, 3) := by decide +kernel
theorem dX1_lowest_4 : decode cX1_lowest 4 = .ok (.iconst 3, 1) := by decide +kernel
theorem dX1_lowest_5 : decode cX1_lowest 5 = .ok (.if_icmp .ne 18, 3) := by decide +kernel
theorem dX1_lowest_8 : decode cX1_lowest 8 = .ok (.aload_n 0, 1) := by decide +kernel
theorem dX1_lowest_9 : decode cX1_lowest 9 = .ok (.getfield 63, 3) := by decide +kernel
theorem dX1_lowest_12 : decode cX1_lowest 12 = .ok (.iconst 1, 1) := by decide +kernel
theorem dX1_lowest_13 : decode cX1_lowest 13 = .ok (.if_icmp .ne 10, 3) := by decide +kernel
theorem dX1_lowest_16 : decode cX1_lowest 16 = .ok (.aload_n 0, 1) := by decide +kernel
theorem dX1_lowest_17 : decode cX1_lowest 17 = .ok (.getfield 26, 3) := by decide +kernel
theorem dX1_lowest_20 : decode cX1_lowest 20 = .ok (.iconst 0, 1) := by decide +kernel
theorem dX1_lowest_21 : decode cX1_lowest 21 = .ok (.iaload, 1) := by decide +kernel
theorem dX1_lowest_22 : decode cX1_lowest 22 = .ok (.ireturn, 1) := by decide +kernel
theorem dX1_lowest_23 : decode cX1_lowest 23 = .ok (.aload_n 0, 1) := by decide +kernel
theorem dX1_lowest_24 : decode cX1_lowest 24 = .ok (.getfield 40, 3) := by decide +kernel
theorem dX1_lowest_27 : decode cX1_lowest 27 = .ok (.bipush 7, 2) := by decide +kernel
theorem dX1_lowest_29 : decode cX1_lowest 29 = .ok (.if_icmp .ne 28, 3) := by decide +kernel
theorem dX1_lowest_32 : decode cX1_lowest 32 = .ok (.aload_n 0, 1) := by decide +kernel
theorem dX1_lowest_33 : decode cX1_lowest 33 = .ok (.getfield 63, 3) := by decide +kernel
theorem dX1_lowest_36 : decode cX1_lowest 36 = .ok (.ifCond .ne 13, 3) := by decide +kernel
theorem dX1_lowest_39 : decode cX1_lowest 39 = .ok (.aload_n 1, 1) := by decide +kernel
theorem dX1_lowest_40 : decode cX1_lowest 40 = .ok (.getfield 123, 3) := by decide +kernel
theorem dX1_lowest_43 : decode cX1_lowest 43 = .ok (.invokevirtual 127, 3) := by decide +kernel
theorem dX1_lowest_46 : decode cX1_lowest 46 = .ok (.goto 10, 3) := by decide +kernel
theorem dX1_lowest_49 : decode cX1_lowest 49 = .ok (.aload_n 1, 1) := by decide +kernel
theorem dX1_lowest_50 : decode cX1_lowest 50 = .ok (.getfield 123, 3) := by decide +kernel
theorem dX1_lowest_53 : decode cX1_lowest 53 = .ok (.invokevirtual 132, 3) := by decide +kernel
theorem dX1_lowest_56 : decode cX1_lowest 56 = .ok (.ireturn, 1) := by decide +kernel
theorem dX1_lowest_57 : decode cX1_lowest 57 = .ok (.getstatic 135, 3) := by decide +kernel
theorem dX1_lowest_60 : decode cX1_lowest 60 = .ok (.aload_n 0, 1) := by decide +kernel
theorem dX1_lowest_61 : decode cX1_lowest 61 = .ok (.getfield 40, 3) := by decide +kernel
theorem dX1_lowest_64 : decode cX1_lowest 64 = .ok (.iconst 5, 1) := by decide +kernel
theorem dX1_lowest_65 : decode cX1_lowest 65 = .ok (.imul, 1) := by decide +kernel
theorem dX1_lowest_66 : decode cX1_lowest 66 = .ok (.aload_n 0, 1) := by decide +kernel
theorem dX1_lowest_67 : decode cX1_lowest 67 = .ok (.getfield 63, 3) := by decide +kernel
theorem dX1_lowest_70 : decode cX1_lowest 70 = .ok (.iadd, 1) := by decide +kernel
theorem dX1_lowest_71 : decode cX1_lowest 71 = .ok (.iaload, 1) := by decide +kernel
theorem dX1_lowest_72 : decode cX1_lowest 72 = .ok (.ireturn, 1) := by decide +kernel
theorem dX1_highest_0 : decode cX1_highest 0 = .ok (.aload_n 0, 1) := by decide +kernel
theorem dX1_highest_1 : decode cX1_highest 1 = .ok (.getfield 40, 3) := by decide +kernel
theorem dX1_highest_4 : decode cX1_highest 4 = .ok (.iconst 4, 1) := by decide +kernel
theorem dX1_highest_5 : decode cX1_highest 5 = .ok (.if_icmp .ne 18, 3) := by decide +kernel
theorem dX1_highest_8 : decode cX1_highest 8 = .ok (.aload_n 0, 1) := by decide +kernel
theorem dX1_highest_9 : decode cX1_highest 9 = .ok (.getfield 63, 3) := by decide +kernel
theorem dX1_highest_12 : decode cX1_highest 12 = .ok (.iconst 1, 1) := by decide +kernel
theorem dX1_highest_13 : decode cX1_highest 13 = .ok (.if_icmp .ne 10, 3) := by decide +kernel
theorem dX1_highest_16 : decode cX1_highest 16 = .ok (.aload_n 0, 1) := by decide +kernel
theorem dX1_highest_17 : decode cX1_highest 17 = .ok (.getfield 26, 3) := by decide +kernel
theorem dX1_highest_20 : decode cX1_highest 20 = .ok (.iconst 0, 1) := by decide +kernel
theorem dX1_highest_21 : decode cX1_highest 21 = .ok (.iaload, 1) := by decide +kernel
theorem dX1_highest_22 : decode cX1_highest 22 = .ok (.ireturn, 1) := by decide +kernel
theorem dX1_highest_23 : decode cX1_highest 23 = .ok (.getstatic 138, 3) := by decide +kernel
theorem dX1_highest_26 : decode cX1_highest 26 = .ok (.aload_n 0, 1) := by decide +kernel
theorem dX1_highest_27 : decode cX1_highest 27 = .ok (.getfield 40, 3) := by decide +kernel
theorem dX1_highest_30 : decode cX1_highest 30 = .ok (.iconst 5, 1) := by decide +kernel
theorem dX1_highest_31 : decode cX1_highest 31 = .ok (.imul, 1) := by decide +kernel
theorem dX1_highest_32 : decode cX1_highest 32 = .ok (.aload_n 0, 1) := by decide +kernel
theorem dX1_highest_33 : decode cX1_highest 33 = .ok (.getfield 63, 3) := by decide +kernel
theorem dX1_highest_36 : decode cX1_highest 36 = .ok (.iadd, 1) := by decide +kernel
theorem dX1_highest_37 : decode cX1_highest 37 = .ok (.iaload, 1) := by decide +kernel
theorem dX1_highest_38 : decode cX1_highest 38 = .ok (.ireturn, 1) := by decide +kernel
set_option maxRecDepth 20000 in
theorem ggX1_finish_X5_putStation : GoodIn wsX1_finish wsX5_putStation := goodIn_r _ [17, 18, 19, 20, 45, 46, 47, 48, 49, 50, 51, 52, 53, 54, 55, 56, 57, 58, 59] (by decide +kernel) (by decide +kernel)
set_option maxRecDepth 20000 in
theorem gX1_finish_X5_putStation : GoodIn wsX1_finish (wsV RX1 141 RX5 yX5_putStation wsX5_putStation) := goodIn_app (goodIn_of _ (by decide +kernel)) ggX1_finish_X5_putStation
set_option maxRecDepth 20000 in
theorem ggX1_finish_X2_place : GoodIn wsX1_finish wsX2_place := goodIn_r _ [25, 26, 27, 28, 29, 30, 60, 61, 62, 63, 64] (by decide +kernel) (by decide +kernel)
set_option maxRecDepth 20000 in
theorem gX1_finish_X2_place : GoodIn wsX1_finish (wsV RX1 148 RX2 yX2_place wsX2_place) := goodIn_app (goodIn_of _ (by decide +kernel)) ggX1_finish_X2_place
set_option maxRecDepth 20000 in
theorem ggX1_finish_X6_put : GoodIn wsX1_finish wsX6_put := goodIn_r _ [35, 36, 37, 38, 65, 66, 67] (by decide +kernel) (by decide +kernel)
set_option maxRecDepth 20000 in
theorem gX1_finish_X6_put : GoodIn wsX1_finish (wsV RX1 173 RX6 yX6_put wsX6_put) := goodIn_app (goodIn_of _ (by decide +kernel)) ggX1_finish_X6_put
theorem dX1_finish_0 : decode cX1_finish 0 = .ok (.aload_n 0, 1) := by decide +kernel
theorem dX1_finish_1 : decode cX1_finish 1 = .ok (.getfield 40, 3) := by decide +kernel
theorem dX1_finish_4 : decode cX1_finish 4 = .ok (.tableswitch 214 0 7 #[48, 67, 107, 120, 143, 166, 179, 192], 48) := by decide +kernel
theorem dX1_finish_52 : decode cX1_finish 52 = .ok (.aload_n 1, 1) := by decide +kernel
theorem dX1_finish_53 : decode cX1_finish 53 = .ok (.aload_n 0, 1) := by decide +kernel
theorem dX1_finish_54 : decode cX1_finish 54 = .ok (.getfield 26, 3) := by decide +kernel
theorem dX1_finish_57 : decode cX1_finish 57 = .ok (.iconst 0, 1) := by decide +kernel
theorem dX1_finish_58 : decode cX1_finish 58 = .ok (.iaload, 1) := by decide +kernel
theorem dX1_finish_59 : decode cX1_finish 59 = .ok (.aload_n 0, 1) := by decide +kernel
theorem dX1_finish_60 : decode cX1_finish 60 = .ok (.getfield 26, 3) := by decide +kernel
theorem dX1_finish_63 : decode cX1_finish 63 = .ok (.iconst 1, 1) := by decide +kernel
theorem dX1_finish_64 : decode cX1_finish 64 = .ok (.iaload, 1) := by decide +kernel
theorem dX1_finish_65 : decode cX1_finish 65 = .ok (.invokevirtual 141, 3) := by decide +kernel
theorem dX1_finish_68 : decode cX1_finish 68 = .ok (.goto 160, 3) := by decide +kernel
theorem dX1_finish_71 : decode cX1_finish 71 = .ok (.aload_n 1, 1) := by decide +kernel
theorem dX1_finish_72 : decode cX1_finish 72 = .ok (.getfield 145, 3) := by decide +kernel
theorem dX1_finish_75 : decode cX1_finish 75 = .ok (.aload_n 0, 1) := by decide +kernel
theorem dX1_finish_76 : decode cX1_finish 76 = .ok (.getfield 26, 3) := by decide +kernel
theorem dX1_finish_79 : decode cX1_finish 79 = .ok (.iconst 0, 1) := by decide +kernel
theorem dX1_finish_80 : decode cX1_finish 80 = .ok (.iaload, 1) := by decide +kernel
theorem dX1_finish_81 : decode cX1_finish 81 = .ok (.aload_n 0, 1) := by decide +kernel
theorem dX1_finish_82 : decode cX1_finish 82 = .ok (.getfield 26, 3) := by decide +kernel
theorem dX1_finish_85 : decode cX1_finish 85 = .ok (.iconst 1, 1) := by decide +kernel
theorem dX1_finish_86 : decode cX1_finish 86 = .ok (.iaload, 1) := by decide +kernel
theorem dX1_finish_87 : decode cX1_finish 87 = .ok (.aload_n 0, 1) := by decide +kernel
theorem dX1_finish_88 : decode cX1_finish 88 = .ok (.getfield 26, 3) := by decide +kernel
theorem dX1_finish_91 : decode cX1_finish 91 = .ok (.iconst 2, 1) := by decide +kernel
theorem dX1_finish_92 : decode cX1_finish 92 = .ok (.iaload, 1) := by decide +kernel
theorem dX1_finish_93 : decode cX1_finish 93 = .ok (.aload_n 0, 1) := by decide +kernel
theorem dX1_finish_94 : decode cX1_finish 94 = .ok (.getfield 26, 3) := by decide +kernel
theorem dX1_finish_97 : decode cX1_finish 97 = .ok (.iconst 3, 1) := by decide +kernel
theorem dX1_finish_98 : decode cX1_finish 98 = .ok (.iaload, 1) := by decide +kernel
theorem dX1_finish_99 : decode cX1_finish 99 = .ok (.aload_n 0, 1) := by decide +kernel
theorem dX1_finish_100 : decode cX1_finish 100 = .ok (.getfield 26, 3) := by decide +kernel
theorem dX1_finish_103 : decode cX1_finish 103 = .ok (.iconst 4, 1) := by decide +kernel
theorem dX1_finish_104 : decode cX1_finish 104 = .ok (.iaload, 1) := by decide +kernel
theorem dX1_finish_105 : decode cX1_finish 105 = .ok (.invokevirtual 148, 3) := by decide +kernel
theorem dX1_finish_108 : decode cX1_finish 108 = .ok (.goto 120, 3) := by decide +kernel
theorem dX1_finish_111 : decode cX1_finish 111 = .ok (.aload_n 1, 1) := by decide +kernel
theorem dX1_finish_112 : decode cX1_finish 112 = .ok (.aload_n 0, 1) := by decide +kernel
theorem dX1_finish_113 : decode cX1_finish 113 = .ok (.getfield 26, 3) := by decide +kernel
theorem dX1_finish_116 : decode cX1_finish 116 = .ok (.iconst 0, 1) := by decide +kernel
theorem dX1_finish_117 : decode cX1_finish 117 = .ok (.iaload, 1) := by decide +kernel
theorem dX1_finish_118 : decode cX1_finish 118 = .ok (.putfield 154, 3) := by decide +kernel
theorem dX1_finish_121 : decode cX1_finish 121 = .ok (.goto 107, 3) := by decide +kernel
theorem dX1_finish_124 : decode cX1_finish 124 = .ok (.aload_n 1, 1) := by decide +kernel
theorem dX1_finish_125 : decode cX1_finish 125 = .ok (.aload_n 0, 1) := by decide +kernel
theorem dX1_finish_126 : decode cX1_finish 126 = .ok (.getfield 26, 3) := by decide +kernel
theorem dX1_finish_129 : decode cX1_finish 129 = .ok (.iconst 0, 1) := by decide +kernel
theorem dX1_finish_130 : decode cX1_finish 130 = .ok (.iaload, 1) := by decide +kernel
theorem dX1_finish_131 : decode cX1_finish 131 = .ok (.putfield 157, 3) := by decide +kernel
theorem dX1_finish_134 : decode cX1_finish 134 = .ok (.aload_n 1, 1) := by decide +kernel
theorem dX1_finish_135 : decode cX1_finish 135 = .ok (.aload_n 0, 1) := by decide +kernel
theorem dX1_finish_136 : decode cX1_finish 136 = .ok (.getfield 26, 3) := by decide +kernel
theorem dX1_finish_139 : decode cX1_finish 139 = .ok (.iconst 1, 1) := by decide +kernel
theorem dX1_finish_140 : decode cX1_finish 140 = .ok (.iaload, 1) := by decide +kernel
theorem dX1_finish_141 : decode cX1_finish 141 = .ok (.putfield 160, 3) := by decide +kernel
theorem dX1_finish_144 : decode cX1_finish 144 = .ok (.goto 84, 3) := by decide +kernel
theorem dX1_finish_147 : decode cX1_finish 147 = .ok (.aload_n 1, 1) := by decide +kernel
theorem dX1_finish_148 : decode cX1_finish 148 = .ok (.aload_n 0, 1) := by decide +kernel
theorem dX1_finish_149 : decode cX1_finish 149 = .ok (.getfield 26, 3) := by decide +kernel
theorem dX1_finish_152 : decode cX1_finish 152 = .ok (.iconst 0, 1) := by decide +kernel
theorem dX1_finish_153 : decode cX1_finish 153 = .ok (.iaload, 1) := by decide +kernel
theorem dX1_finish_154 : decode cX1_finish 154 = .ok (.putfield 163, 3) := by decide +kernel
theorem dX1_finish_157 : decode cX1_finish 157 = .ok (.aload_n 1, 1) := by decide +kernel
theorem dX1_finish_158 : decode cX1_finish 158 = .ok (.aload_n 0, 1) := by decide +kernel
theorem dX1_finish_159 : decode cX1_finish 159 = .ok (.getfield 26, 3) := by decide +kernel
theorem dX1_finish_162 : decode cX1_finish 162 = .ok (.iconst 1, 1) := by decide +kernel
theorem dX1_finish_163 : decode cX1_finish 163 = .ok (.iaload, 1) := by decide +kernel
theorem dX1_finish_164 : decode cX1_finish 164 = .ok (.putfield 166, 3) := by decide +kernel
theorem dX1_finish_167 : decode cX1_finish 167 = .ok (.goto 61, 3) := by decide +kernel
theorem dX1_finish_170 : decode cX1_finish 170 = .ok (.aload_n 1, 1) := by decide +kernel
theorem dX1_finish_171 : decode cX1_finish 171 = .ok (.aload_n 0, 1) := by decide +kernel
theorem dX1_finish_172 : decode cX1_finish 172 = .ok (.getfield 26, 3) := by decide +kernel
theorem dX1_finish_175 : decode cX1_finish 175 = .ok (.iconst 0, 1) := by decide +kernel
theorem dX1_finish_176 : decode cX1_finish 176 = .ok (.iaload, 1) := by decide +kernel
theorem dX1_finish_177 : decode cX1_finish 177 = .ok (.putfield 169, 3) := by decide +kernel
theorem dX1_finish_180 : decode cX1_finish 180 = .ok (.goto 48, 3) := by decide +kernel
theorem dX1_finish_183 : decode cX1_finish 183 = .ok (.aload_n 1, 1) := by decide +kernel
theorem dX1_finish_184 : decode cX1_finish 184 = .ok (.aload_n 0, 1) := by decide +kernel
theorem dX1_finish_185 : decode cX1_finish 185 = .ok (.getfield 26, 3) := by decide +kernel
theorem dX1_finish_188 : decode cX1_finish 188 = .ok (.iconst 0, 1) := by decide +kernel
theorem dX1_finish_189 : decode cX1_finish 189 = .ok (.iaload, 1) := by decide +kernel
theorem dX1_finish_190 : decode cX1_finish 190 = .ok (.putfield 171, 3) := by decide +kernel
theorem dX1_finish_193 : decode cX1_finish 193 = .ok (.goto 35, 3) := by decide +kernel
theorem dX1_finish_196 : decode cX1_finish 196 = .ok (.aload_n 1, 1) := by decide +kernel
theorem dX1_finish_197 : decode cX1_finish 197 = .ok (.getfield 123, 3) := by decide +kernel
theorem dX1_finish_200 : decode cX1_finish 200 = .ok (.aload_n 0, 1) := by decide +kernel
theorem dX1_finish_201 : decode cX1_finish 201 = .ok (.getfield 26, 3) := by decide +kernel
theorem dX1_finish_204 : decode cX1_finish 204 = .ok (.iconst 0, 1) := by decide +kernel
theorem dX1_finish_205 : decode cX1_finish 205 = .ok (.iaload, 1) := by decide +kernel
theorem dX1_finish_206 : decode cX1_finish 206 = .ok (.aload_n 0, 1) := by decide +kernel
theorem dX1_finish_207 : decode cX1_finish 207 = .ok (.getfield 26, 3) := by decide +kernel
theorem dX1_finish_210 : decode cX1_finish 210 = .ok (.iconst 1, 1) := by decide +kernel
theorem dX1_finish_211 : decode cX1_finish 211 = .ok (.iaload, 1) := by decide +kernel
theorem dX1_finish_212 : decode cX1_finish 212 = .ok (.invokevirtual 173, 3) := by decide +kernel
theorem dX1_finish_215 : decode cX1_finish 215 = .ok (.goto 13, 3) := by decide +kernel
theorem dX1_finish_218 : decode cX1_finish 218 = .ok (.aload_n 1, 1) := by decide +kernel
theorem dX1_finish_219 : decode cX1_finish 219 = .ok (.aload_n 0, 1) := by decide +kernel
theorem dX1_finish_220 : decode cX1_finish 220 = .ok (.getfield 26, 3) := by decide +kernel
theorem dX1_finish_223 : decode cX1_finish 223 = .ok (.iconst 0, 1) := by decide +kernel
theorem dX1_finish_224 : decode cX1_finish 224 = .ok (.iaload, 1) := by decide +kernel
theorem dX1_finish_225 : decode cX1_finish 225 = .ok (.putfield 176, 3) := by decide +kernel
theorem dX1_finish_228 : decode cX1_finish 228 = .ok (.aload_n 0, 1) := by decide +kernel
theorem dX1_finish_229 : decode cX1_finish 229 = .ok (.iconst (-1), 1) := by decide +kernel
theorem dX1_finish_230 : decode cX1_finish 230 = .ok (.putfield 40, 3) := by decide +kernel
theorem dX1_finish_233 : decode cX1_finish 233 = .ok (.return_, 1) := by decide +kernel
theorem dX2_init_0 : decode cX2_init 0 = .ok (.aload_n 0, 1) := by decide +kernel
theorem dX2_init_1 : decode cX2_init 1 = .ok (.invokespecial 1, 3) := by decide +kernel
theorem dX2_init_4 : decode cX2_init 4 = .ok (.return_, 1) := by decide +kernel
theorem dX2_place_0 : decode cX2_place 0 = .ok (.aload_n 0, 1) := by decide +kernel
theorem dX2_place_1 : decode cX2_place 1 = .ok (.iload_n 1, 1) := by decide +kernel
theorem dX2_place_2 : decode cX2_place 2 = .ok (.putfield 7, 3) := by decide +kernel
theorem dX2_place_5 : decode cX2_place 5 = .ok (.aload_n 0, 1) := by decide +kernel
theorem dX2_place_6 : decode cX2_place 6 = .ok (.iload_n 2, 1) := by decide +kernel
theorem dX2_place_7 : decode cX2_place 7 = .ok (.putfield 13, 3) := by decide +kernel
theorem dX2_place_10 : decode cX2_place 10 = .ok (.aload_n 0, 1) := by decide +kernel
theorem dX2_place_11 : decode cX2_place 11 = .ok (.iload_n 3, 1) := by decide +kernel
theorem dX2_place_12 : decode cX2_place 12 = .ok (.putfield 16, 3) := by decide +kernel
theorem dX2_place_15 : decode cX2_place 15 = .ok (.aload_n 0, 1) := by decide +kernel
theorem dX2_place_16 : decode cX2_place 16 = .ok (.iload 4, 2) := by decide +kernel
theorem dX2_place_18 : decode cX2_place 18 = .ok (.putfield 19, 3) := by decide +kernel
theorem dX2_place_21 : decode cX2_place 21 = .ok (.aload_n 0, 1) := by decide +kernel
theorem dX2_place_22 : decode cX2_place 22 = .ok (.iload 5, 2) := by decide +kernel
theorem dX2_place_24 : decode cX2_place 24 = .ok (.putfield 22, 3) := by decide +kernel
theorem dX2_place_27 : decode cX2_place 27 = .ok (.return_, 1) := by decide +kernel
theorem dX2_nodeCount_0 : decode cX2_nodeCount 0 = .ok (.aload_n 0, 1) := by decide +kernel
theorem dX2_nodeCount_1 : decode cX2_nodeCount 1 = .ok (.getfield 16, 3) := by decide +kernel
theorem dX2_nodeCount_4 : decode cX2_nodeCount 4 = .ok (.aload_n 0, 1) := by decide +kernel
theorem dX2_nodeCount_5 : decode cX2_nodeCount 5 = .ok (.getfield 19, 3) := by decide +kernel
theorem dX2_nodeCount_8 : decode cX2_nodeCount 8 = .ok (.imul, 1) := by decide +kernel
theorem dX2_nodeCount_9 : decode cX2_nodeCount 9 = .ok (.ireturn, 1) := by decide +kernel
theorem dX2_nodeX_0 : decode cX2_nodeX 0 = .ok (.aload_n 0, 1) := by decide +kernel
theorem dX2_nodeX_1 : decode cX2_nodeX 1 = .ok (.getfield 7, 3) := by decide +kernel
theorem dX2_nodeX_4 : decode cX2_nodeX 4 = .ok (.aload_n 0, 1) := by decide +kernel
theorem dX2_nodeX_5 : decode cX2_nodeX 5 = .ok (.getfield 16, 3) := by decide +kernel
theorem dX2_nodeX_8 : decode cX2_nodeX 8 = .ok (.ifCond .ne 7, 3) := by decide +kernel
theorem dX2_nodeX_11 : decode cX2_nodeX 11 = .ok (.iconst 0, 1) := by decide +kernel
theorem dX2_nodeX_12 : decode cX2_nodeX 12 = .ok (.goto 9, 3) := by decide +kernel
theorem dX2_nodeX_15 : decode cX2_nodeX 15 = .ok (.iload_n 1, 1) := by decide +kernel
theorem dX2_nodeX_16 : decode cX2_nodeX 16 = .ok (.aload_n 0, 1) := by decide +kernel
theorem dX2_nodeX_17 : decode cX2_nodeX 17 = .ok (.getfield 16, 3) := by decide +kernel
theorem dX2_nodeX_20 : decode cX2_nodeX 20 = .ok (.irem, 1) := by decide +kernel
theorem dX2_nodeX_21 : decode cX2_nodeX 21 = .ok (.aload_n 0, 1) := by decide +kernel
theorem dX2_nodeX_22 : decode cX2_nodeX 22 = .ok (.getfield 22, 3) := by decide +kernel
theorem dX2_nodeX_25 : decode cX2_nodeX 25 = .ok (.imul, 1) := by decide +kernel
theorem dX2_nodeX_26 : decode cX2_nodeX 26 = .ok (.iadd, 1) := by decide +kernel
theorem dX2_nodeX_27 : decode cX2_nodeX 27 = .ok (.ireturn, 1) := by decide +kernel
theorem dX2_nodeY_0 : decode cX2_nodeY 0 = .ok (.aload_n 0, 1) := by decide +kernel
theorem dX2_nodeY_1 : decode cX2_nodeY 1 = .ok (.getfield 13, 3) := by decide +kernel
theorem dX2_nodeY_4 : decode cX2_nodeY 4 = .ok (.aload_n 0, 1) := by decide +kernel
theorem dX2_nodeY_5 : decode cX2_nodeY 5 = .ok (.getfield 16, 3) := by decide +kernel
theorem dX2_nodeY_8 : decode cX2_nodeY 8 = .ok (.ifCond .ne 7, 3) := by decide +kernel
theorem dX2_nodeY_11 : decode cX2_nodeY 11 = .ok (.iconst 0, 1) := by decide +kernel
theorem dX2_nodeY_12 : decode cX2_nodeY 12 = .ok (.goto 9, 3) := by decide +kernel
theorem dX2_nodeY_15 : decode cX2_nodeY 15 = .ok (.iload_n 1, 1) := by decide +kernel
theorem dX2_nodeY_16 : decode cX2_nodeY 16 = .ok (.aload_n 0, 1) := by decide +kernel
theorem dX2_nodeY_17 : decode cX2_nodeY 17 = .ok (.getfield 16, 3) := by decide +kernel
theorem dX2_nodeY_20 : decode cX2_nodeY 20 = .ok (.idiv, 1) := by decide +kernel
theorem dX2_nodeY_21 : decode cX2_nodeY 21 = .ok (.aload_n 0, 1) := by decide +kernel
theorem dX2_nodeY_22 : decode cX2_nodeY 22 = .ok (.getfield 22, 3) := by decide +kernel
theorem dX2_nodeY_25 : decode cX2_nodeY 25 = .ok (.imul, 1) := by decide +kernel
theorem dX2_nodeY_26 : decode cX2_nodeY 26 = .ok (.iadd, 1) := by decide +kernel
theorem dX2_nodeY_27 : decode cX2_nodeY 27 = .ok (.ireturn, 1) := by decide +kernel
theorem dX3_init_0 : decode cX3_init 0 = .ok (.aload_n 0, 1) := by decide +kernel
theorem dX3_init_1 : decode cX3_init 1 = .ok (.invokespecial 3, 3) := by decide +kernel
theorem dX3_init_4 : decode cX3_init 4 = .ok (.aload_n 0, 1) := by decide +kernel
theorem dX3_init_5 : decode cX3_init 5 = .ok (.bipush 60, 2) := by decide +kernel
theorem dX3_init_7 : decode cX3_init 7 = .ok (.newarray .int, 2) := by decide +kernel
theorem dX3_init_9 : decode cX3_init 9 = .ok (.putfield 9, 3) := by decide +kernel
theorem dX3_init_12 : decode cX3_init 12 = .ok (.aload_n 0, 1) := by decide +kernel
theorem dX3_init_13 : decode cX3_init 13 = .ok (.bipush 60, 2) := by decide +kernel
theorem dX3_init_15 : decode cX3_init 15 = .ok (.newarray .int, 2) := by decide +kernel
theorem dX3_init_17 : decode cX3_init 17 = .ok (.putfield 15, 3) := by decide +kernel
theorem dX3_init_20 : decode cX3_init 20 = .ok (.return_, 1) := by decide +kernel
theorem dX3_gather_0 : decode cX3_gather 0 = .ok (.aload_n 0, 1) := by decide +kernel
theorem dX3_gather_1 : decode cX3_gather 1 = .ok (.iconst 0, 1) := by decide +kernel
theorem dX3_gather_2 : decode cX3_gather 2 = .ok (.putfield 18, 3) := by decide +kernel
theorem dX3_gather_5 : decode cX3_gather 5 = .ok (.iconst 0, 1) := by decide +kernel
theorem dX3_gather_6 : decode cX3_gather 6 = .ok (.istore_n 3, 1) := by decide +kernel
theorem dX3_gather_7 : decode cX3_gather 7 = .ok (.iload_n 3, 1) := by decide +kernel
theorem dX3_gather_8 : decode cX3_gather 8 = .ok (.aload_n 1, 1) := by decide +kernel
theorem dX3_gather_9 : decode cX3_gather 9 = .ok (.getfield 22, 3) := by decide +kernel
theorem dX3_gather_12 : decode cX3_gather 12 = .ok (.if_icmp .ge 54, 3) := by decide +kernel
theorem dX3_gather_15 : decode cX3_gather 15 = .ok (.iload_n 3, 1) := by decide +kernel
theorem dX3_gather_16 : decode cX3_gather 16 = .ok (.bipush 60, 2) := by decide +kernel
theorem dX3_gather_18 : decode cX3_gather 18 = .ok (.if_icmp .ge 48, 3) := by decide +kernel
theorem dX3_gather_21 : decode cX3_gather 21 = .ok (.aload_n 1, 1) := by decide +kernel
theorem dX3_gather_22 : decode cX3_gather 22 = .ok (.getfield 27, 3) := by decide +kernel
theorem dX3_gather_25 : decode cX3_gather 25 = .ok (.iload_n 3, 1) := by decide +kernel
theorem dX3_gather_26 : decode cX3_gather 26 = .ok (.iaload, 1) := by decide +kernel
theorem dX3_gather_27 : decode cX3_gather 27 = .ok (.iload_n 2, 1) := by decide +kernel
theorem dX3_gather_28 : decode cX3_gather 28 = .ok (.if_icmp .ne 32, 3) := by decide +kernel
theorem dX3_gather_31 : decode cX3_gather 31 = .ok (.aload_n 0, 1) := by decide +kernel
theorem dX3_gather_32 : decode cX3_gather 32 = .ok (.getfield 18, 3) := by decide +kernel
theorem dX3_gather_35 : decode cX3_gather 35 = .ok (.bipush 60, 2) := by decide +kernel
theorem dX3_gather_37 : decode cX3_gather 37 = .ok (.if_icmp .ge 23, 3) := by decide +kernel
theorem dX3_gather_40 : decode cX3_gather 40 = .ok (.aload_n 0, 1) := by decide +kernel
theorem dX3_gather_41 : decode cX3_gather 41 = .ok (.getfield 9, 3) := by decide +kernel
theorem dX3_gather_44 : decode cX3_gather 44 = .ok (.aload_n 0, 1) := by decide +kernel
theorem dX3_gather_45 : decode cX3_gather 45 = .ok (.getfield 18, 3) := by decide +kernel
theorem dX3_gather_48 : decode cX3_gather 48 = .ok (.iload_n 3, 1) := by decide +kernel
theorem dX3_gather_49 : decode cX3_gather 49 = .ok (.iastore, 1) := by decide +kernel
theorem dX3_gather_50 : decode cX3_gather 50 = .ok (.aload_n 0, 1) := by decide +kernel
theorem dX3_gather_51 : decode cX3_gather 51 = .ok (.dup, 1) := by decide +kernel
theorem dX3_gather_52 : decode cX3_gather 52 = .ok (.getfield 18, 3) := by decide +kernel
theorem dX3_gather_55 : decode cX3_gather 55 = .ok (.iconst 1, 1) := by decide +kernel
theorem dX3_gather_56 : decode cX3_gather 56 = .ok (.iadd, 1) := by decide +kernel
theorem dX3_gather_57 : decode cX3_gather 57 = .ok (.putfield 18, 3) := by decide +kernel
theorem dX3_gather_60 : decode cX3_gather 60 = .ok (.iinc 3 1, 3) := by decide +kernel
theorem dX3_gather_63 : decode cX3_gather 63 = .ok (.goto (-56), 3) := by decide +kernel
theorem dX3_gather_66 : decode cX3_gather 66 = .ok (.return_, 1) := by decide +kernel
set_option maxRecDepth 20000 in
theorem ggX3_locate_X3_gather : GoodIn wsX3_locate wsX3_gather := goodIn_r _ [7, 8, 9, 10, 11, 50, 51, 52, 53, 54, 55, 71, 72, 73, 74, 75, 76, 77, 78, 79, 80, 81, 82, 83, 84, 85, 86, 87] (by decide +kernel) (by decide +kernel)
set_option maxRecDepth 20000 in
theorem gX3_locate_X3_gather : GoodIn wsX3_locate (wsV RX3 30 RX3 yX3_gather wsX3_gather) := goodIn_app (goodIn_of _ (by decide +kernel)) ggX3_locate_X3_gather
set_option maxRecDepth 20000 in
theorem ggX3_locate_X3_weigh : GoodIn wsX3_locate wsX3_weigh := goodIn_r _ [15, 16, 8, 11, 17, 1, 18, 19, 20, 21, 22, 23, 24, 6, 25, 26, 27, 28, 29, 30, 31, 32, 33, 34, 35, 36, 37, 38, 39, 40, 41, 42, 50, 51, 52, 53, 54, 55, 71, 72, 73, 74, 75, 76, 77, 78, 79, 80, 81, 82, 83, 84, 85, 86, 87, 56, 57, 58, 59, 60, 61, 62, 63, 64, 65, 66, 67, 68, 69, 70] (by decide +kernel) (by decide +kernel)
set_option maxRecDepth 20000 in
theorem gX3_locate_X3_weigh : GoodIn wsX3_locate (wsV RX3 34 RX3 yX3_weigh wsX3_weigh) := goodIn_app (goodIn_of _ (by decide +kernel)) ggX3_locate_X3_weigh
set_option maxRecDepth 20000 in
theorem ggX3_locate_X2_nodeCount : GoodIn wsX3_locate wsX2_nodeCount := goodIn_r _ [47, 48, 49, 88, 89, 90, 91, 92] (by decide +kernel) (by decide +kernel)
set_option maxRecDepth 20000 in
theorem gX3_locate_X2_nodeCount : GoodIn wsX3_locate (wsV RX3 47 RX2 yX2_nodeCount wsX2_nodeCount) := goodIn_app (goodIn_of _ (by decide +kernel)) ggX3_locate_X2_nodeCount
theorem dX3_locate_0 : decode cX3_locate 0 = .ok (.aload_n 0, 1) := by decide +kernel
theorem dX3_locate_1 : decode cX3_locate 1 = .ok (.aload_n 2, 1) := by decide +kernel
theorem dX3_locate_2 : decode cX3_locate 2 = .ok (.iload_n 3, 1) := by decide +kernel
theorem dX3_locate_3 : decode cX3_locate 3 = .ok (.invokevirtual 30, 3) := by decide +kernel
theorem dX3_locate_6 : decode cX3_locate 6 = .ok (.iconst 0, 1) := by decide +kernel
theorem dX3_locate_7 : decode cX3_locate 7 = .ok (.istore 4, 2) := by decide +kernel
theorem dX3_locate_9 : decode cX3_locate 9 = .ok (.aload_n 0, 1) := by decide +kernel
theorem dX3_locate_10 : decode cX3_locate 10 = .ok (.aload_n 1, 1) := by decide +kernel
theorem dX3_locate_11 : decode cX3_locate 11 = .ok (.aload_n 2, 1) := by decide +kernel
theorem dX3_locate_12 : decode cX3_locate 12 = .ok (.iconst 0, 1) := by decide +kernel
theorem dX3_locate_13 : decode cX3_locate 13 = .ok (.invokevirtual 34, 3) := by decide +kernel
theorem dX3_locate_16 : decode cX3_locate 16 = .ok (.aload_n 0, 1) := by decide +kernel
theorem dX3_locate_17 : decode cX3_locate 17 = .ok (.getfield 38, 3) := by decide +kernel
theorem dX3_locate_20 : decode cX3_locate 20 = .ok (.istore 5, 2) := by decide +kernel
theorem dX3_locate_22 : decode cX3_locate 22 = .ok (.iconst 1, 1) := by decide +kernel
theorem dX3_locate_23 : decode cX3_locate 23 = .ok (.istore 6, 2) := by decide +kernel
theorem dX3_locate_25 : decode cX3_locate 25 = .ok (.iload 6, 2) := by decide +kernel
theorem dX3_locate_27 : decode cX3_locate 27 = .ok (.aload_n 1, 1) := by decide +kernel
theorem dX3_locate_28 : decode cX3_locate 28 = .ok (.getfield 41, 3) := by decide +kernel
theorem dX3_locate_31 : decode cX3_locate 31 = .ok (.invokevirtual 47, 3) := by decide +kernel
theorem dX3_locate_34 : decode cX3_locate 34 = .ok (.if_icmp .ge 44, 3) := by decide +kernel
theorem dX3_locate_37 : decode cX3_locate 37 = .ok (.iload 6, 2) := by decide +kernel
theorem dX3_locate_39 : decode cX3_locate 39 = .ok (.sipush 144, 3) := by decide +kernel
theorem dX3_locate_42 : decode cX3_locate 42 = .ok (.if_icmp .ge 36, 3) := by decide +kernel
theorem dX3_locate_45 : decode cX3_locate 45 = .ok (.aload_n 0, 1) := by decide +kernel
theorem dX3_locate_46 : decode cX3_locate 46 = .ok (.aload_n 1, 1) := by decide +kernel
theorem dX3_locate_47 : decode cX3_locate 47 = .ok (.aload_n 2, 1) := by decide +kernel
theorem dX3_locate_48 : decode cX3_locate 48 = .ok (.iload 6, 2) := by decide +kernel
theorem dX3_locate_50 : decode cX3_locate 50 = .ok (.invokevirtual 34, 3) := by decide +kernel
theorem dX3_locate_53 : decode cX3_locate 53 = .ok (.aload_n 0, 1) := by decide +kernel
theorem dX3_locate_54 : decode cX3_locate 54 = .ok (.getfield 38, 3) := by decide +kernel
theorem dX3_locate_57 : decode cX3_locate 57 = .ok (.iload 5, 2) := by decide +kernel
theorem dX3_locate_59 : decode cX3_locate 59 = .ok (.if_icmp .ge 13, 3) := by decide +kernel
theorem dX3_locate_62 : decode cX3_locate 62 = .ok (.aload_n 0, 1) := by decide +kernel
theorem dX3_locate_63 : decode cX3_locate 63 = .ok (.getfield 38, 3) := by decide +kernel
theorem dX3_locate_66 : decode cX3_locate 66 = .ok (.istore 5, 2) := by decide +kernel
theorem dX3_locate_68 : decode cX3_locate 68 = .ok (.iload 6, 2) := by decide +kernel
theorem dX3_locate_70 : decode cX3_locate 70 = .ok (.istore 4, 2) := by decide +kernel
theorem dX3_locate_72 : decode cX3_locate 72 = .ok (.iinc 6 1, 3) := by decide +kernel
theorem dX3_locate_75 : decode cX3_locate 75 = .ok (.goto (-50), 3) := by decide +kernel
theorem dX3_locate_78 : decode cX3_locate 78 = .ok (.aload_n 0, 1) := by decide +kernel
theorem dX3_locate_79 : decode cX3_locate 79 = .ok (.aload_n 1, 1) := by decide +kernel
theorem dX3_locate_80 : decode cX3_locate 80 = .ok (.aload_n 2, 1) := by decide +kernel
theorem dX3_locate_81 : decode cX3_locate 81 = .ok (.iload 4, 2) := by decide +kernel
theorem dX3_locate_83 : decode cX3_locate 83 = .ok (.invokevirtual 34, 3) := by decide +kernel
theorem dX3_locate_86 : decode cX3_locate 86 = .ok (.return_, 1) := by decide +kernel
set_option maxRecDepth 20000 in
theorem ggX3_weigh_X3_delay : GoodIn wsX3_weigh wsX3_delay := goodIn_r _ [14, 15, 1, 16, 17, 18, 19, 20, 21, 22, 23, 24, 25, 26, 27, 28, 29, 30, 31, 38, 39, 40, 41, 42, 43, 44, 45, 46, 47, 48, 49, 50, 51, 52, 53, 54, 32, 33, 34, 35, 36, 37, 55, 56, 57, 58, 59, 60, 61, 62, 63, 64, 65, 66, 67, 68, 69] (by decide +kernel) (by decide +kernel)
set_option maxRecDepth 20000 in
theorem gX3_weigh_X3_delay : GoodIn wsX3_weigh (wsV RX3 56 RX3 yX3_delay wsX3_delay) := goodIn_app (goodIn_of _ (by decide +kernel)) ggX3_weigh_X3_delay
theorem dX3_weigh_0 : decode cX3_weigh 0 = .ok (.aload_n 0, 1) := by decide +kernel
theorem dX3_weigh_1 : decode cX3_weigh 1 = .ok (.iload_n 3, 1) := by decide +kernel
theorem dX3_weigh_2 : decode cX3_weigh 2 = .ok (.putfield 53, 3) := by decide +kernel
theorem dX3_weigh_5 : decode cX3_weigh 5 = .ok (.iconst 0, 1) := by decide +kernel
theorem dX3_weigh_6 : decode cX3_weigh 6 = .ok (.istore 4, 2) := by decide +kernel
theorem dX3_weigh_8 : decode cX3_weigh 8 = .ok (.iconst 0, 1) := by decide +kernel
theorem dX3_weigh_9 : decode cX3_weigh 9 = .ok (.istore 5, 2) := by decide +kernel
theorem dX3_weigh_11 : decode cX3_weigh 11 = .ok (.iload 5, 2) := by decide +kernel
theorem dX3_weigh_13 : decode cX3_weigh 13 = .ok (.aload_n 0, 1) := by decide +kernel
theorem dX3_weigh_14 : decode cX3_weigh 14 = .ok (.getfield 18, 3) := by decide +kernel
theorem dX3_weigh_17 : decode cX3_weigh 17 = .ok (.if_icmp .ge 34, 3) := by decide +kernel
theorem dX3_weigh_20 : decode cX3_weigh 20 = .ok (.iload 5, 2) := by decide +kernel
theorem dX3_weigh_22 : decode cX3_weigh 22 = .ok (.bipush 60, 2) := by decide +kernel
theorem dX3_weigh_24 : decode cX3_weigh 24 = .ok (.if_icmp .ge 27, 3) := by decide +kernel
theorem dX3_weigh_27 : decode cX3_weigh 27 = .ok (.iload 4, 2) := by decide +kernel
theorem dX3_weigh_29 : decode cX3_weigh 29 = .ok (.aload_n 0, 1) := by decide +kernel
theorem dX3_weigh_30 : decode cX3_weigh 30 = .ok (.aload_n 1, 1) := by decide +kernel
theorem dX3_weigh_31 : decode cX3_weigh 31 = .ok (.aload_n 2, 1) := by decide +kernel
theorem dX3_weigh_32 : decode cX3_weigh 32 = .ok (.aload_n 0, 1) := by decide +kernel
theorem dX3_weigh_33 : decode cX3_weigh 33 = .ok (.getfield 9, 3) := by decide +kernel
theorem dX3_weigh_36 : decode cX3_weigh 36 = .ok (.iload 5, 2) := by decide +kernel
theorem dX3_weigh_38 : decode cX3_weigh 38 = .ok (.iaload, 1) := by decide +kernel
theorem dX3_weigh_39 : decode cX3_weigh 39 = .ok (.invokevirtual 56, 3) := by decide +kernel
theorem dX3_weigh_42 : decode cX3_weigh 42 = .ok (.iadd, 1) := by decide +kernel
theorem dX3_weigh_43 : decode cX3_weigh 43 = .ok (.istore 4, 2) := by decide +kernel
theorem dX3_weigh_45 : decode cX3_weigh 45 = .ok (.iinc 5 1, 3) := by decide +kernel
theorem dX3_weigh_48 : decode cX3_weigh 48 = .ok (.goto (-37), 3) := by decide +kernel
theorem dX3_weigh_51 : decode cX3_weigh 51 = .ok (.aload_n 0, 1) := by decide +kernel
theorem dX3_weigh_52 : decode cX3_weigh 52 = .ok (.aload_n 0, 1) := by decide +kernel
theorem dX3_weigh_53 : decode cX3_weigh 53 = .ok (.getfield 18, 3) := by decide +kernel
theorem dX3_weigh_56 : decode cX3_weigh 56 = .ok (.ifCond .ne 7, 3) := by decide +kernel
theorem dX3_weigh_59 : decode cX3_weigh 59 = .ok (.iconst 0, 1) := by decide +kernel
theorem dX3_weigh_60 : decode cX3_weigh 60 = .ok (.goto 10, 3) := by decide +kernel
theorem dX3_weigh_63 : decode cX3_weigh 63 = .ok (.iload 4, 2) := by decide +kernel
theorem dX3_weigh_65 : decode cX3_weigh 65 = .ok (.aload_n 0, 1) := by decide +kernel
theorem dX3_weigh_66 : decode cX3_weigh 66 = .ok (.getfield 18, 3) := by decide +kernel
theorem dX3_weigh_69 : decode cX3_weigh 69 = .ok (.idiv, 1) := by decide +kernel
theorem dX3_weigh_70 : decode cX3_weigh 70 = .ok (.putfield 60, 3) := by decide +kernel
theorem dX3_weigh_73 : decode cX3_weigh 73 = .ok (.aload_n 0, 1) := by decide +kernel
theorem dX3_weigh_74 : decode cX3_weigh 74 = .ok (.iconst 0, 1) := by decide +kernel
theorem dX3_weigh_75 : decode cX3_weigh 75 = .ok (.putfield 38, 3) := by decide +kernel
theorem dX3_weigh_78 : decode cX3_weigh 78 = .ok (.iconst 0, 1) := by decide +kernel
theorem dX3_weigh_79 : decode cX3_weigh 79 = .ok (.istore 5, 2) := by decide +kernel
theorem dX3_weigh_81 : decode cX3_weigh 81 = .ok (.iload 5, 2) := by decide +kernel
theorem dX3_weigh_83 : decode cX3_weigh 83 = .ok (.aload_n 0, 1) := by decide +kernel
theorem dX3_weigh_84 : decode cX3_weigh 84 = .ok (.getfield 18, 3) := by decide +kernel
theorem dX3_weigh_87 : decode cX3_weigh 87 = .ok (.if_icmp .ge 46, 3) := by decide +kernel
theorem dX3_weigh_90 : decode cX3_weigh 90 = .ok (.iload 5, 2) := by decide +kernel
theorem dX3_weigh_92 : decode cX3_weigh 92 = .ok (.bipush 60, 2) := by decide +kernel
theorem dX3_weigh_94 : decode cX3_weigh 94 = .ok (.if_icmp .ge 39, 3) := by decide +kernel
theorem dX3_weigh_97 : decode cX3_weigh 97 = .ok (.aload_n 0, 1) := by decide +kernel
theorem dX3_weigh_98 : decode cX3_weigh 98 = .ok (.dup, 1) := by decide +kernel
theorem dX3_weigh_99 : decode cX3_weigh 99 = .ok (.getfield 38, 3) := by decide +kernel
theorem dX3_weigh_102 : decode cX3_weigh 102 = .ok (.aload_n 0, 1) := by decide +kernel
theorem dX3_weigh_103 : decode cX3_weigh 103 = .ok (.aload_n 1, 1) := by decide +kernel
theorem dX3_weigh_104 : decode cX3_weigh 104 = .ok (.aload_n 2, 1) := by decide +kernel
theorem dX3_weigh_105 : decode cX3_weigh 105 = .ok (.aload_n 0, 1) := by decide +kernel
theorem dX3_weigh_106 : decode cX3_weigh 106 = .ok (.getfield 9, 3) := by decide +kernel
theorem dX3_weigh_109 : decode cX3_weigh 109 = .ok (.iload 5, 2) := by decide +kernel
theorem dX3_weigh_111 : decode cX3_weigh 111 = .ok (.iaload, 1) := by decide +kernel
theorem dX3_weigh_112 : decode cX3_weigh 112 = .ok (.invokevirtual 56, 3) := by decide +kernel
theorem dX3_weigh_115 : decode cX3_weigh 115 = .ok (.aload_n 0, 1) := by decide +kernel
theorem dX3_weigh_116 : decode cX3_weigh 116 = .ok (.getfield 60, 3) := by decide +kernel
theorem dX3_weigh_119 : decode cX3_weigh 119 = .ok (.isub, 1) := by decide +kernel
theorem dX3_weigh_120 : decode cX3_weigh 120 = .ok (.invokestatic 63, 3) := by decide +kernel
theorem dX3_weigh_123 : decode cX3_weigh 123 = .ok (.iadd, 1) := by decide +kernel
theorem dX3_weigh_124 : decode cX3_weigh 124 = .ok (.putfield 38, 3) := by decide +kernel
theorem dX3_weigh_127 : decode cX3_weigh 127 = .ok (.iinc 5 1, 3) := by decide +kernel
theorem dX3_weigh_130 : decode cX3_weigh 130 = .ok (.goto (-49), 3) := by decide +kernel
theorem dX3_weigh_133 : decode cX3_weigh 133 = .ok (.return_, 1) := by decide +kernel
set_option maxRecDepth 20000 in
theorem ggX3_delay_X5_travelFromNode : GoodIn wsX3_delay wsX5_travelFromNode := goodIn_r _ [8, 9, 10, 11, 7, 12, 13, 14, 15, 16, 17, 18, 42, 43, 44, 45, 46, 47, 48, 49, 50, 51, 52, 53, 54, 55, 56] (by decide +kernel) (by decide +kernel)
set_option maxRecDepth 20000 in
theorem gX3_delay_X5_travelFromNode : GoodIn wsX3_delay (wsV RX3 75 RX5 yX5_travelFromNode wsX5_travelFromNode) := goodIn_app (goodIn_of _ (by decide +kernel)) ggX3_delay_X5_travelFromNode
theorem dX3_delay_0 : decode cX3_delay 0 = .ok (.iload_n 3, 1) := by decide +kernel
theorem dX3_delay_1 : decode cX3_delay 1 = .ok (.ifCond .lt 9, 3) := by decide +kernel
theorem dX3_delay_4 : decode cX3_delay 4 = .ok (.iload_n 3, 1) := by decide +kernel
theorem dX3_delay_5 : decode cX3_delay 5 = .ok (.bipush 60, 2) := by decide +kernel
theorem dX3_delay_7 : decode cX3_delay 7 = .ok (.if_icmp .lt 5, 3) := by decide +kernel
theorem dX3_delay_10 : decode cX3_delay 10 = .ok (.iconst 0, 1) := by decide +kernel
theorem dX3_delay_11 : decode cX3_delay 11 = .ok (.ireturn, 1) := by decide +kernel
theorem dX3_delay_12 : decode cX3_delay 12 = .ok (.aload_n 2, 1) := by decide +kernel
theorem dX3_delay_13 : decode cX3_delay 13 = .ok (.getfield 69, 3) := by decide +kernel
theorem dX3_delay_16 : decode cX3_delay 16 = .ok (.iload_n 3, 1) := by decide +kernel
theorem dX3_delay_17 : decode cX3_delay 17 = .ok (.iaload, 1) := by decide +kernel
theorem dX3_delay_18 : decode cX3_delay 18 = .ok (.aload_n 1, 1) := by decide +kernel
theorem dX3_delay_19 : decode cX3_delay 19 = .ok (.aload_n 0, 1) := by decide +kernel
theorem dX3_delay_20 : decode cX3_delay 20 = .ok (.getfield 53, 3) := by decide +kernel
theorem dX3_delay_23 : decode cX3_delay 23 = .ok (.aload_n 2, 1) := by decide +kernel
theorem dX3_delay_24 : decode cX3_delay 24 = .ok (.getfield 72, 3) := by decide +kernel
theorem dX3_delay_27 : decode cX3_delay 27 = .ok (.iload_n 3, 1) := by decide +kernel
theorem dX3_delay_28 : decode cX3_delay 28 = .ok (.iaload, 1) := by decide +kernel
theorem dX3_delay_29 : decode cX3_delay 29 = .ok (.invokevirtual 75, 3) := by decide +kernel
theorem dX3_delay_32 : decode cX3_delay 32 = .ok (.isub, 1) := by decide +kernel
theorem dX3_delay_33 : decode cX3_delay 33 = .ok (.ireturn, 1) := by decide +kernel
set_option maxRecDepth 20000 in
theorem ggX3_magnitude_X3_magnitudeOfPick : GoodIn wsX3_magnitude wsX3_magnitudeOfPick := goodIn_r _ [8, 9, 10, 11, 12, 13, 14, 15, 16, 17, 18, 19, 20, 21, 22, 23, 24, 25, 26, 27, 32, 33, 34, 35, 36, 37, 38, 39, 40, 41, 42, 43, 44, 45, 46, 47, 48, 49, 50, 51, 52, 53, 54, 55, 56, 57, 58, 59, 60, 61, 62, 63, 64, 65, 66, 67, 68, 69, 70, 71, 72] (by decide +kernel) (by decide +kernel)
set_option maxRecDepth 20000 in
theorem gX3_magnitude_X3_magnitudeOfPick : GoodIn wsX3_magnitude (wsV RX3 79 RX3 yX3_magnitudeOfPick wsX3_magnitudeOfPick) := goodIn_app (goodIn_of _ (by decide +kernel)) ggX3_magnitude_X3_magnitudeOfPick
set_option maxRecDepth 20000 in
theorem ggX3_magnitude_X3_insert : GoodIn wsX3_magnitude wsX3_insert := goodIn_r _ [31, 3, 32, 33, 34, 35, 36, 37] (by decide +kernel) (by decide +kernel)
set_option maxRecDepth 20000 in
theorem gX3_magnitude_X3_insert : GoodIn wsX3_magnitude (wsV RX3 82 RX3 yX3_insert wsX3_insert) := goodIn_app (goodIn_of _ (by decide +kernel)) ggX3_magnitude_X3_insert
theorem dX3_magnitude_0 : decode cX3_magnitude 0 = .ok (.iconst 0, 1) := by decide +kernel
theorem dX3_magnitude_1 : decode cX3_magnitude 1 = .ok (.istore_n 3, 1) := by decide +kernel
theorem dX3_magnitude_2 : decode cX3_magnitude 2 = .ok (.iload_n 3, 1) := by decide +kernel
theorem dX3_magnitude_3 : decode cX3_magnitude 3 = .ok (.aload_n 0, 1) := by decide +kernel
theorem dX3_magnitude_4 : decode cX3_magnitude 4 = .ok (.getfield 18, 3) := by decide +kernel
theorem dX3_magnitude_7 : decode cX3_magnitude 7 = .ok (.if_icmp .ge 32, 3) := by decide +kernel
theorem dX3_magnitude_10 : decode cX3_magnitude 10 = .ok (.iload_n 3, 1) := by decide +kernel
theorem dX3_magnitude_11 : decode cX3_magnitude 11 = .ok (.bipush 60, 2) := by decide +kernel
theorem dX3_magnitude_13 : decode cX3_magnitude 13 = .ok (.if_icmp .ge 26, 3) := by decide +kernel
theorem dX3_magnitude_16 : decode cX3_magnitude 16 = .ok (.aload_n 0, 1) := by decide +kernel
theorem dX3_magnitude_17 : decode cX3_magnitude 17 = .ok (.iload_n 3, 1) := by decide +kernel
theorem dX3_magnitude_18 : decode cX3_magnitude 18 = .ok (.aload_n 0, 1) := by decide +kernel
theorem dX3_magnitude_19 : decode cX3_magnitude 19 = .ok (.aload_n 1, 1) := by decide +kernel
theorem dX3_magnitude_20 : decode cX3_magnitude 20 = .ok (.aload_n 2, 1) := by decide +kernel
theorem dX3_magnitude_21 : decode cX3_magnitude 21 = .ok (.aload_n 0, 1) := by decide +kernel
theorem dX3_magnitude_22 : decode cX3_magnitude 22 = .ok (.getfield 9, 3) := by decide +kernel
theorem dX3_magnitude_25 : decode cX3_magnitude 25 = .ok (.iload_n 3, 1) := by decide +kernel
theorem dX3_magnitude_26 : decode cX3_magnitude 26 = .ok (.iaload, 1) := by decide +kernel
theorem dX3_magnitude_27 : decode cX3_magnitude 27 = .ok (.invokevirtual 79, 3) := by decide +kernel
theorem dX3_magnitude_30 : decode cX3_magnitude 30 = .ok (.invokevirtual 82, 3) := by decide +kernel
theorem dX3_magnitude_33 : decode cX3_magnitude 33 = .ok (.iinc 3 1, 3) := by decide +kernel
theorem dX3_magnitude_36 : decode cX3_magnitude 36 = .ok (.goto (-34), 3) := by decide +kernel
theorem dX3_magnitude_39 : decode cX3_magnitude 39 = .ok (.aload_n 0, 1) := by decide +kernel
theorem dX3_magnitude_40 : decode cX3_magnitude 40 = .ok (.getfield 18, 3) := by decide +kernel
theorem dX3_magnitude_43 : decode cX3_magnitude 43 = .ok (.iconst 1, 1) := by decide +kernel
theorem dX3_magnitude_44 : decode cX3_magnitude 44 = .ok (.isub, 1) := by decide +kernel
theorem dX3_magnitude_45 : decode cX3_magnitude 45 = .ok (.iconst 2, 1) := by decide +kernel
theorem dX3_magnitude_46 : decode cX3_magnitude 46 = .ok (.idiv, 1) := by decide +kernel
theorem dX3_magnitude_47 : decode cX3_magnitude 47 = .ok (.istore_n 3, 1) := by decide +kernel
theorem dX3_magnitude_48 : decode cX3_magnitude 48 = .ok (.aload_n 0, 1) := by decide +kernel
theorem dX3_magnitude_49 : decode cX3_magnitude 49 = .ok (.getfield 18, 3) := by decide +kernel
theorem dX3_magnitude_52 : decode cX3_magnitude 52 = .ok (.ifCond .le 18, 3) := by decide +kernel
theorem dX3_magnitude_55 : decode cX3_magnitude 55 = .ok (.iload_n 3, 1) := by decide +kernel
theorem dX3_magnitude_56 : decode cX3_magnitude 56 = .ok (.bipush 60, 2) := by decide +kernel
theorem dX3_magnitude_58 : decode cX3_magnitude 58 = .ok (.if_icmp .ge 12, 3) := by decide +kernel
theorem dX3_magnitude_61 : decode cX3_magnitude 61 = .ok (.aload_n 0, 1) := by decide +kernel
theorem dX3_magnitude_62 : decode cX3_magnitude 62 = .ok (.getfield 15, 3) := by decide +kernel
theorem dX3_magnitude_65 : decode cX3_magnitude 65 = .ok (.iload_n 3, 1) := by decide +kernel
theorem dX3_magnitude_66 : decode cX3_magnitude 66 = .ok (.iaload, 1) := by decide +kernel
theorem dX3_magnitude_67 : decode cX3_magnitude 67 = .ok (.goto 4, 3) := by decide +kernel
theorem dX3_magnitude_70 : decode cX3_magnitude 70 = .ok (.iconst (-1), 1) := by decide +kernel
theorem dX3_magnitude_71 : decode cX3_magnitude 71 = .ok (.ireturn, 1) := by decide +kernel
set_option maxRecDepth 20000 in
theorem ggX3_magnitudeOfPick_X5_distanceFromNode : GoodIn wsX3_magnitudeOfPick wsX5_distanceFromNode := goodIn_r _ [10, 11, 43, 44, 45, 46, 47, 48, 49, 50, 51, 52, 53, 54, 55, 56, 57] (by decide +kernel) (by decide +kernel)
set_option maxRecDepth 20000 in
theorem gX3_magnitudeOfPick_X5_distanceFromNode : GoodIn wsX3_magnitudeOfPick (wsV RX3 86 RX5 yX5_distanceFromNode wsX5_distanceFromNode) := goodIn_app (goodIn_of _ (by decide +kernel)) ggX3_magnitudeOfPick_X5_distanceFromNode
set_option maxRecDepth 20000 in
theorem ggX3_magnitudeOfPick_X6_magnitudeOf : GoodIn wsX3_magnitudeOfPick wsX6_magnitudeOf := goodIn_r _ [16, 17, 18, 19, 58, 59, 60] (by decide +kernel) (by decide +kernel)
set_option maxRecDepth 20000 in
theorem gX3_magnitudeOfPick_X6_magnitudeOf : GoodIn wsX3_magnitudeOfPick (wsV RX3 99 RX6 yX6_magnitudeOf wsX6_magnitudeOf) := goodIn_app (goodIn_of _ (by decide +kernel)) ggX3_magnitudeOfPick_X6_magnitudeOf
theorem dX3_magnitudeOfPick_0 : decode cX3_magnitudeOfPick 0 = .ok (.iload_n 3, 1) := by decide +kernel
theorem dX3_magnitudeOfPick_1 : decode cX3_magnitudeOfPick 1 = .ok (.ifCond .lt 9, 3) := by decide +kernel
theorem dX3_magnitudeOfPick_4 : decode cX3_magnitudeOfPick 4 = .ok (.iload_n 3, 1) := by decide +kernel
theorem dX3_magnitudeOfPick_5 : decode cX3_magnitudeOfPick 5 = .ok (.bipush 60, 2) := by decide +kernel
theorem dX3_magnitudeOfPick_7 : decode cX3_magnitudeOfPick 7 = .ok (.if_icmp .lt 5, 3) := by decide +kernel
theorem dX3_magnitudeOfPick_10 : decode cX3_magnitudeOfPick 10 = .ok (.iconst (-1), 1) := by decide +kernel
theorem dX3_magnitudeOfPick_11 : decode cX3_magnitudeOfPick 11 = .ok (.ireturn, 1) := by decide +kernel
theorem dX3_magnitudeOfPick_12 : decode cX3_magnitudeOfPick 12 = .ok (.aload_n 1, 1) := by decide +kernel
theorem dX3_magnitudeOfPick_13 : decode cX3_magnitudeOfPick 13 = .ok (.aload_n 0, 1) := by decide +kernel
theorem dX3_magnitudeOfPick_14 : decode cX3_magnitudeOfPick 14 = .ok (.getfield 53, 3) := by decide +kernel
theorem dX3_magnitudeOfPick_17 : decode cX3_magnitudeOfPick 17 = .ok (.aload_n 2, 1) := by decide +kernel
theorem dX3_magnitudeOfPick_18 : decode cX3_magnitudeOfPick 18 = .ok (.getfield 72, 3) := by decide +kernel
theorem dX3_magnitudeOfPick_21 : decode cX3_magnitudeOfPick 21 = .ok (.iload_n 3, 1) := by decide +kernel
theorem dX3_magnitudeOfPick_22 : decode cX3_magnitudeOfPick 22 = .ok (.iaload, 1) := by decide +kernel
theorem dX3_magnitudeOfPick_23 : decode cX3_magnitudeOfPick 23 = .ok (.invokevirtual 86, 3) := by decide +kernel
theorem dX3_magnitudeOfPick_26 : decode cX3_magnitudeOfPick 26 = .ok (.istore 4, 2) := by decide +kernel
theorem dX3_magnitudeOfPick_28 : decode cX3_magnitudeOfPick 28 = .ok (.aload_n 1, 1) := by decide +kernel
theorem dX3_magnitudeOfPick_29 : decode cX3_magnitudeOfPick 29 = .ok (.getfield 89, 3) := by decide +kernel
theorem dX3_magnitudeOfPick_32 : decode cX3_magnitudeOfPick 32 = .ok (.aload_n 2, 1) := by decide +kernel
theorem dX3_magnitudeOfPick_33 : decode cX3_magnitudeOfPick 33 = .ok (.getfield 93, 3) := by decide +kernel
theorem dX3_magnitudeOfPick_36 : decode cX3_magnitudeOfPick 36 = .ok (.iload_n 3, 1) := by decide +kernel
theorem dX3_magnitudeOfPick_37 : decode cX3_magnitudeOfPick 37 = .ok (.iaload, 1) := by decide +kernel
theorem dX3_magnitudeOfPick_38 : decode cX3_magnitudeOfPick 38 = .ok (.aload_n 1, 1) := by decide +kernel
theorem dX3_magnitudeOfPick_39 : decode cX3_magnitudeOfPick 39 = .ok (.getfield 96, 3) := by decide +kernel
theorem dX3_magnitudeOfPick_42 : decode cX3_magnitudeOfPick 42 = .ok (.iload 4, 2) := by decide +kernel
theorem dX3_magnitudeOfPick_44 : decode cX3_magnitudeOfPick 44 = .ok (.imul, 1) := by decide +kernel
theorem dX3_magnitudeOfPick_45 : decode cX3_magnitudeOfPick 45 = .ok (.iadd, 1) := by decide +kernel
theorem dX3_magnitudeOfPick_46 : decode cX3_magnitudeOfPick 46 = .ok (.invokevirtual 99, 3) := by decide +kernel
theorem dX3_magnitudeOfPick_49 : decode cX3_magnitudeOfPick 49 = .ok (.ireturn, 1) := by decide +kernel
theorem dX3_insert_0 : decode cX3_insert 0 = .ok (.iload_n 1, 1) := by decide +kernel
theorem dX3_insert_1 : decode cX3_insert 1 = .ok (.istore_n 3, 1) := by decide +kernel
theorem dX3_insert_2 : decode cX3_insert 2 = .ok (.iload_n 1, 1) := by decide +kernel
theorem dX3_insert_3 : decode cX3_insert 3 = .ok (.iconst 1, 1) := by decide +kernel
theorem dX3_insert_4 : decode cX3_insert 4 = .ok (.isub, 1) := by decide +kernel
theorem dX3_insert_5 : decode cX3_insert 5 = .ok (.istore 4, 2) := by decide +kernel
theorem dX3_insert_7 : decode cX3_insert 7 = .ok (.iload 4, 2) := by decide +kernel
theorem dX3_insert_9 : decode cX3_insert 9 = .ok (.ifCond .lt 49, 3) := by decide +kernel
theorem dX3_insert_12 : decode cX3_insert 12 = .ok (.iload 4, 2) := by decide +kernel
theorem dX3_insert_14 : decode cX3_insert 14 = .ok (.bipush 59, 2) := by decide +kernel
theorem dX3_insert_16 : decode cX3_insert 16 = .ok (.if_icmp .ge 42, 3) := by decide +kernel
theorem dX3_insert_19 : decode cX3_insert 19 = .ok (.aload_n 0, 1) := by decide +kernel
theorem dX3_insert_20 : decode cX3_insert 20 = .ok (.getfield 15, 3) := by decide +kernel
theorem dX3_insert_23 : decode cX3_insert 23 = .ok (.iload 4, 2) := by decide +kernel
theorem dX3_insert_25 : decode cX3_insert 25 = .ok (.iaload, 1) := by decide +kernel
theorem dX3_insert_26 : decode cX3_insert 26 = .ok (.iload_n 2, 1) := by decide +kernel
theorem dX3_insert_27 : decode cX3_insert 27 = .ok (.if_icmp .gt 6, 3) := by decide +kernel
theorem dX3_insert_30 : decode cX3_insert 30 = .ok (.goto 28, 3) := by decide +kernel
theorem dX3_insert_33 : decode cX3_insert 33 = .ok (.aload_n 0, 1) := by decide +kernel
theorem dX3_insert_34 : decode cX3_insert 34 = .ok (.getfield 15, 3) := by decide +kernel
theorem dX3_insert_37 : decode cX3_insert 37 = .ok (.iload 4, 2) := by decide +kernel
theorem dX3_insert_39 : decode cX3_insert 39 = .ok (.iconst 1, 1) := by decide +kernel
theorem dX3_insert_40 : decode cX3_insert 40 = .ok (.iadd, 1) := by decide +kernel
theorem dX3_insert_41 : decode cX3_insert 41 = .ok (.aload_n 0, 1) := by decide +kernel
theorem dX3_insert_42 : decode cX3_insert 42 = .ok (.getfield 15, 3) := by decide +kernel
theorem dX3_insert_45 : decode cX3_insert 45 = .ok (.iload 4, 2) := by decide +kernel
theorem dX3_insert_47 : decode cX3_insert 47 = .ok (.iaload, 1) := by decide +kernel
theorem dX3_insert_48 : decode cX3_insert 48 = .ok (.iastore, 1) := by decide +kernel
theorem dX3_insert_49 : decode cX3_insert 49 = .ok (.iload 4, 2) := by decide +kernel
theorem dX3_insert_51 : decode cX3_insert 51 = .ok (.istore_n 3, 1) := by decide +kernel
theorem dX3_insert_52 : decode cX3_insert 52 = .ok (.iinc 4 (-1), 3) := by decide +kernel
theorem dX3_insert_55 : decode cX3_insert 55 = .ok (.goto (-48), 3) := by decide +kernel
theorem dX3_insert_58 : decode cX3_insert 58 = .ok (.iload_n 3, 1) := by decide +kernel
theorem dX3_insert_59 : decode cX3_insert 59 = .ok (.ifCond .lt 16, 3) := by decide +kernel
theorem dX3_insert_62 : decode cX3_insert 62 = .ok (.iload_n 3, 1) := by decide +kernel
theorem dX3_insert_63 : decode cX3_insert 63 = .ok (.bipush 60, 2) := by decide +kernel
theorem dX3_insert_65 : decode cX3_insert 65 = .ok (.if_icmp .ge 10, 3) := by decide +kernel
theorem dX3_insert_68 : decode cX3_insert 68 = .ok (.aload_n 0, 1) := by decide +kernel
theorem dX3_insert_69 : decode cX3_insert 69 = .ok (.getfield 15, 3) := by decide +kernel
theorem dX3_insert_72 : decode cX3_insert 72 = .ok (.iload_n 3, 1) := by decide +kernel
theorem dX3_insert_73 : decode cX3_insert 73 = .ok (.iload_n 2, 1) := by decide +kernel
theorem dX3_insert_74 : decode cX3_insert 74 = .ok (.iastore, 1) := by decide +kernel
theorem dX3_insert_75 : decode cX3_insert 75 = .ok (.return_, 1) := by decide +kernel
set_option maxRecDepth 20000 in
theorem ggX4_init_X7_init : GoodIn wsX4_init wsX7_init := goodIn_r _ [14, 15, 2, 3, 16, 17, 18, 19, 20, 21, 22, 23, 24, 25, 26, 27, 28, 29, 30, 36, 37, 38, 39, 40, 41, 42, 43, 44, 45, 46, 47, 48, 49, 50, 51, 52] (by decide +kernel) (by decide +kernel)
set_option maxRecDepth 20000 in
theorem gX4_init_X7_init_n31 : GoodIn wsX4_init (wsX7_init) := ggX4_init_X7_init
theorem dX4_init_0 : decode cX4_init 0 = .ok (.aload_n 0, 1) := by decide +kernel
theorem dX4_init_1 : decode cX4_init 1 = .ok (.invokespecial 3, 3) := by decide +kernel
theorem dX4_init_4 : decode cX4_init 4 = .ok (.aload_n 0, 1) := by decide +kernel
theorem dX4_init_5 : decode cX4_init 5 = .ok (.bipush 10, 2) := by decide +kernel
theorem dX4_init_7 : decode cX4_init 7 = .ok (.anewarray 9, 3) := by decide +kernel
theorem dX4_init_10 : decode cX4_init 10 = .ok (.putfield 11, 3) := by decide +kernel
theorem dX4_init_13 : decode cX4_init 13 = .ok (.aload_n 0, 1) := by decide +kernel
theorem dX4_init_14 : decode cX4_init 14 = .ok (.iconst 2, 1) := by decide +kernel
theorem dX4_init_15 : decode cX4_init 15 = .ok (.anewarray 9, 3) := by decide +kernel
theorem dX4_init_18 : decode cX4_init 18 = .ok (.putfield 17, 3) := by decide +kernel
theorem dX4_init_21 : decode cX4_init 21 = .ok (.aload_n 0, 1) := by decide +kernel
theorem dX4_init_22 : decode cX4_init 22 = .ok (.iconst 2, 1) := by decide +kernel
theorem dX4_init_23 : decode cX4_init 23 = .ok (.newarray .boolean, 2) := by decide +kernel
theorem dX4_init_25 : decode cX4_init 25 = .ok (.putfield 20, 3) := by decide +kernel
theorem dX4_init_28 : decode cX4_init 28 = .ok (.aload_n 0, 1) := by decide +kernel
theorem dX4_init_29 : decode cX4_init 29 = .ok (.iconst 0, 1) := by decide +kernel
theorem dX4_init_30 : decode cX4_init 30 = .ok (.putfield 24, 3) := by decide +kernel
theorem dX4_init_33 : decode cX4_init 33 = .ok (.aload_n 0, 1) := by decide +kernel
theorem dX4_init_34 : decode cX4_init 34 = .ok (.iconst 0, 1) := by decide +kernel
theorem dX4_init_35 : decode cX4_init 35 = .ok (.putfield 28, 3) := by decide +kernel
theorem dX4_init_38 : decode cX4_init 38 = .ok (.iconst 0, 1) := by decide +kernel
theorem dX4_init_39 : decode cX4_init 39 = .ok (.istore_n 1, 1) := by decide +kernel
theorem dX4_init_40 : decode cX4_init 40 = .ok (.iload_n 1, 1) := by decide +kernel
theorem dX4_init_41 : decode cX4_init 41 = .ok (.bipush 10, 2) := by decide +kernel
theorem dX4_init_43 : decode cX4_init 43 = .ok (.if_icmp .ge 22, 3) := by decide +kernel
theorem dX4_init_46 : decode cX4_init 46 = .ok (.aload_n 0, 1) := by decide +kernel
theorem dX4_init_47 : decode cX4_init 47 = .ok (.getfield 11, 3) := by decide +kernel
theorem dX4_init_50 : decode cX4_init 50 = .ok (.iload_n 1, 1) := by decide +kernel
theorem dX4_init_51 : decode cX4_init 51 = .ok (.new 9, 3) := by decide +kernel
theorem dX4_init_54 : decode cX4_init 54 = .ok (.dup, 1) := by decide +kernel
theorem dX4_init_55 : decode cX4_init 55 = .ok (.invokespecial 31, 3) := by decide +kernel
theorem dX4_init_58 : decode cX4_init 58 = .ok (.aastore, 1) := by decide +kernel
theorem dX4_init_59 : decode cX4_init 59 = .ok (.iinc 1 1, 3) := by decide +kernel
theorem dX4_init_62 : decode cX4_init 62 = .ok (.goto (-22), 3) := by decide +kernel
theorem dX4_init_65 : decode cX4_init 65 = .ok (.iconst 0, 1) := by decide +kernel
theorem dX4_init_66 : decode cX4_init 66 = .ok (.istore_n 1, 1) := by decide +kernel
theorem dX4_init_67 : decode cX4_init 67 = .ok (.iload_n 1, 1) := by decide +kernel
theorem dX4_init_68 : decode cX4_init 68 = .ok (.iconst 2, 1) := by decide +kernel
theorem dX4_init_69 : decode cX4_init 69 = .ok (.if_icmp .ge 22, 3) := by decide +kernel
theorem dX4_init_72 : decode cX4_init 72 = .ok (.aload_n 0, 1) := by decide +kernel
theorem dX4_init_73 : decode cX4_init 73 = .ok (.getfield 17, 3) := by decide +kernel
theorem dX4_init_76 : decode cX4_init 76 = .ok (.iload_n 1, 1) := by decide +kernel
theorem dX4_init_77 : decode cX4_init 77 = .ok (.new 9, 3) := by decide +kernel
theorem dX4_init_80 : decode cX4_init 80 = .ok (.dup, 1) := by decide +kernel
theorem dX4_init_81 : decode cX4_init 81 = .ok (.invokespecial 31, 3) := by decide +kernel
theorem dX4_init_84 : decode cX4_init 84 = .ok (.aastore, 1) := by decide +kernel
theorem dX4_init_85 : decode cX4_init 85 = .ok (.iinc 1 1, 3) := by decide +kernel
theorem dX4_init_88 : decode cX4_init 88 = .ok (.goto (-21), 3) := by decide +kernel
theorem dX4_init_91 : decode cX4_init 91 = .ok (.return_, 1) := by decide +kernel
theorem dX4_forget_0 : decode cX4_forget 0 = .ok (.aload_n 0, 1) := by decide +kernel
theorem dX4_forget_1 : decode cX4_forget 1 = .ok (.iconst 0, 1) := by decide +kernel
theorem dX4_forget_2 : decode cX4_forget 2 = .ok (.putfield 28, 3) := by decide +kernel
theorem dX4_forget_5 : decode cX4_forget 5 = .ok (.iconst 0, 1) := by decide +kernel
theorem dX4_forget_6 : decode cX4_forget 6 = .ok (.istore_n 1, 1) := by decide +kernel
theorem dX4_forget_7 : decode cX4_forget 7 = .ok (.iload_n 1, 1) := by decide +kernel
theorem dX4_forget_8 : decode cX4_forget 8 = .ok (.iconst 2, 1) := by decide +kernel
theorem dX4_forget_9 : decode cX4_forget 9 = .ok (.if_icmp .ge 16, 3) := by decide +kernel
theorem dX4_forget_12 : decode cX4_forget 12 = .ok (.aload_n 0, 1) := by decide +kernel
theorem dX4_forget_13 : decode cX4_forget 13 = .ok (.getfield 20, 3) := by decide +kernel
theorem dX4_forget_16 : decode cX4_forget 16 = .ok (.iload_n 1, 1) := by decide +kernel
theorem dX4_forget_17 : decode cX4_forget 17 = .ok (.iconst 0, 1) := by decide +kernel
theorem dX4_forget_18 : decode cX4_forget 18 = .ok (.bastore, 1) := by decide +kernel
theorem dX4_forget_19 : decode cX4_forget 19 = .ok (.iinc 1 1, 3) := by decide +kernel
theorem dX4_forget_22 : decode cX4_forget 22 = .ok (.goto (-15), 3) := by decide +kernel
theorem dX4_forget_25 : decode cX4_forget 25 = .ok (.return_, 1) := by decide +kernel
set_option maxRecDepth 20000 in
theorem ggX4_remember_X7_copyFrom : GoodIn wsX4_remember wsX7_copyFrom := goodIn_r _ [12, 13, 14, 15, 16, 17, 18, 19, 20, 21, 22, 23, 24, 25, 26, 27, 28, 29, 30, 31, 32, 33, 5, 6, 7, 34, 35, 36, 37, 43, 44, 45, 46, 47, 48, 49, 50, 51, 52, 53, 54, 55, 56, 57, 58, 59] (by decide +kernel) (by decide +kernel)
set_option maxRecDepth 20000 in
theorem gX4_remember_X7_copyFrom : GoodIn wsX4_remember (wsV RX4 32 RX7 yX7_copyFrom wsX7_copyFrom) := goodIn_app (goodIn_of _ (by decide +kernel)) ggX4_remember_X7_copyFrom
theorem dX4_remember_0 : decode cX4_remember 0 = .ok (.aload_n 0, 1) := by decide +kernel
theorem dX4_remember_1 : decode cX4_remember 1 = .ok (.getfield 11, 3) := by decide +kernel
theorem dX4_remember_4 : decode cX4_remember 4 = .ok (.aload_n 0, 1) := by decide +kernel
theorem dX4_remember_5 : decode cX4_remember 5 = .ok (.getfield 24, 3) := by decide +kernel
theorem dX4_remember_8 : decode cX4_remember 8 = .ok (.aaload, 1) := by decide +kernel
theorem dX4_remember_9 : decode cX4_remember 9 = .ok (.astore_n 2, 1) := by decide +kernel
theorem dX4_remember_10 : decode cX4_remember 10 = .ok (.aload_n 2, 1) := by decide +kernel
theorem dX4_remember_11 : decode cX4_remember 11 = .ok (.ifnull 8, 3) := by decide +kernel
theorem dX4_remember_14 : decode cX4_remember 14 = .ok (.aload_n 2, 1) := by decide +kernel
theorem dX4_remember_15 : decode cX4_remember 15 = .ok (.aload_n 1, 1) := by decide +kernel
theorem dX4_remember_16 : decode cX4_remember 16 = .ok (.invokevirtual 32, 3) := by decide +kernel
theorem dX4_remember_19 : decode cX4_remember 19 = .ok (.aload_n 0, 1) := by decide +kernel
theorem dX4_remember_20 : decode cX4_remember 20 = .ok (.aload_n 0, 1) := by decide +kernel
theorem dX4_remember_21 : decode cX4_remember 21 = .ok (.getfield 24, 3) := by decide +kernel
theorem dX4_remember_24 : decode cX4_remember 24 = .ok (.iconst 1, 1) := by decide +kernel
theorem dX4_remember_25 : decode cX4_remember 25 = .ok (.iadd, 1) := by decide +kernel
theorem dX4_remember_26 : decode cX4_remember 26 = .ok (.bipush 10, 2) := by decide +kernel
theorem dX4_remember_28 : decode cX4_remember 28 = .ok (.irem, 1) := by decide +kernel
theorem dX4_remember_29 : decode cX4_remember 29 = .ok (.putfield 24, 3) := by decide +kernel
theorem dX4_remember_32 : decode cX4_remember 32 = .ok (.aload_n 0, 1) := by decide +kernel
theorem dX4_remember_33 : decode cX4_remember 33 = .ok (.aload_n 0, 1) := by decide +kernel
theorem dX4_remember_34 : decode cX4_remember 34 = .ok (.getfield 28, 3) := by decide +kernel
theorem dX4_remember_37 : decode cX4_remember 37 = .ok (.iconst 1, 1) := by decide +kernel
theorem dX4_remember_38 : decode cX4_remember 38 = .ok (.iadd, 1) := by decide +kernel
theorem dX4_remember_39 : decode cX4_remember 39 = .ok (.bipush 10, 2) := by decide +kernel
theorem dX4_remember_41 : decode cX4_remember 41 = .ok (.invokestatic 36, 3) := by decide +kernel
theorem dX4_remember_44 : decode cX4_remember 44 = .ok (.putfield 28, 3) := by decide +kernel
theorem dX4_remember_47 : decode cX4_remember 47 = .ok (.return_, 1) := by decide +kernel
set_option maxRecDepth 20000 in
theorem ggX5_init_X2_init : GoodIn wsX5_init wsX2_init := goodIn_r _ [18, 19, 2, 3] (by decide +kernel) (by decide +kernel)
set_option maxRecDepth 20000 in
theorem gX5_init_X2_init_n11 : GoodIn wsX5_init (wsX2_init) := ggX5_init_X2_init
set_option maxRecDepth 20000 in
theorem ggX5_init_X6_init : GoodIn wsX5_init wsX6_init := goodIn_r _ [21, 22, 2, 3, 12, 23, 24, 69, 70, 71] (by decide +kernel) (by decide +kernel)
set_option maxRecDepth 20000 in
theorem gX5_init_X6_init_n20 : GoodIn wsX5_init (wsX6_init) := ggX5_init_X6_init
set_option maxRecDepth 20000 in
theorem ggX5_init_X5_reset : GoodIn wsX5_init wsX5_reset := goodIn_r _ [29, 7, 11, 30, 31, 32, 33, 34, 35, 36, 37, 38, 39, 40, 41, 42, 6, 43, 44, 45, 46, 47, 48, 54, 55, 56, 57, 58, 59, 60, 61, 62, 63, 64, 65, 66, 67, 68, 69, 70, 71, 49, 50, 51, 52, 53] (by decide +kernel) (by decide +kernel)
set_option maxRecDepth 20000 in
theorem gX5_init_X5_reset : GoodIn wsX5_init (wsV RX5 38 RX5 yX5_reset wsX5_reset) := goodIn_app (goodIn_of _ (by decide +kernel)) ggX5_init_X5_reset
theorem dX5_init_0 : decode cX5_init 0 = .ok (.aload_n 0, 1) := by decide +kernel
theorem dX5_init_1 : decode cX5_init 1 = .ok (.invokespecial 3, 3) := by decide +kernel
theorem dX5_init_4 : decode cX5_init 4 = .ok (.aload_n 0, 1) := by decide +kernel
theorem dX5_init_5 : decode cX5_init 5 = .ok (.new 9, 3) := by decide +kernel
theorem dX5_init_8 : decode cX5_init 8 = .ok (.dup, 1) := by decide +kernel
theorem dX5_init_9 : decode cX5_init 9 = .ok (.invokespecial 11, 3) := by decide +kernel
theorem dX5_init_12 : decode cX5_init 12 = .ok (.putfield 12, 3) := by decide +kernel
theorem dX5_init_15 : decode cX5_init 15 = .ok (.aload_n 0, 1) := by decide +kernel
theorem dX5_init_16 : decode cX5_init 16 = .ok (.new 18, 3) := by decide +kernel
theorem dX5_init_19 : decode cX5_init 19 = .ok (.dup, 1) := by decide +kernel
theorem dX5_init_20 : decode cX5_init 20 = .ok (.invokespecial 20, 3) := by decide +kernel
theorem dX5_init_23 : decode cX5_init 23 = .ok (.putfield 21, 3) := by decide +kernel
theorem dX5_init_26 : decode cX5_init 26 = .ok (.aload_n 0, 1) := by decide +kernel
theorem dX5_init_27 : decode cX5_init 27 = .ok (.bipush 8, 2) := by decide +kernel
theorem dX5_init_29 : decode cX5_init 29 = .ok (.newarray .int, 2) := by decide +kernel
theorem dX5_init_31 : decode cX5_init 31 = .ok (.putfield 25, 3) := by decide +kernel
theorem dX5_init_34 : decode cX5_init 34 = .ok (.aload_n 0, 1) := by decide +kernel
theorem dX5_init_35 : decode cX5_init 35 = .ok (.bipush 8, 2) := by decide +kernel
theorem dX5_init_37 : decode cX5_init 37 = .ok (.newarray .int, 2) := by decide +kernel
theorem dX5_init_39 : decode cX5_init 39 = .ok (.putfield 29, 3) := by decide +kernel
theorem dX5_init_42 : decode cX5_init 42 = .ok (.aload_n 0, 1) := by decide +kernel
theorem dX5_init_43 : decode cX5_init 43 = .ok (.bipush 64, 2) := by decide +kernel
theorem dX5_init_45 : decode cX5_init 45 = .ok (.newarray .int, 2) := by decide +kernel
theorem dX5_init_47 : decode cX5_init 47 = .ok (.putfield 32, 3) := by decide +kernel
theorem dX5_init_50 : decode cX5_init 50 = .ok (.aload_n 0, 1) := by decide +kernel
theorem dX5_init_51 : decode cX5_init 51 = .ok (.sipush 1152, 3) := by decide +kernel
theorem dX5_init_54 : decode cX5_init 54 = .ok (.newarray .int, 2) := by decide +kernel
theorem dX5_init_56 : decode cX5_init 56 = .ok (.putfield 35, 3) := by decide +kernel
theorem dX5_init_59 : decode cX5_init 59 = .ok (.aload_n 0, 1) := by decide +kernel
theorem dX5_init_60 : decode cX5_init 60 = .ok (.invokevirtual 38, 3) := by decide +kernel
theorem dX5_init_63 : decode cX5_init 63 = .ok (.return_, 1) := by decide +kernel
set_option maxRecDepth 20000 in
theorem ggX5_reset_X2_place : GoodIn wsX5_reset wsX2_place := goodIn_r _ [17, 18, 19, 20, 21, 22, 41, 42, 43, 44, 45] (by decide +kernel) (by decide +kernel)
set_option maxRecDepth 20000 in
theorem gX5_reset_X2_place : GoodIn wsX5_reset (wsV RX5 41 RX2 yX2_place wsX2_place) := goodIn_app (goodIn_of _ (by decide +kernel)) ggX5_reset_X2_place
theorem dX5_reset_0 : decode cX5_reset 0 = .ok (.aload_n 0, 1) := by decide +kernel
theorem dX5_reset_1 : decode cX5_reset 1 = .ok (.getfield 12, 3) := by decide +kernel
theorem dX5_reset_4 : decode cX5_reset 4 = .ok (.iconst 0, 1) := by decide +kernel
theorem dX5_reset_5 : decode cX5_reset 5 = .ok (.iconst 0, 1) := by decide +kernel
theorem dX5_reset_6 : decode cX5_reset 6 = .ok (.iconst 5, 1) := by decide +kernel
theorem dX5_reset_7 : decode cX5_reset 7 = .ok (.iconst 5, 1) := by decide +kernel
theorem dX5_reset_8 : decode cX5_reset 8 = .ok (.bipush 20, 2) := by decide +kernel
theorem dX5_reset_10 : decode cX5_reset 10 = .ok (.invokevirtual 41, 3) := by decide +kernel
theorem dX5_reset_13 : decode cX5_reset 13 = .ok (.aload_n 0, 1) := by decide +kernel
theorem dX5_reset_14 : decode cX5_reset 14 = .ok (.getfield 21, 3) := by decide +kernel
theorem dX5_reset_17 : decode cX5_reset 17 = .ok (.iconst 0, 1) := by decide +kernel
theorem dX5_reset_18 : decode cX5_reset 18 = .ok (.putfield 45, 3) := by decide +kernel
theorem dX5_reset_21 : decode cX5_reset 21 = .ok (.aload_n 0, 1) := by decide +kernel
theorem dX5_reset_22 : decode cX5_reset 22 = .ok (.bipush 60, 2) := by decide +kernel
theorem dX5_reset_24 : decode cX5_reset 24 = .ok (.putfield 49, 3) := by decide +kernel
theorem dX5_reset_27 : decode cX5_reset 27 = .ok (.aload_n 0, 1) := by decide +kernel
theorem dX5_reset_28 : decode cX5_reset 28 = .ok (.iconst 3, 1) := by decide +kernel
theorem dX5_reset_29 : decode cX5_reset 29 = .ok (.putfield 52, 3) := by decide +kernel
theorem dX5_reset_32 : decode cX5_reset 32 = .ok (.aload_n 0, 1) := by decide +kernel
theorem dX5_reset_33 : decode cX5_reset 33 = .ok (.bipush 12, 2) := by decide +kernel
theorem dX5_reset_35 : decode cX5_reset 35 = .ok (.putfield 55, 3) := by decide +kernel
theorem dX5_reset_38 : decode cX5_reset 38 = .ok (.aload_n 0, 1) := by decide +kernel
theorem dX5_reset_39 : decode cX5_reset 39 = .ok (.sipush 300, 3) := by decide +kernel
theorem dX5_reset_42 : decode cX5_reset 42 = .ok (.putfield 58, 3) := by decide +kernel
theorem dX5_reset_45 : decode cX5_reset 45 = .ok (.aload_n 0, 1) := by decide +kernel
theorem dX5_reset_46 : decode cX5_reset 46 = .ok (.sipush 150, 3) := by decide +kernel
theorem dX5_reset_49 : decode cX5_reset 49 = .ok (.putfield 61, 3) := by decide +kernel
theorem dX5_reset_52 : decode cX5_reset 52 = .ok (.aload_n 0, 1) := by decide +kernel
theorem dX5_reset_53 : decode cX5_reset 53 = .ok (.iconst 3, 1) := by decide +kernel
theorem dX5_reset_54 : decode cX5_reset 54 = .ok (.putfield 64, 3) := by decide +kernel
theorem dX5_reset_57 : decode cX5_reset 57 = .ok (.aload_n 0, 1) := by decide +kernel
theorem dX5_reset_58 : decode cX5_reset 58 = .ok (.iconst 2, 1) := by decide +kernel
theorem dX5_reset_59 : decode cX5_reset 59 = .ok (.putfield 67, 3) := by decide +kernel
theorem dX5_reset_62 : decode cX5_reset 62 = .ok (.aload_n 0, 1) := by decide +kernel
theorem dX5_reset_63 : decode cX5_reset 63 = .ok (.iconst 1, 1) := by decide +kernel
theorem dX5_reset_64 : decode cX5_reset 64 = .ok (.putfield 70, 3) := by decide +kernel
theorem dX5_reset_67 : decode cX5_reset 67 = .ok (.aload_n 0, 1) := by decide +kernel
theorem dX5_reset_68 : decode cX5_reset 68 = .ok (.iconst 0, 1) := by decide +kernel
theorem dX5_reset_69 : decode cX5_reset 69 = .ok (.putfield 73, 3) := by decide +kernel
theorem dX5_reset_72 : decode cX5_reset 72 = .ok (.return_, 1) := by decide +kernel
theorem dX5_putStation_0 : decode cX5_putStation 0 = .ok (.aload_n 0, 1) := by decide +kernel
theorem dX5_putStation_1 : decode cX5_putStation 1 = .ok (.getfield 73, 3) := by decide +kernel
theorem dX5_putStation_4 : decode cX5_putStation 4 = .ok (.bipush 8, 2) := by decide +kernel
theorem dX5_putStation_6 : decode cX5_putStation 6 = .ok (.if_icmp .ge 33, 3) := by decide +kernel
theorem dX5_putStation_9 : decode cX5_putStation 9 = .ok (.aload_n 0, 1) := by decide +kernel
theorem dX5_putStation_10 : decode cX5_putStation 10 = .ok (.getfield 25, 3) := by decide +kernel
theorem dX5_putStation_13 : decode cX5_putStation 13 = .ok (.aload_n 0, 1) := by decide +kernel
theorem dX5_putStation_14 : decode cX5_putStation 14 = .ok (.getfield 73, 3) := by decide +kernel
theorem dX5_putStation_17 : decode cX5_putStation 17 = .ok (.iload_n 1, 1) := by decide +kernel
theorem dX5_putStation_18 : decode cX5_putStation 18 = .ok (.iastore, 1) := by decide +kernel
theorem dX5_putStation_19 : decode cX5_putStation 19 = .ok (.aload_n 0, 1) := by decide +kernel
theorem dX5_putStation_20 : decode cX5_putStation 20 = .ok (.getfield 29, 3) := by decide +kernel
theorem dX5_putStation_23 : decode cX5_putStation 23 = .ok (.aload_n 0, 1) := by decide +kernel
theorem dX5_putStation_24 : decode cX5_putStation 24 = .ok (.getfield 73, 3) := by decide +kernel
theorem dX5_putStation_27 : decode cX5_putStation 27 = .ok (.iload_n 2, 1) := by decide +kernel
theorem dX5_putStation_28 : decode cX5_putStation 28 = .ok (.iastore, 1) := by decide +kernel
theorem dX5_putStation_29 : decode cX5_putStation 29 = .ok (.aload_n 0, 1) := by decide +kernel
theorem dX5_putStation_30 : decode cX5_putStation 30 = .ok (.dup, 1) := by decide +kernel
theorem dX5_putStation_31 : decode cX5_putStation 31 = .ok (.getfield 73, 3) := by decide +kernel
theorem dX5_putStation_34 : decode cX5_putStation 34 = .ok (.iconst 1, 1) := by decide +kernel
theorem dX5_putStation_35 : decode cX5_putStation 35 = .ok (.iadd, 1) := by decide +kernel
theorem dX5_putStation_36 : decode cX5_putStation 36 = .ok (.putfield 73, 3) := by decide +kernel
theorem dX5_putStation_39 : decode cX5_putStation 39 = .ok (.return_, 1) := by decide +kernel
set_option maxRecDepth 20000 in
theorem ggX5_measure_X9_distance : GoodIn wsX5_measure wsX9_distance := goodIn_r _ [9, 10, 11, 8, 12] (by decide +kernel) (by decide +kernel)
set_option maxRecDepth 20000 in
theorem gX5_measure_X9_distance_n76 : GoodIn wsX5_measure (wsX9_distance) := ggX5_measure_X9_distance
set_option maxRecDepth 20000 in
theorem ggX5_measure_X5_travelOver : GoodIn wsX5_measure wsX5_travelOver := goodIn_r _ [17, 18, 37, 38, 39, 40, 41, 42, 43, 44, 45, 46, 47, 48, 49, 50, 51] (by decide +kernel) (by decide +kernel)
set_option maxRecDepth 20000 in
theorem gX5_measure_X5_travelOver : GoodIn wsX5_measure (wsV RX5 80 RX5 yX5_travelOver wsX5_travelOver) := goodIn_app (goodIn_of _ (by decide +kernel)) ggX5_measure_X5_travelOver
set_option maxRecDepth 20000 in
theorem ggX5_measure_X2_nodeCount : GoodIn wsX5_measure wsX2_nodeCount := goodIn_r _ [23, 24, 25, 52, 53, 54, 55, 56] (by decide +kernel) (by decide +kernel)
set_option maxRecDepth 20000 in
theorem gX5_measure_X2_nodeCount : GoodIn wsX5_measure (wsV RX5 84 RX2 yX2_nodeCount wsX2_nodeCount) := goodIn_app (goodIn_of _ (by decide +kernel)) ggX5_measure_X2_nodeCount
set_option maxRecDepth 20000 in
theorem ggX5_measure_X2_nodeX : GoodIn wsX5_measure wsX2_nodeX := goodIn_r _ [29, 30, 24, 31, 52, 53, 54, 55, 56] (by decide +kernel) (by decide +kernel)
set_option maxRecDepth 20000 in
theorem gX5_measure_X2_nodeX : GoodIn wsX5_measure (wsV RX5 88 RX2 yX2_nodeX wsX2_nodeX) := goodIn_app (goodIn_of _ (by decide +kernel)) ggX5_measure_X2_nodeX
set_option maxRecDepth 20000 in
theorem ggX5_measure_X2_nodeY : GoodIn wsX5_measure wsX2_nodeY := goodIn_r _ [35, 36, 24, 31, 52, 53, 54, 55, 56] (by decide +kernel) (by decide +kernel)
set_option maxRecDepth 20000 in
theorem gX5_measure_X2_nodeY : GoodIn wsX5_measure (wsV RX5 91 RX2 yX2_nodeY wsX2_nodeY) := goodIn_app (goodIn_of _ (by decide +kernel)) ggX5_measure_X2_nodeY
theorem dX5_measure_0 : decode cX5_measure 0 = .ok (.iconst 0, 1) := by decide +kernel
theorem dX5_measure_1 : decode cX5_measure 1 = .ok (.istore_n 1, 1) := by decide +kernel
theorem dX5_measure_2 : decode cX5_measure 2 = .ok (.iload_n 1, 1) := by decide +kernel
theorem dX5_measure_3 : decode cX5_measure 3 = .ok (.aload_n 0, 1) := by decide +kernel
theorem dX5_measure_4 : decode cX5_measure 4 = .ok (.getfield 73, 3) := by decide +kernel
theorem dX5_measure_7 : decode cX5_measure 7 = .ok (.if_icmp .ge 151, 3) := by decide +kernel
theorem dX5_measure_10 : decode cX5_measure 10 = .ok (.iload_n 1, 1) := by decide +kernel
theorem dX5_measure_11 : decode cX5_measure 11 = .ok (.bipush 8, 2) := by decide +kernel
theorem dX5_measure_13 : decode cX5_measure 13 = .ok (.if_icmp .ge 145, 3) := by decide +kernel
theorem dX5_measure_16 : decode cX5_measure 16 = .ok (.iconst 0, 1) := by decide +kernel
theorem dX5_measure_17 : decode cX5_measure 17 = .ok (.istore_n 2, 1) := by decide +kernel
theorem dX5_measure_18 : decode cX5_measure 18 = .ok (.iload_n 2, 1) := by decide +kernel
theorem dX5_measure_19 : decode cX5_measure 19 = .ok (.aload_n 0, 1) := by decide +kernel
theorem dX5_measure_20 : decode cX5_measure 20 = .ok (.getfield 73, 3) := by decide +kernel
theorem dX5_measure_23 : decode cX5_measure 23 = .ok (.if_icmp .ge 59, 3) := by decide +kernel
theorem dX5_measure_26 : decode cX5_measure 26 = .ok (.iload_n 2, 1) := by decide +kernel
theorem dX5_measure_27 : decode cX5_measure 27 = .ok (.bipush 8, 2) := by decide +kernel
theorem dX5_measure_29 : decode cX5_measure 29 = .ok (.if_icmp .ge 53, 3) := by decide +kernel
theorem dX5_measure_32 : decode cX5_measure 32 = .ok (.aload_n 0, 1) := by decide +kernel
theorem dX5_measure_33 : decode cX5_measure 33 = .ok (.getfield 32, 3) := by decide +kernel
theorem dX5_measure_36 : decode cX5_measure 36 = .ok (.iload_n 2, 1) := by decide +kernel
theorem dX5_measure_37 : decode cX5_measure 37 = .ok (.bipush 8, 2) := by decide +kernel
theorem dX5_measure_39 : decode cX5_measure 39 = .ok (.imul, 1) := by decide +kernel
theorem dX5_measure_40 : decode cX5_measure 40 = .ok (.iload_n 1, 1) := by decide +kernel
theorem dX5_measure_41 : decode cX5_measure 41 = .ok (.iadd, 1) := by decide +kernel
theorem dX5_measure_42 : decode cX5_measure 42 = .ok (.aload_n 0, 1) := by decide +kernel
theorem dX5_measure_43 : decode cX5_measure 43 = .ok (.aload_n 0, 1) := by decide +kernel
theorem dX5_measure_44 : decode cX5_measure 44 = .ok (.getfield 25, 3) := by decide +kernel
theorem dX5_measure_47 : decode cX5_measure 47 = .ok (.iload_n 2, 1) := by decide +kernel
theorem dX5_measure_48 : decode cX5_measure 48 = .ok (.iaload, 1) := by decide +kernel
theorem dX5_measure_49 : decode cX5_measure 49 = .ok (.aload_n 0, 1) := by decide +kernel
theorem dX5_measure_50 : decode cX5_measure 50 = .ok (.getfield 25, 3) := by decide +kernel
theorem dX5_measure_53 : decode cX5_measure 53 = .ok (.iload_n 1, 1) := by decide +kernel
theorem dX5_measure_54 : decode cX5_measure 54 = .ok (.iaload, 1) := by decide +kernel
theorem dX5_measure_55 : decode cX5_measure 55 = .ok (.isub, 1) := by decide +kernel
theorem dX5_measure_56 : decode cX5_measure 56 = .ok (.aload_n 0, 1) := by decide +kernel
theorem dX5_measure_57 : decode cX5_measure 57 = .ok (.getfield 29, 3) := by decide +kernel
theorem dX5_measure_60 : decode cX5_measure 60 = .ok (.iload_n 2, 1) := by decide +kernel
theorem dX5_measure_61 : decode cX5_measure 61 = .ok (.iaload, 1) := by decide +kernel
theorem dX5_measure_62 : decode cX5_measure 62 = .ok (.aload_n 0, 1) := by decide +kernel
theorem dX5_measure_63 : decode cX5_measure 63 = .ok (.getfield 29, 3) := by decide +kernel
theorem dX5_measure_66 : decode cX5_measure 66 = .ok (.iload_n 1, 1) := by decide +kernel
theorem dX5_measure_67 : decode cX5_measure 67 = .ok (.iaload, 1) := by decide +kernel
theorem dX5_measure_68 : decode cX5_measure 68 = .ok (.isub, 1) := by decide +kernel
theorem dX5_measure_69 : decode cX5_measure 69 = .ok (.invokestatic 76, 3) := by decide +kernel
theorem dX5_measure_72 : decode cX5_measure 72 = .ok (.invokevirtual 80, 3) := by decide +kernel
theorem dX5_measure_75 : decode cX5_measure 75 = .ok (.iastore, 1) := by decide +kernel
theorem dX5_measure_76 : decode cX5_measure 76 = .ok (.iinc 2 1, 3) := by decide +kernel
theorem dX5_measure_79 : decode cX5_measure 79 = .ok (.goto (-61), 3) := by decide +kernel
theorem dX5_measure_82 : decode cX5_measure 82 = .ok (.iconst 0, 1) := by decide +kernel
theorem dX5_measure_83 : decode cX5_measure 83 = .ok (.istore_n 2, 1) := by decide +kernel
theorem dX5_measure_84 : decode cX5_measure 84 = .ok (.iload_n 2, 1) := by decide +kernel
theorem dX5_measure_85 : decode cX5_measure 85 = .ok (.aload_n 0, 1) := by decide +kernel
theorem dX5_measure_86 : decode cX5_measure 86 = .ok (.getfield 12, 3) := by decide +kernel
theorem dX5_measure_89 : decode cX5_measure 89 = .ok (.invokevirtual 84, 3) := by decide +kernel
theorem dX5_measure_92 : decode cX5_measure 92 = .ok (.if_icmp .ge 60, 3) := by decide +kernel
theorem dX5_measure_95 : decode cX5_measure 95 = .ok (.iload_n 2, 1) := by decide +kernel
theorem dX5_measure_96 : decode cX5_measure 96 = .ok (.sipush 144, 3) := by decide +kernel
theorem dX5_measure_99 : decode cX5_measure 99 = .ok (.if_icmp .ge 53, 3) := by decide +kernel
theorem dX5_measure_102 : decode cX5_measure 102 = .ok (.aload_n 0, 1) := by decide +kernel
theorem dX5_measure_103 : decode cX5_measure 103 = .ok (.getfield 35, 3) := by decide +kernel
theorem dX5_measure_106 : decode cX5_measure 106 = .ok (.iload_n 2, 1) := by decide +kernel
theorem dX5_measure_107 : decode cX5_measure 107 = .ok (.bipush 8, 2) := by decide +kernel
theorem dX5_measure_109 : decode cX5_measure 109 = .ok (.imul, 1) := by decide +kernel
theorem dX5_measure_110 : decode cX5_measure 110 = .ok (.iload_n 1, 1) := by decide +kernel
theorem dX5_measure_111 : decode cX5_measure 111 = .ok (.iadd, 1) := by decide +kernel
theorem dX5_measure_112 : decode cX5_measure 112 = .ok (.aload_n 0, 1) := by decide +kernel
theorem dX5_measure_113 : decode cX5_measure 113 = .ok (.getfield 12, 3) := by decide +kernel
theorem dX5_measure_116 : decode cX5_measure 116 = .ok (.iload_n 2, 1) := by decide +kernel
theorem dX5_measure_117 : decode cX5_measure 117 = .ok (.invokevirtual 88, 3) := by decide +kernel
theorem dX5_measure_120 : decode cX5_measure 120 = .ok (.aload_n 0, 1) := by decide +kernel
theorem dX5_measure_121 : decode cX5_measure 121 = .ok (.getfield 25, 3) := by decide +kernel
theorem dX5_measure_124 : decode cX5_measure 124 = .ok (.iload_n 1, 1) := by decide +kernel
theorem dX5_measure_125 : decode cX5_measure 125 = .ok (.iaload, 1) := by decide +kernel
theorem dX5_measure_126 : decode cX5_measure 126 = .ok (.isub, 1) := by decide +kernel
theorem dX5_measure_127 : decode cX5_measure 127 = .ok (.aload_n 0, 1) := by decide +kernel
theorem dX5_measure_128 : decode cX5_measure 128 = .ok (.getfield 12, 3) := by decide +kernel
theorem dX5_measure_131 : decode cX5_measure 131 = .ok (.iload_n 2, 1) := by decide +kernel
theorem dX5_measure_132 : decode cX5_measure 132 = .ok (.invokevirtual 91, 3) := by decide +kernel
theorem dX5_measure_135 : decode cX5_measure 135 = .ok (.aload_n 0, 1) := by decide +kernel
theorem dX5_measure_136 : decode cX5_measure 136 = .ok (.getfield 29, 3) := by decide +kernel
theorem dX5_measure_139 : decode cX5_measure 139 = .ok (.iload_n 1, 1) := by decide +kernel
theorem dX5_measure_140 : decode cX5_measure 140 = .ok (.iaload, 1) := by decide +kernel
theorem dX5_measure_141 : decode cX5_measure 141 = .ok (.isub, 1) := by decide +kernel
theorem dX5_measure_142 : decode cX5_measure 142 = .ok (.invokestatic 76, 3) := by decide +kernel
theorem dX5_measure_145 : decode cX5_measure 145 = .ok (.iastore, 1) := by decide +kernel
theorem dX5_measure_146 : decode cX5_measure 146 = .ok (.iinc 2 1, 3) := by decide +kernel
theorem dX5_measure_149 : decode cX5_measure 149 = .ok (.goto (-65), 3) := by decide +kernel
theorem dX5_measure_152 : decode cX5_measure 152 = .ok (.iinc 1 1, 3) := by decide +kernel
theorem dX5_measure_155 : decode cX5_measure 155 = .ok (.goto (-153), 3) := by decide +kernel
theorem dX5_measure_158 : decode cX5_measure 158 = .ok (.return_, 1) := by decide +kernel
theorem dX5_distanceFromNode_0 : decode cX5_distanceFromNode 0 = .ok (.iload_n 1, 1) := by decide +kernel
theorem dX5_distanceFromNode_1 : decode cX5_distanceFromNode 1 = .ok (.bipush 8, 2) := by decide +kernel
theorem dX5_distanceFromNode_3 : decode cX5_distanceFromNode 3 = .ok (.imul, 1) := by decide +kernel
theorem dX5_distanceFromNode_4 : decode cX5_distanceFromNode 4 = .ok (.iload_n 2, 1) := by decide +kernel
theorem dX5_distanceFromNode_5 : decode cX5_distanceFromNode 5 = .ok (.iadd, 1) := by decide +kernel
theorem dX5_distanceFromNode_6 : decode cX5_distanceFromNode 6 = .ok (.istore_n 3, 1) := by decide +kernel
theorem dX5_distanceFromNode_7 : decode cX5_distanceFromNode 7 = .ok (.iload_n 3, 1) := by decide +kernel
theorem dX5_distanceFromNode_8 : decode cX5_distanceFromNode 8 = .ok (.ifCond .lt 21, 3) := by decide +kernel
theorem dX5_distanceFromNode_11 : decode cX5_distanceFromNode 11 = .ok (.iload_n 3, 1) := by decide +kernel
theorem dX5_distanceFromNode_12 : decode cX5_distanceFromNode 12 = .ok (.aload_n 0, 1) := by decide +kernel
theorem dX5_distanceFromNode_13 : decode cX5_distanceFromNode 13 = .ok (.getfield 35, 3) := by decide +kernel
theorem dX5_distanceFromNode_16 : decode cX5_distanceFromNode 16 = .ok (.arraylength, 1) := by decide +kernel
theorem dX5_distanceFromNode_17 : decode cX5_distanceFromNode 17 = .ok (.if_icmp .ge 12, 3) := by decide +kernel
theorem dX5_distanceFromNode_20 : decode cX5_distanceFromNode 20 = .ok (.aload_n 0, 1) := by decide +kernel
theorem dX5_distanceFromNode_21 : decode cX5_distanceFromNode 21 = .ok (.getfield 35, 3) := by decide +kernel
theorem dX5_distanceFromNode_24 : decode cX5_distanceFromNode 24 = .ok (.iload_n 3, 1) := by decide +kernel
theorem dX5_distanceFromNode_25 : decode cX5_distanceFromNode 25 = .ok (.iaload, 1) := by decide +kernel
theorem dX5_distanceFromNode_26 : decode cX5_distanceFromNode 26 = .ok (.goto 4, 3) := by decide +kernel
theorem dX5_distanceFromNode_29 : decode cX5_distanceFromNode 29 = .ok (.iconst 0, 1) := by decide +kernel
theorem dX5_distanceFromNode_30 : decode cX5_distanceFromNode 30 = .ok (.ireturn, 1) := by decide +kernel
set_option maxRecDepth 20000 in
theorem ggX5_travelFromNode_X5_distanceFromNode : GoodIn wsX5_travelFromNode wsX5_distanceFromNode := goodIn_r _ [5, 6, 12, 13, 14, 15, 16, 17, 18, 19, 20, 21, 22, 23, 24, 25, 26] (by decide +kernel) (by decide +kernel)
set_option maxRecDepth 20000 in
theorem gX5_travelFromNode_X5_distanceFromNode : GoodIn wsX5_travelFromNode (wsV RX5 94 RX5 yX5_distanceFromNode wsX5_distanceFromNode) := goodIn_app (goodIn_of _ (by decide +kernel)) ggX5_travelFromNode_X5_distanceFromNode
set_option maxRecDepth 20000 in
theorem ggX5_travelFromNode_X5_travelOver : GoodIn wsX5_travelFromNode wsX5_travelOver := goodIn_r _ [10, 11, 12, 13, 14, 15, 16, 17, 18, 19, 20, 21, 22, 23, 24, 25, 26] (by decide +kernel) (by decide +kernel)
set_option maxRecDepth 20000 in
theorem gX5_travelFromNode_X5_travelOver : GoodIn wsX5_travelFromNode (wsV RX5 80 RX5 yX5_travelOver wsX5_travelOver) := goodIn_app (goodIn_of _ (by decide +kernel)) ggX5_travelFromNode_X5_travelOver
theorem dX5_travelFromNode_0 : decode cX5_travelFromNode 0 = .ok (.aload_n 0, 1) := by decide +kernel
theorem dX5_travelFromNode_1 : decode cX5_travelFromNode 1 = .ok (.aload_n 0, 1) := by decide +kernel
theorem dX5_travelFromNode_2 : decode cX5_travelFromNode 2 = .ok (.iload_n 1, 1) := by decide +kernel
theorem dX5_travelFromNode_3 : decode cX5_travelFromNode 3 = .ok (.iload_n 2, 1) := by decide +kernel
theorem dX5_travelFromNode_4 : decode cX5_travelFromNode 4 = .ok (.invokevirtual 94, 3) := by decide +kernel
theorem dX5_travelFromNode_7 : decode cX5_travelFromNode 7 = .ok (.invokevirtual 80, 3) := by decide +kernel
theorem dX5_travelFromNode_10 : decode cX5_travelFromNode 10 = .ok (.ireturn, 1) := by decide +kernel
theorem dX5_travelOfStations_0 : decode cX5_travelOfStations 0 = .ok (.iload_n 1, 1) := by decide +kernel
theorem dX5_travelOfStations_1 : decode cX5_travelOfStations 1 = .ok (.bipush 8, 2) := by decide +kernel
theorem dX5_travelOfStations_3 : decode cX5_travelOfStations 3 = .ok (.imul, 1) := by decide +kernel
theorem dX5_travelOfStations_4 : decode cX5_travelOfStations 4 = .ok (.iload_n 2, 1) := by decide +kernel
theorem dX5_travelOfStations_5 : decode cX5_travelOfStations 5 = .ok (.iadd, 1) := by decide +kernel
theorem dX5_travelOfStations_6 : decode cX5_travelOfStations 6 = .ok (.istore_n 3, 1) := by decide +kernel
theorem dX5_travelOfStations_7 : decode cX5_travelOfStations 7 = .ok (.iload_n 3, 1) := by decide +kernel
theorem dX5_travelOfStations_8 : decode cX5_travelOfStations 8 = .ok (.ifCond .lt 21, 3) := by decide +kernel
theorem dX5_travelOfStations_11 : decode cX5_travelOfStations 11 = .ok (.iload_n 3, 1) := by decide +kernel
theorem dX5_travelOfStations_12 : decode cX5_travelOfStations 12 = .ok (.aload_n 0, 1) := by decide +kernel
theorem dX5_travelOfStations_13 : decode cX5_travelOfStations 13 = .ok (.getfield 32, 3) := by decide +kernel
theorem dX5_travelOfStations_16 : decode cX5_travelOfStations 16 = .ok (.arraylength, 1) := by decide +kernel
theorem dX5_travelOfStations_17 : decode cX5_travelOfStations 17 = .ok (.if_icmp .ge 12, 3) := by decide +kernel
theorem dX5_travelOfStations_20 : decode cX5_travelOfStations 20 = .ok (.aload_n 0, 1) := by decide +kernel
theorem dX5_travelOfStations_21 : decode cX5_travelOfStations 21 = .ok (.getfield 32, 3) := by decide +kernel
theorem dX5_travelOfStations_24 : decode cX5_travelOfStations 24 = .ok (.iload_n 3, 1) := by decide +kernel
theorem dX5_travelOfStations_25 : decode cX5_travelOfStations 25 = .ok (.iaload, 1) := by decide +kernel
theorem dX5_travelOfStations_26 : decode cX5_travelOfStations 26 = .ok (.goto 4, 3) := by decide +kernel
theorem dX5_travelOfStations_29 : decode cX5_travelOfStations 29 = .ok (.iconst 0, 1) := by decide +kernel
theorem dX5_travelOfStations_30 : decode cX5_travelOfStations 30 = .ok (.ireturn, 1) := by decide +kernel
theorem dX5_travelOver_0 : decode cX5_travelOver 0 = .ok (.aload_n 0, 1) := by decide +kernel
theorem dX5_travelOver_1 : decode cX5_travelOver 1 = .ok (.getfield 49, 3) := by decide +kernel
theorem dX5_travelOver_4 : decode cX5_travelOver 4 = .ok (.ifCond .ne 7, 3) := by decide +kernel
theorem dX5_travelOver_7 : decode cX5_travelOver 7 = .ok (.iconst 0, 1) := by decide +kernel
theorem dX5_travelOver_8 : decode cX5_travelOver 8 = .ok (.goto 12, 3) := by decide +kernel
theorem dX5_travelOver_11 : decode cX5_travelOver 11 = .ok (.iload_n 1, 1) := by decide +kernel
theorem dX5_travelOver_12 : decode cX5_travelOver 12 = .ok (.bipush 10, 2) := by decide +kernel
theorem dX5_travelOver_14 : decode cX5_travelOver 14 = .ok (.imul, 1) := by decide +kernel
theorem dX5_travelOver_15 : decode cX5_travelOver 15 = .ok (.aload_n 0, 1) := by decide +kernel
theorem dX5_travelOver_16 : decode cX5_travelOver 16 = .ok (.getfield 49, 3) := by decide +kernel
theorem dX5_travelOver_19 : decode cX5_travelOver 19 = .ok (.idiv, 1) := by decide +kernel
theorem dX5_travelOver_20 : decode cX5_travelOver 20 = .ok (.ireturn, 1) := by decide +kernel
theorem dX5_ratioOf_0 : decode cX5_ratioOf 0 = .ok (.iload_n 2, 1) := by decide +kernel
theorem dX5_ratioOf_1 : decode cX5_ratioOf 1 = .ok (.i2l, 1) := by decide +kernel
theorem dX5_ratioOf_2 : decode cX5_ratioOf 2 = .ok (.aload_n 0, 1) := by decide +kernel
theorem dX5_ratioOf_3 : decode cX5_ratioOf 3 = .ok (.getfield 52, 3) := by decide +kernel
theorem dX5_ratioOf_6 : decode cX5_ratioOf 6 = .ok (.i2l, 1) := by decide +kernel
theorem dX5_ratioOf_7 : decode cX5_ratioOf 7 = .ok (.lmul, 1) := by decide +kernel
theorem dX5_ratioOf_8 : decode cX5_ratioOf 8 = .ok (.lstore_n 3, 1) := by decide +kernel
theorem dX5_ratioOf_9 : decode cX5_ratioOf 9 = .ok (.lload_n 3, 1) := by decide +kernel
theorem dX5_ratioOf_10 : decode cX5_ratioOf 10 = .ok (.lconst 0, 1) := by decide +kernel
theorem dX5_ratioOf_11 : decode cX5_ratioOf 11 = .ok (.lcmp, 1) := by decide +kernel
theorem dX5_ratioOf_12 : decode cX5_ratioOf 12 = .ok (.ifCond .ne 7, 3) := by decide +kernel
theorem dX5_ratioOf_15 : decode cX5_ratioOf 15 = .ok (.iconst 0, 1) := by decide +kernel
theorem dX5_ratioOf_16 : decode cX5_ratioOf 16 = .ok (.goto 18, 3) := by decide +kernel
theorem dX5_ratioOf_19 : decode cX5_ratioOf 19 = .ok (.iload_n 1, 1) := by decide +kernel
theorem dX5_ratioOf_20 : decode cX5_ratioOf 20 = .ok (.i2l, 1) := by decide +kernel
theorem dX5_ratioOf_21 : decode cX5_ratioOf 21 = .ok (.aload_n 0, 1) := by decide +kernel
theorem dX5_ratioOf_22 : decode cX5_ratioOf 22 = .ok (.getfield 55, 3) := by decide +kernel
theorem dX5_ratioOf_25 : decode cX5_ratioOf 25 = .ok (.i2l, 1) := by decide +kernel
theorem dX5_ratioOf_26 : decode cX5_ratioOf 26 = .ok (.lmul, 1) := by decide +kernel
theorem dX5_ratioOf_27 : decode cX5_ratioOf 27 = .ok (.ldc2_w 97, 3) := by decide +kernel
theorem dX5_ratioOf_30 : decode cX5_ratioOf 30 = .ok (.lmul, 1) := by decide +kernel
theorem dX5_ratioOf_31 : decode cX5_ratioOf 31 = .ok (.lload_n 3, 1) := by decide +kernel
theorem dX5_ratioOf_32 : decode cX5_ratioOf 32 = .ok (.ldiv, 1) := by decide +kernel
theorem dX5_ratioOf_33 : decode cX5_ratioOf 33 = .ok (.l2i, 1) := by decide +kernel
theorem dX5_ratioOf_34 : decode cX5_ratioOf 34 = .ok (.ireturn, 1) := by decide +kernel
theorem dX6_init_0 : decode cX6_init 0 = .ok (.aload_n 0, 1) := by decide +kernel
theorem dX6_init_1 : decode cX6_init 1 = .ok (.invokespecial 3, 3) := by decide +kernel
theorem dX6_init_4 : decode cX6_init 4 = .ok (.aload_n 0, 1) := by decide +kernel
theorem dX6_init_5 : decode cX6_init 5 = .ok (.bipush 8, 2) := by decide +kernel
theorem dX6_init_7 : decode cX6_init 7 = .ok (.newarray .int, 2) := by decide +kernel
theorem dX6_init_9 : decode cX6_init 9 = .ok (.putfield 9, 3) := by decide +kernel
theorem dX6_init_12 : decode cX6_init 12 = .ok (.aload_n 0, 1) := by decide +kernel
theorem dX6_init_13 : decode cX6_init 13 = .ok (.bipush 8, 2) := by decide +kernel
theorem dX6_init_15 : decode cX6_init 15 = .ok (.newarray .int, 2) := by decide +kernel
theorem dX6_init_17 : decode cX6_init 17 = .ok (.putfield 15, 3) := by decide +kernel
theorem dX6_init_20 : decode cX6_init 20 = .ok (.return_, 1) := by decide +kernel
theorem dX6_put_0 : decode cX6_put 0 = .ok (.aload_n 0, 1) := by decide +kernel
theorem dX6_put_1 : decode cX6_put 1 = .ok (.getfield 18, 3) := by decide +kernel
theorem dX6_put_4 : decode cX6_put 4 = .ok (.bipush 8, 2) := by decide +kernel
theorem dX6_put_6 : decode cX6_put 6 = .ok (.if_icmp .ge 33, 3) := by decide +kernel
theorem dX6_put_9 : decode cX6_put 9 = .ok (.aload_n 0, 1) := by decide +kernel
theorem dX6_put_10 : decode cX6_put 10 = .ok (.getfield 9, 3) := by decide +kernel
theorem dX6_put_13 : decode cX6_put 13 = .ok (.aload_n 0, 1) := by decide +kernel
theorem dX6_put_14 : decode cX6_put 14 = .ok (.getfield 18, 3) := by decide +kernel
theorem dX6_put_17 : decode cX6_put 17 = .ok (.iload_n 1, 1) := by decide +kernel
theorem dX6_put_18 : decode cX6_put 18 = .ok (.iastore, 1) := by decide +kernel
theorem dX6_put_19 : decode cX6_put 19 = .ok (.aload_n 0, 1) := by decide +kernel
theorem dX6_put_20 : decode cX6_put 20 = .ok (.getfield 15, 3) := by decide +kernel
theorem dX6_put_23 : decode cX6_put 23 = .ok (.aload_n 0, 1) := by decide +kernel
theorem dX6_put_24 : decode cX6_put 24 = .ok (.getfield 18, 3) := by decide +kernel
theorem dX6_put_27 : decode cX6_put 27 = .ok (.iload_n 2, 1) := by decide +kernel
theorem dX6_put_28 : decode cX6_put 28 = .ok (.iastore, 1) := by decide +kernel
theorem dX6_put_29 : decode cX6_put 29 = .ok (.aload_n 0, 1) := by decide +kernel
theorem dX6_put_30 : decode cX6_put 30 = .ok (.dup, 1) := by decide +kernel
theorem dX6_put_31 : decode cX6_put 31 = .ok (.getfield 18, 3) := by decide +kernel
theorem dX6_put_34 : decode cX6_put 34 = .ok (.iconst 1, 1) := by decide +kernel
theorem dX6_put_35 : decode cX6_put 35 = .ok (.iadd, 1) := by decide +kernel
theorem dX6_put_36 : decode cX6_put 36 = .ok (.putfield 18, 3) := by decide +kernel
theorem dX6_put_39 : decode cX6_put 39 = .ok (.return_, 1) := by decide +kernel
theorem dX6_lowestNextAmplitude_0 : decode cX6_lowestNextAmplitude 0 = .ok (.aload_n 0, 1) := by decide +kernel
theorem dX6_lowestNextAmplitude_1 : decode cX6_lowestNextAmplitude 1 = .ok (.getfield 18, 3) := by decide +kernel
theorem dX6_lowestNextAmplitude_4 : decode cX6_lowestNextAmplitude 4 = .ok (.ifCond .le 28, 3) := by decide +kernel
theorem dX6_lowestNextAmplitude_7 : decode cX6_lowestNextAmplitude 7 = .ok (.aload_n 0, 1) := by decide +kernel
theorem dX6_lowestNextAmplitude_8 : decode cX6_lowestNextAmplitude 8 = .ok (.getfield 18, 3) := by decide +kernel
theorem dX6_lowestNextAmplitude_11 : decode cX6_lowestNextAmplitude 11 = .ok (.bipush 8, 2) := by decide +kernel
theorem dX6_lowestNextAmplitude_13 : decode cX6_lowestNextAmplitude 13 = .ok (.if_icmp .gt 19, 3) := by decide +kernel
theorem dX6_lowestNextAmplitude_16 : decode cX6_lowestNextAmplitude 16 = .ok (.aload_n 0, 1) := by decide +kernel
theorem dX6_lowestNextAmplitude_17 : decode cX6_lowestNextAmplitude 17 = .ok (.getfield 9, 3) := by decide +kernel
theorem dX6_lowestNextAmplitude_20 : decode cX6_lowestNextAmplitude 20 = .ok (.aload_n 0, 1) := by decide +kernel
theorem dX6_lowestNextAmplitude_21 : decode cX6_lowestNextAmplitude 21 = .ok (.getfield 18, 3) := by decide +kernel
theorem dX6_lowestNextAmplitude_24 : decode cX6_lowestNextAmplitude 24 = .ok (.iconst 1, 1) := by decide +kernel
theorem dX6_lowestNextAmplitude_25 : decode cX6_lowestNextAmplitude 25 = .ok (.isub, 1) := by decide +kernel
theorem dX6_lowestNextAmplitude_26 : decode cX6_lowestNextAmplitude 26 = .ok (.iaload, 1) := by decide +kernel
theorem dX6_lowestNextAmplitude_27 : decode cX6_lowestNextAmplitude 27 = .ok (.iconst 1, 1) := by decide +kernel
theorem dX6_lowestNextAmplitude_28 : decode cX6_lowestNextAmplitude 28 = .ok (.iadd, 1) := by decide +kernel
theorem dX6_lowestNextAmplitude_29 : decode cX6_lowestNextAmplitude 29 = .ok (.goto 4, 3) := by decide +kernel
theorem dX6_lowestNextAmplitude_32 : decode cX6_lowestNextAmplitude 32 = .ok (.iconst 0, 1) := by decide +kernel
theorem dX6_lowestNextAmplitude_33 : decode cX6_lowestNextAmplitude 33 = .ok (.ireturn, 1) := by decide +kernel
theorem dX6_lowestNextMagnitude_0 : decode cX6_lowestNextMagnitude 0 = .ok (.aload_n 0, 1) := by decide +kernel
theorem dX6_lowestNextMagnitude_1 : decode cX6_lowestNextMagnitude 1 = .ok (.getfield 18, 3) := by decide +kernel
theorem dX6_lowestNextMagnitude_4 : decode cX6_lowestNextMagnitude 4 = .ok (.ifCond .le 26, 3) := by decide +kernel
theorem dX6_lowestNextMagnitude_7 : decode cX6_lowestNextMagnitude 7 = .ok (.aload_n 0, 1) := by decide +kernel
theorem dX6_lowestNextMagnitude_8 : decode cX6_lowestNextMagnitude 8 = .ok (.getfield 18, 3) := by decide +kernel
theorem dX6_lowestNextMagnitude_11 : decode cX6_lowestNextMagnitude 11 = .ok (.bipush 8, 2) := by decide +kernel
theorem dX6_lowestNextMagnitude_13 : decode cX6_lowestNextMagnitude 13 = .ok (.if_icmp .gt 17, 3) := by decide +kernel
theorem dX6_lowestNextMagnitude_16 : decode cX6_lowestNextMagnitude 16 = .ok (.aload_n 0, 1) := by decide +kernel
theorem dX6_lowestNextMagnitude_17 : decode cX6_lowestNextMagnitude 17 = .ok (.getfield 15, 3) := by decide +kernel
theorem dX6_lowestNextMagnitude_20 : decode cX6_lowestNextMagnitude 20 = .ok (.aload_n 0, 1) := by decide +kernel
theorem dX6_lowestNextMagnitude_21 : decode cX6_lowestNextMagnitude 21 = .ok (.getfield 18, 3) := by decide +kernel
theorem dX6_lowestNextMagnitude_24 : decode cX6_lowestNextMagnitude 24 = .ok (.iconst 1, 1) := by decide +kernel
theorem dX6_lowestNextMagnitude_25 : decode cX6_lowestNextMagnitude 25 = .ok (.isub, 1) := by decide +kernel
theorem dX6_lowestNextMagnitude_26 : decode cX6_lowestNextMagnitude 26 = .ok (.iaload, 1) := by decide +kernel
theorem dX6_lowestNextMagnitude_27 : decode cX6_lowestNextMagnitude 27 = .ok (.goto 4, 3) := by decide +kernel
theorem dX6_lowestNextMagnitude_30 : decode cX6_lowestNextMagnitude 30 = .ok (.iconst 0, 1) := by decide +kernel
theorem dX6_lowestNextMagnitude_31 : decode cX6_lowestNextMagnitude 31 = .ok (.ireturn, 1) := by decide +kernel
theorem dX6_magnitudeOf_0 : decode cX6_magnitudeOf 0 = .ok (.iconst (-1), 1) := by decide +kernel
theorem dX6_magnitudeOf_1 : decode cX6_magnitudeOf 1 = .ok (.istore_n 2, 1) := by decide +kernel
theorem dX6_magnitudeOf_2 : decode cX6_magnitudeOf 2 = .ok (.iconst 0, 1) := by decide +kernel
theorem dX6_magnitudeOf_3 : decode cX6_magnitudeOf 3 = .ok (.istore_n 3, 1) := by decide +kernel
theorem dX6_magnitudeOf_4 : decode cX6_magnitudeOf 4 = .ok (.iload_n 3, 1) := by decide +kernel
theorem dX6_magnitudeOf_5 : decode cX6_magnitudeOf 5 = .ok (.aload_n 0, 1) := by decide +kernel
theorem dX6_magnitudeOf_6 : decode cX6_magnitudeOf 6 = .ok (.getfield 18, 3) := by decide +kernel
theorem dX6_magnitudeOf_9 : decode cX6_magnitudeOf 9 = .ok (.if_icmp .ge 32, 3) := by decide +kernel
theorem dX6_magnitudeOf_12 : decode cX6_magnitudeOf 12 = .ok (.iload_n 3, 1) := by decide +kernel
theorem dX6_magnitudeOf_13 : decode cX6_magnitudeOf 13 = .ok (.bipush 8, 2) := by decide +kernel
theorem dX6_magnitudeOf_15 : decode cX6_magnitudeOf 15 = .ok (.if_icmp .ge 26, 3) := by decide +kernel
theorem dX6_magnitudeOf_18 : decode cX6_magnitudeOf 18 = .ok (.aload_n 0, 1) := by decide +kernel
theorem dX6_magnitudeOf_19 : decode cX6_magnitudeOf 19 = .ok (.getfield 9, 3) := by decide +kernel
theorem dX6_magnitudeOf_22 : decode cX6_magnitudeOf 22 = .ok (.iload_n 3, 1) := by decide +kernel
theorem dX6_magnitudeOf_23 : decode cX6_magnitudeOf 23 = .ok (.iaload, 1) := by decide +kernel
theorem dX6_magnitudeOf_24 : decode cX6_magnitudeOf 24 = .ok (.iload_n 1, 1) := by decide +kernel
theorem dX6_magnitudeOf_25 : decode cX6_magnitudeOf 25 = .ok (.if_icmp .gt 10, 3) := by decide +kernel
theorem dX6_magnitudeOf_28 : decode cX6_magnitudeOf 28 = .ok (.aload_n 0, 1) := by decide +kernel
theorem dX6_magnitudeOf_29 : decode cX6_magnitudeOf 29 = .ok (.getfield 15, 3) := by decide +kernel
theorem dX6_magnitudeOf_32 : decode cX6_magnitudeOf 32 = .ok (.iload_n 3, 1) := by decide +kernel
theorem dX6_magnitudeOf_33 : decode cX6_magnitudeOf 33 = .ok (.iaload, 1) := by decide +kernel
theorem dX6_magnitudeOf_34 : decode cX6_magnitudeOf 34 = .ok (.istore_n 2, 1) := by decide +kernel
theorem dX6_magnitudeOf_35 : decode cX6_magnitudeOf 35 = .ok (.iinc 3 1, 3) := by decide +kernel
theorem dX6_magnitudeOf_38 : decode cX6_magnitudeOf 38 = .ok (.goto (-34), 3) := by decide +kernel
theorem dX6_magnitudeOf_41 : decode cX6_magnitudeOf 41 = .ok (.iload_n 2, 1) := by decide +kernel
theorem dX6_magnitudeOf_42 : decode cX6_magnitudeOf 42 = .ok (.ireturn, 1) := by decide +kernel
theorem dX7_init_0 : decode cX7_init 0 = .ok (.aload_n 0, 1) := by decide +kernel
theorem dX7_init_1 : decode cX7_init 1 = .ok (.invokespecial 3, 3) := by decide +kernel
theorem dX7_init_4 : decode cX7_init 4 = .ok (.aload_n 0, 1) := by decide +kernel
theorem dX7_init_5 : decode cX7_init 5 = .ok (.bipush 8, 2) := by decide +kernel
theorem dX7_init_7 : decode cX7_init 7 = .ok (.newarray .int, 2) := by decide +kernel
theorem dX7_init_9 : decode cX7_init 9 = .ok (.putfield 9, 3) := by decide +kernel
theorem dX7_init_12 : decode cX7_init 12 = .ok (.aload_n 0, 1) := by decide +kernel
theorem dX7_init_13 : decode cX7_init 13 = .ok (.sipush 792, 3) := by decide +kernel
theorem dX7_init_16 : decode cX7_init 16 = .ok (.newarray .int, 2) := by decide +kernel
theorem dX7_init_18 : decode cX7_init 18 = .ok (.putfield 15, 3) := by decide +kernel
theorem dX7_init_21 : decode cX7_init 21 = .ok (.aload_n 0, 1) := by decide +kernel
theorem dX7_init_22 : decode cX7_init 22 = .ok (.bipush 8, 2) := by decide +kernel
theorem dX7_init_24 : decode cX7_init 24 = .ok (.newarray .int, 2) := by decide +kernel
theorem dX7_init_26 : decode cX7_init 26 = .ok (.putfield 18, 3) := by decide +kernel
theorem dX7_init_29 : decode cX7_init 29 = .ok (.aload_n 0, 1) := by decide +kernel
theorem dX7_init_30 : decode cX7_init 30 = .ok (.bipush 8, 2) := by decide +kernel
theorem dX7_init_32 : decode cX7_init 32 = .ok (.newarray .int, 2) := by decide +kernel
theorem dX7_init_34 : decode cX7_init 34 = .ok (.putfield 21, 3) := by decide +kernel
theorem dX7_init_37 : decode cX7_init 37 = .ok (.aload_n 0, 1) := by decide +kernel
theorem dX7_init_38 : decode cX7_init 38 = .ok (.bipush 8, 2) := by decide +kernel
theorem dX7_init_40 : decode cX7_init 40 = .ok (.newarray .int, 2) := by decide +kernel
theorem dX7_init_42 : decode cX7_init 42 = .ok (.putfield 24, 3) := by decide +kernel
theorem dX7_init_45 : decode cX7_init 45 = .ok (.aload_n 0, 1) := by decide +kernel
theorem dX7_init_46 : decode cX7_init 46 = .ok (.bipush 8, 2) := by decide +kernel
theorem dX7_init_48 : decode cX7_init 48 = .ok (.newarray .int, 2) := by decide +kernel
theorem dX7_init_50 : decode cX7_init 50 = .ok (.putfield 27, 3) := by decide +kernel
theorem dX7_init_53 : decode cX7_init 53 = .ok (.aload_n 0, 1) := by decide +kernel
theorem dX7_init_54 : decode cX7_init 54 = .ok (.bipush 8, 2) := by decide +kernel
theorem dX7_init_56 : decode cX7_init 56 = .ok (.newarray .int, 2) := by decide +kernel
theorem dX7_init_58 : decode cX7_init 58 = .ok (.putfield 30, 3) := by decide +kernel
theorem dX7_init_61 : decode cX7_init 61 = .ok (.aload_n 0, 1) := by decide +kernel
theorem dX7_init_62 : decode cX7_init 62 = .ok (.bipush 60, 2) := by decide +kernel
theorem dX7_init_64 : decode cX7_init 64 = .ok (.newarray .int, 2) := by decide +kernel
theorem dX7_init_66 : decode cX7_init 66 = .ok (.putfield 33, 3) := by decide +kernel
theorem dX7_init_69 : decode cX7_init 69 = .ok (.aload_n 0, 1) := by decide +kernel
theorem dX7_init_70 : decode cX7_init 70 = .ok (.bipush 60, 2) := by decide +kernel
theorem dX7_init_72 : decode cX7_init 72 = .ok (.newarray .int, 2) := by decide +kernel
theorem dX7_init_74 : decode cX7_init 74 = .ok (.putfield 36, 3) := by decide +kernel
theorem dX7_init_77 : decode cX7_init 77 = .ok (.aload_n 0, 1) := by decide +kernel
theorem dX7_init_78 : decode cX7_init 78 = .ok (.bipush 60, 2) := by decide +kernel
theorem dX7_init_80 : decode cX7_init 80 = .ok (.newarray .int, 2) := by decide +kernel
theorem dX7_init_82 : decode cX7_init 82 = .ok (.putfield 39, 3) := by decide +kernel
theorem dX7_init_85 : decode cX7_init 85 = .ok (.aload_n 0, 1) := by decide +kernel
theorem dX7_init_86 : decode cX7_init 86 = .ok (.bipush 60, 2) := by decide +kernel
theorem dX7_init_88 : decode cX7_init 88 = .ok (.newarray .int, 2) := by decide +kernel
theorem dX7_init_90 : decode cX7_init 90 = .ok (.putfield 42, 3) := by decide +kernel
theorem dX7_init_93 : decode cX7_init 93 = .ok (.aload_n 0, 1) := by decide +kernel
theorem dX7_init_94 : decode cX7_init 94 = .ok (.bipush 60, 2) := by decide +kernel
theorem dX7_init_96 : decode cX7_init 96 = .ok (.newarray .int, 2) := by decide +kernel
theorem dX7_init_98 : decode cX7_init 98 = .ok (.putfield 45, 3) := by decide +kernel
theorem dX7_init_101 : decode cX7_init 101 = .ok (.aload_n 0, 1) := by decide +kernel
theorem dX7_init_102 : decode cX7_init 102 = .ok (.bipush 20, 2) := by decide +kernel
theorem dX7_init_104 : decode cX7_init 104 = .ok (.newarray .int, 2) := by decide +kernel
theorem dX7_init_106 : decode cX7_init 106 = .ok (.putfield 48, 3) := by decide +kernel
theorem dX7_init_109 : decode cX7_init 109 = .ok (.aload_n 0, 1) := by decide +kernel
theorem dX7_init_110 : decode cX7_init 110 = .ok (.bipush 20, 2) := by decide +kernel
theorem dX7_init_112 : decode cX7_init 112 = .ok (.newarray .int, 2) := by decide +kernel
theorem dX7_init_114 : decode cX7_init 114 = .ok (.putfield 51, 3) := by decide +kernel
theorem dX7_init_117 : decode cX7_init 117 = .ok (.return_, 1) := by decide +kernel
set_option maxRecDepth 20000 in
theorem ggX7_clear_J7_fill_53178 : GoodIn wsX7_clear wsJ7_fill_53178 := goodIn_r _ [14] (by decide +kernel) (by decide +kernel)
set_option maxRecDepth 20000 in
theorem gX7_clear_J7_fill_53178 : GoodIn wsX7_clear (va_wsS RX7 64 yJ7_fill_53178 wsJ7_fill_53178) := goodIn_app (goodIn_of _ (by decide +kernel)) ggX7_clear_J7_fill_53178
theorem dX7_clear_0 : decode cX7_clear 0 = .ok (.aload_n 0, 1) := by decide +kernel
theorem dX7_clear_1 : decode cX7_clear 1 = .ok (.iconst 0, 1) := by decide +kernel
theorem dX7_clear_2 : decode cX7_clear 2 = .ok (.putfield 54, 3) := by decide +kernel
theorem dX7_clear_5 : decode cX7_clear 5 = .ok (.aload_n 0, 1) := by decide +kernel
theorem dX7_clear_6 : decode cX7_clear 6 = .ok (.iconst 0, 1) := by decide +kernel
theorem dX7_clear_7 : decode cX7_clear 7 = .ok (.putfield 58, 3) := by decide +kernel
theorem dX7_clear_10 : decode cX7_clear 10 = .ok (.aload_n 0, 1) := by decide +kernel
theorem dX7_clear_11 : decode cX7_clear 11 = .ok (.iconst 0, 1) := by decide +kernel
theorem dX7_clear_12 : decode cX7_clear 12 = .ok (.putfield 61, 3) := by decide +kernel
theorem dX7_clear_15 : decode cX7_clear 15 = .ok (.aload_n 0, 1) := by decide +kernel
theorem dX7_clear_16 : decode cX7_clear 16 = .ok (.getfield 9, 3) := by decide +kernel
theorem dX7_clear_19 : decode cX7_clear 19 = .ok (.iconst 0, 1) := by decide +kernel
theorem dX7_clear_20 : decode cX7_clear 20 = .ok (.invokestatic 64, 3) := by decide +kernel
theorem dX7_clear_23 : decode cX7_clear 23 = .ok (.aload_n 0, 1) := by decide +kernel
theorem dX7_clear_24 : decode cX7_clear 24 = .ok (.getfield 15, 3) := by decide +kernel
theorem dX7_clear_27 : decode cX7_clear 27 = .ok (.iconst 0, 1) := by decide +kernel
theorem dX7_clear_28 : decode cX7_clear 28 = .ok (.invokestatic 64, 3) := by decide +kernel
theorem dX7_clear_31 : decode cX7_clear 31 = .ok (.aload_n 0, 1) := by decide +kernel
theorem dX7_clear_32 : decode cX7_clear 32 = .ok (.getfield 18, 3) := by decide +kernel
theorem dX7_clear_35 : decode cX7_clear 35 = .ok (.iconst 0, 1) := by decide +kernel
theorem dX7_clear_36 : decode cX7_clear 36 = .ok (.invokestatic 64, 3) := by decide +kernel
theorem dX7_clear_39 : decode cX7_clear 39 = .ok (.aload_n 0, 1) := by decide +kernel
theorem dX7_clear_40 : decode cX7_clear 40 = .ok (.getfield 21, 3) := by decide +kernel
theorem dX7_clear_43 : decode cX7_clear 43 = .ok (.iconst 0, 1) := by decide +kernel
theorem dX7_clear_44 : decode cX7_clear 44 = .ok (.invokestatic 64, 3) := by decide +kernel
theorem dX7_clear_47 : decode cX7_clear 47 = .ok (.aload_n 0, 1) := by decide +kernel
theorem dX7_clear_48 : decode cX7_clear 48 = .ok (.getfield 24, 3) := by decide +kernel
theorem dX7_clear_51 : decode cX7_clear 51 = .ok (.iconst 0, 1) := by decide +kernel
theorem dX7_clear_52 : decode cX7_clear 52 = .ok (.invokestatic 64, 3) := by decide +kernel
theorem dX7_clear_55 : decode cX7_clear 55 = .ok (.aload_n 0, 1) := by decide +kernel
theorem dX7_clear_56 : decode cX7_clear 56 = .ok (.getfield 27, 3) := by decide +kernel
theorem dX7_clear_59 : decode cX7_clear 59 = .ok (.iconst 0, 1) := by decide +kernel
theorem dX7_clear_60 : decode cX7_clear 60 = .ok (.invokestatic 64, 3) := by decide +kernel
theorem dX7_clear_63 : decode cX7_clear 63 = .ok (.aload_n 0, 1) := by decide +kernel
theorem dX7_clear_64 : decode cX7_clear 64 = .ok (.getfield 30, 3) := by decide +kernel
theorem dX7_clear_67 : decode cX7_clear 67 = .ok (.iconst 0, 1) := by decide +kernel
theorem dX7_clear_68 : decode cX7_clear 68 = .ok (.invokestatic 64, 3) := by decide +kernel
theorem dX7_clear_71 : decode cX7_clear 71 = .ok (.return_, 1) := by decide +kernel
set_option maxRecDepth 20000 in
theorem ggX7_copyFrom_X9_copyRow : GoodIn wsX7_copyFrom wsX9_copyRow := goodIn_r _ [20, 21, 22, 23, 24, 25, 26, 27, 28] (by decide +kernel) (by decide +kernel)
set_option maxRecDepth 20000 in
theorem gX7_copyFrom_X9_copyRow_n70 : GoodIn wsX7_copyFrom (wsX9_copyRow) := ggX7_copyFrom_X9_copyRow
theorem dX7_copyFrom_0 : decode cX7_copyFrom 0 = .ok (.aload_n 0, 1) := by decide +kernel
theorem dX7_copyFrom_1 : decode cX7_copyFrom 1 = .ok (.aload_n 1, 1) := by decide +kernel
theorem dX7_copyFrom_2 : decode cX7_copyFrom 2 = .ok (.getfield 54, 3) := by decide +kernel
theorem dX7_copyFrom_5 : decode cX7_copyFrom 5 = .ok (.putfield 54, 3) := by decide +kernel
theorem dX7_copyFrom_8 : decode cX7_copyFrom 8 = .ok (.aload_n 0, 1) := by decide +kernel
theorem dX7_copyFrom_9 : decode cX7_copyFrom 9 = .ok (.aload_n 1, 1) := by decide +kernel
theorem dX7_copyFrom_10 : decode cX7_copyFrom 10 = .ok (.getfield 58, 3) := by decide +kernel
theorem dX7_copyFrom_13 : decode cX7_copyFrom 13 = .ok (.putfield 58, 3) := by decide +kernel
theorem dX7_copyFrom_16 : decode cX7_copyFrom 16 = .ok (.aload_n 0, 1) := by decide +kernel
theorem dX7_copyFrom_17 : decode cX7_copyFrom 17 = .ok (.aload_n 1, 1) := by decide +kernel
theorem dX7_copyFrom_18 : decode cX7_copyFrom 18 = .ok (.getfield 61, 3) := by decide +kernel
theorem dX7_copyFrom_21 : decode cX7_copyFrom 21 = .ok (.putfield 61, 3) := by decide +kernel
theorem dX7_copyFrom_24 : decode cX7_copyFrom 24 = .ok (.aload_n 1, 1) := by decide +kernel
theorem dX7_copyFrom_25 : decode cX7_copyFrom 25 = .ok (.getfield 9, 3) := by decide +kernel
theorem dX7_copyFrom_28 : decode cX7_copyFrom 28 = .ok (.aload_n 0, 1) := by decide +kernel
theorem dX7_copyFrom_29 : decode cX7_copyFrom 29 = .ok (.getfield 9, 3) := by decide +kernel
theorem dX7_copyFrom_32 : decode cX7_copyFrom 32 = .ok (.invokestatic 70, 3) := by decide +kernel
theorem dX7_copyFrom_35 : decode cX7_copyFrom 35 = .ok (.aload_n 1, 1) := by decide +kernel
theorem dX7_copyFrom_36 : decode cX7_copyFrom 36 = .ok (.getfield 15, 3) := by decide +kernel
theorem dX7_copyFrom_39 : decode cX7_copyFrom 39 = .ok (.aload_n 0, 1) := by decide +kernel
theorem dX7_copyFrom_40 : decode cX7_copyFrom 40 = .ok (.getfield 15, 3) := by decide +kernel
theorem dX7_copyFrom_43 : decode cX7_copyFrom 43 = .ok (.invokestatic 70, 3) := by decide +kernel
theorem dX7_copyFrom_46 : decode cX7_copyFrom 46 = .ok (.aload_n 1, 1) := by decide +kernel
theorem dX7_copyFrom_47 : decode cX7_copyFrom 47 = .ok (.getfield 18, 3) := by decide +kernel
theorem dX7_copyFrom_50 : decode cX7_copyFrom 50 = .ok (.aload_n 0, 1) := by decide +kernel
theorem dX7_copyFrom_51 : decode cX7_copyFrom 51 = .ok (.getfield 18, 3) := by decide +kernel
theorem dX7_copyFrom_54 : decode cX7_copyFrom 54 = .ok (.invokestatic 70, 3) := by decide +kernel
theorem dX7_copyFrom_57 : decode cX7_copyFrom 57 = .ok (.aload_n 1, 1) := by decide +kernel
theorem dX7_copyFrom_58 : decode cX7_copyFrom 58 = .ok (.getfield 21, 3) := by decide +kernel
theorem dX7_copyFrom_61 : decode cX7_copyFrom 61 = .ok (.aload_n 0, 1) := by decide +kernel
theorem dX7_copyFrom_62 : decode cX7_copyFrom 62 = .ok (.getfield 21, 3) := by decide +kernel
theorem dX7_copyFrom_65 : decode cX7_copyFrom 65 = .ok (.invokestatic 70, 3) := by decide +kernel
theorem dX7_copyFrom_68 : decode cX7_copyFrom 68 = .ok (.aload_n 1, 1) := by decide +kernel
theorem dX7_copyFrom_69 : decode cX7_copyFrom 69 = .ok (.getfield 24, 3) := by decide +kernel
theorem dX7_copyFrom_72 : decode cX7_copyFrom 72 = .ok (.aload_n 0, 1) := by decide +kernel
theorem dX7_copyFrom_73 : decode cX7_copyFrom 73 = .ok (.getfield 24, 3) := by decide +kernel
theorem dX7_copyFrom_76 : decode cX7_copyFrom 76 = .ok (.invokestatic 70, 3) := by decide +kernel
theorem dX7_copyFrom_79 : decode cX7_copyFrom 79 = .ok (.aload_n 1, 1) := by decide +kernel
theorem dX7_copyFrom_80 : decode cX7_copyFrom 80 = .ok (.getfield 27, 3) := by decide +kernel
theorem dX7_copyFrom_83 : decode cX7_copyFrom 83 = .ok (.aload_n 0, 1) := by decide +kernel
theorem dX7_copyFrom_84 : decode cX7_copyFrom 84 = .ok (.getfield 27, 3) := by decide +kernel
theorem dX7_copyFrom_87 : decode cX7_copyFrom 87 = .ok (.invokestatic 70, 3) := by decide +kernel
theorem dX7_copyFrom_90 : decode cX7_copyFrom 90 = .ok (.aload_n 1, 1) := by decide +kernel
theorem dX7_copyFrom_91 : decode cX7_copyFrom 91 = .ok (.getfield 30, 3) := by decide +kernel
theorem dX7_copyFrom_94 : decode cX7_copyFrom 94 = .ok (.aload_n 0, 1) := by decide +kernel
theorem dX7_copyFrom_95 : decode cX7_copyFrom 95 = .ok (.getfield 30, 3) := by decide +kernel
theorem dX7_copyFrom_98 : decode cX7_copyFrom 98 = .ok (.invokestatic 70, 3) := by decide +kernel
theorem dX7_copyFrom_101 : decode cX7_copyFrom 101 = .ok (.aload_n 1, 1) := by decide +kernel
theorem dX7_copyFrom_102 : decode cX7_copyFrom 102 = .ok (.getfield 33, 3) := by decide +kernel
theorem dX7_copyFrom_105 : decode cX7_copyFrom 105 = .ok (.aload_n 0, 1) := by decide +kernel
theorem dX7_copyFrom_106 : decode cX7_copyFrom 106 = .ok (.getfield 33, 3) := by decide +kernel
theorem dX7_copyFrom_109 : decode cX7_copyFrom 109 = .ok (.invokestatic 70, 3) := by decide +kernel
theorem dX7_copyFrom_112 : decode cX7_copyFrom 112 = .ok (.aload_n 1, 1) := by decide +kernel
theorem dX7_copyFrom_113 : decode cX7_copyFrom 113 = .ok (.getfield 36, 3) := by decide +kernel
theorem dX7_copyFrom_116 : decode cX7_copyFrom 116 = .ok (.aload_n 0, 1) := by decide +kernel
theorem dX7_copyFrom_117 : decode cX7_copyFrom 117 = .ok (.getfield 36, 3) := by decide +kernel
theorem dX7_copyFrom_120 : decode cX7_copyFrom 120 = .ok (.invokestatic 70, 3) := by decide +kernel
theorem dX7_copyFrom_123 : decode cX7_copyFrom 123 = .ok (.aload_n 1, 1) := by decide +kernel
theorem dX7_copyFrom_124 : decode cX7_copyFrom 124 = .ok (.getfield 39, 3) := by decide +kernel
theorem dX7_copyFrom_127 : decode cX7_copyFrom 127 = .ok (.aload_n 0, 1) := by decide +kernel
theorem dX7_copyFrom_128 : decode cX7_copyFrom 128 = .ok (.getfield 39, 3) := by decide +kernel
theorem dX7_copyFrom_131 : decode cX7_copyFrom 131 = .ok (.invokestatic 70, 3) := by decide +kernel
theorem dX7_copyFrom_134 : decode cX7_copyFrom 134 = .ok (.aload_n 1, 1) := by decide +kernel
theorem dX7_copyFrom_135 : decode cX7_copyFrom 135 = .ok (.getfield 42, 3) := by decide +kernel
theorem dX7_copyFrom_138 : decode cX7_copyFrom 138 = .ok (.aload_n 0, 1) := by decide +kernel
theorem dX7_copyFrom_139 : decode cX7_copyFrom 139 = .ok (.getfield 42, 3) := by decide +kernel
theorem dX7_copyFrom_142 : decode cX7_copyFrom 142 = .ok (.invokestatic 70, 3) := by decide +kernel
theorem dX7_copyFrom_145 : decode cX7_copyFrom 145 = .ok (.aload_n 1, 1) := by decide +kernel
theorem dX7_copyFrom_146 : decode cX7_copyFrom 146 = .ok (.getfield 45, 3) := by decide +kernel
theorem dX7_copyFrom_149 : decode cX7_copyFrom 149 = .ok (.aload_n 0, 1) := by decide +kernel
theorem dX7_copyFrom_150 : decode cX7_copyFrom 150 = .ok (.getfield 45, 3) := by decide +kernel
theorem dX7_copyFrom_153 : decode cX7_copyFrom 153 = .ok (.invokestatic 70, 3) := by decide +kernel
theorem dX7_copyFrom_156 : decode cX7_copyFrom 156 = .ok (.aload_n 1, 1) := by decide +kernel
theorem dX7_copyFrom_157 : decode cX7_copyFrom 157 = .ok (.getfield 48, 3) := by decide +kernel
theorem dX7_copyFrom_160 : decode cX7_copyFrom 160 = .ok (.aload_n 0, 1) := by decide +kernel
theorem dX7_copyFrom_161 : decode cX7_copyFrom 161 = .ok (.getfield 48, 3) := by decide +kernel
theorem dX7_copyFrom_164 : decode cX7_copyFrom 164 = .ok (.invokestatic 70, 3) := by decide +kernel
theorem dX7_copyFrom_167 : decode cX7_copyFrom 167 = .ok (.aload_n 1, 1) := by decide +kernel
theorem dX7_copyFrom_168 : decode cX7_copyFrom 168 = .ok (.getfield 51, 3) := by decide +kernel
theorem dX7_copyFrom_171 : decode cX7_copyFrom 171 = .ok (.aload_n 0, 1) := by decide +kernel
theorem dX7_copyFrom_172 : decode cX7_copyFrom 172 = .ok (.getfield 51, 3) := by decide +kernel
theorem dX7_copyFrom_175 : decode cX7_copyFrom 175 = .ok (.invokestatic 70, 3) := by decide +kernel
theorem dX7_copyFrom_178 : decode cX7_copyFrom 178 = .ok (.return_, 1) := by decide +kernel
theorem dX7_standingEvents_0 : decode cX7_standingEvents 0 = .ok (.iconst 0, 1) := by decide +kernel
theorem dX7_standingEvents_1 : decode cX7_standingEvents 1 = .ok (.istore_n 1, 1) := by decide +kernel
theorem dX7_standingEvents_2 : decode cX7_standingEvents 2 = .ok (.iconst 0, 1) := by decide +kernel
theorem dX7_standingEvents_3 : decode cX7_standingEvents 3 = .ok (.istore_n 2, 1) := by decide +kernel
theorem dX7_standingEvents_4 : decode cX7_standingEvents 4 = .ok (.iload_n 2, 1) := by decide +kernel
theorem dX7_standingEvents_5 : decode cX7_standingEvents 5 = .ok (.aload_n 0, 1) := by decide +kernel
theorem dX7_standingEvents_6 : decode cX7_standingEvents 6 = .ok (.getfield 61, 3) := by decide +kernel
theorem dX7_standingEvents_9 : decode cX7_standingEvents 9 = .ok (.if_icmp .ge 26, 3) := by decide +kernel
theorem dX7_standingEvents_12 : decode cX7_standingEvents 12 = .ok (.iload_n 2, 1) := by decide +kernel
theorem dX7_standingEvents_13 : decode cX7_standingEvents 13 = .ok (.bipush 20, 2) := by decide +kernel
theorem dX7_standingEvents_15 : decode cX7_standingEvents 15 = .ok (.if_icmp .ge 20, 3) := by decide +kernel
theorem dX7_standingEvents_18 : decode cX7_standingEvents 18 = .ok (.iload_n 1, 1) := by decide +kernel
theorem dX7_standingEvents_19 : decode cX7_standingEvents 19 = .ok (.iconst 1, 1) := by decide +kernel
theorem dX7_standingEvents_20 : decode cX7_standingEvents 20 = .ok (.aload_n 0, 1) := by decide +kernel
theorem dX7_standingEvents_21 : decode cX7_standingEvents 21 = .ok (.getfield 51, 3) := by decide +kernel
theorem dX7_standingEvents_24 : decode cX7_standingEvents 24 = .ok (.iload_n 2, 1) := by decide +kernel
theorem dX7_standingEvents_25 : decode cX7_standingEvents 25 = .ok (.iaload, 1) := by decide +kernel
theorem dX7_standingEvents_26 : decode cX7_standingEvents 26 = .ok (.isub, 1) := by decide +kernel
theorem dX7_standingEvents_27 : decode cX7_standingEvents 27 = .ok (.iadd, 1) := by decide +kernel
theorem dX7_standingEvents_28 : decode cX7_standingEvents 28 = .ok (.istore_n 1, 1) := by decide +kernel
theorem dX7_standingEvents_29 : decode cX7_standingEvents 29 = .ok (.iinc 2 1, 3) := by decide +kernel
theorem dX7_standingEvents_32 : decode cX7_standingEvents 32 = .ok (.goto (-28), 3) := by decide +kernel
theorem dX7_standingEvents_35 : decode cX7_standingEvents 35 = .ok (.iload_n 1, 1) := by decide +kernel
theorem dX7_standingEvents_36 : decode cX7_standingEvents 36 = .ok (.ireturn, 1) := by decide +kernel
theorem dX7_triggeredStations_0 : decode cX7_triggeredStations 0 = .ok (.iconst 0, 1) := by decide +kernel
theorem dX7_triggeredStations_1 : decode cX7_triggeredStations 1 = .ok (.istore_n 1, 1) := by decide +kernel
theorem dX7_triggeredStations_2 : decode cX7_triggeredStations 2 = .ok (.iconst 0, 1) := by decide +kernel
theorem dX7_triggeredStations_3 : decode cX7_triggeredStations 3 = .ok (.istore_n 2, 1) := by decide +kernel
theorem dX7_triggeredStations_4 : decode cX7_triggeredStations 4 = .ok (.iload_n 2, 1) := by decide +kernel
theorem dX7_triggeredStations_5 : decode cX7_triggeredStations 5 = .ok (.bipush 8, 2) := by decide +kernel
theorem dX7_triggeredStations_7 : decode cX7_triggeredStations 7 = .ok (.if_icmp .ge 18, 3) := by decide +kernel
theorem dX7_triggeredStations_10 : decode cX7_triggeredStations 10 = .ok (.iload_n 1, 1) := by decide +kernel
theorem dX7_triggeredStations_11 : decode cX7_triggeredStations 11 = .ok (.aload_n 0, 1) := by decide +kernel
theorem dX7_triggeredStations_12 : decode cX7_triggeredStations 12 = .ok (.getfield 24, 3) := by decide +kernel
theorem dX7_triggeredStations_15 : decode cX7_triggeredStations 15 = .ok (.iload_n 2, 1) := by decide +kernel
theorem dX7_triggeredStations_16 : decode cX7_triggeredStations 16 = .ok (.iaload, 1) := by decide +kernel
theorem dX7_triggeredStations_17 : decode cX7_triggeredStations 17 = .ok (.iadd, 1) := by decide +kernel
theorem dX7_triggeredStations_18 : decode cX7_triggeredStations 18 = .ok (.istore_n 1, 1) := by decide +kernel
theorem dX7_triggeredStations_19 : decode cX7_triggeredStations 19 = .ok (.iinc 2 1, 3) := by decide +kernel
theorem dX7_triggeredStations_22 : decode cX7_triggeredStations 22 = .ok (.goto (-18), 3) := by decide +kernel
theorem dX7_triggeredStations_25 : decode cX7_triggeredStations 25 = .ok (.iload_n 1, 1) := by decide +kernel
theorem dX7_triggeredStations_26 : decode cX7_triggeredStations 26 = .ok (.ireturn, 1) := by decide +kernel
theorem dX7_sampleAt_0 : decode cX7_sampleAt 0 = .ok (.iload_n 2, 1) := by decide +kernel
theorem dX7_sampleAt_1 : decode cX7_sampleAt 1 = .ok (.iconst 1, 1) := by decide +kernel
theorem dX7_sampleAt_2 : decode cX7_sampleAt 2 = .ok (.if_icmp .ge 7, 3) := by decide +kernel
theorem dX7_sampleAt_5 : decode cX7_sampleAt 5 = .ok (.iconst (-1), 1) := by decide +kernel
theorem dX7_sampleAt_6 : decode cX7_sampleAt 6 = .ok (.goto 12, 3) := by decide +kernel
theorem dX7_sampleAt_9 : decode cX7_sampleAt 9 = .ok (.iload_n 1, 1) := by decide +kernel
theorem dX7_sampleAt_10 : decode cX7_sampleAt 10 = .ok (.bipush 99, 2) := by decide +kernel
theorem dX7_sampleAt_12 : decode cX7_sampleAt 12 = .ok (.imul, 1) := by decide +kernel
theorem dX7_sampleAt_13 : decode cX7_sampleAt 13 = .ok (.iload_n 2, 1) := by decide +kernel
theorem dX7_sampleAt_14 : decode cX7_sampleAt 14 = .ok (.bipush 99, 2) := by decide +kernel
theorem dX7_sampleAt_16 : decode cX7_sampleAt 16 = .ok (.irem, 1) := by decide +kernel
theorem dX7_sampleAt_17 : decode cX7_sampleAt 17 = .ok (.iadd, 1) := by decide +kernel
theorem dX7_sampleAt_18 : decode cX7_sampleAt 18 = .ok (.istore_n 3, 1) := by decide +kernel
theorem dX7_sampleAt_19 : decode cX7_sampleAt 19 = .ok (.iload_n 3, 1) := by decide +kernel
theorem dX7_sampleAt_20 : decode cX7_sampleAt 20 = .ok (.ifCond .lt 21, 3) := by decide +kernel
theorem dX7_sampleAt_23 : decode cX7_sampleAt 23 = .ok (.iload_n 3, 1) := by decide +kernel
theorem dX7_sampleAt_24 : decode cX7_sampleAt 24 = .ok (.aload_n 0, 1) := by decide +kernel
theorem dX7_sampleAt_25 : decode cX7_sampleAt 25 = .ok (.getfield 15, 3) := by decide +kernel
theorem dX7_sampleAt_28 : decode cX7_sampleAt 28 = .ok (.arraylength, 1) := by decide +kernel
theorem dX7_sampleAt_29 : decode cX7_sampleAt 29 = .ok (.if_icmp .ge 12, 3) := by decide +kernel
theorem dX7_sampleAt_32 : decode cX7_sampleAt 32 = .ok (.aload_n 0, 1) := by decide +kernel
theorem dX7_sampleAt_33 : decode cX7_sampleAt 33 = .ok (.getfield 15, 3) := by decide +kernel
theorem dX7_sampleAt_36 : decode cX7_sampleAt 36 = .ok (.iload_n 3, 1) := by decide +kernel
theorem dX7_sampleAt_37 : decode cX7_sampleAt 37 = .ok (.iaload, 1) := by decide +kernel
theorem dX7_sampleAt_38 : decode cX7_sampleAt 38 = .ok (.goto 4, 3) := by decide +kernel
theorem dX7_sampleAt_41 : decode cX7_sampleAt 41 = .ok (.iconst 0, 1) := by decide +kernel
theorem dX7_sampleAt_42 : decode cX7_sampleAt 42 = .ok (.ireturn, 1) := by decide +kernel
set_option maxRecDepth 20000 in
theorem ggX7_takeSample_X7_sampleAt : GoodIn wsX7_takeSample wsX7_sampleAt := goodIn_r _ [12, 2, 13, 14, 15, 16, 17, 18, 19, 20, 21, 22, 23, 24, 25, 26, 27, 28, 29] (by decide +kernel) (by decide +kernel)
set_option maxRecDepth 20000 in
theorem gX7_takeSample_X7_sampleAt : GoodIn wsX7_takeSample (wsV RX7 79 RX7 yX7_sampleAt wsX7_sampleAt) := goodIn_app (goodIn_of _ (by decide +kernel)) ggX7_takeSample_X7_sampleAt
theorem dX7_takeSample_0 : decode cX7_takeSample 0 = .ok (.iload_n 2, 1) := by decide +kernel
theorem dX7_takeSample_1 : decode cX7_takeSample 1 = .ok (.bipush 99, 2) := by decide +kernel
theorem dX7_takeSample_3 : decode cX7_takeSample 3 = .ok (.imul, 1) := by decide +kernel
theorem dX7_takeSample_4 : decode cX7_takeSample 4 = .ok (.aload_n 0, 1) := by decide +kernel
theorem dX7_takeSample_5 : decode cX7_takeSample 5 = .ok (.getfield 54, 3) := by decide +kernel
theorem dX7_takeSample_8 : decode cX7_takeSample 8 = .ok (.bipush 99, 2) := by decide +kernel
theorem dX7_takeSample_10 : decode cX7_takeSample 10 = .ok (.irem, 1) := by decide +kernel
theorem dX7_takeSample_11 : decode cX7_takeSample 11 = .ok (.iadd, 1) := by decide +kernel
theorem dX7_takeSample_12 : decode cX7_takeSample 12 = .ok (.istore_n 3, 1) := by decide +kernel
theorem dX7_takeSample_13 : decode cX7_takeSample 13 = .ok (.iload_n 2, 1) := by decide +kernel
theorem dX7_takeSample_14 : decode cX7_takeSample 14 = .ok (.ifCond .lt 22, 3) := by decide +kernel
theorem dX7_takeSample_17 : decode cX7_takeSample 17 = .ok (.iload_n 2, 1) := by decide +kernel
theorem dX7_takeSample_18 : decode cX7_takeSample 18 = .ok (.bipush 8, 2) := by decide +kernel
theorem dX7_takeSample_20 : decode cX7_takeSample 20 = .ok (.if_icmp .ge 16, 3) := by decide +kernel
theorem dX7_takeSample_23 : decode cX7_takeSample 23 = .ok (.iload_n 3, 1) := by decide +kernel
theorem dX7_takeSample_24 : decode cX7_takeSample 24 = .ok (.ifCond .lt 12, 3) := by decide +kernel
theorem dX7_takeSample_27 : decode cX7_takeSample 27 = .ok (.iload_n 3, 1) := by decide +kernel
theorem dX7_takeSample_28 : decode cX7_takeSample 28 = .ok (.aload_n 0, 1) := by decide +kernel
theorem dX7_takeSample_29 : decode cX7_takeSample 29 = .ok (.getfield 15, 3) := by decide +kernel
theorem dX7_takeSample_32 : decode cX7_takeSample 32 = .ok (.arraylength, 1) := by decide +kernel
theorem dX7_takeSample_33 : decode cX7_takeSample 33 = .ok (.if_icmp .lt 4, 3) := by decide +kernel
theorem dX7_takeSample_36 : decode cX7_takeSample 36 = .ok (.return_, 1) := by decide +kernel
theorem dX7_takeSample_37 : decode cX7_takeSample 37 = .ok (.aload_n 0, 1) := by decide +kernel
theorem dX7_takeSample_38 : decode cX7_takeSample 38 = .ok (.getfield 9, 3) := by decide +kernel
theorem dX7_takeSample_41 : decode cX7_takeSample 41 = .ok (.iload_n 2, 1) := by decide +kernel
theorem dX7_takeSample_42 : decode cX7_takeSample 42 = .ok (.iaload, 1) := by decide +kernel
theorem dX7_takeSample_43 : decode cX7_takeSample 43 = .ok (.istore 4, 2) := by decide +kernel
theorem dX7_takeSample_45 : decode cX7_takeSample 45 = .ok (.aload_n 0, 1) := by decide +kernel
theorem dX7_takeSample_46 : decode cX7_takeSample 46 = .ok (.getfield 18, 3) := by decide +kernel
theorem dX7_takeSample_49 : decode cX7_takeSample 49 = .ok (.iload_n 2, 1) := by decide +kernel
theorem dX7_takeSample_50 : decode cX7_takeSample 50 = .ok (.dup2, 1) := by decide +kernel
theorem dX7_takeSample_51 : decode cX7_takeSample 51 = .ok (.iaload, 1) := by decide +kernel
theorem dX7_takeSample_52 : decode cX7_takeSample 52 = .ok (.iload 4, 2) := by decide +kernel
theorem dX7_takeSample_54 : decode cX7_takeSample 54 = .ok (.aload_n 0, 1) := by decide +kernel
theorem dX7_takeSample_55 : decode cX7_takeSample 55 = .ok (.iload_n 2, 1) := by decide +kernel
theorem dX7_takeSample_56 : decode cX7_takeSample 56 = .ok (.aload_n 0, 1) := by decide +kernel
theorem dX7_takeSample_57 : decode cX7_takeSample 57 = .ok (.getfield 54, 3) := by decide +kernel
theorem dX7_takeSample_60 : decode cX7_takeSample 60 = .ok (.aload_n 1, 1) := by decide +kernel
theorem dX7_takeSample_61 : decode cX7_takeSample 61 = .ok (.getfield 74, 3) := by decide +kernel
theorem dX7_takeSample_64 : decode cX7_takeSample 64 = .ok (.isub, 1) := by decide +kernel
theorem dX7_takeSample_65 : decode cX7_takeSample 65 = .ok (.invokevirtual 79, 3) := by decide +kernel
theorem dX7_takeSample_68 : decode cX7_takeSample 68 = .ok (.isub, 1) := by decide +kernel
theorem dX7_takeSample_69 : decode cX7_takeSample 69 = .ok (.iadd, 1) := by decide +kernel
theorem dX7_takeSample_70 : decode cX7_takeSample 70 = .ok (.iastore, 1) := by decide +kernel
theorem dX7_takeSample_71 : decode cX7_takeSample 71 = .ok (.aload_n 0, 1) := by decide +kernel
theorem dX7_takeSample_72 : decode cX7_takeSample 72 = .ok (.getfield 21, 3) := by decide +kernel
theorem dX7_takeSample_75 : decode cX7_takeSample 75 = .ok (.iload_n 2, 1) := by decide +kernel
theorem dX7_takeSample_76 : decode cX7_takeSample 76 = .ok (.dup2, 1) := by decide +kernel
theorem dX7_takeSample_77 : decode cX7_takeSample 77 = .ok (.iaload, 1) := by decide +kernel
theorem dX7_takeSample_78 : decode cX7_takeSample 78 = .ok (.iload 4, 2) := by decide +kernel
theorem dX7_takeSample_80 : decode cX7_takeSample 80 = .ok (.aload_n 0, 1) := by decide +kernel
theorem dX7_takeSample_81 : decode cX7_takeSample 81 = .ok (.iload_n 2, 1) := by decide +kernel
theorem dX7_takeSample_82 : decode cX7_takeSample 82 = .ok (.aload_n 0, 1) := by decide +kernel
theorem dX7_takeSample_83 : decode cX7_takeSample 83 = .ok (.getfield 54, 3) := by decide +kernel
theorem dX7_takeSample_86 : decode cX7_takeSample 86 = .ok (.aload_n 1, 1) := by decide +kernel
theorem dX7_takeSample_87 : decode cX7_takeSample 87 = .ok (.getfield 83, 3) := by decide +kernel
theorem dX7_takeSample_90 : decode cX7_takeSample 90 = .ok (.isub, 1) := by decide +kernel
theorem dX7_takeSample_91 : decode cX7_takeSample 91 = .ok (.invokevirtual 79, 3) := by decide +kernel
theorem dX7_takeSample_94 : decode cX7_takeSample 94 = .ok (.isub, 1) := by decide +kernel
theorem dX7_takeSample_95 : decode cX7_takeSample 95 = .ok (.iadd, 1) := by decide +kernel
theorem dX7_takeSample_96 : decode cX7_takeSample 96 = .ok (.iastore, 1) := by decide +kernel
theorem dX7_takeSample_97 : decode cX7_takeSample 97 = .ok (.aload_n 0, 1) := by decide +kernel
theorem dX7_takeSample_98 : decode cX7_takeSample 98 = .ok (.getfield 15, 3) := by decide +kernel
theorem dX7_takeSample_101 : decode cX7_takeSample 101 = .ok (.iload_n 3, 1) := by decide +kernel
theorem dX7_takeSample_102 : decode cX7_takeSample 102 = .ok (.iload 4, 2) := by decide +kernel
theorem dX7_takeSample_104 : decode cX7_takeSample 104 = .ok (.iastore, 1) := by decide +kernel
theorem dX7_takeSample_105 : decode cX7_takeSample 105 = .ok (.return_, 1) := by decide +kernel
theorem dX7_picksOf_0 : decode cX7_picksOf 0 = .ok (.iconst 0, 1) := by decide +kernel
theorem dX7_picksOf_1 : decode cX7_picksOf 1 = .ok (.istore_n 2, 1) := by decide +kernel
theorem dX7_picksOf_2 : decode cX7_picksOf 2 = .ok (.iconst 0, 1) := by decide +kernel
theorem dX7_picksOf_3 : decode cX7_picksOf 3 = .ok (.istore_n 3, 1) := by decide +kernel
theorem dX7_picksOf_4 : decode cX7_picksOf 4 = .ok (.iload_n 3, 1) := by decide +kernel
theorem dX7_picksOf_5 : decode cX7_picksOf 5 = .ok (.aload_n 0, 1) := by decide +kernel
theorem dX7_picksOf_6 : decode cX7_picksOf 6 = .ok (.getfield 58, 3) := by decide +kernel
theorem dX7_picksOf_9 : decode cX7_picksOf 9 = .ok (.if_icmp .ge 28, 3) := by decide +kernel
theorem dX7_picksOf_12 : decode cX7_picksOf 12 = .ok (.iload_n 3, 1) := by decide +kernel
theorem dX7_picksOf_13 : decode cX7_picksOf 13 = .ok (.bipush 60, 2) := by decide +kernel
theorem dX7_picksOf_15 : decode cX7_picksOf 15 = .ok (.if_icmp .ge 22, 3) := by decide +kernel
theorem dX7_picksOf_18 : decode cX7_picksOf 18 = .ok (.aload_n 0, 1) := by decide +kernel
theorem dX7_picksOf_19 : decode cX7_picksOf 19 = .ok (.getfield 42, 3) := by decide +kernel
theorem dX7_picksOf_22 : decode cX7_picksOf 22 = .ok (.iload_n 3, 1) := by decide +kernel
theorem dX7_picksOf_23 : decode cX7_picksOf 23 = .ok (.iaload, 1) := by decide +kernel
theorem dX7_picksOf_24 : decode cX7_picksOf 24 = .ok (.iload_n 1, 1) := by decide +kernel
theorem dX7_picksOf_25 : decode cX7_picksOf 25 = .ok (.if_icmp .ne 6, 3) := by decide +kernel
theorem dX7_picksOf_28 : decode cX7_picksOf 28 = .ok (.iinc 2 1, 3) := by decide +kernel
theorem dX7_picksOf_31 : decode cX7_picksOf 31 = .ok (.iinc 3 1, 3) := by decide +kernel
theorem dX7_picksOf_34 : decode cX7_picksOf 34 = .ok (.goto (-30), 3) := by decide +kernel
theorem dX7_picksOf_37 : decode cX7_picksOf 37 = .ok (.iload_n 2, 1) := by decide +kernel
theorem dX7_picksOf_38 : decode cX7_picksOf 38 = .ok (.ireturn, 1) := by decide +kernel
set_option maxRecDepth 20000 in
theorem ggX7_picksFit_X5_travelOfStations : GoodIn wsX7_picksFit wsX5_travelOfStations := goodIn_r _ [13, 14, 32, 33, 34, 35, 36, 37, 38, 39, 40, 41, 42, 43, 44, 45, 46] (by decide +kernel) (by decide +kernel)
set_option maxRecDepth 20000 in
theorem gX7_picksFit_X5_travelOfStations : GoodIn wsX7_picksFit (wsV RX7 92 RX5 yX5_travelOfStations wsX5_travelOfStations) := goodIn_app (goodIn_of _ (by decide +kernel)) ggX7_picksFit_X5_travelOfStations
theorem dX7_picksFit_0 : decode cX7_picksFit 0 = .ok (.iload_n 2, 1) := by decide +kernel
theorem dX7_picksFit_1 : decode cX7_picksFit 1 = .ok (.ifCond .lt 19, 3) := by decide +kernel
theorem dX7_picksFit_4 : decode cX7_picksFit 4 = .ok (.iload_n 2, 1) := by decide +kernel
theorem dX7_picksFit_5 : decode cX7_picksFit 5 = .ok (.bipush 60, 2) := by decide +kernel
theorem dX7_picksFit_7 : decode cX7_picksFit 7 = .ok (.if_icmp .ge 13, 3) := by decide +kernel
theorem dX7_picksFit_10 : decode cX7_picksFit 10 = .ok (.iload_n 3, 1) := by decide +kernel
theorem dX7_picksFit_11 : decode cX7_picksFit 11 = .ok (.ifCond .lt 9, 3) := by decide +kernel
theorem dX7_picksFit_14 : decode cX7_picksFit 14 = .ok (.iload_n 3, 1) := by decide +kernel
theorem dX7_picksFit_15 : decode cX7_picksFit 15 = .ok (.bipush 60, 2) := by decide +kernel
theorem dX7_picksFit_17 : decode cX7_picksFit 17 = .ok (.if_icmp .lt 5, 3) := by decide +kernel
theorem dX7_picksFit_20 : decode cX7_picksFit 20 = .ok (.iconst 0, 1) := by decide +kernel
theorem dX7_picksFit_21 : decode cX7_picksFit 21 = .ok (.ireturn, 1) := by decide +kernel
theorem dX7_picksFit_22 : decode cX7_picksFit 22 = .ok (.aload_n 0, 1) := by decide +kernel
theorem dX7_picksFit_23 : decode cX7_picksFit 23 = .ok (.getfield 45, 3) := by decide +kernel
theorem dX7_picksFit_26 : decode cX7_picksFit 26 = .ok (.iload_n 2, 1) := by decide +kernel
theorem dX7_picksFit_27 : decode cX7_picksFit 27 = .ok (.iaload, 1) := by decide +kernel
theorem dX7_picksFit_28 : decode cX7_picksFit 28 = .ok (.iconst 1, 1) := by decide +kernel
theorem dX7_picksFit_29 : decode cX7_picksFit 29 = .ok (.if_icmp .eq 28, 3) := by decide +kernel
theorem dX7_picksFit_32 : decode cX7_picksFit 32 = .ok (.aload_n 0, 1) := by decide +kernel
theorem dX7_picksFit_33 : decode cX7_picksFit 33 = .ok (.getfield 45, 3) := by decide +kernel
theorem dX7_picksFit_36 : decode cX7_picksFit 36 = .ok (.iload_n 3, 1) := by decide +kernel
theorem dX7_picksFit_37 : decode cX7_picksFit 37 = .ok (.iaload, 1) := by decide +kernel
theorem dX7_picksFit_38 : decode cX7_picksFit 38 = .ok (.iconst 1, 1) := by decide +kernel
theorem dX7_picksFit_39 : decode cX7_picksFit 39 = .ok (.if_icmp .eq 18, 3) := by decide +kernel
theorem dX7_picksFit_42 : decode cX7_picksFit 42 = .ok (.aload_n 0, 1) := by decide +kernel
theorem dX7_picksFit_43 : decode cX7_picksFit 43 = .ok (.getfield 33, 3) := by decide +kernel
theorem dX7_picksFit_46 : decode cX7_picksFit 46 = .ok (.iload_n 2, 1) := by decide +kernel
theorem dX7_picksFit_47 : decode cX7_picksFit 47 = .ok (.iaload, 1) := by decide +kernel
theorem dX7_picksFit_48 : decode cX7_picksFit 48 = .ok (.aload_n 0, 1) := by decide +kernel
theorem dX7_picksFit_49 : decode cX7_picksFit 49 = .ok (.getfield 33, 3) := by decide +kernel
theorem dX7_picksFit_52 : decode cX7_picksFit 52 = .ok (.iload_n 3, 1) := by decide +kernel
theorem dX7_picksFit_53 : decode cX7_picksFit 53 = .ok (.iaload, 1) := by decide +kernel
theorem dX7_picksFit_54 : decode cX7_picksFit 54 = .ok (.if_icmp .ne 5, 3) := by decide +kernel
theorem dX7_picksFit_57 : decode cX7_picksFit 57 = .ok (.iconst 0, 1) := by decide +kernel
theorem dX7_picksFit_58 : decode cX7_picksFit 58 = .ok (.ireturn, 1) := by decide +kernel
theorem dX7_picksFit_59 : decode cX7_picksFit 59 = .ok (.aload_n 0, 1) := by decide +kernel
theorem dX7_picksFit_60 : decode cX7_picksFit 60 = .ok (.getfield 36, 3) := by decide +kernel
theorem dX7_picksFit_63 : decode cX7_picksFit 63 = .ok (.iload_n 2, 1) := by decide +kernel
theorem dX7_picksFit_64 : decode cX7_picksFit 64 = .ok (.iaload, 1) := by decide +kernel
theorem dX7_picksFit_65 : decode cX7_picksFit 65 = .ok (.aload_n 0, 1) := by decide +kernel
theorem dX7_picksFit_66 : decode cX7_picksFit 66 = .ok (.getfield 36, 3) := by decide +kernel
theorem dX7_picksFit_69 : decode cX7_picksFit 69 = .ok (.iload_n 3, 1) := by decide +kernel
theorem dX7_picksFit_70 : decode cX7_picksFit 70 = .ok (.iaload, 1) := by decide +kernel
theorem dX7_picksFit_71 : decode cX7_picksFit 71 = .ok (.isub, 1) := by decide +kernel
theorem dX7_picksFit_72 : decode cX7_picksFit 72 = .ok (.invokestatic 86, 3) := by decide +kernel
theorem dX7_picksFit_75 : decode cX7_picksFit 75 = .ok (.istore 4, 2) := by decide +kernel
theorem dX7_picksFit_77 : decode cX7_picksFit 77 = .ok (.iload 4, 2) := by decide +kernel
theorem dX7_picksFit_79 : decode cX7_picksFit 79 = .ok (.aload_n 1, 1) := by decide +kernel
theorem dX7_picksFit_80 : decode cX7_picksFit 80 = .ok (.aload_n 0, 1) := by decide +kernel
theorem dX7_picksFit_81 : decode cX7_picksFit 81 = .ok (.getfield 33, 3) := by decide +kernel
theorem dX7_picksFit_84 : decode cX7_picksFit 84 = .ok (.iload_n 2, 1) := by decide +kernel
theorem dX7_picksFit_85 : decode cX7_picksFit 85 = .ok (.iaload, 1) := by decide +kernel
theorem dX7_picksFit_86 : decode cX7_picksFit 86 = .ok (.aload_n 0, 1) := by decide +kernel
theorem dX7_picksFit_87 : decode cX7_picksFit 87 = .ok (.getfield 33, 3) := by decide +kernel
theorem dX7_picksFit_90 : decode cX7_picksFit 90 = .ok (.iload_n 3, 1) := by decide +kernel
theorem dX7_picksFit_91 : decode cX7_picksFit 91 = .ok (.iaload, 1) := by decide +kernel
theorem dX7_picksFit_92 : decode cX7_picksFit 92 = .ok (.invokevirtual 92, 3) := by decide +kernel
theorem dX7_picksFit_95 : decode cX7_picksFit 95 = .ok (.aload_n 1, 1) := by decide +kernel
theorem dX7_picksFit_96 : decode cX7_picksFit 96 = .ok (.getfield 95, 3) := by decide +kernel
theorem dX7_picksFit_99 : decode cX7_picksFit 99 = .ok (.iadd, 1) := by decide +kernel
theorem dX7_picksFit_100 : decode cX7_picksFit 100 = .ok (.if_icmp .gt 7, 3) := by decide +kernel
theorem dX7_picksFit_103 : decode cX7_picksFit 103 = .ok (.iconst 1, 1) := by decide +kernel
theorem dX7_picksFit_104 : decode cX7_picksFit 104 = .ok (.goto 4, 3) := by decide +kernel
theorem dX7_picksFit_107 : decode cX7_picksFit 107 = .ok (.iconst 0, 1) := by decide +kernel
theorem dX7_picksFit_108 : decode cX7_picksFit 108 = .ok (.ireturn, 1) := by decide +kernel
theorem dX7_addPick_0 : decode cX7_addPick 0 = .ok (.aload_n 0, 1) := by decide +kernel
theorem dX7_addPick_1 : decode cX7_addPick 1 = .ok (.getfield 58, 3) := by decide +kernel
theorem dX7_addPick_4 : decode cX7_addPick 4 = .ok (.bipush 60, 2) := by decide +kernel
theorem dX7_addPick_6 : decode cX7_addPick 6 = .ok (.if_icmp .ge 86, 3) := by decide +kernel
theorem dX7_addPick_9 : decode cX7_addPick 9 = .ok (.iload_n 1, 1) := by decide +kernel
theorem dX7_addPick_10 : decode cX7_addPick 10 = .ok (.ifCond .lt 82, 3) := by decide +kernel
theorem dX7_addPick_13 : decode cX7_addPick 13 = .ok (.iload_n 1, 1) := by decide +kernel
theorem dX7_addPick_14 : decode cX7_addPick 14 = .ok (.bipush 8, 2) := by decide +kernel
theorem dX7_addPick_16 : decode cX7_addPick 16 = .ok (.if_icmp .ge 76, 3) := by decide +kernel
theorem dX7_addPick_19 : decode cX7_addPick 19 = .ok (.aload_n 0, 1) := by decide +kernel
theorem dX7_addPick_20 : decode cX7_addPick 20 = .ok (.getfield 33, 3) := by decide +kernel
theorem dX7_addPick_23 : decode cX7_addPick 23 = .ok (.aload_n 0, 1) := by decide +kernel
theorem dX7_addPick_24 : decode cX7_addPick 24 = .ok (.getfield 58, 3) := by decide +kernel
theorem dX7_addPick_27 : decode cX7_addPick 27 = .ok (.iload_n 1, 1) := by decide +kernel
theorem dX7_addPick_28 : decode cX7_addPick 28 = .ok (.iastore, 1) := by decide +kernel
theorem dX7_addPick_29 : decode cX7_addPick 29 = .ok (.aload_n 0, 1) := by decide +kernel
theorem dX7_addPick_30 : decode cX7_addPick 30 = .ok (.getfield 36, 3) := by decide +kernel
theorem dX7_addPick_33 : decode cX7_addPick 33 = .ok (.aload_n 0, 1) := by decide +kernel
theorem dX7_addPick_34 : decode cX7_addPick 34 = .ok (.getfield 58, 3) := by decide +kernel
theorem dX7_addPick_37 : decode cX7_addPick 37 = .ok (.aload_n 0, 1) := by decide +kernel
theorem dX7_addPick_38 : decode cX7_addPick 38 = .ok (.getfield 54, 3) := by decide +kernel
theorem dX7_addPick_41 : decode cX7_addPick 41 = .ok (.iastore, 1) := by decide +kernel
theorem dX7_addPick_42 : decode cX7_addPick 42 = .ok (.aload_n 0, 1) := by decide +kernel
theorem dX7_addPick_43 : decode cX7_addPick 43 = .ok (.getfield 39, 3) := by decide +kernel
theorem dX7_addPick_46 : decode cX7_addPick 46 = .ok (.aload_n 0, 1) := by decide +kernel
theorem dX7_addPick_47 : decode cX7_addPick 47 = .ok (.getfield 58, 3) := by decide +kernel
theorem dX7_addPick_50 : decode cX7_addPick 50 = .ok (.iload_n 2, 1) := by decide +kernel
theorem dX7_addPick_51 : decode cX7_addPick 51 = .ok (.iastore, 1) := by decide +kernel
theorem dX7_addPick_52 : decode cX7_addPick 52 = .ok (.aload_n 0, 1) := by decide +kernel
theorem dX7_addPick_53 : decode cX7_addPick 53 = .ok (.getfield 42, 3) := by decide +kernel
theorem dX7_addPick_56 : decode cX7_addPick 56 = .ok (.aload_n 0, 1) := by decide +kernel
theorem dX7_addPick_57 : decode cX7_addPick 57 = .ok (.getfield 58, 3) := by decide +kernel
theorem dX7_addPick_60 : decode cX7_addPick 60 = .ok (.iconst (-1), 1) := by decide +kernel
theorem dX7_addPick_61 : decode cX7_addPick 61 = .ok (.iastore, 1) := by decide +kernel
theorem dX7_addPick_62 : decode cX7_addPick 62 = .ok (.aload_n 0, 1) := by decide +kernel
theorem dX7_addPick_63 : decode cX7_addPick 63 = .ok (.getfield 45, 3) := by decide +kernel
theorem dX7_addPick_66 : decode cX7_addPick 66 = .ok (.aload_n 0, 1) := by decide +kernel
theorem dX7_addPick_67 : decode cX7_addPick 67 = .ok (.getfield 58, 3) := by decide +kernel
theorem dX7_addPick_70 : decode cX7_addPick 70 = .ok (.iconst 0, 1) := by decide +kernel
theorem dX7_addPick_71 : decode cX7_addPick 71 = .ok (.iastore, 1) := by decide +kernel
theorem dX7_addPick_72 : decode cX7_addPick 72 = .ok (.aload_n 0, 1) := by decide +kernel
theorem dX7_addPick_73 : decode cX7_addPick 73 = .ok (.getfield 30, 3) := by decide +kernel
theorem dX7_addPick_76 : decode cX7_addPick 76 = .ok (.iload_n 1, 1) := by decide +kernel
theorem dX7_addPick_77 : decode cX7_addPick 77 = .ok (.aload_n 0, 1) := by decide +kernel
theorem dX7_addPick_78 : decode cX7_addPick 78 = .ok (.getfield 58, 3) := by decide +kernel
theorem dX7_addPick_81 : decode cX7_addPick 81 = .ok (.iastore, 1) := by decide +kernel
theorem dX7_addPick_82 : decode cX7_addPick 82 = .ok (.aload_n 0, 1) := by decide +kernel
theorem dX7_addPick_83 : decode cX7_addPick 83 = .ok (.dup, 1) := by decide +kernel
theorem dX7_addPick_84 : decode cX7_addPick 84 = .ok (.getfield 58, 3) := by decide +kernel
theorem dX7_addPick_87 : decode cX7_addPick 87 = .ok (.iconst 1, 1) := by decide +kernel
theorem dX7_addPick_88 : decode cX7_addPick 88 = .ok (.iadd, 1) := by decide +kernel
theorem dX7_addPick_89 : decode cX7_addPick 89 = .ok (.putfield 58, 3) := by decide +kernel
theorem dX7_addPick_92 : decode cX7_addPick 92 = .ok (.return_, 1) := by decide +kernel
set_option maxRecDepth 20000 in
theorem ggX7_silence_X7_picksOf : GoodIn wsX7_silence wsX7_picksOf := goodIn_r _ [14, 3, 6, 19, 20, 21, 22, 23, 24, 25, 26, 27, 28, 29, 30, 31, 32, 33, 34, 35] (by decide +kernel) (by decide +kernel)
set_option maxRecDepth 20000 in
theorem gX7_silence_X7_picksOf : GoodIn wsX7_silence (wsV RX7 98 RX7 yX7_picksOf wsX7_picksOf) := goodIn_app (goodIn_of _ (by decide +kernel)) ggX7_silence_X7_picksOf
set_option maxRecDepth 20000 in
theorem ggX7_silence_X7_withdraw : GoodIn wsX7_silence wsX7_withdraw := goodIn_r _ [18, 8, 3, 6, 19, 20, 21, 22, 23, 24, 25, 26, 27, 28, 29, 30, 31, 32, 33, 34, 35] (by decide +kernel) (by decide +kernel)
set_option maxRecDepth 20000 in
theorem gX7_silence_X7_withdraw : GoodIn wsX7_silence (wsV RX7 104 RX7 yX7_withdraw wsX7_withdraw) := goodIn_app (goodIn_of _ (by decide +kernel)) ggX7_silence_X7_withdraw
theorem dX7_silence_0 : decode cX7_silence 0 = .ok (.iload_n 2, 1) := by decide +kernel
theorem dX7_silence_1 : decode cX7_silence 1 = .ok (.ifCond .lt 9, 3) := by decide +kernel
theorem dX7_silence_4 : decode cX7_silence 4 = .ok (.iload_n 2, 1) := by decide +kernel
theorem dX7_silence_5 : decode cX7_silence 5 = .ok (.bipush 8, 2) := by decide +kernel
theorem dX7_silence_7 : decode cX7_silence 7 = .ok (.if_icmp .lt 5, 3) := by decide +kernel
theorem dX7_silence_10 : decode cX7_silence 10 = .ok (.iconst 0, 1) := by decide +kernel
theorem dX7_silence_11 : decode cX7_silence 11 = .ok (.ireturn, 1) := by decide +kernel
theorem dX7_silence_12 : decode cX7_silence 12 = .ok (.aload_n 0, 1) := by decide +kernel
theorem dX7_silence_13 : decode cX7_silence 13 = .ok (.getfield 27, 3) := by decide +kernel
theorem dX7_silence_16 : decode cX7_silence 16 = .ok (.iload_n 2, 1) := by decide +kernel
theorem dX7_silence_17 : decode cX7_silence 17 = .ok (.iconst 1, 1) := by decide +kernel
theorem dX7_silence_18 : decode cX7_silence 18 = .ok (.iastore, 1) := by decide +kernel
theorem dX7_silence_19 : decode cX7_silence 19 = .ok (.aload_n 0, 1) := by decide +kernel
theorem dX7_silence_20 : decode cX7_silence 20 = .ok (.getfield 24, 3) := by decide +kernel
theorem dX7_silence_23 : decode cX7_silence 23 = .ok (.iload_n 2, 1) := by decide +kernel
theorem dX7_silence_24 : decode cX7_silence 24 = .ok (.iconst 0, 1) := by decide +kernel
theorem dX7_silence_25 : decode cX7_silence 25 = .ok (.iastore, 1) := by decide +kernel
theorem dX7_silence_26 : decode cX7_silence 26 = .ok (.iconst 0, 1) := by decide +kernel
theorem dX7_silence_27 : decode cX7_silence 27 = .ok (.istore_n 3, 1) := by decide +kernel
theorem dX7_silence_28 : decode cX7_silence 28 = .ok (.iload_n 3, 1) := by decide +kernel
theorem dX7_silence_29 : decode cX7_silence 29 = .ok (.aload_n 0, 1) := by decide +kernel
theorem dX7_silence_30 : decode cX7_silence 30 = .ok (.getfield 58, 3) := by decide +kernel
theorem dX7_silence_33 : decode cX7_silence 33 = .ok (.if_icmp .ge 39, 3) := by decide +kernel
theorem dX7_silence_36 : decode cX7_silence 36 = .ok (.iload_n 3, 1) := by decide +kernel
theorem dX7_silence_37 : decode cX7_silence 37 = .ok (.bipush 60, 2) := by decide +kernel
theorem dX7_silence_39 : decode cX7_silence 39 = .ok (.if_icmp .ge 33, 3) := by decide +kernel
theorem dX7_silence_42 : decode cX7_silence 42 = .ok (.aload_n 0, 1) := by decide +kernel
theorem dX7_silence_43 : decode cX7_silence 43 = .ok (.getfield 33, 3) := by decide +kernel
theorem dX7_silence_46 : decode cX7_silence 46 = .ok (.iload_n 3, 1) := by decide +kernel
theorem dX7_silence_47 : decode cX7_silence 47 = .ok (.iaload, 1) := by decide +kernel
theorem dX7_silence_48 : decode cX7_silence 48 = .ok (.iload_n 2, 1) := by decide +kernel
theorem dX7_silence_49 : decode cX7_silence 49 = .ok (.if_icmp .ne 17, 3) := by decide +kernel
theorem dX7_silence_52 : decode cX7_silence 52 = .ok (.aload_n 0, 1) := by decide +kernel
theorem dX7_silence_53 : decode cX7_silence 53 = .ok (.getfield 45, 3) := by decide +kernel
theorem dX7_silence_56 : decode cX7_silence 56 = .ok (.iload_n 3, 1) := by decide +kernel
theorem dX7_silence_57 : decode cX7_silence 57 = .ok (.iconst 1, 1) := by decide +kernel
theorem dX7_silence_58 : decode cX7_silence 58 = .ok (.iastore, 1) := by decide +kernel
theorem dX7_silence_59 : decode cX7_silence 59 = .ok (.aload_n 0, 1) := by decide +kernel
theorem dX7_silence_60 : decode cX7_silence 60 = .ok (.getfield 42, 3) := by decide +kernel
theorem dX7_silence_63 : decode cX7_silence 63 = .ok (.iload_n 3, 1) := by decide +kernel
theorem dX7_silence_64 : decode cX7_silence 64 = .ok (.iconst (-1), 1) := by decide +kernel
theorem dX7_silence_65 : decode cX7_silence 65 = .ok (.iastore, 1) := by decide +kernel
theorem dX7_silence_66 : decode cX7_silence 66 = .ok (.iinc 3 1, 3) := by decide +kernel
theorem dX7_silence_69 : decode cX7_silence 69 = .ok (.goto (-41), 3) := by decide +kernel
theorem dX7_silence_72 : decode cX7_silence 72 = .ok (.iconst 0, 1) := by decide +kernel
theorem dX7_silence_73 : decode cX7_silence 73 = .ok (.istore_n 3, 1) := by decide +kernel
theorem dX7_silence_74 : decode cX7_silence 74 = .ok (.iconst 0, 1) := by decide +kernel
theorem dX7_silence_75 : decode cX7_silence 75 = .ok (.istore 4, 2) := by decide +kernel
theorem dX7_silence_77 : decode cX7_silence 77 = .ok (.iload 4, 2) := by decide +kernel
theorem dX7_silence_79 : decode cX7_silence 79 = .ok (.aload_n 0, 1) := by decide +kernel
theorem dX7_silence_80 : decode cX7_silence 80 = .ok (.getfield 61, 3) := by decide +kernel
theorem dX7_silence_83 : decode cX7_silence 83 = .ok (.if_icmp .ge 48, 3) := by decide +kernel
theorem dX7_silence_86 : decode cX7_silence 86 = .ok (.iload 4, 2) := by decide +kernel
theorem dX7_silence_88 : decode cX7_silence 88 = .ok (.bipush 20, 2) := by decide +kernel
theorem dX7_silence_90 : decode cX7_silence 90 = .ok (.if_icmp .ge 41, 3) := by decide +kernel
theorem dX7_silence_93 : decode cX7_silence 93 = .ok (.aload_n 0, 1) := by decide +kernel
theorem dX7_silence_94 : decode cX7_silence 94 = .ok (.getfield 51, 3) := by decide +kernel
theorem dX7_silence_97 : decode cX7_silence 97 = .ok (.iload 4, 2) := by decide +kernel
theorem dX7_silence_99 : decode cX7_silence 99 = .ok (.iaload, 1) := by decide +kernel
theorem dX7_silence_100 : decode cX7_silence 100 = .ok (.ifCond .ne 25, 3) := by decide +kernel
theorem dX7_silence_103 : decode cX7_silence 103 = .ok (.aload_n 0, 1) := by decide +kernel
theorem dX7_silence_104 : decode cX7_silence 104 = .ok (.iload 4, 2) := by decide +kernel
theorem dX7_silence_106 : decode cX7_silence 106 = .ok (.invokevirtual 98, 3) := by decide +kernel
theorem dX7_silence_109 : decode cX7_silence 109 = .ok (.aload_n 1, 1) := by decide +kernel
theorem dX7_silence_110 : decode cX7_silence 110 = .ok (.getfield 101, 3) := by decide +kernel
theorem dX7_silence_113 : decode cX7_silence 113 = .ok (.if_icmp .ge 12, 3) := by decide +kernel
theorem dX7_silence_116 : decode cX7_silence 116 = .ok (.aload_n 0, 1) := by decide +kernel
theorem dX7_silence_117 : decode cX7_silence 117 = .ok (.iload 4, 2) := by decide +kernel
theorem dX7_silence_119 : decode cX7_silence 119 = .ok (.invokevirtual 104, 3) := by decide +kernel
theorem dX7_silence_122 : decode cX7_silence 122 = .ok (.iinc 3 1, 3) := by decide +kernel
theorem dX7_silence_125 : decode cX7_silence 125 = .ok (.iinc 4 1, 3) := by decide +kernel
theorem dX7_silence_128 : decode cX7_silence 128 = .ok (.goto (-51), 3) := by decide +kernel
theorem dX7_silence_131 : decode cX7_silence 131 = .ok (.iload_n 3, 1) := by decide +kernel
theorem dX7_silence_132 : decode cX7_silence 132 = .ok (.ireturn, 1) := by decide +kernel
theorem dX7_withdraw_0 : decode cX7_withdraw 0 = .ok (.iload_n 1, 1) := by decide +kernel
theorem dX7_withdraw_1 : decode cX7_withdraw 1 = .ok (.ifCond .lt 9, 3) := by decide +kernel
theorem dX7_withdraw_4 : decode cX7_withdraw 4 = .ok (.iload_n 1, 1) := by decide +kernel
theorem dX7_withdraw_5 : decode cX7_withdraw 5 = .ok (.bipush 20, 2) := by decide +kernel
theorem dX7_withdraw_7 : decode cX7_withdraw 7 = .ok (.if_icmp .lt 4, 3) := by decide +kernel
theorem dX7_withdraw_10 : decode cX7_withdraw 10 = .ok (.return_, 1) := by decide +kernel
theorem dX7_withdraw_11 : decode cX7_withdraw 11 = .ok (.aload_n 0, 1) := by decide +kernel
theorem dX7_withdraw_12 : decode cX7_withdraw 12 = .ok (.getfield 51, 3) := by decide +kernel
theorem dX7_withdraw_15 : decode cX7_withdraw 15 = .ok (.iload_n 1, 1) := by decide +kernel
theorem dX7_withdraw_16 : decode cX7_withdraw 16 = .ok (.iconst 1, 1) := by decide +kernel
theorem dX7_withdraw_17 : decode cX7_withdraw 17 = .ok (.iastore, 1) := by decide +kernel
theorem dX7_withdraw_18 : decode cX7_withdraw 18 = .ok (.iconst 0, 1) := by decide +kernel
theorem dX7_withdraw_19 : decode cX7_withdraw 19 = .ok (.istore_n 2, 1) := by decide +kernel
theorem dX7_withdraw_20 : decode cX7_withdraw 20 = .ok (.iload_n 2, 1) := by decide +kernel
theorem dX7_withdraw_21 : decode cX7_withdraw 21 = .ok (.aload_n 0, 1) := by decide +kernel
theorem dX7_withdraw_22 : decode cX7_withdraw 22 = .ok (.getfield 58, 3) := by decide +kernel
theorem dX7_withdraw_25 : decode cX7_withdraw 25 = .ok (.if_icmp .ge 32, 3) := by decide +kernel
theorem dX7_withdraw_28 : decode cX7_withdraw 28 = .ok (.iload_n 2, 1) := by decide +kernel
theorem dX7_withdraw_29 : decode cX7_withdraw 29 = .ok (.bipush 60, 2) := by decide +kernel
theorem dX7_withdraw_31 : decode cX7_withdraw 31 = .ok (.if_icmp .ge 26, 3) := by decide +kernel
theorem dX7_withdraw_34 : decode cX7_withdraw 34 = .ok (.aload_n 0, 1) := by decide +kernel
theorem dX7_withdraw_35 : decode cX7_withdraw 35 = .ok (.getfield 42, 3) := by decide +kernel
theorem dX7_withdraw_38 : decode cX7_withdraw 38 = .ok (.iload_n 2, 1) := by decide +kernel
theorem dX7_withdraw_39 : decode cX7_withdraw 39 = .ok (.iaload, 1) := by decide +kernel
theorem dX7_withdraw_40 : decode cX7_withdraw 40 = .ok (.iload_n 1, 1) := by decide +kernel
theorem dX7_withdraw_41 : decode cX7_withdraw 41 = .ok (.if_icmp .ne 10, 3) := by decide +kernel
theorem dX7_withdraw_44 : decode cX7_withdraw 44 = .ok (.aload_n 0, 1) := by decide +kernel
theorem dX7_withdraw_45 : decode cX7_withdraw 45 = .ok (.getfield 42, 3) := by decide +kernel
theorem dX7_withdraw_48 : decode cX7_withdraw 48 = .ok (.iload_n 2, 1) := by decide +kernel
theorem dX7_withdraw_49 : decode cX7_withdraw 49 = .ok (.iconst (-1), 1) := by decide +kernel
theorem dX7_withdraw_50 : decode cX7_withdraw 50 = .ok (.iastore, 1) := by decide +kernel
theorem dX7_withdraw_51 : decode cX7_withdraw 51 = .ok (.iinc 2 1, 3) := by decide +kernel
theorem dX7_withdraw_54 : decode cX7_withdraw 54 = .ok (.goto (-34), 3) := by decide +kernel
theorem dX7_withdraw_57 : decode cX7_withdraw 57 = .ok (.return_, 1) := by decide +kernel
theorem dX8_init_0 : decode cX8_init 0 = .ok (.aload_n 0, 1) := by decide +kernel
theorem dX8_init_1 : decode cX8_init 1 = .ok (.invokespecial 3, 3) := by decide +kernel
theorem dX8_init_4 : decode cX8_init 4 = .ok (.aload_n 0, 1) := by decide +kernel
theorem dX8_init_5 : decode cX8_init 5 = .ok (.sipush 500, 3) := by decide +kernel
theorem dX8_init_8 : decode cX8_init 8 = .ok (.newarray .int, 2) := by decide +kernel
theorem dX8_init_10 : decode cX8_init 10 = .ok (.putfield 9, 3) := by decide +kernel
theorem dX8_init_13 : decode cX8_init 13 = .ok (.aload_n 0, 1) := by decide +kernel
theorem dX8_init_14 : decode cX8_init 14 = .ok (.sipush 500, 3) := by decide +kernel
theorem dX8_init_17 : decode cX8_init 17 = .ok (.newarray .int, 2) := by decide +kernel
theorem dX8_init_19 : decode cX8_init 19 = .ok (.putfield 15, 3) := by decide +kernel
theorem dX8_init_22 : decode cX8_init 22 = .ok (.aload_n 0, 1) := by decide +kernel
theorem dX8_init_23 : decode cX8_init 23 = .ok (.sipush 500, 3) := by decide +kernel
theorem dX8_init_26 : decode cX8_init 26 = .ok (.newarray .int, 2) := by decide +kernel
theorem dX8_init_28 : decode cX8_init 28 = .ok (.putfield 18, 3) := by decide +kernel
theorem dX8_init_31 : decode cX8_init 31 = .ok (.aload_n 0, 1) := by decide +kernel
theorem dX8_init_32 : decode cX8_init 32 = .ok (.sipush 500, 3) := by decide +kernel
theorem dX8_init_35 : decode cX8_init 35 = .ok (.newarray .int, 2) := by decide +kernel
theorem dX8_init_37 : decode cX8_init 37 = .ok (.putfield 21, 3) := by decide +kernel
theorem dX8_init_40 : decode cX8_init 40 = .ok (.return_, 1) := by decide +kernel
set_option maxRecDepth 20000 in
theorem ggX8_split_X8_kindOf : GoodIn wsX8_split wsX8_kindOf := goodIn_r _ [5] (by decide +kernel) (by decide +kernel)
set_option maxRecDepth 20000 in
theorem gX8_split_X8_kindOf : GoodIn wsX8_split (va_wsS RX8 28 yX8_kindOf wsX8_kindOf) := goodIn_app (goodIn_of _ (by decide +kernel)) ggX8_split_X8_kindOf
set_option maxRecDepth 20000 in
theorem ggX8_split_X8_open : GoodIn wsX8_split wsX8_open := goodIn_r _ [9, 1, 10, 11, 12, 13, 22, 23, 24, 25, 26] (by decide +kernel) (by decide +kernel)
set_option maxRecDepth 20000 in
theorem gX8_split_X8_open : GoodIn wsX8_split (wsV RX8 32 RX8 yX8_open wsX8_open) := goodIn_app (goodIn_of _ (by decide +kernel)) ggX8_split_X8_open
set_option maxRecDepth 20000 in
theorem ggX8_split_X8_extend : GoodIn wsX8_split wsX8_extend := goodIn_r _ [17, 1, 12, 13, 22, 23, 24, 25, 26] (by decide +kernel) (by decide +kernel)
set_option maxRecDepth 20000 in
theorem gX8_split_X8_extend : GoodIn wsX8_split (wsV RX8 36 RX8 yX8_extend wsX8_extend) := goodIn_app (goodIn_of _ (by decide +kernel)) ggX8_split_X8_extend
set_option maxRecDepth 20000 in
theorem ggX8_split_X8_refuseLongOnes : GoodIn wsX8_split wsX8_refuseLongOnes := goodIn_r _ [21, 1, 10, 12, 22, 23, 24, 25, 26] (by decide +kernel) (by decide +kernel)
set_option maxRecDepth 20000 in
theorem gX8_split_X8_refuseLongOnes : GoodIn wsX8_split (wsV RX8 40 RX8 yX8_refuseLongOnes wsX8_refuseLongOnes) := goodIn_app (goodIn_of _ (by decide +kernel)) ggX8_split_X8_refuseLongOnes
theorem dX8_split_0 : decode cX8_split 0 = .ok (.aload_n 0, 1) := by decide +kernel
theorem dX8_split_1 : decode cX8_split 1 = .ok (.iconst 0, 1) := by decide +kernel
theorem dX8_split_2 : decode cX8_split 2 = .ok (.putfield 24, 3) := by decide +kernel
theorem dX8_split_5 : decode cX8_split 5 = .ok (.iconst 0, 1) := by decide +kernel
theorem dX8_split_6 : decode cX8_split 6 = .ok (.istore_n 3, 1) := by decide +kernel
theorem dX8_split_7 : decode cX8_split 7 = .ok (.iconst 0, 1) := by decide +kernel
theorem dX8_split_8 : decode cX8_split 8 = .ok (.istore 4, 2) := by decide +kernel
theorem dX8_split_10 : decode cX8_split 10 = .ok (.iload 4, 2) := by decide +kernel
theorem dX8_split_12 : decode cX8_split 12 = .ok (.iload_n 2, 1) := by decide +kernel
theorem dX8_split_13 : decode cX8_split 13 = .ok (.if_icmp .ge 84, 3) := by decide +kernel
theorem dX8_split_16 : decode cX8_split 16 = .ok (.iload 4, 2) := by decide +kernel
theorem dX8_split_18 : decode cX8_split 18 = .ok (.aload_n 1, 1) := by decide +kernel
theorem dX8_split_19 : decode cX8_split 19 = .ok (.arraylength, 1) := by decide +kernel
theorem dX8_split_20 : decode cX8_split 20 = .ok (.if_icmp .ge 77, 3) := by decide +kernel
theorem dX8_split_23 : decode cX8_split 23 = .ok (.aload_n 1, 1) := by decide +kernel
theorem dX8_split_24 : decode cX8_split 24 = .ok (.iload 4, 2) := by decide +kernel
theorem dX8_split_26 : decode cX8_split 26 = .ok (.iaload, 1) := by decide +kernel
theorem dX8_split_27 : decode cX8_split 27 = .ok (.invokestatic 28, 3) := by decide +kernel
theorem dX8_split_30 : decode cX8_split 30 = .ok (.istore 5, 2) := by decide +kernel
theorem dX8_split_32 : decode cX8_split 32 = .ok (.iload 5, 2) := by decide +kernel
theorem dX8_split_34 : decode cX8_split 34 = .ok (.iload_n 3, 1) := by decide +kernel
theorem dX8_split_35 : decode cX8_split 35 = .ok (.if_icmp .ne 19, 3) := by decide +kernel
theorem dX8_split_38 : decode cX8_split 38 = .ok (.iload 5, 2) := by decide +kernel
theorem dX8_split_40 : decode cX8_split 40 = .ok (.iconst 1, 1) := by decide +kernel
theorem dX8_split_41 : decode cX8_split 41 = .ok (.if_icmp .eq 9, 3) := by decide +kernel
theorem dX8_split_44 : decode cX8_split 44 = .ok (.iload 5, 2) := by decide +kernel
theorem dX8_split_46 : decode cX8_split 46 = .ok (.iconst 2, 1) := by decide +kernel
theorem dX8_split_47 : decode cX8_split 47 = .ok (.if_icmp .ne 7, 3) := by decide +kernel
theorem dX8_split_50 : decode cX8_split 50 = .ok (.iconst 1, 1) := by decide +kernel
theorem dX8_split_51 : decode cX8_split 51 = .ok (.goto 4, 3) := by decide +kernel
theorem dX8_split_54 : decode cX8_split 54 = .ok (.iconst 0, 1) := by decide +kernel
theorem dX8_split_55 : decode cX8_split 55 = .ok (.istore 6, 2) := by decide +kernel
theorem dX8_split_57 : decode cX8_split 57 = .ok (.iload 5, 2) := by decide +kernel
theorem dX8_split_59 : decode cX8_split 59 = .ok (.ifCond .eq 16, 3) := by decide +kernel
theorem dX8_split_62 : decode cX8_split 62 = .ok (.iload 6, 2) := by decide +kernel
theorem dX8_split_64 : decode cX8_split 64 = .ok (.ifCond .ne 11, 3) := by decide +kernel
theorem dX8_split_67 : decode cX8_split 67 = .ok (.aload_n 0, 1) := by decide +kernel
theorem dX8_split_68 : decode cX8_split 68 = .ok (.iload 5, 2) := by decide +kernel
theorem dX8_split_70 : decode cX8_split 70 = .ok (.iload 4, 2) := by decide +kernel
theorem dX8_split_72 : decode cX8_split 72 = .ok (.invokevirtual 32, 3) := by decide +kernel
theorem dX8_split_75 : decode cX8_split 75 = .ok (.iload 5, 2) := by decide +kernel
theorem dX8_split_77 : decode cX8_split 77 = .ok (.ifCond .eq 11, 3) := by decide +kernel
theorem dX8_split_80 : decode cX8_split 80 = .ok (.aload_n 0, 1) := by decide +kernel
theorem dX8_split_81 : decode cX8_split 81 = .ok (.aload_n 1, 1) := by decide +kernel
theorem dX8_split_82 : decode cX8_split 82 = .ok (.iload 4, 2) := by decide +kernel
theorem dX8_split_84 : decode cX8_split 84 = .ok (.iaload, 1) := by decide +kernel
theorem dX8_split_85 : decode cX8_split 85 = .ok (.invokevirtual 36, 3) := by decide +kernel
theorem dX8_split_88 : decode cX8_split 88 = .ok (.iload 5, 2) := by decide +kernel
theorem dX8_split_90 : decode cX8_split 90 = .ok (.istore_n 3, 1) := by decide +kernel
theorem dX8_split_91 : decode cX8_split 91 = .ok (.iinc 4 1, 3) := by decide +kernel
theorem dX8_split_94 : decode cX8_split 94 = .ok (.goto (-84), 3) := by decide +kernel
theorem dX8_split_97 : decode cX8_split 97 = .ok (.aload_n 0, 1) := by decide +kernel
theorem dX8_split_98 : decode cX8_split 98 = .ok (.invokevirtual 40, 3) := by decide +kernel
theorem dX8_split_101 : decode cX8_split 101 = .ok (.return_, 1) := by decide +kernel
theorem dX8_kindOf_0 : decode cX8_kindOf 0 = .ok (.iload_n 0, 1) := by decide +kernel
theorem dX8_kindOf_1 : decode cX8_kindOf 1 = .ok (.bipush 32, 2) := by decide +kernel
theorem dX8_kindOf_3 : decode cX8_kindOf 3 = .ok (.if_icmp .eq 9, 3) := by decide +kernel
theorem dX8_kindOf_6 : decode cX8_kindOf 6 = .ok (.iload_n 0, 1) := by decide +kernel
theorem dX8_kindOf_7 : decode cX8_kindOf 7 = .ok (.bipush 10, 2) := by decide +kernel
theorem dX8_kindOf_9 : decode cX8_kindOf 9 = .ok (.if_icmp .ne 5, 3) := by decide +kernel
theorem dX8_kindOf_12 : decode cX8_kindOf 12 = .ok (.iconst 0, 1) := by decide +kernel
theorem dX8_kindOf_13 : decode cX8_kindOf 13 = .ok (.ireturn, 1) := by decide +kernel
theorem dX8_kindOf_14 : decode cX8_kindOf 14 = .ok (.iload_n 0, 1) := by decide +kernel
theorem dX8_kindOf_15 : decode cX8_kindOf 15 = .ok (.bipush 97, 2) := by decide +kernel
theorem dX8_kindOf_17 : decode cX8_kindOf 17 = .ok (.if_icmp .lt 11, 3) := by decide +kernel
theorem dX8_kindOf_20 : decode cX8_kindOf 20 = .ok (.iload_n 0, 1) := by decide +kernel
theorem dX8_kindOf_21 : decode cX8_kindOf 21 = .ok (.bipush 122, 2) := by decide +kernel
theorem dX8_kindOf_23 : decode cX8_kindOf 23 = .ok (.if_icmp .gt 5, 3) := by decide +kernel
theorem dX8_kindOf_26 : decode cX8_kindOf 26 = .ok (.iconst 1, 1) := by decide +kernel
theorem dX8_kindOf_27 : decode cX8_kindOf 27 = .ok (.ireturn, 1) := by decide +kernel
theorem dX8_kindOf_28 : decode cX8_kindOf 28 = .ok (.iload_n 0, 1) := by decide +kernel
theorem dX8_kindOf_29 : decode cX8_kindOf 29 = .ok (.bipush 48, 2) := by decide +kernel
theorem dX8_kindOf_31 : decode cX8_kindOf 31 = .ok (.if_icmp .lt 11, 3) := by decide +kernel
theorem dX8_kindOf_34 : decode cX8_kindOf 34 = .ok (.iload_n 0, 1) := by decide +kernel
theorem dX8_kindOf_35 : decode cX8_kindOf 35 = .ok (.bipush 57, 2) := by decide +kernel
theorem dX8_kindOf_37 : decode cX8_kindOf 37 = .ok (.if_icmp .gt 5, 3) := by decide +kernel
theorem dX8_kindOf_40 : decode cX8_kindOf 40 = .ok (.iconst 2, 1) := by decide +kernel
theorem dX8_kindOf_41 : decode cX8_kindOf 41 = .ok (.ireturn, 1) := by decide +kernel
theorem dX8_kindOf_42 : decode cX8_kindOf 42 = .ok (.iload_n 0, 1) := by decide +kernel
theorem dX8_kindOf_43 : decode cX8_kindOf 43 = .ok (.bipush 59, 2) := by decide +kernel
theorem dX8_kindOf_45 : decode cX8_kindOf 45 = .ok (.if_icmp .ne 7, 3) := by decide +kernel
theorem dX8_kindOf_48 : decode cX8_kindOf 48 = .ok (.iconst 3, 1) := by decide +kernel
theorem dX8_kindOf_49 : decode cX8_kindOf 49 = .ok (.goto 4, 3) := by decide +kernel
theorem dX8_kindOf_52 : decode cX8_kindOf 52 = .ok (.iconst 4, 1) := by decide +kernel
theorem dX8_kindOf_53 : decode cX8_kindOf 53 = .ok (.ireturn, 1) := by decide +kernel
theorem dX8_open_0 : decode cX8_open 0 = .ok (.aload_n 0, 1) := by decide +kernel
theorem dX8_open_1 : decode cX8_open 1 = .ok (.getfield 24, 3) := by decide +kernel
theorem dX8_open_4 : decode cX8_open 4 = .ok (.sipush 500, 3) := by decide +kernel
theorem dX8_open_7 : decode cX8_open 7 = .ok (.if_icmp .ge 53, 3) := by decide +kernel
theorem dX8_open_10 : decode cX8_open 10 = .ok (.aload_n 0, 1) := by decide +kernel
theorem dX8_open_11 : decode cX8_open 11 = .ok (.getfield 9, 3) := by decide +kernel
theorem dX8_open_14 : decode cX8_open 14 = .ok (.aload_n 0, 1) := by decide +kernel
theorem dX8_open_15 : decode cX8_open 15 = .ok (.getfield 24, 3) := by decide +kernel
theorem dX8_open_18 : decode cX8_open 18 = .ok (.iload_n 1, 1) := by decide +kernel
theorem dX8_open_19 : decode cX8_open 19 = .ok (.iastore, 1) := by decide +kernel
theorem dX8_open_20 : decode cX8_open 20 = .ok (.aload_n 0, 1) := by decide +kernel
theorem dX8_open_21 : decode cX8_open 21 = .ok (.getfield 15, 3) := by decide +kernel
theorem dX8_open_24 : decode cX8_open 24 = .ok (.aload_n 0, 1) := by decide +kernel
theorem dX8_open_25 : decode cX8_open 25 = .ok (.getfield 24, 3) := by decide +kernel
theorem dX8_open_28 : decode cX8_open 28 = .ok (.iload_n 2, 1) := by decide +kernel
theorem dX8_open_29 : decode cX8_open 29 = .ok (.iastore, 1) := by decide +kernel
theorem dX8_open_30 : decode cX8_open 30 = .ok (.aload_n 0, 1) := by decide +kernel
theorem dX8_open_31 : decode cX8_open 31 = .ok (.getfield 18, 3) := by decide +kernel
theorem dX8_open_34 : decode cX8_open 34 = .ok (.aload_n 0, 1) := by decide +kernel
theorem dX8_open_35 : decode cX8_open 35 = .ok (.getfield 24, 3) := by decide +kernel
theorem dX8_open_38 : decode cX8_open 38 = .ok (.iconst 0, 1) := by decide +kernel
theorem dX8_open_39 : decode cX8_open 39 = .ok (.iastore, 1) := by decide +kernel
theorem dX8_open_40 : decode cX8_open 40 = .ok (.aload_n 0, 1) := by decide +kernel
theorem dX8_open_41 : decode cX8_open 41 = .ok (.getfield 21, 3) := by decide +kernel
theorem dX8_open_44 : decode cX8_open 44 = .ok (.aload_n 0, 1) := by decide +kernel
theorem dX8_open_45 : decode cX8_open 45 = .ok (.getfield 24, 3) := by decide +kernel
theorem dX8_open_48 : decode cX8_open 48 = .ok (.iconst 0, 1) := by decide +kernel
theorem dX8_open_49 : decode cX8_open 49 = .ok (.iastore, 1) := by decide +kernel
theorem dX8_open_50 : decode cX8_open 50 = .ok (.aload_n 0, 1) := by decide +kernel
theorem dX8_open_51 : decode cX8_open 51 = .ok (.dup, 1) := by decide +kernel
theorem dX8_open_52 : decode cX8_open 52 = .ok (.getfield 24, 3) := by decide +kernel
theorem dX8_open_55 : decode cX8_open 55 = .ok (.iconst 1, 1) := by decide +kernel
theorem dX8_open_56 : decode cX8_open 56 = .ok (.iadd, 1) := by decide +kernel
theorem dX8_open_57 : decode cX8_open 57 = .ok (.putfield 24, 3) := by decide +kernel
theorem dX8_open_60 : decode cX8_open 60 = .ok (.return_, 1) := by decide +kernel
theorem dX8_extend_0 : decode cX8_extend 0 = .ok (.aload_n 0, 1) := by decide +kernel
theorem dX8_extend_1 : decode cX8_extend 1 = .ok (.getfield 24, 3) := by decide +kernel
theorem dX8_extend_4 : decode cX8_extend 4 = .ok (.iconst 1, 1) := by decide +kernel
theorem dX8_extend_5 : decode cX8_extend 5 = .ok (.isub, 1) := by decide +kernel
theorem dX8_extend_6 : decode cX8_extend 6 = .ok (.istore_n 2, 1) := by decide +kernel
theorem dX8_extend_7 : decode cX8_extend 7 = .ok (.iload_n 2, 1) := by decide +kernel
theorem dX8_extend_8 : decode cX8_extend 8 = .ok (.ifCond .lt 40, 3) := by decide +kernel
theorem dX8_extend_11 : decode cX8_extend 11 = .ok (.iload_n 2, 1) := by decide +kernel
theorem dX8_extend_12 : decode cX8_extend 12 = .ok (.sipush 500, 3) := by decide +kernel
theorem dX8_extend_15 : decode cX8_extend 15 = .ok (.if_icmp .ge 33, 3) := by decide +kernel
theorem dX8_extend_18 : decode cX8_extend 18 = .ok (.aload_n 0, 1) := by decide +kernel
theorem dX8_extend_19 : decode cX8_extend 19 = .ok (.getfield 18, 3) := by decide +kernel
theorem dX8_extend_22 : decode cX8_extend 22 = .ok (.iload_n 2, 1) := by decide +kernel
theorem dX8_extend_23 : decode cX8_extend 23 = .ok (.dup2, 1) := by decide +kernel
theorem dX8_extend_24 : decode cX8_extend 24 = .ok (.iaload, 1) := by decide +kernel
theorem dX8_extend_25 : decode cX8_extend 25 = .ok (.iconst 1, 1) := by decide +kernel
theorem dX8_extend_26 : decode cX8_extend 26 = .ok (.iadd, 1) := by decide +kernel
theorem dX8_extend_27 : decode cX8_extend 27 = .ok (.iastore, 1) := by decide +kernel
theorem dX8_extend_28 : decode cX8_extend 28 = .ok (.aload_n 0, 1) := by decide +kernel
theorem dX8_extend_29 : decode cX8_extend 29 = .ok (.getfield 21, 3) := by decide +kernel
theorem dX8_extend_32 : decode cX8_extend 32 = .ok (.iload_n 2, 1) := by decide +kernel
theorem dX8_extend_33 : decode cX8_extend 33 = .ok (.aload_n 0, 1) := by decide +kernel
theorem dX8_extend_34 : decode cX8_extend 34 = .ok (.getfield 21, 3) := by decide +kernel
theorem dX8_extend_37 : decode cX8_extend 37 = .ok (.iload_n 2, 1) := by decide +kernel
theorem dX8_extend_38 : decode cX8_extend 38 = .ok (.iaload, 1) := by decide +kernel
theorem dX8_extend_39 : decode cX8_extend 39 = .ok (.bipush 10, 2) := by decide +kernel
theorem dX8_extend_41 : decode cX8_extend 41 = .ok (.imul, 1) := by decide +kernel
theorem dX8_extend_42 : decode cX8_extend 42 = .ok (.iload_n 1, 1) := by decide +kernel
theorem dX8_extend_43 : decode cX8_extend 43 = .ok (.iadd, 1) := by decide +kernel
theorem dX8_extend_44 : decode cX8_extend 44 = .ok (.bipush 48, 2) := by decide +kernel
theorem dX8_extend_46 : decode cX8_extend 46 = .ok (.isub, 1) := by decide +kernel
theorem dX8_extend_47 : decode cX8_extend 47 = .ok (.iastore, 1) := by decide +kernel
theorem dX8_extend_48 : decode cX8_extend 48 = .ok (.return_, 1) := by decide +kernel
theorem dX8_refuseLongOnes_0 : decode cX8_refuseLongOnes 0 = .ok (.iconst 0, 1) := by decide +kernel
theorem dX8_refuseLongOnes_1 : decode cX8_refuseLongOnes 1 = .ok (.istore_n 1, 1) := by decide +kernel
theorem dX8_refuseLongOnes_2 : decode cX8_refuseLongOnes 2 = .ok (.iload_n 1, 1) := by decide +kernel
theorem dX8_refuseLongOnes_3 : decode cX8_refuseLongOnes 3 = .ok (.aload_n 0, 1) := by decide +kernel
theorem dX8_refuseLongOnes_4 : decode cX8_refuseLongOnes 4 = .ok (.getfield 24, 3) := by decide +kernel
theorem dX8_refuseLongOnes_7 : decode cX8_refuseLongOnes 7 = .ok (.if_icmp .ge 84, 3) := by decide +kernel
theorem dX8_refuseLongOnes_10 : decode cX8_refuseLongOnes 10 = .ok (.iload_n 1, 1) := by decide +kernel
theorem dX8_refuseLongOnes_11 : decode cX8_refuseLongOnes 11 = .ok (.sipush 500, 3) := by decide +kernel
theorem dX8_refuseLongOnes_14 : decode cX8_refuseLongOnes 14 = .ok (.if_icmp .ge 77, 3) := by decide +kernel
theorem dX8_refuseLongOnes_17 : decode cX8_refuseLongOnes 17 = .ok (.aload_n 0, 1) := by decide +kernel
theorem dX8_refuseLongOnes_18 : decode cX8_refuseLongOnes 18 = .ok (.getfield 9, 3) := by decide +kernel
theorem dX8_refuseLongOnes_21 : decode cX8_refuseLongOnes 21 = .ok (.iload_n 1, 1) := by decide +kernel
theorem dX8_refuseLongOnes_22 : decode cX8_refuseLongOnes 22 = .ok (.iaload, 1) := by decide +kernel
theorem dX8_refuseLongOnes_23 : decode cX8_refuseLongOnes 23 = .ok (.iconst 1, 1) := by decide +kernel
theorem dX8_refuseLongOnes_24 : decode cX8_refuseLongOnes 24 = .ok (.if_icmp .ne 18, 3) := by decide +kernel
theorem dX8_refuseLongOnes_27 : decode cX8_refuseLongOnes 27 = .ok (.aload_n 0, 1) := by decide +kernel
