theorem dX10_mutes_22 : decode cX10_mutes 22 = .ok (.iconst 0, 1) := by decide +kernel
theorem dX10_mutes_23 : decode cX10_mutes 23 = .ok (.istore_n 2, 1) := by decide +kernel
theorem dX10_mutes_24 : decode cX10_mutes 24 = .ok (.iconst 0, 1) := by decide +kernel
theorem dX10_mutes_25 : decode cX10_mutes 25 = .ok (.istore_n 3, 1) := by decide +kernel
theorem dX10_mutes_26 : decode cX10_mutes 26 = .ok (.iload_n 3, 1) := by decide +kernel
theorem dX10_mutes_27 : decode cX10_mutes 27 = .ok (.aload_n 0, 1) := by decide +kernel
theorem dX10_mutes_28 : decode cX10_mutes 28 = .ok (.getfield 7, 3) := by decide +kernel
theorem dX10_mutes_31 : decode cX10_mutes 31 = .ok (.iconst 1, 1) := by decide +kernel
theorem dX10_mutes_32 : decode cX10_mutes 32 = .ok (.iaload, 1) := by decide +kernel
theorem dX10_mutes_33 : decode cX10_mutes 33 = .ok (.if_icmp .ge 78, 3) := by decide +kernel
theorem dX10_mutes_36 : decode cX10_mutes 36 = .ok (.aload_n 0, 1) := by decide +kernel
theorem dX10_mutes_37 : decode cX10_mutes 37 = .ok (.getfield 7, 3) := by decide +kernel
theorem dX10_mutes_40 : decode cX10_mutes 40 = .ok (.iload_n 3, 1) := by decide +kernel
theorem dX10_mutes_41 : decode cX10_mutes 41 = .ok (.iconst 0, 1) := by decide +kernel
theorem dX10_mutes_42 : decode cX10_mutes 42 = .ok (.invokestatic 245, 3) := by decide +kernel
theorem dX10_mutes_45 : decode cX10_mutes 45 = .ok (.iaload, 1) := by decide +kernel
theorem dX10_mutes_46 : decode cX10_mutes 46 = .ok (.iload_n 1, 1) := by decide +kernel
theorem dX10_mutes_47 : decode cX10_mutes 47 = .ok (.if_icmp .ne 58, 3) := by decide +kernel
theorem dX10_mutes_50 : decode cX10_mutes 50 = .ok (.iload_n 2, 1) := by decide +kernel
theorem dX10_mutes_51 : decode cX10_mutes 51 = .ok (.aload_n 0, 1) := by decide +kernel
theorem dX10_mutes_52 : decode cX10_mutes 52 = .ok (.getfield 7, 3) := by decide +kernel
theorem dX10_mutes_55 : decode cX10_mutes 55 = .ok (.iload_n 3, 1) := by decide +kernel
theorem dX10_mutes_56 : decode cX10_mutes 56 = .ok (.iconst 3, 1) := by decide +kernel
theorem dX10_mutes_57 : decode cX10_mutes 57 = .ok (.invokestatic 245, 3) := by decide +kernel
theorem dX10_mutes_60 : decode cX10_mutes 60 = .ok (.iaload, 1) := by decide +kernel
theorem dX10_mutes_61 : decode cX10_mutes 61 = .ok (.iconst (-1), 1) := by decide +kernel
theorem dX10_mutes_62 : decode cX10_mutes 62 = .ok (.if_icmp .ne 7, 3) := by decide +kernel
theorem dX10_mutes_65 : decode cX10_mutes 65 = .ok (.iconst 0, 1) := by decide +kernel
theorem dX10_mutes_66 : decode cX10_mutes 66 = .ok (.goto 15, 3) := by decide +kernel
theorem dX10_mutes_69 : decode cX10_mutes 69 = .ok (.iconst 1, 1) := by decide +kernel
theorem dX10_mutes_70 : decode cX10_mutes 70 = .ok (.aload_n 0, 1) := by decide +kernel
theorem dX10_mutes_71 : decode cX10_mutes 71 = .ok (.getfield 7, 3) := by decide +kernel
theorem dX10_mutes_74 : decode cX10_mutes 74 = .ok (.iload_n 3, 1) := by decide +kernel
theorem dX10_mutes_75 : decode cX10_mutes 75 = .ok (.iconst 3, 1) := by decide +kernel
theorem dX10_mutes_76 : decode cX10_mutes 76 = .ok (.invokestatic 245, 3) := by decide +kernel
theorem dX10_mutes_79 : decode cX10_mutes 79 = .ok (.iaload, 1) := by decide +kernel
theorem dX10_mutes_80 : decode cX10_mutes 80 = .ok (.ishl, 1) := by decide +kernel
theorem dX10_mutes_81 : decode cX10_mutes 81 = .ok (.ior, 1) := by decide +kernel
theorem dX10_mutes_82 : decode cX10_mutes 82 = .ok (.istore_n 2, 1) := by decide +kernel
theorem dX10_mutes_83 : decode cX10_mutes 83 = .ok (.aload_n 0, 1) := by decide +kernel
theorem dX10_mutes_84 : decode cX10_mutes 84 = .ok (.getfield 7, 3) := by decide +kernel
theorem dX10_mutes_87 : decode cX10_mutes 87 = .ok (.iload_n 3, 1) := by decide +kernel
theorem dX10_mutes_88 : decode cX10_mutes 88 = .ok (.iconst 3, 1) := by decide +kernel
theorem dX10_mutes_89 : decode cX10_mutes 89 = .ok (.invokestatic 245, 3) := by decide +kernel
theorem dX10_mutes_92 : decode cX10_mutes 92 = .ok (.iconst (-1), 1) := by decide +kernel
theorem dX10_mutes_93 : decode cX10_mutes 93 = .ok (.iastore, 1) := by decide +kernel
theorem dX10_mutes_94 : decode cX10_mutes 94 = .ok (.aload_n 0, 1) := by decide +kernel
theorem dX10_mutes_95 : decode cX10_mutes 95 = .ok (.getfield 7, 3) := by decide +kernel
theorem dX10_mutes_98 : decode cX10_mutes 98 = .ok (.iload_n 3, 1) := by decide +kernel
theorem dX10_mutes_99 : decode cX10_mutes 99 = .ok (.iconst 4, 1) := by decide +kernel
theorem dX10_mutes_100 : decode cX10_mutes 100 = .ok (.invokestatic 245, 3) := by decide +kernel
theorem dX10_mutes_103 : decode cX10_mutes 103 = .ok (.iconst 1, 1) := by decide +kernel
theorem dX10_mutes_104 : decode cX10_mutes 104 = .ok (.iastore, 1) := by decide +kernel
theorem dX10_mutes_105 : decode cX10_mutes 105 = .ok (.iinc 3 1, 3) := by decide +kernel
theorem dX10_mutes_108 : decode cX10_mutes 108 = .ok (.goto (-82), 3) := by decide +kernel
theorem dX10_mutes_111 : decode cX10_mutes 111 = .ok (.iconst 0, 1) := by decide +kernel
theorem dX10_mutes_112 : decode cX10_mutes 112 = .ok (.istore_n 3, 1) := by decide +kernel
theorem dX10_mutes_113 : decode cX10_mutes 113 = .ok (.iconst 0, 1) := by decide +kernel
theorem dX10_mutes_114 : decode cX10_mutes 114 = .ok (.istore 4, 2) := by decide +kernel
theorem dX10_mutes_116 : decode cX10_mutes 116 = .ok (.iload 4, 2) := by decide +kernel
theorem dX10_mutes_118 : decode cX10_mutes 118 = .ok (.aload_n 0, 1) := by decide +kernel
theorem dX10_mutes_119 : decode cX10_mutes 119 = .ok (.getfield 7, 3) := by decide +kernel
theorem dX10_mutes_122 : decode cX10_mutes 122 = .ok (.iconst 2, 1) := by decide +kernel
theorem dX10_mutes_123 : decode cX10_mutes 123 = .ok (.iaload, 1) := by decide +kernel
theorem dX10_mutes_124 : decode cX10_mutes 124 = .ok (.if_icmp .ge 44, 3) := by decide +kernel
theorem dX10_mutes_127 : decode cX10_mutes 127 = .ok (.iload_n 2, 1) := by decide +kernel
theorem dX10_mutes_128 : decode cX10_mutes 128 = .ok (.iload 4, 2) := by decide +kernel
theorem dX10_mutes_130 : decode cX10_mutes 130 = .ok (.ishr, 1) := by decide +kernel
theorem dX10_mutes_131 : decode cX10_mutes 131 = .ok (.iconst 1, 1) := by decide +kernel
theorem dX10_mutes_132 : decode cX10_mutes 132 = .ok (.iand, 1) := by decide +kernel
theorem dX10_mutes_133 : decode cX10_mutes 133 = .ok (.iconst 1, 1) := by decide +kernel
theorem dX10_mutes_134 : decode cX10_mutes 134 = .ok (.if_icmp .ne 28, 3) := by decide +kernel
theorem dX10_mutes_137 : decode cX10_mutes 137 = .ok (.aload_n 0, 1) := by decide +kernel
theorem dX10_mutes_138 : decode cX10_mutes 138 = .ok (.iload 4, 2) := by decide +kernel
theorem dX10_mutes_140 : decode cX10_mutes 140 = .ok (.invokevirtual 265, 3) := by decide +kernel
theorem dX10_mutes_143 : decode cX10_mutes 143 = .ok (.aload_n 0, 1) := by decide +kernel
theorem dX10_mutes_144 : decode cX10_mutes 144 = .ok (.getfield 13, 3) := by decide +kernel
theorem dX10_mutes_147 : decode cX10_mutes 147 = .ok (.bipush 12, 2) := by decide +kernel
theorem dX10_mutes_149 : decode cX10_mutes 149 = .ok (.iaload, 1) := by decide +kernel
theorem dX10_mutes_150 : decode cX10_mutes 150 = .ok (.if_icmp .ge 12, 3) := by decide +kernel
theorem dX10_mutes_153 : decode cX10_mutes 153 = .ok (.aload_n 0, 1) := by decide +kernel
theorem dX10_mutes_154 : decode cX10_mutes 154 = .ok (.iload 4, 2) := by decide +kernel
theorem dX10_mutes_156 : decode cX10_mutes 156 = .ok (.invokevirtual 320, 3) := by decide +kernel
theorem dX10_mutes_159 : decode cX10_mutes 159 = .ok (.iinc 3 1, 3) := by decide +kernel
theorem dX10_mutes_162 : decode cX10_mutes 162 = .ok (.iinc 4 1, 3) := by decide +kernel
theorem dX10_mutes_165 : decode cX10_mutes 165 = .ok (.goto (-49), 3) := by decide +kernel
theorem dX10_mutes_168 : decode cX10_mutes 168 = .ok (.iload_n 3, 1) := by decide +kernel
theorem dX10_mutes_169 : decode cX10_mutes 169 = .ok (.ireturn, 1) := by decide +kernel
set_option maxRecDepth 20000 in
theorem ggX10_retracts_X10_frees : GoodIn wsX10_retracts wsX10_frees := goodIn_ca (goodIn_r _ [6, 1, 7, 8, 5, 9, 10, 11, 12, 13, 14, 15, 16, 17, 18, 19, 20, 21, 22, 23, 24, 25, 26, 27, 28, 29, 30, 31, 32, 33, 34, 35] (by decide +kernel) (by decide +kernel)) (goodIn_sub (fun _ h => List.mem_cons_of_mem _ (List.mem_append_right _ h)) (by decide +kernel))
set_option maxRecDepth 20000 in
theorem gX10_retracts_X10_frees : GoodIn wsX10_retracts (wsV RX10 254 RX10 yX10_frees wsX10_frees) := goodIn_app (goodIn_of _ (by decide +kernel)) ggX10_retracts_X10_frees
theorem dX10_retracts_0 : decode cX10_retracts 0 = .ok (.aload_n 0, 1) := by decide +kernel
theorem dX10_retracts_1 : decode cX10_retracts 1 = .ok (.getfield 7, 3) := by decide +kernel
theorem dX10_retracts_4 : decode cX10_retracts 4 = .ok (.sipush 1127, 3) := by decide +kernel
theorem dX10_retracts_7 : decode cX10_retracts 7 = .ok (.iconst 2, 1) := by decide +kernel
theorem dX10_retracts_8 : decode cX10_retracts 8 = .ok (.iload_n 1, 1) := by decide +kernel
theorem dX10_retracts_9 : decode cX10_retracts 9 = .ok (.imul, 1) := by decide +kernel
theorem dX10_retracts_10 : decode cX10_retracts 10 = .ok (.iadd, 1) := by decide +kernel
theorem dX10_retracts_11 : decode cX10_retracts 11 = .ok (.iconst 1, 1) := by decide +kernel
theorem dX10_retracts_12 : decode cX10_retracts 12 = .ok (.iastore, 1) := by decide +kernel
theorem dX10_retracts_13 : decode cX10_retracts 13 = .ok (.aload_n 0, 1) := by decide +kernel
theorem dX10_retracts_14 : decode cX10_retracts 14 = .ok (.iload_n 1, 1) := by decide +kernel
theorem dX10_retracts_15 : decode cX10_retracts 15 = .ok (.invokevirtual 254, 3) := by decide +kernel
theorem dX10_retracts_18 : decode cX10_retracts 18 = .ok (.return_, 1) := by decide +kernel
set_option maxRecDepth 20000 in
theorem ggX10_mute_X10_noStation : GoodIn wsX10_mute wsX10_noStation := goodIn_ca (goodIn_r _ [6, 7, 8, 9, 10, 11, 5, 12, 13, 14, 15, 16, 17, 18, 19, 51, 52, 53, 54, 55, 56, 57, 58, 59, 60, 61, 62, 63, 64, 65, 66, 67, 68, 69, 70, 71, 72, 73, 74, 75, 76] (by decide +kernel) (by decide +kernel)) (goodIn_sub (fun _ h => List.mem_cons_of_mem _ (List.mem_append_right _ h)) (by decide +kernel))
set_option maxRecDepth 20000 in
theorem gX10_mute_X10_noStation : GoodIn wsX10_mute (wsV RX10 215 RX10 yX10_noStation wsX10_noStation) := goodIn_app (goodIn_of _ (by decide +kernel)) ggX10_mute_X10_noStation
set_option maxRecDepth 20000 in
theorem ggX10_mute_X10_at : GoodIn wsX10_mute wsX10_at := goodIn_r _ [22] (by decide +kernel) (by decide +kernel)
set_option maxRecDepth 20000 in
theorem gX10_mute_X10_at : GoodIn wsX10_mute (va_wsS RX10 236 yX10_at wsX10_at) := goodIn_app (goodIn_of _ (by decide +kernel)) ggX10_mute_X10_at
set_option maxRecDepth 20000 in
theorem ggX10_mute_X10_throwsIf : GoodIn wsX10_mute wsX10_throwsIf := goodIn_r _ [19, 7, 51, 52, 53, 54, 55, 56, 57, 58, 59, 60, 61, 62, 63, 64, 65, 66, 67, 68, 69, 70, 71, 72, 73, 74, 75, 76] (by decide +kernel) (by decide +kernel)
set_option maxRecDepth 20000 in
theorem gX10_mute_X10_throwsIf : GoodIn wsX10_mute (wsV RX10 177 RX10 yX10_throwsIf wsX10_throwsIf) := goodIn_app (goodIn_of _ (by decide +kernel)) ggX10_mute_X10_throwsIf
set_option maxRecDepth 20000 in
theorem ggX10_mute_X10_keeps : GoodIn wsX10_mute wsX10_keeps := goodIn_ca (goodIn_r _ [26, 27, 28, 1, 29, 30, 5, 31, 51, 52, 53, 54, 55, 56, 57, 58, 59, 60, 61, 62, 63, 64, 65, 66, 67, 68, 69, 70, 71, 72, 73, 74, 75, 76] (by decide +kernel) (by decide +kernel)) (goodIn_sub (fun _ h => List.mem_cons_of_mem _ (List.mem_append_right _ h)) (by decide +kernel))
set_option maxRecDepth 20000 in
theorem gX10_mute_X10_keeps : GoodIn wsX10_mute (wsV RX10 317 RX10 yX10_keeps wsX10_keeps) := goodIn_app (goodIn_of _ (by decide +kernel)) ggX10_mute_X10_keeps
set_option maxRecDepth 20000 in
theorem ggX10_mute_X10_mutes : GoodIn wsX10_mute wsX10_mutes := goodIn_ca (goodIn_r _ [35, 1, 8, 20, 21, 5, 22, 36, 37, 38, 39, 40, 41, 42, 43, 44, 45, 46, 47, 48, 49, 50, 51, 52, 53, 54, 55, 56, 57, 58, 59, 60, 61, 62, 63, 64, 65, 66, 67, 68, 69, 70, 71, 72, 73, 74, 75, 76] (by decide +kernel) (by decide +kernel)) (goodIn_sub (fun _ h => List.mem_cons_of_mem _ (List.mem_append_right _ h)) (by decide +kernel))
set_option maxRecDepth 20000 in
theorem gX10_mute_X10_mutes : GoodIn wsX10_mute (wsV RX10 311 RX10 yX10_mutes wsX10_mutes) := goodIn_app (goodIn_of _ (by decide +kernel)) ggX10_mute_X10_mutes
theorem dX10_mute_0 : decode cX10_mute 0 = .ok (.aload_n 0, 1) := by decide +kernel
theorem dX10_mute_1 : decode cX10_mute 1 = .ok (.iload_n 1, 1) := by decide +kernel
theorem dX10_mute_2 : decode cX10_mute 2 = .ok (.invokevirtual 215, 3) := by decide +kernel
theorem dX10_mute_5 : decode cX10_mute 5 = .ok (.ifCond .ne 30, 3) := by decide +kernel
theorem dX10_mute_8 : decode cX10_mute 8 = .ok (.aload_n 0, 1) := by decide +kernel
theorem dX10_mute_9 : decode cX10_mute 9 = .ok (.aload_n 0, 1) := by decide +kernel
theorem dX10_mute_10 : decode cX10_mute 10 = .ok (.getfield 7, 3) := by decide +kernel
theorem dX10_mute_13 : decode cX10_mute 13 = .ok (.iload_n 1, 1) := by decide +kernel
theorem dX10_mute_14 : decode cX10_mute 14 = .ok (.iconst 2, 1) := by decide +kernel
theorem dX10_mute_15 : decode cX10_mute 15 = .ok (.invokestatic 236, 3) := by decide +kernel
theorem dX10_mute_18 : decode cX10_mute 18 = .ok (.iaload, 1) := by decide +kernel
theorem dX10_mute_19 : decode cX10_mute 19 = .ok (.iconst 1, 1) := by decide +kernel
theorem dX10_mute_20 : decode cX10_mute 20 = .ok (.if_icmp .ne 7, 3) := by decide +kernel
theorem dX10_mute_23 : decode cX10_mute 23 = .ok (.iconst 1, 1) := by decide +kernel
theorem dX10_mute_24 : decode cX10_mute 24 = .ok (.goto 4, 3) := by decide +kernel
theorem dX10_mute_27 : decode cX10_mute 27 = .ok (.iconst 0, 1) := by decide +kernel
theorem dX10_mute_28 : decode cX10_mute 28 = .ok (.iconst 2, 1) := by decide +kernel
theorem dX10_mute_29 : decode cX10_mute 29 = .ok (.invokevirtual 177, 3) := by decide +kernel
theorem dX10_mute_32 : decode cX10_mute 32 = .ok (.ifCond .eq 5, 3) := by decide +kernel
theorem dX10_mute_35 : decode cX10_mute 35 = .ok (.iconst 0, 1) := by decide +kernel
theorem dX10_mute_36 : decode cX10_mute 36 = .ok (.ireturn, 1) := by decide +kernel
theorem dX10_mute_37 : decode cX10_mute 37 = .ok (.aload_n 0, 1) := by decide +kernel
theorem dX10_mute_38 : decode cX10_mute 38 = .ok (.invokevirtual 317, 3) := by decide +kernel
theorem dX10_mute_41 : decode cX10_mute 41 = .ok (.aload_n 0, 1) := by decide +kernel
theorem dX10_mute_42 : decode cX10_mute 42 = .ok (.iload_n 1, 1) := by decide +kernel
theorem dX10_mute_43 : decode cX10_mute 43 = .ok (.invokevirtual 311, 3) := by decide +kernel
theorem dX10_mute_46 : decode cX10_mute 46 = .ok (.ireturn, 1) := by decide +kernel
set_option maxRecDepth 20000 in
theorem ggX10_unmute_X10_noStation : GoodIn wsX10_unmute wsX10_noStation := goodIn_ca (goodIn_r _ [6, 7, 8, 9, 10, 11, 5, 12, 13, 14, 15, 16, 17, 18, 19, 44, 45, 46, 47, 48, 49, 50, 51, 52, 53, 54, 55, 56, 57, 58, 59, 60, 61, 62, 63, 64, 65, 66, 67, 68, 69] (by decide +kernel) (by decide +kernel)) (goodIn_sub (fun _ h => List.mem_cons_of_mem _ (List.mem_append_right _ h)) (by decide +kernel))
set_option maxRecDepth 20000 in
theorem gX10_unmute_X10_noStation : GoodIn wsX10_unmute (wsV RX10 215 RX10 yX10_noStation wsX10_noStation) := goodIn_app (goodIn_of _ (by decide +kernel)) ggX10_unmute_X10_noStation
set_option maxRecDepth 20000 in
theorem ggX10_unmute_X10_at : GoodIn wsX10_unmute wsX10_at := goodIn_r _ [22] (by decide +kernel) (by decide +kernel)
set_option maxRecDepth 20000 in
theorem gX10_unmute_X10_at : GoodIn wsX10_unmute (va_wsS RX10 236 yX10_at wsX10_at) := goodIn_app (goodIn_of _ (by decide +kernel)) ggX10_unmute_X10_at
set_option maxRecDepth 20000 in
theorem ggX10_unmute_X10_throwsIf : GoodIn wsX10_unmute wsX10_throwsIf := goodIn_r _ [19, 7, 44, 45, 46, 47, 48, 49, 50, 51, 52, 53, 54, 55, 56, 57, 58, 59, 60, 61, 62, 63, 64, 65, 66, 67, 68, 69] (by decide +kernel) (by decide +kernel)
set_option maxRecDepth 20000 in
theorem gX10_unmute_X10_throwsIf : GoodIn wsX10_unmute (wsV RX10 177 RX10 yX10_throwsIf wsX10_throwsIf) := goodIn_app (goodIn_of _ (by decide +kernel)) ggX10_unmute_X10_throwsIf
set_option maxRecDepth 20000 in
theorem ggX10_unmute_X10_keeps : GoodIn wsX10_unmute wsX10_keeps := goodIn_ca (goodIn_r _ [26, 27, 28, 1, 29, 30, 5, 31, 44, 45, 46, 47, 48, 49, 50, 51, 52, 53, 54, 55, 56, 57, 58, 59, 60, 61, 62, 63, 64, 65, 66, 67, 68, 69] (by decide +kernel) (by decide +kernel)) (goodIn_sub (fun _ h => List.mem_cons_of_mem _ (List.mem_append_right _ h)) (by decide +kernel))
set_option maxRecDepth 20000 in
theorem gX10_unmute_X10_keeps : GoodIn wsX10_unmute (wsV RX10 317 RX10 yX10_keeps wsX10_keeps) := goodIn_app (goodIn_of _ (by decide +kernel)) ggX10_unmute_X10_keeps
set_option maxRecDepth 20000 in
theorem ggX10_unmute_X10_ratioOf : GoodIn wsX10_unmute wsX10_ratioOf := goodIn_ca (goodIn_r _ [35, 8, 36, 37, 38, 39, 5, 40, 1, 41, 42, 43, 44, 45, 46, 47, 48, 49, 50, 51, 52, 53, 54, 55, 56, 57, 58, 59, 60, 61, 62, 63, 64, 65, 66, 67, 68, 69] (by decide +kernel) (by decide +kernel)) (goodIn_sub (fun _ h => List.mem_cons_of_mem _ (List.mem_append_right _ h)) (by decide +kernel))
set_option maxRecDepth 20000 in
theorem gX10_unmute_X10_ratioOf : GoodIn wsX10_unmute (wsV RX10 239 RX10 yX10_ratioOf wsX10_ratioOf) := goodIn_app (goodIn_of _ (by decide +kernel)) ggX10_unmute_X10_ratioOf
theorem dX10_unmute_0 : decode cX10_unmute 0 = .ok (.aload_n 0, 1) := by decide +kernel
theorem dX10_unmute_1 : decode cX10_unmute 1 = .ok (.iload_n 1, 1) := by decide +kernel
theorem dX10_unmute_2 : decode cX10_unmute 2 = .ok (.invokevirtual 215, 3) := by decide +kernel
theorem dX10_unmute_5 : decode cX10_unmute 5 = .ok (.ifCond .ne 29, 3) := by decide +kernel
theorem dX10_unmute_8 : decode cX10_unmute 8 = .ok (.aload_n 0, 1) := by decide +kernel
theorem dX10_unmute_9 : decode cX10_unmute 9 = .ok (.aload_n 0, 1) := by decide +kernel
theorem dX10_unmute_10 : decode cX10_unmute 10 = .ok (.getfield 7, 3) := by decide +kernel
theorem dX10_unmute_13 : decode cX10_unmute 13 = .ok (.iload_n 1, 1) := by decide +kernel
theorem dX10_unmute_14 : decode cX10_unmute 14 = .ok (.iconst 2, 1) := by decide +kernel
theorem dX10_unmute_15 : decode cX10_unmute 15 = .ok (.invokestatic 236, 3) := by decide +kernel
theorem dX10_unmute_18 : decode cX10_unmute 18 = .ok (.iaload, 1) := by decide +kernel
theorem dX10_unmute_19 : decode cX10_unmute 19 = .ok (.ifCond .ne 7, 3) := by decide +kernel
theorem dX10_unmute_22 : decode cX10_unmute 22 = .ok (.iconst 1, 1) := by decide +kernel
theorem dX10_unmute_23 : decode cX10_unmute 23 = .ok (.goto 4, 3) := by decide +kernel
theorem dX10_unmute_26 : decode cX10_unmute 26 = .ok (.iconst 0, 1) := by decide +kernel
theorem dX10_unmute_27 : decode cX10_unmute 27 = .ok (.iconst 2, 1) := by decide +kernel
theorem dX10_unmute_28 : decode cX10_unmute 28 = .ok (.invokevirtual 177, 3) := by decide +kernel
theorem dX10_unmute_31 : decode cX10_unmute 31 = .ok (.ifCond .eq 5, 3) := by decide +kernel
theorem dX10_unmute_34 : decode cX10_unmute 34 = .ok (.iconst 0, 1) := by decide +kernel
theorem dX10_unmute_35 : decode cX10_unmute 35 = .ok (.ireturn, 1) := by decide +kernel
theorem dX10_unmute_36 : decode cX10_unmute 36 = .ok (.aload_n 0, 1) := by decide +kernel
theorem dX10_unmute_37 : decode cX10_unmute 37 = .ok (.invokevirtual 317, 3) := by decide +kernel
theorem dX10_unmute_40 : decode cX10_unmute 40 = .ok (.aload_n 0, 1) := by decide +kernel
theorem dX10_unmute_41 : decode cX10_unmute 41 = .ok (.getfield 7, 3) := by decide +kernel
theorem dX10_unmute_44 : decode cX10_unmute 44 = .ok (.iload_n 1, 1) := by decide +kernel
theorem dX10_unmute_45 : decode cX10_unmute 45 = .ok (.iconst 2, 1) := by decide +kernel
theorem dX10_unmute_46 : decode cX10_unmute 46 = .ok (.invokestatic 236, 3) := by decide +kernel
theorem dX10_unmute_49 : decode cX10_unmute 49 = .ok (.iconst 0, 1) := by decide +kernel
theorem dX10_unmute_50 : decode cX10_unmute 50 = .ok (.iastore, 1) := by decide +kernel
theorem dX10_unmute_51 : decode cX10_unmute 51 = .ok (.aload_n 0, 1) := by decide +kernel
theorem dX10_unmute_52 : decode cX10_unmute 52 = .ok (.iload_n 1, 1) := by decide +kernel
theorem dX10_unmute_53 : decode cX10_unmute 53 = .ok (.invokevirtual 239, 3) := by decide +kernel
theorem dX10_unmute_56 : decode cX10_unmute 56 = .ok (.ireturn, 1) := by decide +kernel
set_option maxRecDepth 20000 in
theorem ggX10_retract_X10_noEvent : GoodIn wsX10_retract wsX10_noEvent := goodIn_ca (goodIn_r _ [6, 7, 8, 9, 10, 5, 11, 12, 13, 14, 15, 16, 17, 18, 1, 47, 48, 49, 50, 51, 52, 53, 54, 55, 56, 57, 58, 59, 60, 61, 62, 63, 64, 65, 66, 67, 68, 69, 70, 71, 72] (by decide +kernel) (by decide +kernel)) (goodIn_sub (fun _ h => List.mem_cons_of_mem _ (List.mem_append_right _ h)) (by decide +kernel))
set_option maxRecDepth 20000 in
theorem gX10_retract_X10_noEvent : GoodIn wsX10_retract (wsV RX10 274 RX10 yX10_noEvent wsX10_noEvent) := goodIn_app (goodIn_of _ (by decide +kernel)) ggX10_retract_X10_noEvent
set_option maxRecDepth 20000 in
theorem ggX10_retract_X10_isRetracted : GoodIn wsX10_retract wsX10_isRetracted := goodIn_ca (goodIn_r _ [22, 7, 47, 48, 49, 50, 51, 52, 53, 54, 55, 56, 57, 58, 59, 60, 61, 62, 63, 64, 65, 66, 67, 68, 69, 70, 71, 72] (by decide +kernel) (by decide +kernel)) (goodIn_sub (fun _ h => List.mem_cons_of_mem _ (List.mem_append_right _ h)) (by decide +kernel))
set_option maxRecDepth 20000 in
theorem gX10_retract_X10_isRetracted : GoodIn wsX10_retract (wsV RX10 193 RX10 yX10_isRetracted wsX10_isRetracted) := goodIn_app (goodIn_of _ (by decide +kernel)) ggX10_retract_X10_isRetracted
set_option maxRecDepth 20000 in
theorem ggX10_retract_X10_throwsIf : GoodIn wsX10_retract wsX10_throwsIf := goodIn_r _ [18, 1, 47, 48, 49, 50, 51, 52, 53, 54, 55, 56, 57, 58, 59, 60, 61, 62, 63, 64, 65, 66, 67, 68, 69, 70, 71, 72] (by decide +kernel) (by decide +kernel)
set_option maxRecDepth 20000 in
theorem gX10_retract_X10_throwsIf : GoodIn wsX10_retract (wsV RX10 177 RX10 yX10_throwsIf wsX10_throwsIf) := goodIn_app (goodIn_of _ (by decide +kernel)) ggX10_retract_X10_throwsIf
set_option maxRecDepth 20000 in
theorem ggX10_retract_X10_keeps : GoodIn wsX10_retract wsX10_keeps := goodIn_ca (goodIn_r _ [26, 27, 28, 7, 29, 30, 5, 31, 47, 48, 49, 50, 51, 52, 53, 54, 55, 56, 57, 58, 59, 60, 61, 62, 63, 64, 65, 66, 67, 68, 69, 70, 71, 72] (by decide +kernel) (by decide +kernel)) (goodIn_sub (fun _ h => List.mem_cons_of_mem _ (List.mem_append_right _ h)) (by decide +kernel))
set_option maxRecDepth 20000 in
theorem gX10_retract_X10_keeps : GoodIn wsX10_retract (wsV RX10 317 RX10 yX10_keeps wsX10_keeps) := goodIn_app (goodIn_of _ (by decide +kernel)) ggX10_retract_X10_keeps
set_option maxRecDepth 20000 in
theorem ggX10_retract_X10_picksOf : GoodIn wsX10_retract wsX10_picksOf := goodIn_ca (goodIn_r _ [35, 7, 36, 37, 5, 38, 47, 48, 49, 50, 51, 52, 53, 54, 55, 56, 57, 58, 59, 60, 61, 62, 63, 64, 65, 66, 67, 68, 69, 70, 71, 72] (by decide +kernel) (by decide +kernel)) (goodIn_sub (fun _ h => List.mem_cons_of_mem _ (List.mem_append_right _ h)) (by decide +kernel))
set_option maxRecDepth 20000 in
theorem gX10_retract_X10_picksOf : GoodIn wsX10_retract (wsV RX10 265 RX10 yX10_picksOf wsX10_picksOf) := goodIn_app (goodIn_of _ (by decide +kernel)) ggX10_retract_X10_picksOf
set_option maxRecDepth 20000 in
theorem ggX10_retract_X10_retracts : GoodIn wsX10_retract wsX10_retracts := goodIn_ca (goodIn_r _ [42, 7, 43, 44, 45, 5, 46, 36, 37, 38, 47, 48, 49, 50, 51, 52, 53, 54, 55, 56, 57, 58, 59, 60, 61, 62, 63, 64, 65, 66, 67, 68, 69, 70, 71, 72] (by decide +kernel) (by decide +kernel)) (goodIn_sub (fun _ h => List.mem_cons_of_mem _ (List.mem_append_right _ h)) (by decide +kernel))
set_option maxRecDepth 20000 in
theorem gX10_retract_X10_retracts : GoodIn wsX10_retract (wsV RX10 320 RX10 yX10_retracts wsX10_retracts) := goodIn_app (goodIn_of _ (by decide +kernel)) ggX10_retract_X10_retracts
theorem dX10_retract_0 : decode cX10_retract 0 = .ok (.aload_n 0, 1) := by decide +kernel
theorem dX10_retract_1 : decode cX10_retract 1 = .ok (.iconst 0, 1) := by decide +kernel
theorem dX10_retract_2 : decode cX10_retract 2 = .ok (.putfield 64, 3) := by decide +kernel
theorem dX10_retract_5 : decode cX10_retract 5 = .ok (.aload_n 0, 1) := by decide +kernel
theorem dX10_retract_6 : decode cX10_retract 6 = .ok (.iload_n 1, 1) := by decide +kernel
theorem dX10_retract_7 : decode cX10_retract 7 = .ok (.invokevirtual 274, 3) := by decide +kernel
theorem dX10_retract_10 : decode cX10_retract 10 = .ok (.ifCond .ne 16, 3) := by decide +kernel
theorem dX10_retract_13 : decode cX10_retract 13 = .ok (.aload_n 0, 1) := by decide +kernel
theorem dX10_retract_14 : decode cX10_retract 14 = .ok (.aload_n 0, 1) := by decide +kernel
theorem dX10_retract_15 : decode cX10_retract 15 = .ok (.iload_n 1, 1) := by decide +kernel
theorem dX10_retract_16 : decode cX10_retract 16 = .ok (.invokevirtual 193, 3) := by decide +kernel
theorem dX10_retract_19 : decode cX10_retract 19 = .ok (.iconst 2, 1) := by decide +kernel
theorem dX10_retract_20 : decode cX10_retract 20 = .ok (.invokevirtual 177, 3) := by decide +kernel
theorem dX10_retract_23 : decode cX10_retract 23 = .ok (.ifCond .eq 5, 3) := by decide +kernel
theorem dX10_retract_26 : decode cX10_retract 26 = .ok (.iconst 0, 1) := by decide +kernel
theorem dX10_retract_27 : decode cX10_retract 27 = .ok (.ireturn, 1) := by decide +kernel
theorem dX10_retract_28 : decode cX10_retract 28 = .ok (.aload_n 0, 1) := by decide +kernel
theorem dX10_retract_29 : decode cX10_retract 29 = .ok (.invokevirtual 317, 3) := by decide +kernel
theorem dX10_retract_32 : decode cX10_retract 32 = .ok (.aload_n 0, 1) := by decide +kernel
theorem dX10_retract_33 : decode cX10_retract 33 = .ok (.iload_n 1, 1) := by decide +kernel
theorem dX10_retract_34 : decode cX10_retract 34 = .ok (.invokevirtual 265, 3) := by decide +kernel
theorem dX10_retract_37 : decode cX10_retract 37 = .ok (.istore_n 2, 1) := by decide +kernel
theorem dX10_retract_38 : decode cX10_retract 38 = .ok (.aload_n 0, 1) := by decide +kernel
theorem dX10_retract_39 : decode cX10_retract 39 = .ok (.iload_n 1, 1) := by decide +kernel
theorem dX10_retract_40 : decode cX10_retract 40 = .ok (.invokevirtual 320, 3) := by decide +kernel
theorem dX10_retract_43 : decode cX10_retract 43 = .ok (.iload_n 2, 1) := by decide +kernel
theorem dX10_retract_44 : decode cX10_retract 44 = .ok (.ireturn, 1) := by decide +kernel
theorem dX10_copies_0 : decode cX10_copies 0 = .ok (.iconst 0, 1) := by decide +kernel
theorem dX10_copies_1 : decode cX10_copies 1 = .ok (.istore 5, 2) := by decide +kernel
theorem dX10_copies_3 : decode cX10_copies 3 = .ok (.iload 5, 2) := by decide +kernel
theorem dX10_copies_5 : decode cX10_copies 5 = .ok (.iload 4, 2) := by decide +kernel
theorem dX10_copies_7 : decode cX10_copies 7 = .ok (.if_icmp .ge 21, 3) := by decide +kernel
theorem dX10_copies_10 : decode cX10_copies 10 = .ok (.aload_n 2, 1) := by decide +kernel
theorem dX10_copies_11 : decode cX10_copies 11 = .ok (.iload_n 3, 1) := by decide +kernel
theorem dX10_copies_12 : decode cX10_copies 12 = .ok (.iload 5, 2) := by decide +kernel
theorem dX10_copies_14 : decode cX10_copies 14 = .ok (.iadd, 1) := by decide +kernel
theorem dX10_copies_15 : decode cX10_copies 15 = .ok (.aload_n 0, 1) := by decide +kernel
theorem dX10_copies_16 : decode cX10_copies 16 = .ok (.iload_n 1, 1) := by decide +kernel
theorem dX10_copies_17 : decode cX10_copies 17 = .ok (.iload 5, 2) := by decide +kernel
theorem dX10_copies_19 : decode cX10_copies 19 = .ok (.iadd, 1) := by decide +kernel
theorem dX10_copies_20 : decode cX10_copies 20 = .ok (.iaload, 1) := by decide +kernel
theorem dX10_copies_21 : decode cX10_copies 21 = .ok (.iastore, 1) := by decide +kernel
theorem dX10_copies_22 : decode cX10_copies 22 = .ok (.iinc 5 1, 3) := by decide +kernel
theorem dX10_copies_25 : decode cX10_copies 25 = .ok (.goto (-22), 3) := by decide +kernel
theorem dX10_copies_28 : decode cX10_copies 28 = .ok (.return_, 1) := by decide +kernel
set_option maxRecDepth 20000 in
theorem ggX10_keeps_X10_copies : GoodIn wsX10_keeps wsX10_copies := goodIn_ca (goodIn_r _ [7] (by decide +kernel) (by decide +kernel)) (goodIn_sub (fun _ h => List.mem_cons_of_mem _ (List.mem_append_right _ h)) (by decide +kernel))
set_option maxRecDepth 20000 in
theorem gX10_keeps_X10_copies : GoodIn wsX10_keeps (va_wsS RX10 307 yX10_copies wsX10_copies) := goodIn_app (goodIn_of _ (by decide +kernel)) ggX10_keeps_X10_copies
theorem dX10_keeps_0 : decode cX10_keeps 0 = .ok (.aload_n 0, 1) := by decide +kernel
theorem dX10_keeps_1 : decode cX10_keeps 1 = .ok (.getfield 187, 3) := by decide +kernel
theorem dX10_keeps_4 : decode cX10_keeps 4 = .ok (.bipush 10, 2) := by decide +kernel
theorem dX10_keeps_6 : decode cX10_keeps 6 = .ok (.if_icmp .ne 36, 3) := by decide +kernel
theorem dX10_keeps_9 : decode cX10_keeps 9 = .ok (.aload_n 0, 1) := by decide +kernel
theorem dX10_keeps_10 : decode cX10_keeps 10 = .ok (.dup, 1) := by decide +kernel
theorem dX10_keeps_11 : decode cX10_keeps 11 = .ok (.getfield 187, 3) := by decide +kernel
theorem dX10_keeps_14 : decode cX10_keeps 14 = .ok (.iconst 1, 1) := by decide +kernel
theorem dX10_keeps_15 : decode cX10_keeps 15 = .ok (.isub, 1) := by decide +kernel
theorem dX10_keeps_16 : decode cX10_keeps 16 = .ok (.putfield 187, 3) := by decide +kernel
theorem dX10_keeps_19 : decode cX10_keeps 19 = .ok (.aload_n 0, 1) := by decide +kernel
theorem dX10_keeps_20 : decode cX10_keeps 20 = .ok (.getfield 45, 3) := by decide +kernel
theorem dX10_keeps_23 : decode cX10_keeps 23 = .ok (.sipush 1167, 3) := by decide +kernel
theorem dX10_keeps_26 : decode cX10_keeps 26 = .ok (.aload_n 0, 1) := by decide +kernel
theorem dX10_keeps_27 : decode cX10_keeps 27 = .ok (.getfield 45, 3) := by decide +kernel
theorem dX10_keeps_30 : decode cX10_keeps 30 = .ok (.iconst 0, 1) := by decide +kernel
theorem dX10_keeps_31 : decode cX10_keeps 31 = .ok (.sipush 1167, 3) := by decide +kernel
theorem dX10_keeps_34 : decode cX10_keeps 34 = .ok (.aload_n 0, 1) := by decide +kernel
theorem dX10_keeps_35 : decode cX10_keeps 35 = .ok (.getfield 187, 3) := by decide +kernel
theorem dX10_keeps_38 : decode cX10_keeps 38 = .ok (.imul, 1) := by decide +kernel
theorem dX10_keeps_39 : decode cX10_keeps 39 = .ok (.invokestatic 307, 3) := by decide +kernel
theorem dX10_keeps_42 : decode cX10_keeps 42 = .ok (.aload_n 0, 1) := by decide +kernel
theorem dX10_keeps_43 : decode cX10_keeps 43 = .ok (.getfield 7, 3) := by decide +kernel
theorem dX10_keeps_46 : decode cX10_keeps 46 = .ok (.iconst 0, 1) := by decide +kernel
theorem dX10_keeps_47 : decode cX10_keeps 47 = .ok (.aload_n 0, 1) := by decide +kernel
theorem dX10_keeps_48 : decode cX10_keeps 48 = .ok (.getfield 45, 3) := by decide +kernel
theorem dX10_keeps_51 : decode cX10_keeps 51 = .ok (.sipush 1167, 3) := by decide +kernel
theorem dX10_keeps_54 : decode cX10_keeps 54 = .ok (.aload_n 0, 1) := by decide +kernel
theorem dX10_keeps_55 : decode cX10_keeps 55 = .ok (.getfield 187, 3) := by decide +kernel
theorem dX10_keeps_58 : decode cX10_keeps 58 = .ok (.imul, 1) := by decide +kernel
theorem dX10_keeps_59 : decode cX10_keeps 59 = .ok (.sipush 1167, 3) := by decide +kernel
theorem dX10_keeps_62 : decode cX10_keeps 62 = .ok (.invokestatic 307, 3) := by decide +kernel
theorem dX10_keeps_65 : decode cX10_keeps 65 = .ok (.aload_n 0, 1) := by decide +kernel
theorem dX10_keeps_66 : decode cX10_keeps 66 = .ok (.dup, 1) := by decide +kernel
theorem dX10_keeps_67 : decode cX10_keeps 67 = .ok (.getfield 187, 3) := by decide +kernel
theorem dX10_keeps_70 : decode cX10_keeps 70 = .ok (.iconst 1, 1) := by decide +kernel
theorem dX10_keeps_71 : decode cX10_keeps 71 = .ok (.iadd, 1) := by decide +kernel
theorem dX10_keeps_72 : decode cX10_keeps 72 = .ok (.putfield 187, 3) := by decide +kernel
theorem dX10_keeps_75 : decode cX10_keeps 75 = .ok (.return_, 1) := by decide +kernel
set_option maxRecDepth 20000 in
theorem ggX10_undo_X10_copies : GoodIn wsX10_undo wsX10_copies := goodIn_ca (goodIn_r _ [8] (by decide +kernel) (by decide +kernel)) (goodIn_sub (fun _ h => List.mem_cons_of_mem _ (List.mem_append_right _ h)) (by decide +kernel))
set_option maxRecDepth 20000 in
theorem gX10_undo_X10_copies : GoodIn wsX10_undo (va_wsS RX10 307 yX10_copies wsX10_copies) := goodIn_app (goodIn_of _ (by decide +kernel)) ggX10_undo_X10_copies
theorem dX10_undo_0 : decode cX10_undo 0 = .ok (.aload_n 0, 1) := by decide +kernel
theorem dX10_undo_1 : decode cX10_undo 1 = .ok (.iconst 0, 1) := by decide +kernel
theorem dX10_undo_2 : decode cX10_undo 2 = .ok (.putfield 64, 3) := by decide +kernel
theorem dX10_undo_5 : decode cX10_undo 5 = .ok (.aload_n 0, 1) := by decide +kernel
theorem dX10_undo_6 : decode cX10_undo 6 = .ok (.getfield 187, 3) := by decide +kernel
theorem dX10_undo_9 : decode cX10_undo 9 = .ok (.ifCond .ne 5, 3) := by decide +kernel
theorem dX10_undo_12 : decode cX10_undo 12 = .ok (.iconst (-1), 1) := by decide +kernel
theorem dX10_undo_13 : decode cX10_undo 13 = .ok (.ireturn, 1) := by decide +kernel
theorem dX10_undo_14 : decode cX10_undo 14 = .ok (.aload_n 0, 1) := by decide +kernel
theorem dX10_undo_15 : decode cX10_undo 15 = .ok (.dup, 1) := by decide +kernel
theorem dX10_undo_16 : decode cX10_undo 16 = .ok (.getfield 187, 3) := by decide +kernel
theorem dX10_undo_19 : decode cX10_undo 19 = .ok (.iconst 1, 1) := by decide +kernel
theorem dX10_undo_20 : decode cX10_undo 20 = .ok (.isub, 1) := by decide +kernel
theorem dX10_undo_21 : decode cX10_undo 21 = .ok (.putfield 187, 3) := by decide +kernel
theorem dX10_undo_24 : decode cX10_undo 24 = .ok (.aload_n 0, 1) := by decide +kernel
theorem dX10_undo_25 : decode cX10_undo 25 = .ok (.getfield 45, 3) := by decide +kernel
theorem dX10_undo_28 : decode cX10_undo 28 = .ok (.sipush 1167, 3) := by decide +kernel
theorem dX10_undo_31 : decode cX10_undo 31 = .ok (.aload_n 0, 1) := by decide +kernel
theorem dX10_undo_32 : decode cX10_undo 32 = .ok (.getfield 187, 3) := by decide +kernel
theorem dX10_undo_35 : decode cX10_undo 35 = .ok (.imul, 1) := by decide +kernel
theorem dX10_undo_36 : decode cX10_undo 36 = .ok (.aload_n 0, 1) := by decide +kernel
theorem dX10_undo_37 : decode cX10_undo 37 = .ok (.getfield 7, 3) := by decide +kernel
theorem dX10_undo_40 : decode cX10_undo 40 = .ok (.iconst 0, 1) := by decide +kernel
theorem dX10_undo_41 : decode cX10_undo 41 = .ok (.sipush 1167, 3) := by decide +kernel
theorem dX10_undo_44 : decode cX10_undo 44 = .ok (.invokestatic 307, 3) := by decide +kernel
theorem dX10_undo_47 : decode cX10_undo 47 = .ok (.aload_n 0, 1) := by decide +kernel
theorem dX10_undo_48 : decode cX10_undo 48 = .ok (.getfield 187, 3) := by decide +kernel
theorem dX10_undo_51 : decode cX10_undo 51 = .ok (.ireturn, 1) := by decide +kernel
set_option maxRecDepth 20000 in
theorem ggX10_noSlot_X10_no : GoodIn wsX10_noSlot wsX10_no := goodIn_r _ [6, 7, 8, 5, 9, 10, 11, 12, 13, 1, 14, 15, 16, 17, 18, 19, 20, 21, 22, 23, 24, 25, 26, 27, 28, 29, 30, 31, 32, 33, 34, 35, 36, 37, 38, 39] (by decide +kernel) (by decide +kernel)
set_option maxRecDepth 20000 in
theorem gX10_noSlot_X10_no : GoodIn wsX10_noSlot (wsV RX10 190 RX10 yX10_no wsX10_no) := goodIn_app (goodIn_of _ (by decide +kernel)) ggX10_noSlot_X10_no
theorem dX10_noSlot_0 : decode cX10_noSlot 0 = .ok (.aload_n 0, 1) := by decide +kernel
theorem dX10_noSlot_1 : decode cX10_noSlot 1 = .ok (.iconst 0, 1) := by decide +kernel
theorem dX10_noSlot_2 : decode cX10_noSlot 2 = .ok (.putfield 64, 3) := by decide +kernel
theorem dX10_noSlot_5 : decode cX10_noSlot 5 = .ok (.aload_n 0, 1) := by decide +kernel
theorem dX10_noSlot_6 : decode cX10_noSlot 6 = .ok (.iload_n 1, 1) := by decide +kernel
theorem dX10_noSlot_7 : decode cX10_noSlot 7 = .ok (.iconst 2, 1) := by decide +kernel
theorem dX10_noSlot_8 : decode cX10_noSlot 8 = .ok (.invokevirtual 190, 3) := by decide +kernel
theorem dX10_noSlot_11 : decode cX10_noSlot 11 = .ok (.ireturn, 1) := by decide +kernel
set_option maxRecDepth 20000 in
theorem ggX10_saveSnapshot_X10_noSlot : GoodIn wsX10_saveSnapshot wsX10_noSlot := goodIn_r _ [8, 9, 10, 11, 12, 7, 13, 14, 15, 16, 17, 18, 19, 20, 24, 25, 26, 27, 28, 29, 30, 31, 32, 33, 34, 35, 36, 37, 38, 39, 40, 41, 42, 43, 44, 45, 46, 47, 48, 49] (by decide +kernel) (by decide +kernel)
set_option maxRecDepth 20000 in
theorem gX10_saveSnapshot_X10_noSlot : GoodIn wsX10_saveSnapshot (wsV RX10 323 RX10 yX10_noSlot wsX10_noSlot) := goodIn_app (goodIn_of _ (by decide +kernel)) ggX10_saveSnapshot_X10_noSlot
set_option maxRecDepth 20000 in
theorem ggX10_saveSnapshot_X10_copies : GoodIn wsX10_saveSnapshot wsX10_copies := goodIn_ca (goodIn_r _ [23] (by decide +kernel) (by decide +kernel)) (goodIn_sub (fun _ h => List.mem_cons_of_mem _ (List.mem_append_right _ h)) (by decide +kernel))
set_option maxRecDepth 20000 in
theorem gX10_saveSnapshot_X10_copies : GoodIn wsX10_saveSnapshot (va_wsS RX10 307 yX10_copies wsX10_copies) := goodIn_app (goodIn_of _ (by decide +kernel)) ggX10_saveSnapshot_X10_copies
theorem dX10_saveSnapshot_0 : decode cX10_saveSnapshot 0 = .ok (.aload_n 0, 1) := by decide +kernel
theorem dX10_saveSnapshot_1 : decode cX10_saveSnapshot 1 = .ok (.iload_n 1, 1) := by decide +kernel
theorem dX10_saveSnapshot_2 : decode cX10_saveSnapshot 2 = .ok (.invokevirtual 323, 3) := by decide +kernel
theorem dX10_saveSnapshot_5 : decode cX10_saveSnapshot 5 = .ok (.ifCond .eq 5, 3) := by decide +kernel
theorem dX10_saveSnapshot_8 : decode cX10_saveSnapshot 8 = .ok (.iconst 0, 1) := by decide +kernel
theorem dX10_saveSnapshot_9 : decode cX10_saveSnapshot 9 = .ok (.ireturn, 1) := by decide +kernel
theorem dX10_saveSnapshot_10 : decode cX10_saveSnapshot 10 = .ok (.aload_n 0, 1) := by decide +kernel
theorem dX10_saveSnapshot_11 : decode cX10_saveSnapshot 11 = .ok (.getfield 51, 3) := by decide +kernel
theorem dX10_saveSnapshot_14 : decode cX10_saveSnapshot 14 = .ok (.iload_n 1, 1) := by decide +kernel
theorem dX10_saveSnapshot_15 : decode cX10_saveSnapshot 15 = .ok (.baload, 1) := by decide +kernel
theorem dX10_saveSnapshot_16 : decode cX10_saveSnapshot 16 = .ok (.istore_n 2, 1) := by decide +kernel
theorem dX10_saveSnapshot_17 : decode cX10_saveSnapshot 17 = .ok (.aload_n 0, 1) := by decide +kernel
theorem dX10_saveSnapshot_18 : decode cX10_saveSnapshot 18 = .ok (.getfield 7, 3) := by decide +kernel
theorem dX10_saveSnapshot_21 : decode cX10_saveSnapshot 21 = .ok (.iconst 0, 1) := by decide +kernel
theorem dX10_saveSnapshot_22 : decode cX10_saveSnapshot 22 = .ok (.aload_n 0, 1) := by decide +kernel
theorem dX10_saveSnapshot_23 : decode cX10_saveSnapshot 23 = .ok (.getfield 48, 3) := by decide +kernel
theorem dX10_saveSnapshot_26 : decode cX10_saveSnapshot 26 = .ok (.sipush 1167, 3) := by decide +kernel
theorem dX10_saveSnapshot_29 : decode cX10_saveSnapshot 29 = .ok (.iload_n 1, 1) := by decide +kernel
theorem dX10_saveSnapshot_30 : decode cX10_saveSnapshot 30 = .ok (.imul, 1) := by decide +kernel
theorem dX10_saveSnapshot_31 : decode cX10_saveSnapshot 31 = .ok (.sipush 1167, 3) := by decide +kernel
theorem dX10_saveSnapshot_34 : decode cX10_saveSnapshot 34 = .ok (.invokestatic 307, 3) := by decide +kernel
theorem dX10_saveSnapshot_37 : decode cX10_saveSnapshot 37 = .ok (.aload_n 0, 1) := by decide +kernel
theorem dX10_saveSnapshot_38 : decode cX10_saveSnapshot 38 = .ok (.getfield 51, 3) := by decide +kernel
theorem dX10_saveSnapshot_41 : decode cX10_saveSnapshot 41 = .ok (.iload_n 1, 1) := by decide +kernel
theorem dX10_saveSnapshot_42 : decode cX10_saveSnapshot 42 = .ok (.iconst 1, 1) := by decide +kernel
theorem dX10_saveSnapshot_43 : decode cX10_saveSnapshot 43 = .ok (.bastore, 1) := by decide +kernel
theorem dX10_saveSnapshot_44 : decode cX10_saveSnapshot 44 = .ok (.iload_n 2, 1) := by decide +kernel
theorem dX10_saveSnapshot_45 : decode cX10_saveSnapshot 45 = .ok (.ireturn, 1) := by decide +kernel
set_option maxRecDepth 20000 in
theorem ggX10_restoreSnapshot_X10_noSlot : GoodIn wsX10_restoreSnapshot wsX10_noSlot := goodIn_r _ [9, 10, 11, 12, 13, 8, 14, 15, 16, 17, 18, 19, 20, 21, 25, 26, 27, 28, 29, 30, 31, 32, 33, 34, 35, 36, 37, 38, 39, 40, 41, 42, 43, 44, 45, 46, 47, 48, 49, 50] (by decide +kernel) (by decide +kernel)
set_option maxRecDepth 20000 in
theorem gX10_restoreSnapshot_X10_noSlot : GoodIn wsX10_restoreSnapshot (wsV RX10 323 RX10 yX10_noSlot wsX10_noSlot) := goodIn_app (goodIn_of _ (by decide +kernel)) ggX10_restoreSnapshot_X10_noSlot
set_option maxRecDepth 20000 in
theorem ggX10_restoreSnapshot_X10_throwsIf : GoodIn wsX10_restoreSnapshot wsX10_throwsIf := goodIn_r _ [21, 10, 25, 26, 27, 28, 29, 30, 31, 32, 33, 34, 35, 36, 37, 38, 39, 40, 41, 42, 43, 44, 45, 46, 47, 48, 49, 50] (by decide +kernel) (by decide +kernel)
set_option maxRecDepth 20000 in
theorem gX10_restoreSnapshot_X10_throwsIf : GoodIn wsX10_restoreSnapshot (wsV RX10 177 RX10 yX10_throwsIf wsX10_throwsIf) := goodIn_app (goodIn_of _ (by decide +kernel)) ggX10_restoreSnapshot_X10_throwsIf
set_option maxRecDepth 20000 in
theorem ggX10_restoreSnapshot_X10_copies : GoodIn wsX10_restoreSnapshot wsX10_copies := goodIn_ca (goodIn_r _ [24] (by decide +kernel) (by decide +kernel)) (goodIn_sub (fun _ h => List.mem_cons_of_mem _ (List.mem_append_right _ h)) (by decide +kernel))
set_option maxRecDepth 20000 in
theorem gX10_restoreSnapshot_X10_copies : GoodIn wsX10_restoreSnapshot (va_wsS RX10 307 yX10_copies wsX10_copies) := goodIn_app (goodIn_of _ (by decide +kernel)) ggX10_restoreSnapshot_X10_copies
theorem dX10_restoreSnapshot_0 : decode cX10_restoreSnapshot 0 = .ok (.aload_n 0, 1) := by decide +kernel
theorem dX10_restoreSnapshot_1 : decode cX10_restoreSnapshot 1 = .ok (.iload_n 1, 1) := by decide +kernel
theorem dX10_restoreSnapshot_2 : decode cX10_restoreSnapshot 2 = .ok (.invokevirtual 323, 3) := by decide +kernel
theorem dX10_restoreSnapshot_5 : decode cX10_restoreSnapshot 5 = .ok (.ifCond .ne 25, 3) := by decide +kernel
theorem dX10_restoreSnapshot_8 : decode cX10_restoreSnapshot 8 = .ok (.aload_n 0, 1) := by decide +kernel
theorem dX10_restoreSnapshot_9 : decode cX10_restoreSnapshot 9 = .ok (.aload_n 0, 1) := by decide +kernel
theorem dX10_restoreSnapshot_10 : decode cX10_restoreSnapshot 10 = .ok (.getfield 51, 3) := by decide +kernel
theorem dX10_restoreSnapshot_13 : decode cX10_restoreSnapshot 13 = .ok (.iload_n 1, 1) := by decide +kernel
theorem dX10_restoreSnapshot_14 : decode cX10_restoreSnapshot 14 = .ok (.baload, 1) := by decide +kernel
theorem dX10_restoreSnapshot_15 : decode cX10_restoreSnapshot 15 = .ok (.ifCond .ne 7, 3) := by decide +kernel
theorem dX10_restoreSnapshot_18 : decode cX10_restoreSnapshot 18 = .ok (.iconst 1, 1) := by decide +kernel
theorem dX10_restoreSnapshot_19 : decode cX10_restoreSnapshot 19 = .ok (.goto 4, 3) := by decide +kernel
theorem dX10_restoreSnapshot_22 : decode cX10_restoreSnapshot 22 = .ok (.iconst 0, 1) := by decide +kernel
theorem dX10_restoreSnapshot_23 : decode cX10_restoreSnapshot 23 = .ok (.iconst 2, 1) := by decide +kernel
theorem dX10_restoreSnapshot_24 : decode cX10_restoreSnapshot 24 = .ok (.invokevirtual 177, 3) := by decide +kernel
theorem dX10_restoreSnapshot_27 : decode cX10_restoreSnapshot 27 = .ok (.ifCond .eq 5, 3) := by decide +kernel
theorem dX10_restoreSnapshot_30 : decode cX10_restoreSnapshot 30 = .ok (.iconst 0, 1) := by decide +kernel
theorem dX10_restoreSnapshot_31 : decode cX10_restoreSnapshot 31 = .ok (.ireturn, 1) := by decide +kernel
theorem dX10_restoreSnapshot_32 : decode cX10_restoreSnapshot 32 = .ok (.aload_n 0, 1) := by decide +kernel
theorem dX10_restoreSnapshot_33 : decode cX10_restoreSnapshot 33 = .ok (.getfield 48, 3) := by decide +kernel
theorem dX10_restoreSnapshot_36 : decode cX10_restoreSnapshot 36 = .ok (.sipush 1167, 3) := by decide +kernel
theorem dX10_restoreSnapshot_39 : decode cX10_restoreSnapshot 39 = .ok (.iload_n 1, 1) := by decide +kernel
theorem dX10_restoreSnapshot_40 : decode cX10_restoreSnapshot 40 = .ok (.imul, 1) := by decide +kernel
theorem dX10_restoreSnapshot_41 : decode cX10_restoreSnapshot 41 = .ok (.aload_n 0, 1) := by decide +kernel
theorem dX10_restoreSnapshot_42 : decode cX10_restoreSnapshot 42 = .ok (.getfield 7, 3) := by decide +kernel
theorem dX10_restoreSnapshot_45 : decode cX10_restoreSnapshot 45 = .ok (.iconst 0, 1) := by decide +kernel
theorem dX10_restoreSnapshot_46 : decode cX10_restoreSnapshot 46 = .ok (.sipush 1167, 3) := by decide +kernel
theorem dX10_restoreSnapshot_49 : decode cX10_restoreSnapshot 49 = .ok (.invokestatic 307, 3) := by decide +kernel
theorem dX10_restoreSnapshot_52 : decode cX10_restoreSnapshot 52 = .ok (.aload_n 0, 1) := by decide +kernel
theorem dX10_restoreSnapshot_53 : decode cX10_restoreSnapshot 53 = .ok (.iconst 0, 1) := by decide +kernel
theorem dX10_restoreSnapshot_54 : decode cX10_restoreSnapshot 54 = .ok (.putfield 187, 3) := by decide +kernel
theorem dX10_restoreSnapshot_57 : decode cX10_restoreSnapshot 57 = .ok (.aload_n 0, 1) := by decide +kernel
theorem dX10_restoreSnapshot_58 : decode cX10_restoreSnapshot 58 = .ok (.getfield 7, 3) := by decide +kernel
theorem dX10_restoreSnapshot_61 : decode cX10_restoreSnapshot 61 = .ok (.iconst 0, 1) := by decide +kernel
theorem dX10_restoreSnapshot_62 : decode cX10_restoreSnapshot 62 = .ok (.iaload, 1) := by decide +kernel
theorem dX10_restoreSnapshot_63 : decode cX10_restoreSnapshot 63 = .ok (.ireturn, 1) := by decide +kernel
