theorem dX10_statement_349 : decode cX10_statement 349 = .ok (.iconst 0, 1) := by decide +kernel
theorem dX10_statement_350 : decode cX10_statement 350 = .ok (.goto 8, 3) := by decide +kernel
theorem dX10_statement_353 : decode cX10_statement 353 = .ok (.aload_n 0, 1) := by decide +kernel
theorem dX10_statement_354 : decode cX10_statement 354 = .ok (.iconst 1, 1) := by decide +kernel
theorem dX10_statement_355 : decode cX10_statement 355 = .ok (.invokevirtual 117, 3) := by decide +kernel
theorem dX10_statement_358 : decode cX10_statement 358 = .ok (.ireturn, 1) := by decide +kernel
set_option maxRecDepth 20000 in
theorem ggX10_closes_X10_fails : GoodIn wsX10_closes wsX10_fails := goodIn_r _ [6, 7, 8, 9, 25, 26, 27, 28, 29, 30, 31, 32, 33, 34, 35, 36, 37, 38, 39, 40, 41, 42, 43, 44, 45, 46, 47, 48, 49, 50] (by decide +kernel) (by decide +kernel)
set_option maxRecDepth 20000 in
theorem gX10_closes_X10_fails : GoodIn wsX10_closes (wsV RX10 117 RX10 yX10_fails wsX10_fails) := goodIn_app (goodIn_of _ (by decide +kernel)) ggX10_closes_X10_fails
set_option maxRecDepth 20000 in
theorem ggX10_closes_X10_advance : GoodIn wsX10_closes wsX10_advance := goodIn_ca (goodIn_r _ [13, 14, 8, 15, 1, 16, 17, 18, 5, 19, 20, 21, 22, 23, 24, 25, 26, 27, 28, 29, 30, 31, 32, 33, 34, 35, 36, 37, 38, 39, 40, 41, 42, 43, 44, 45, 46, 47, 48, 49, 50] (by decide +kernel) (by decide +kernel)) (goodIn_sub (fun _ h => List.mem_cons_of_mem _ (List.mem_append_right _ h)) (by decide +kernel))
set_option maxRecDepth 20000 in
theorem gX10_closes_X10_advance : GoodIn wsX10_closes (wsV RX10 124 RX10 yX10_advance wsX10_advance) := goodIn_app (goodIn_of _ (by decide +kernel)) ggX10_closes_X10_advance
theorem dX10_closes_0 : decode cX10_closes 0 = .ok (.aload_n 0, 1) := by decide +kernel
theorem dX10_closes_1 : decode cX10_closes 1 = .ok (.getfield 98, 3) := by decide +kernel
theorem dX10_closes_4 : decode cX10_closes 4 = .ok (.iconst 3, 1) := by decide +kernel
theorem dX10_closes_5 : decode cX10_closes 5 = .ok (.if_icmp .eq 9, 3) := by decide +kernel
theorem dX10_closes_8 : decode cX10_closes 8 = .ok (.aload_n 0, 1) := by decide +kernel
theorem dX10_closes_9 : decode cX10_closes 9 = .ok (.iconst 1, 1) := by decide +kernel
theorem dX10_closes_10 : decode cX10_closes 10 = .ok (.invokevirtual 117, 3) := by decide +kernel
theorem dX10_closes_13 : decode cX10_closes 13 = .ok (.ireturn, 1) := by decide +kernel
theorem dX10_closes_14 : decode cX10_closes 14 = .ok (.aload_n 0, 1) := by decide +kernel
theorem dX10_closes_15 : decode cX10_closes 15 = .ok (.invokevirtual 124, 3) := by decide +kernel
theorem dX10_closes_18 : decode cX10_closes 18 = .ok (.iconst 1, 1) := by decide +kernel
theorem dX10_closes_19 : decode cX10_closes 19 = .ok (.ireturn, 1) := by decide +kernel
set_option maxRecDepth 20000 in
theorem ggX10_parse_X10_within : GoodIn wsX10_parse wsX10_within := goodIn_r _ [12] (by decide +kernel) (by decide +kernel)
set_option maxRecDepth 20000 in
theorem gX10_parse_X10_within : GoodIn wsX10_parse (va_wsS RX10 101 yX10_within wsX10_within) := goodIn_app (goodIn_of _ (by decide +kernel)) ggX10_parse_X10_within
set_option maxRecDepth 20000 in
theorem ggX10_parse_X10_throwsIf : GoodIn wsX10_parse wsX10_throwsIf := goodIn_r _ [16, 1, 149, 150, 151, 152, 153, 154, 155, 156, 157, 158, 159, 160, 161, 162, 163, 164, 165, 166, 167, 168, 169, 170, 171, 172, 173, 174] (by decide +kernel) (by decide +kernel)
set_option maxRecDepth 20000 in
theorem gX10_parse_X10_throwsIf : GoodIn wsX10_parse (wsV RX10 177 RX10 yX10_throwsIf wsX10_throwsIf) := goodIn_app (goodIn_of _ (by decide +kernel)) ggX10_parse_X10_throwsIf
set_option maxRecDepth 20000 in
theorem ggX10_parse_X10_clearDraft : GoodIn wsX10_parse wsX10_clearDraft := goodIn_ca (goodIn_r _ [20, 21, 22, 23, 11, 24, 25, 149, 150, 151, 152, 153, 154, 155, 156, 157, 158, 159, 160, 161, 162, 163, 164, 165, 166, 167, 168, 169, 170, 171, 172, 173, 174] (by decide +kernel) (by decide +kernel)) (goodIn_sub (fun _ h => List.mem_cons_of_mem _ (List.mem_append_right _ h)) (by decide +kernel))
set_option maxRecDepth 20000 in
theorem gX10_parse_X10_clearDraft : GoodIn wsX10_parse (wsV RX10 55 RX10 yX10_clearDraft wsX10_clearDraft) := goodIn_app (goodIn_of _ (by decide +kernel)) ggX10_parse_X10_clearDraft
set_option maxRecDepth 20000 in
theorem ggX10_parse_X10_advance : GoodIn wsX10_parse wsX10_advance := goodIn_ca (goodIn_r _ [29, 4, 30, 31, 8, 32, 33, 34, 11, 35, 3, 36, 9, 10, 12, 149, 150, 151, 152, 153, 154, 155, 156, 157, 158, 159, 160, 161, 162, 163, 164, 165, 166, 167, 168, 169, 170, 171, 172, 173, 174] (by decide +kernel) (by decide +kernel)) (goodIn_sub (fun _ h => List.mem_cons_of_mem _ (List.mem_append_right _ h)) (by decide +kernel))
set_option maxRecDepth 20000 in
theorem gX10_parse_X10_advance : GoodIn wsX10_parse (wsV RX10 124 RX10 yX10_advance wsX10_advance) := goodIn_app (goodIn_of _ (by decide +kernel)) ggX10_parse_X10_advance
set_option maxRecDepth 20000 in
theorem ggX10_parse_X10_statement : GoodIn wsX10_parse wsX10_statement := goodIn_ca (goodIn_r _ [40, 41, 42, 43, 44, 11, 45, 8, 4, 30, 36, 46, 47, 48, 49, 50, 51, 52, 53, 54, 55, 56, 57, 58, 59, 60, 61, 62, 63, 64, 65, 66, 67, 68, 69, 70, 71, 72, 73, 74, 75, 76, 77, 78, 79, 80, 81, 82, 83, 84, 85, 86, 87, 88, 89, 90, 91, 92, 93, 94, 95, 96, 97, 98, 25, 99, 100, 101, 102, 103, 104, 105, 106, 107, 108, 5, 6, 26, 27, 28, 29, 31, 32, 33, 34, 35, 3, 9, 10, 12, 109, 110, 111, 112, 113, 114, 115, 116, 21, 22, 23, 24, 117, 118, 119, 120, 121, 122, 123, 124, 125, 126, 7, 127, 128, 129, 130, 149, 150, 151, 152, 153, 154, 155, 156, 157, 158, 159, 160, 161, 162, 163, 164, 165, 166, 167, 168, 169, 170, 171, 172, 173, 174, 175, 176, 177, 178] (by decide +kernel) (by decide +kernel)) (goodIn_sub (fun _ h => List.mem_cons_of_mem _ (List.mem_append_right _ h)) (by decide +kernel))
set_option maxRecDepth 20000 in
theorem gX10_parse_X10_statement : GoodIn wsX10_parse (wsV RX10 181 RX10 yX10_statement wsX10_statement) := goodIn_app (goodIn_of _ (by decide +kernel)) ggX10_parse_X10_statement
set_option maxRecDepth 20000 in
theorem ggX10_parse_X10_closes : GoodIn wsX10_parse wsX10_closes := goodIn_ca (goodIn_r _ [134, 8, 105, 106, 107, 11, 108, 5, 30, 6, 26, 27, 28, 29, 4, 31, 32, 33, 34, 35, 3, 36, 9, 10, 12, 149, 150, 151, 152, 153, 154, 155, 156, 157, 158, 159, 160, 161, 162, 163, 164, 165, 166, 167, 168, 169, 170, 171, 172, 173, 174] (by decide +kernel) (by decide +kernel)) (goodIn_sub (fun _ h => List.mem_cons_of_mem _ (List.mem_append_right _ h)) (by decide +kernel))
set_option maxRecDepth 20000 in
theorem gX10_parse_X10_closes : GoodIn wsX10_parse (wsV RX10 184 RX10 yX10_closes wsX10_closes) := goodIn_app (goodIn_of _ (by decide +kernel)) ggX10_parse_X10_closes
set_option maxRecDepth 20000 in
theorem ggX10_parse_X10_liftsAll : GoodIn wsX10_parse wsX10_liftsAll := goodIn_ca (goodIn_r _ [138, 25, 99, 100, 121, 122, 139, 140, 11, 141, 149, 150, 151, 152, 153, 154, 155, 156, 157, 158, 159, 160, 161, 162, 163, 164, 165, 166, 167, 168, 169, 170, 171, 172, 173, 174] (by decide +kernel) (by decide +kernel)) (goodIn_sub (fun _ h => List.mem_cons_of_mem _ (List.mem_append_right _ h)) (by decide +kernel))
set_option maxRecDepth 20000 in
theorem gX10_parse_X10_liftsAll : GoodIn wsX10_parse (wsV RX10 58 RX10 yX10_liftsAll wsX10_liftsAll) := goodIn_app (goodIn_of _ (by decide +kernel)) ggX10_parse_X10_liftsAll
set_option maxRecDepth 20000 in
theorem ggX10_parse_X10_begins : GoodIn wsX10_parse wsX10_begins := goodIn_ca (goodIn_r _ [145, 146, 147, 148, 149, 150, 151, 152, 153, 154, 155, 156, 157, 158, 159, 160, 161, 162, 163, 164, 165, 166, 167, 168, 169, 170, 171, 172, 173, 174] (by decide +kernel) (by decide +kernel)) (goodIn_sub (fun _ h => List.mem_cons_of_mem _ (List.mem_append_right _ h)) (by decide +kernel))
set_option maxRecDepth 20000 in
theorem gX10_parse_X10_begins : GoodIn wsX10_parse (wsV RX10 61 RX10 yX10_begins wsX10_begins) := goodIn_app (goodIn_of _ (by decide +kernel)) ggX10_parse_X10_begins
theorem dX10_parse_0 : decode cX10_parse 0 = .ok (.aload_n 0, 1) := by decide +kernel
theorem dX10_parse_1 : decode cX10_parse 1 = .ok (.iconst 0, 1) := by decide +kernel
theorem dX10_parse_2 : decode cX10_parse 2 = .ok (.putfield 64, 3) := by decide +kernel
theorem dX10_parse_5 : decode cX10_parse 5 = .ok (.aload_n 0, 1) := by decide +kernel
theorem dX10_parse_6 : decode cX10_parse 6 = .ok (.iload_n 1, 1) := by decide +kernel
theorem dX10_parse_7 : decode cX10_parse 7 = .ok (.iconst 0, 1) := by decide +kernel
theorem dX10_parse_8 : decode cX10_parse 8 = .ok (.aload_n 0, 1) := by decide +kernel
theorem dX10_parse_9 : decode cX10_parse 9 = .ok (.getfield 75, 3) := by decide +kernel
theorem dX10_parse_12 : decode cX10_parse 12 = .ok (.invokestatic 101, 3) := by decide +kernel
theorem dX10_parse_15 : decode cX10_parse 15 = .ok (.ifCond .ne 7, 3) := by decide +kernel
theorem dX10_parse_18 : decode cX10_parse 18 = .ok (.iconst 1, 1) := by decide +kernel
theorem dX10_parse_19 : decode cX10_parse 19 = .ok (.goto 4, 3) := by decide +kernel
theorem dX10_parse_22 : decode cX10_parse 22 = .ok (.iconst 0, 1) := by decide +kernel
theorem dX10_parse_23 : decode cX10_parse 23 = .ok (.iconst 1, 1) := by decide +kernel
theorem dX10_parse_24 : decode cX10_parse 24 = .ok (.invokevirtual 177, 3) := by decide +kernel
theorem dX10_parse_27 : decode cX10_parse 27 = .ok (.ifCond .eq 5, 3) := by decide +kernel
theorem dX10_parse_30 : decode cX10_parse 30 = .ok (.iconst 0, 1) := by decide +kernel
theorem dX10_parse_31 : decode cX10_parse 31 = .ok (.ireturn, 1) := by decide +kernel
theorem dX10_parse_32 : decode cX10_parse 32 = .ok (.aload_n 0, 1) := by decide +kernel
theorem dX10_parse_33 : decode cX10_parse 33 = .ok (.iload_n 1, 1) := by decide +kernel
theorem dX10_parse_34 : decode cX10_parse 34 = .ok (.putfield 82, 3) := by decide +kernel
theorem dX10_parse_37 : decode cX10_parse 37 = .ok (.aload_n 0, 1) := by decide +kernel
theorem dX10_parse_38 : decode cX10_parse 38 = .ok (.iconst 0, 1) := by decide +kernel
theorem dX10_parse_39 : decode cX10_parse 39 = .ok (.putfield 75, 3) := by decide +kernel
theorem dX10_parse_42 : decode cX10_parse 42 = .ok (.aload_n 0, 1) := by decide +kernel
theorem dX10_parse_43 : decode cX10_parse 43 = .ok (.iconst 0, 1) := by decide +kernel
theorem dX10_parse_44 : decode cX10_parse 44 = .ok (.putfield 85, 3) := by decide +kernel
theorem dX10_parse_47 : decode cX10_parse 47 = .ok (.aload_n 0, 1) := by decide +kernel
theorem dX10_parse_48 : decode cX10_parse 48 = .ok (.iconst 0, 1) := by decide +kernel
theorem dX10_parse_49 : decode cX10_parse 49 = .ok (.putfield 114, 3) := by decide +kernel
theorem dX10_parse_52 : decode cX10_parse 52 = .ok (.aload_n 0, 1) := by decide +kernel
theorem dX10_parse_53 : decode cX10_parse 53 = .ok (.iconst (-1), 1) := by decide +kernel
theorem dX10_parse_54 : decode cX10_parse 54 = .ok (.putfield 32, 3) := by decide +kernel
theorem dX10_parse_57 : decode cX10_parse 57 = .ok (.aload_n 0, 1) := by decide +kernel
theorem dX10_parse_58 : decode cX10_parse 58 = .ok (.iconst 0, 1) := by decide +kernel
theorem dX10_parse_59 : decode cX10_parse 59 = .ok (.putfield 127, 3) := by decide +kernel
theorem dX10_parse_62 : decode cX10_parse 62 = .ok (.aload_n 0, 1) := by decide +kernel
theorem dX10_parse_63 : decode cX10_parse 63 = .ok (.invokevirtual 55, 3) := by decide +kernel
theorem dX10_parse_66 : decode cX10_parse 66 = .ok (.aload_n 0, 1) := by decide +kernel
theorem dX10_parse_67 : decode cX10_parse 67 = .ok (.invokevirtual 124, 3) := by decide +kernel
theorem dX10_parse_70 : decode cX10_parse 70 = .ok (.iconst 1, 1) := by decide +kernel
theorem dX10_parse_71 : decode cX10_parse 71 = .ok (.istore_n 2, 1) := by decide +kernel
theorem dX10_parse_72 : decode cX10_parse 72 = .ok (.iload_n 2, 1) := by decide +kernel
theorem dX10_parse_73 : decode cX10_parse 73 = .ok (.ifCond .eq 33, 3) := by decide +kernel
theorem dX10_parse_76 : decode cX10_parse 76 = .ok (.aload_n 0, 1) := by decide +kernel
theorem dX10_parse_77 : decode cX10_parse 77 = .ok (.getfield 98, 3) := by decide +kernel
theorem dX10_parse_80 : decode cX10_parse 80 = .ok (.ifCond .eq 26, 3) := by decide +kernel
theorem dX10_parse_83 : decode cX10_parse 83 = .ok (.aload_n 0, 1) := by decide +kernel
theorem dX10_parse_84 : decode cX10_parse 84 = .ok (.invokevirtual 181, 3) := by decide +kernel
theorem dX10_parse_87 : decode cX10_parse 87 = .ok (.ifCond .eq 14, 3) := by decide +kernel
theorem dX10_parse_90 : decode cX10_parse 90 = .ok (.aload_n 0, 1) := by decide +kernel
theorem dX10_parse_91 : decode cX10_parse 91 = .ok (.invokevirtual 184, 3) := by decide +kernel
theorem dX10_parse_94 : decode cX10_parse 94 = .ok (.ifCond .eq 7, 3) := by decide +kernel
theorem dX10_parse_97 : decode cX10_parse 97 = .ok (.iconst 1, 1) := by decide +kernel
theorem dX10_parse_98 : decode cX10_parse 98 = .ok (.goto 4, 3) := by decide +kernel
theorem dX10_parse_101 : decode cX10_parse 101 = .ok (.iconst 0, 1) := by decide +kernel
theorem dX10_parse_102 : decode cX10_parse 102 = .ok (.istore_n 2, 1) := by decide +kernel
theorem dX10_parse_103 : decode cX10_parse 103 = .ok (.goto (-31), 3) := by decide +kernel
theorem dX10_parse_106 : decode cX10_parse 106 = .ok (.iload_n 2, 1) := by decide +kernel
theorem dX10_parse_107 : decode cX10_parse 107 = .ok (.ifCond .ne 8, 3) := by decide +kernel
theorem dX10_parse_110 : decode cX10_parse 110 = .ok (.aload_n 0, 1) := by decide +kernel
theorem dX10_parse_111 : decode cX10_parse 111 = .ok (.getfield 114, 3) := by decide +kernel
theorem dX10_parse_114 : decode cX10_parse 114 = .ok (.ireturn, 1) := by decide +kernel
theorem dX10_parse_115 : decode cX10_parse 115 = .ok (.aload_n 0, 1) := by decide +kernel
theorem dX10_parse_116 : decode cX10_parse 116 = .ok (.invokevirtual 58, 3) := by decide +kernel
theorem dX10_parse_119 : decode cX10_parse 119 = .ok (.aload_n 0, 1) := by decide +kernel
theorem dX10_parse_120 : decode cX10_parse 120 = .ok (.invokevirtual 61, 3) := by decide +kernel
theorem dX10_parse_123 : decode cX10_parse 123 = .ok (.iconst 0, 1) := by decide +kernel
theorem dX10_parse_124 : decode cX10_parse 124 = .ok (.ireturn, 1) := by decide +kernel
theorem dX10_errorPosition_0 : decode cX10_errorPosition 0 = .ok (.aload_n 0, 1) := by decide +kernel
theorem dX10_errorPosition_1 : decode cX10_errorPosition 1 = .ok (.iconst 0, 1) := by decide +kernel
theorem dX10_errorPosition_2 : decode cX10_errorPosition 2 = .ok (.putfield 64, 3) := by decide +kernel
theorem dX10_errorPosition_5 : decode cX10_errorPosition 5 = .ok (.aload_n 0, 1) := by decide +kernel
theorem dX10_errorPosition_6 : decode cX10_errorPosition 6 = .ok (.getfield 32, 3) := by decide +kernel
theorem dX10_errorPosition_9 : decode cX10_errorPosition 9 = .ok (.ireturn, 1) := by decide +kernel
theorem dX10_begins_0 : decode cX10_begins 0 = .ok (.iconst 0, 1) := by decide +kernel
theorem dX10_begins_1 : decode cX10_begins 1 = .ok (.istore_n 1, 1) := by decide +kernel
theorem dX10_begins_2 : decode cX10_begins 2 = .ok (.iload_n 1, 1) := by decide +kernel
theorem dX10_begins_3 : decode cX10_begins 3 = .ok (.sipush 1167, 3) := by decide +kernel
theorem dX10_begins_6 : decode cX10_begins 6 = .ok (.if_icmp .ge 16, 3) := by decide +kernel
theorem dX10_begins_9 : decode cX10_begins 9 = .ok (.aload_n 0, 1) := by decide +kernel
theorem dX10_begins_10 : decode cX10_begins 10 = .ok (.getfield 7, 3) := by decide +kernel
theorem dX10_begins_13 : decode cX10_begins 13 = .ok (.iload_n 1, 1) := by decide +kernel
theorem dX10_begins_14 : decode cX10_begins 14 = .ok (.iconst 0, 1) := by decide +kernel
theorem dX10_begins_15 : decode cX10_begins 15 = .ok (.iastore, 1) := by decide +kernel
theorem dX10_begins_16 : decode cX10_begins 16 = .ok (.iinc 1 1, 3) := by decide +kernel
theorem dX10_begins_19 : decode cX10_begins 19 = .ok (.goto (-17), 3) := by decide +kernel
theorem dX10_begins_22 : decode cX10_begins 22 = .ok (.aload_n 0, 1) := by decide +kernel
theorem dX10_begins_23 : decode cX10_begins 23 = .ok (.iconst 0, 1) := by decide +kernel
theorem dX10_begins_24 : decode cX10_begins 24 = .ok (.putfield 187, 3) := by decide +kernel
theorem dX10_begins_27 : decode cX10_begins 27 = .ok (.aload_n 0, 1) := by decide +kernel
theorem dX10_begins_28 : decode cX10_begins 28 = .ok (.getfield 51, 3) := by decide +kernel
theorem dX10_begins_31 : decode cX10_begins 31 = .ok (.iconst 0, 1) := by decide +kernel
theorem dX10_begins_32 : decode cX10_begins 32 = .ok (.iconst 0, 1) := by decide +kernel
theorem dX10_begins_33 : decode cX10_begins 33 = .ok (.bastore, 1) := by decide +kernel
theorem dX10_begins_34 : decode cX10_begins 34 = .ok (.aload_n 0, 1) := by decide +kernel
theorem dX10_begins_35 : decode cX10_begins 35 = .ok (.getfield 51, 3) := by decide +kernel
theorem dX10_begins_38 : decode cX10_begins 38 = .ok (.iconst 1, 1) := by decide +kernel
theorem dX10_begins_39 : decode cX10_begins 39 = .ok (.iconst 0, 1) := by decide +kernel
theorem dX10_begins_40 : decode cX10_begins 40 = .ok (.bastore, 1) := by decide +kernel
theorem dX10_begins_41 : decode cX10_begins 41 = .ok (.return_, 1) := by decide +kernel
set_option maxRecDepth 20000 in
theorem ggX10_no_X10_within : GoodIn wsX10_no wsX10_within := goodIn_r _ [4] (by decide +kernel) (by decide +kernel)
set_option maxRecDepth 20000 in
theorem gX10_no_X10_within : GoodIn wsX10_no (va_wsS RX10 101 yX10_within wsX10_within) := goodIn_app (goodIn_of _ (by decide +kernel)) ggX10_no_X10_within
set_option maxRecDepth 20000 in
theorem ggX10_no_X10_throwsIf : GoodIn wsX10_no wsX10_throwsIf := goodIn_r _ [8, 9, 10, 11, 12, 13, 14, 15, 16, 17, 18, 19, 20, 21, 22, 23, 24, 25, 26, 27, 28, 29, 30, 31, 32, 33, 34, 35] (by decide +kernel) (by decide +kernel)
set_option maxRecDepth 20000 in
theorem gX10_no_X10_throwsIf : GoodIn wsX10_no (wsV RX10 177 RX10 yX10_throwsIf wsX10_throwsIf) := goodIn_app (goodIn_of _ (by decide +kernel)) ggX10_no_X10_throwsIf
theorem dX10_no_0 : decode cX10_no 0 = .ok (.aload_n 0, 1) := by decide +kernel
theorem dX10_no_1 : decode cX10_no 1 = .ok (.iload_n 1, 1) := by decide +kernel
theorem dX10_no_2 : decode cX10_no 2 = .ok (.iconst 0, 1) := by decide +kernel
theorem dX10_no_3 : decode cX10_no 3 = .ok (.iload_n 2, 1) := by decide +kernel
theorem dX10_no_4 : decode cX10_no 4 = .ok (.iconst 1, 1) := by decide +kernel
theorem dX10_no_5 : decode cX10_no 5 = .ok (.isub, 1) := by decide +kernel
theorem dX10_no_6 : decode cX10_no 6 = .ok (.invokestatic 101, 3) := by decide +kernel
theorem dX10_no_9 : decode cX10_no 9 = .ok (.ifCond .ne 7, 3) := by decide +kernel
theorem dX10_no_12 : decode cX10_no 12 = .ok (.iconst 1, 1) := by decide +kernel
theorem dX10_no_13 : decode cX10_no 13 = .ok (.goto 4, 3) := by decide +kernel
theorem dX10_no_16 : decode cX10_no 16 = .ok (.iconst 0, 1) := by decide +kernel
theorem dX10_no_17 : decode cX10_no 17 = .ok (.iconst 1, 1) := by decide +kernel
theorem dX10_no_18 : decode cX10_no 18 = .ok (.invokevirtual 177, 3) := by decide +kernel
theorem dX10_no_21 : decode cX10_no 21 = .ok (.ireturn, 1) := by decide +kernel
set_option maxRecDepth 20000 in
theorem ggX10_noStation_X10_no : GoodIn wsX10_noStation wsX10_no := goodIn_r _ [7, 8, 9, 6, 10, 11, 12, 13, 14, 1, 15, 16, 17, 18, 19, 20, 21, 22, 23, 24, 25, 26, 27, 28, 29, 30, 31, 32, 33, 34, 35, 36, 37, 38, 39, 40] (by decide +kernel) (by decide +kernel)
set_option maxRecDepth 20000 in
theorem gX10_noStation_X10_no : GoodIn wsX10_noStation (wsV RX10 190 RX10 yX10_no wsX10_no) := goodIn_app (goodIn_of _ (by decide +kernel)) ggX10_noStation_X10_no
theorem dX10_noStation_0 : decode cX10_noStation 0 = .ok (.aload_n 0, 1) := by decide +kernel
theorem dX10_noStation_1 : decode cX10_noStation 1 = .ok (.iconst 0, 1) := by decide +kernel
theorem dX10_noStation_2 : decode cX10_noStation 2 = .ok (.putfield 64, 3) := by decide +kernel
theorem dX10_noStation_5 : decode cX10_noStation 5 = .ok (.aload_n 0, 1) := by decide +kernel
theorem dX10_noStation_6 : decode cX10_noStation 6 = .ok (.iload_n 1, 1) := by decide +kernel
theorem dX10_noStation_7 : decode cX10_noStation 7 = .ok (.aload_n 0, 1) := by decide +kernel
theorem dX10_noStation_8 : decode cX10_noStation 8 = .ok (.getfield 13, 3) := by decide +kernel
theorem dX10_noStation_11 : decode cX10_noStation 11 = .ok (.iconst 0, 1) := by decide +kernel
theorem dX10_noStation_12 : decode cX10_noStation 12 = .ok (.iaload, 1) := by decide +kernel
theorem dX10_noStation_13 : decode cX10_noStation 13 = .ok (.invokevirtual 190, 3) := by decide +kernel
theorem dX10_noStation_16 : decode cX10_noStation 16 = .ok (.ireturn, 1) := by decide +kernel
set_option maxRecDepth 20000 in
theorem ggX10_noPick_X10_no : GoodIn wsX10_noPick wsX10_no := goodIn_r _ [6, 7, 8, 5, 9, 10, 11, 12, 13, 14, 15, 16, 17, 18, 19, 20, 21, 22, 23, 24, 25, 26, 27, 28, 29, 30, 31, 32, 33, 34, 35, 36, 37, 38, 39, 40] (by decide +kernel) (by decide +kernel)
set_option maxRecDepth 20000 in
theorem gX10_noPick_X10_no : GoodIn wsX10_noPick (wsV RX10 190 RX10 yX10_no wsX10_no) := goodIn_app (goodIn_of _ (by decide +kernel)) ggX10_noPick_X10_no
theorem dX10_noPick_0 : decode cX10_noPick 0 = .ok (.aload_n 0, 1) := by decide +kernel
theorem dX10_noPick_1 : decode cX10_noPick 1 = .ok (.iload_n 1, 1) := by decide +kernel
theorem dX10_noPick_2 : decode cX10_noPick 2 = .ok (.aload_n 0, 1) := by decide +kernel
theorem dX10_noPick_3 : decode cX10_noPick 3 = .ok (.getfield 7, 3) := by decide +kernel
theorem dX10_noPick_6 : decode cX10_noPick 6 = .ok (.iconst 1, 1) := by decide +kernel
theorem dX10_noPick_7 : decode cX10_noPick 7 = .ok (.iaload, 1) := by decide +kernel
theorem dX10_noPick_8 : decode cX10_noPick 8 = .ok (.invokevirtual 190, 3) := by decide +kernel
theorem dX10_noPick_11 : decode cX10_noPick 11 = .ok (.ireturn, 1) := by decide +kernel
set_option maxRecDepth 20000 in
theorem ggX10_noEvent_X10_no : GoodIn wsX10_noEvent wsX10_no := goodIn_r _ [6, 7, 8, 5, 9, 10, 11, 12, 13, 14, 15, 16, 17, 18, 19, 20, 21, 22, 23, 24, 25, 26, 27, 28, 29, 30, 31, 32, 33, 34, 35, 36, 37, 38, 39, 40] (by decide +kernel) (by decide +kernel)
set_option maxRecDepth 20000 in
theorem gX10_noEvent_X10_no : GoodIn wsX10_noEvent (wsV RX10 190 RX10 yX10_no wsX10_no) := goodIn_app (goodIn_of _ (by decide +kernel)) ggX10_noEvent_X10_no
theorem dX10_noEvent_0 : decode cX10_noEvent 0 = .ok (.aload_n 0, 1) := by decide +kernel
theorem dX10_noEvent_1 : decode cX10_noEvent 1 = .ok (.iload_n 1, 1) := by decide +kernel
theorem dX10_noEvent_2 : decode cX10_noEvent 2 = .ok (.aload_n 0, 1) := by decide +kernel
theorem dX10_noEvent_3 : decode cX10_noEvent 3 = .ok (.getfield 7, 3) := by decide +kernel
theorem dX10_noEvent_6 : decode cX10_noEvent 6 = .ok (.iconst 2, 1) := by decide +kernel
theorem dX10_noEvent_7 : decode cX10_noEvent 7 = .ok (.iaload, 1) := by decide +kernel
theorem dX10_noEvent_8 : decode cX10_noEvent 8 = .ok (.invokevirtual 190, 3) := by decide +kernel
theorem dX10_noEvent_11 : decode cX10_noEvent 11 = .ok (.ireturn, 1) := by decide +kernel
theorem dX10_nodes_0 : decode cX10_nodes 0 = .ok (.aload_n 0, 1) := by decide +kernel
theorem dX10_nodes_1 : decode cX10_nodes 1 = .ok (.getfield 13, 3) := by decide +kernel
theorem dX10_nodes_4 : decode cX10_nodes 4 = .ok (.iconst 4, 1) := by decide +kernel
theorem dX10_nodes_5 : decode cX10_nodes 5 = .ok (.iaload, 1) := by decide +kernel
theorem dX10_nodes_6 : decode cX10_nodes 6 = .ok (.aload_n 0, 1) := by decide +kernel
theorem dX10_nodes_7 : decode cX10_nodes 7 = .ok (.getfield 13, 3) := by decide +kernel
theorem dX10_nodes_10 : decode cX10_nodes 10 = .ok (.iconst 5, 1) := by decide +kernel
theorem dX10_nodes_11 : decode cX10_nodes 11 = .ok (.iaload, 1) := by decide +kernel
theorem dX10_nodes_12 : decode cX10_nodes 12 = .ok (.imul, 1) := by decide +kernel
theorem dX10_nodes_13 : decode cX10_nodes 13 = .ok (.ireturn, 1) := by decide +kernel
theorem dX10_at_0 : decode cX10_at 0 = .ok (.iconst 3, 1) := by decide +kernel
theorem dX10_at_1 : decode cX10_at 1 = .ok (.iconst 4, 1) := by decide +kernel
theorem dX10_at_2 : decode cX10_at 2 = .ok (.iload_n 0, 1) := by decide +kernel
theorem dX10_at_3 : decode cX10_at 3 = .ok (.imul, 1) := by decide +kernel
theorem dX10_at_4 : decode cX10_at 4 = .ok (.iadd, 1) := by decide +kernel
theorem dX10_at_5 : decode cX10_at 5 = .ok (.iload_n 1, 1) := by decide +kernel
theorem dX10_at_6 : decode cX10_at 6 = .ok (.iadd, 1) := by decide +kernel
theorem dX10_at_7 : decode cX10_at 7 = .ok (.ireturn, 1) := by decide +kernel
theorem dX10_of_0 : decode cX10_of 0 = .ok (.sipush 827, 3) := by decide +kernel
theorem dX10_of_3 : decode cX10_of 3 = .ok (.iconst 5, 1) := by decide +kernel
theorem dX10_of_4 : decode cX10_of 4 = .ok (.iload_n 0, 1) := by decide +kernel
theorem dX10_of_5 : decode cX10_of 5 = .ok (.imul, 1) := by decide +kernel
theorem dX10_of_6 : decode cX10_of 6 = .ok (.iadd, 1) := by decide +kernel
theorem dX10_of_7 : decode cX10_of 7 = .ok (.iload_n 1, 1) := by decide +kernel
theorem dX10_of_8 : decode cX10_of 8 = .ok (.iadd, 1) := by decide +kernel
theorem dX10_of_9 : decode cX10_of 9 = .ok (.ireturn, 1) := by decide +kernel
theorem dX10_isRetracted_0 : decode cX10_isRetracted 0 = .ok (.aload_n 0, 1) := by decide +kernel
theorem dX10_isRetracted_1 : decode cX10_isRetracted 1 = .ok (.getfield 7, 3) := by decide +kernel
theorem dX10_isRetracted_4 : decode cX10_isRetracted 4 = .ok (.sipush 1127, 3) := by decide +kernel
theorem dX10_isRetracted_7 : decode cX10_isRetracted 7 = .ok (.iconst 2, 1) := by decide +kernel
theorem dX10_isRetracted_8 : decode cX10_isRetracted 8 = .ok (.iload_n 1, 1) := by decide +kernel
theorem dX10_isRetracted_9 : decode cX10_isRetracted 9 = .ok (.imul, 1) := by decide +kernel
theorem dX10_isRetracted_10 : decode cX10_isRetracted 10 = .ok (.iadd, 1) := by decide +kernel
theorem dX10_isRetracted_11 : decode cX10_isRetracted 11 = .ok (.iaload, 1) := by decide +kernel
theorem dX10_isRetracted_12 : decode cX10_isRetracted 12 = .ok (.iconst 1, 1) := by decide +kernel
theorem dX10_isRetracted_13 : decode cX10_isRetracted 13 = .ok (.if_icmp .ne 7, 3) := by decide +kernel
theorem dX10_isRetracted_16 : decode cX10_isRetracted 16 = .ok (.iconst 1, 1) := by decide +kernel
theorem dX10_isRetracted_17 : decode cX10_isRetracted 17 = .ok (.goto 4, 3) := by decide +kernel
theorem dX10_isRetracted_20 : decode cX10_isRetracted 20 = .ok (.iconst 0, 1) := by decide +kernel
theorem dX10_isRetracted_21 : decode cX10_isRetracted 21 = .ok (.ireturn, 1) := by decide +kernel
set_option maxRecDepth 20000 in
theorem ggX10_live_X10_isRetracted : GoodIn wsX10_live wsX10_isRetracted := goodIn_ca (goodIn_r _ [6, 1, 7, 8, 9, 10, 11, 12, 13, 14, 15, 16, 17, 18, 19, 20, 21, 22, 23, 24, 25, 26, 27, 28, 29, 30, 31, 32] (by decide +kernel) (by decide +kernel)) (goodIn_sub (fun _ h => List.mem_cons_of_mem _ (List.mem_append_right _ h)) (by decide +kernel))
set_option maxRecDepth 20000 in
theorem gX10_live_X10_isRetracted : GoodIn wsX10_live (wsV RX10 193 RX10 yX10_isRetracted wsX10_isRetracted) := goodIn_app (goodIn_of _ (by decide +kernel)) ggX10_live_X10_isRetracted
theorem dX10_live_0 : decode cX10_live 0 = .ok (.iconst 0, 1) := by decide +kernel
theorem dX10_live_1 : decode cX10_live 1 = .ok (.istore_n 1, 1) := by decide +kernel
theorem dX10_live_2 : decode cX10_live 2 = .ok (.iconst 0, 1) := by decide +kernel
theorem dX10_live_3 : decode cX10_live 3 = .ok (.istore_n 2, 1) := by decide +kernel
theorem dX10_live_4 : decode cX10_live 4 = .ok (.iload_n 2, 1) := by decide +kernel
theorem dX10_live_5 : decode cX10_live 5 = .ok (.aload_n 0, 1) := by decide +kernel
theorem dX10_live_6 : decode cX10_live 6 = .ok (.getfield 7, 3) := by decide +kernel
theorem dX10_live_9 : decode cX10_live 9 = .ok (.iconst 2, 1) := by decide +kernel
theorem dX10_live_10 : decode cX10_live 10 = .ok (.iaload, 1) := by decide +kernel
theorem dX10_live_11 : decode cX10_live 11 = .ok (.if_icmp .ge 25, 3) := by decide +kernel
theorem dX10_live_14 : decode cX10_live 14 = .ok (.iload_n 1, 1) := by decide +kernel
theorem dX10_live_15 : decode cX10_live 15 = .ok (.aload_n 0, 1) := by decide +kernel
theorem dX10_live_16 : decode cX10_live 16 = .ok (.iload_n 2, 1) := by decide +kernel
theorem dX10_live_17 : decode cX10_live 17 = .ok (.invokevirtual 193, 3) := by decide +kernel
theorem dX10_live_20 : decode cX10_live 20 = .ok (.ifCond .eq 7, 3) := by decide +kernel
theorem dX10_live_23 : decode cX10_live 23 = .ok (.iconst 0, 1) := by decide +kernel
theorem dX10_live_24 : decode cX10_live 24 = .ok (.goto 4, 3) := by decide +kernel
theorem dX10_live_27 : decode cX10_live 27 = .ok (.iconst 1, 1) := by decide +kernel
theorem dX10_live_28 : decode cX10_live 28 = .ok (.iadd, 1) := by decide +kernel
theorem dX10_live_29 : decode cX10_live 29 = .ok (.istore_n 1, 1) := by decide +kernel
theorem dX10_live_30 : decode cX10_live 30 = .ok (.iinc 2 1, 3) := by decide +kernel
theorem dX10_live_33 : decode cX10_live 33 = .ok (.goto (-29), 3) := by decide +kernel
theorem dX10_live_36 : decode cX10_live 36 = .ok (.iload_n 1, 1) := by decide +kernel
theorem dX10_live_37 : decode cX10_live 37 = .ok (.ireturn, 1) := by decide +kernel
set_option maxRecDepth 20000 in
theorem ggX10_size_X10_within : GoodIn wsX10_size wsX10_within := goodIn_r _ [7] (by decide +kernel) (by decide +kernel)
set_option maxRecDepth 20000 in
theorem gX10_size_X10_within : GoodIn wsX10_size (va_wsS RX10 101 yX10_within wsX10_within) := goodIn_app (goodIn_of _ (by decide +kernel)) ggX10_size_X10_within
set_option maxRecDepth 20000 in
theorem ggX10_size_X10_throwsIf : GoodIn wsX10_size wsX10_throwsIf := goodIn_r _ [11, 1, 24, 25, 26, 27, 28, 29, 30, 31, 32, 33, 34, 35, 36, 37, 38, 39, 40, 41, 42, 43, 44, 45, 46, 47, 48, 49] (by decide +kernel) (by decide +kernel)
set_option maxRecDepth 20000 in
theorem gX10_size_X10_throwsIf : GoodIn wsX10_size (wsV RX10 177 RX10 yX10_throwsIf wsX10_throwsIf) := goodIn_app (goodIn_of _ (by decide +kernel)) ggX10_size_X10_throwsIf
set_option maxRecDepth 20000 in
theorem ggX10_size_X10_nodes : GoodIn wsX10_size wsX10_nodes := goodIn_ca (goodIn_r _ [15, 2, 24, 25, 26, 27, 28, 29, 30, 31, 32, 33, 34, 35, 36, 37, 38, 39, 40, 41, 42, 43, 44, 45, 46, 47, 48, 49] (by decide +kernel) (by decide +kernel)) (goodIn_sub (fun _ h => List.mem_cons_of_mem _ (List.mem_append_right _ h)) (by decide +kernel))
set_option maxRecDepth 20000 in
theorem gX10_size_X10_nodes : GoodIn wsX10_size (wsV RX10 196 RX10 yX10_nodes wsX10_nodes) := goodIn_app (goodIn_of _ (by decide +kernel)) ggX10_size_X10_nodes
set_option maxRecDepth 20000 in
theorem ggX10_size_X10_live : GoodIn wsX10_size wsX10_live := goodIn_ca (goodIn_r _ [19, 3, 20, 21, 22, 6, 23, 24, 25, 26, 27, 28, 29, 30, 31, 32, 33, 34, 35, 36, 37, 38, 39, 40, 41, 42, 43, 44, 45, 46, 47, 48, 49] (by decide +kernel) (by decide +kernel)) (goodIn_sub (fun _ h => List.mem_cons_of_mem _ (List.mem_append_right _ h)) (by decide +kernel))
set_option maxRecDepth 20000 in
theorem gX10_size_X10_live : GoodIn wsX10_size (wsV RX10 199 RX10 yX10_live wsX10_live) := goodIn_app (goodIn_of _ (by decide +kernel)) ggX10_size_X10_live
theorem dX10_size_0 : decode cX10_size 0 = .ok (.aload_n 0, 1) := by decide +kernel
theorem dX10_size_1 : decode cX10_size 1 = .ok (.iconst 0, 1) := by decide +kernel
theorem dX10_size_2 : decode cX10_size 2 = .ok (.putfield 64, 3) := by decide +kernel
theorem dX10_size_5 : decode cX10_size 5 = .ok (.aload_n 0, 1) := by decide +kernel
theorem dX10_size_6 : decode cX10_size 6 = .ok (.iload_n 1, 1) := by decide +kernel
theorem dX10_size_7 : decode cX10_size 7 = .ok (.iconst 0, 1) := by decide +kernel
theorem dX10_size_8 : decode cX10_size 8 = .ok (.iconst 5, 1) := by decide +kernel
theorem dX10_size_9 : decode cX10_size 9 = .ok (.invokestatic 101, 3) := by decide +kernel
theorem dX10_size_12 : decode cX10_size 12 = .ok (.ifCond .ne 7, 3) := by decide +kernel
theorem dX10_size_15 : decode cX10_size 15 = .ok (.iconst 1, 1) := by decide +kernel
theorem dX10_size_16 : decode cX10_size 16 = .ok (.goto 4, 3) := by decide +kernel
theorem dX10_size_19 : decode cX10_size 19 = .ok (.iconst 0, 1) := by decide +kernel
theorem dX10_size_20 : decode cX10_size 20 = .ok (.iconst 1, 1) := by decide +kernel
theorem dX10_size_21 : decode cX10_size 21 = .ok (.invokevirtual 177, 3) := by decide +kernel
theorem dX10_size_24 : decode cX10_size 24 = .ok (.ifCond .eq 5, 3) := by decide +kernel
theorem dX10_size_27 : decode cX10_size 27 = .ok (.iconst 0, 1) := by decide +kernel
theorem dX10_size_28 : decode cX10_size 28 = .ok (.ireturn, 1) := by decide +kernel
theorem dX10_size_29 : decode cX10_size 29 = .ok (.iload_n 1, 1) := by decide +kernel
theorem dX10_size_30 : decode cX10_size 30 = .ok (.tableswitch 67 0 4 #[34, 41, 46, 53, 60], 34) := by decide +kernel
theorem dX10_size_64 : decode cX10_size 64 = .ok (.aload_n 0, 1) := by decide +kernel
theorem dX10_size_65 : decode cX10_size 65 = .ok (.getfield 13, 3) := by decide +kernel
theorem dX10_size_68 : decode cX10_size 68 = .ok (.iconst 0, 1) := by decide +kernel
theorem dX10_size_69 : decode cX10_size 69 = .ok (.iaload, 1) := by decide +kernel
theorem dX10_size_70 : decode cX10_size 70 = .ok (.ireturn, 1) := by decide +kernel
theorem dX10_size_71 : decode cX10_size 71 = .ok (.aload_n 0, 1) := by decide +kernel
theorem dX10_size_72 : decode cX10_size 72 = .ok (.invokevirtual 196, 3) := by decide +kernel
theorem dX10_size_75 : decode cX10_size 75 = .ok (.ireturn, 1) := by decide +kernel
theorem dX10_size_76 : decode cX10_size 76 = .ok (.aload_n 0, 1) := by decide +kernel
theorem dX10_size_77 : decode cX10_size 77 = .ok (.getfield 13, 3) := by decide +kernel
theorem dX10_size_80 : decode cX10_size 80 = .ok (.iconst 1, 1) := by decide +kernel
theorem dX10_size_81 : decode cX10_size 81 = .ok (.iaload, 1) := by decide +kernel
theorem dX10_size_82 : decode cX10_size 82 = .ok (.ireturn, 1) := by decide +kernel
theorem dX10_size_83 : decode cX10_size 83 = .ok (.aload_n 0, 1) := by decide +kernel
theorem dX10_size_84 : decode cX10_size 84 = .ok (.getfield 7, 3) := by decide +kernel
theorem dX10_size_87 : decode cX10_size 87 = .ok (.iconst 1, 1) := by decide +kernel
theorem dX10_size_88 : decode cX10_size 88 = .ok (.iaload, 1) := by decide +kernel
theorem dX10_size_89 : decode cX10_size 89 = .ok (.ireturn, 1) := by decide +kernel
theorem dX10_size_90 : decode cX10_size 90 = .ok (.aload_n 0, 1) := by decide +kernel
theorem dX10_size_91 : decode cX10_size 91 = .ok (.getfield 7, 3) := by decide +kernel
theorem dX10_size_94 : decode cX10_size 94 = .ok (.iconst 2, 1) := by decide +kernel
theorem dX10_size_95 : decode cX10_size 95 = .ok (.iaload, 1) := by decide +kernel
theorem dX10_size_96 : decode cX10_size 96 = .ok (.ireturn, 1) := by decide +kernel
theorem dX10_size_97 : decode cX10_size 97 = .ok (.aload_n 0, 1) := by decide +kernel
theorem dX10_size_98 : decode cX10_size 98 = .ok (.invokevirtual 199, 3) := by decide +kernel
theorem dX10_size_101 : decode cX10_size 101 = .ok (.ireturn, 1) := by decide +kernel
theorem dX10_tick_0 : decode cX10_tick 0 = .ok (.aload_n 0, 1) := by decide +kernel
theorem dX10_tick_1 : decode cX10_tick 1 = .ok (.iconst 0, 1) := by decide +kernel
theorem dX10_tick_2 : decode cX10_tick 2 = .ok (.putfield 64, 3) := by decide +kernel
theorem dX10_tick_5 : decode cX10_tick 5 = .ok (.aload_n 0, 1) := by decide +kernel
theorem dX10_tick_6 : decode cX10_tick 6 = .ok (.getfield 7, 3) := by decide +kernel
theorem dX10_tick_9 : decode cX10_tick 9 = .ok (.iconst 0, 1) := by decide +kernel
theorem dX10_tick_10 : decode cX10_tick 10 = .ok (.iaload, 1) := by decide +kernel
theorem dX10_tick_11 : decode cX10_tick 11 = .ok (.ireturn, 1) := by decide +kernel
theorem dX10_apart_0 : decode cX10_apart 0 = .ok (.iload_n 0, 1) := by decide +kernel
theorem dX10_apart_1 : decode cX10_apart 1 = .ok (.iload_n 0, 1) := by decide +kernel
theorem dX10_apart_2 : decode cX10_apart 2 = .ok (.imul, 1) := by decide +kernel
theorem dX10_apart_3 : decode cX10_apart 3 = .ok (.iload_n 1, 1) := by decide +kernel
theorem dX10_apart_4 : decode cX10_apart 4 = .ok (.iload_n 1, 1) := by decide +kernel
theorem dX10_apart_5 : decode cX10_apart 5 = .ok (.imul, 1) := by decide +kernel
theorem dX10_apart_6 : decode cX10_apart 6 = .ok (.iadd, 1) := by decide +kernel
theorem dX10_apart_7 : decode cX10_apart 7 = .ok (.istore_n 2, 1) := by decide +kernel
theorem dX10_apart_8 : decode cX10_apart 8 = .ok (.iconst 0, 1) := by decide +kernel
theorem dX10_apart_9 : decode cX10_apart 9 = .ok (.istore_n 3, 1) := by decide +kernel
theorem dX10_apart_10 : decode cX10_apart 10 = .ok (.sipush 4096, 3) := by decide +kernel
theorem dX10_apart_13 : decode cX10_apart 13 = .ok (.istore 4, 2) := by decide +kernel
theorem dX10_apart_15 : decode cX10_apart 15 = .ok (.iload 4, 2) := by decide +kernel
theorem dX10_apart_17 : decode cX10_apart 17 = .ok (.ifCond .le 34, 3) := by decide +kernel
theorem dX10_apart_20 : decode cX10_apart 20 = .ok (.iload_n 3, 1) := by decide +kernel
theorem dX10_apart_21 : decode cX10_apart 21 = .ok (.iload 4, 2) := by decide +kernel
theorem dX10_apart_23 : decode cX10_apart 23 = .ok (.iadd, 1) := by decide +kernel
theorem dX10_apart_24 : decode cX10_apart 24 = .ok (.istore 5, 2) := by decide +kernel
theorem dX10_apart_26 : decode cX10_apart 26 = .ok (.iload 5, 2) := by decide +kernel
theorem dX10_apart_28 : decode cX10_apart 28 = .ok (.iload 5, 2) := by decide +kernel
theorem dX10_apart_30 : decode cX10_apart 30 = .ok (.imul, 1) := by decide +kernel
theorem dX10_apart_31 : decode cX10_apart 31 = .ok (.iload_n 2, 1) := by decide +kernel
theorem dX10_apart_32 : decode cX10_apart 32 = .ok (.if_icmp .gt 8, 3) := by decide +kernel
theorem dX10_apart_35 : decode cX10_apart 35 = .ok (.iload 5, 2) := by decide +kernel
theorem dX10_apart_37 : decode cX10_apart 37 = .ok (.goto 4, 3) := by decide +kernel
theorem dX10_apart_40 : decode cX10_apart 40 = .ok (.iload_n 3, 1) := by decide +kernel
theorem dX10_apart_41 : decode cX10_apart 41 = .ok (.istore_n 3, 1) := by decide +kernel
theorem dX10_apart_42 : decode cX10_apart 42 = .ok (.iload 4, 2) := by decide +kernel
theorem dX10_apart_44 : decode cX10_apart 44 = .ok (.iconst 1, 1) := by decide +kernel
theorem dX10_apart_45 : decode cX10_apart 45 = .ok (.ishr, 1) := by decide +kernel
theorem dX10_apart_46 : decode cX10_apart 46 = .ok (.istore 4, 2) := by decide +kernel
theorem dX10_apart_48 : decode cX10_apart 48 = .ok (.goto (-33), 3) := by decide +kernel
theorem dX10_apart_51 : decode cX10_apart 51 = .ok (.iload_n 3, 1) := by decide +kernel
theorem dX10_apart_52 : decode cX10_apart 52 = .ok (.ireturn, 1) := by decide +kernel
theorem dX10_timeFor_0 : decode cX10_timeFor 0 = .ok (.iload_n 1, 1) := by decide +kernel
theorem dX10_timeFor_1 : decode cX10_timeFor 1 = .ok (.bipush 10, 2) := by decide +kernel
theorem dX10_timeFor_3 : decode cX10_timeFor 3 = .ok (.imul, 1) := by decide +kernel
theorem dX10_timeFor_4 : decode cX10_timeFor 4 = .ok (.aload_n 0, 1) := by decide +kernel
theorem dX10_timeFor_5 : decode cX10_timeFor 5 = .ok (.getfield 13, 3) := by decide +kernel
theorem dX10_timeFor_8 : decode cX10_timeFor 8 = .ok (.bipush 7, 2) := by decide +kernel
theorem dX10_timeFor_10 : decode cX10_timeFor 10 = .ok (.iaload, 1) := by decide +kernel
theorem dX10_timeFor_11 : decode cX10_timeFor 11 = .ok (.idiv, 1) := by decide +kernel
theorem dX10_timeFor_12 : decode cX10_timeFor 12 = .ok (.ireturn, 1) := by decide +kernel
set_option maxRecDepth 20000 in
theorem ggX10_timeBetween_X10_apart : GoodIn wsX10_timeBetween wsX10_apart := goodIn_r _ [6] (by decide +kernel) (by decide +kernel)
set_option maxRecDepth 20000 in
theorem gX10_timeBetween_X10_apart : GoodIn wsX10_timeBetween (va_wsS RX10 202 yX10_apart wsX10_apart) := goodIn_app (goodIn_of _ (by decide +kernel)) ggX10_timeBetween_X10_apart
set_option maxRecDepth 20000 in
theorem ggX10_timeBetween_X10_timeFor : GoodIn wsX10_timeBetween wsX10_timeFor := goodIn_ca (goodIn_r _ [10, 11, 12, 13, 14, 15, 16, 17, 18, 19, 20, 21, 22, 23, 24, 25, 26, 27, 28, 29, 30, 31, 32, 33, 34, 35, 36, 37] (by decide +kernel) (by decide +kernel)) (goodIn_sub (fun _ h => List.mem_cons_of_mem _ (List.mem_append_right _ h)) (by decide +kernel))
set_option maxRecDepth 20000 in
theorem gX10_timeBetween_X10_timeFor : GoodIn wsX10_timeBetween (wsV RX10 206 RX10 yX10_timeFor wsX10_timeFor) := goodIn_app (goodIn_of _ (by decide +kernel)) ggX10_timeBetween_X10_timeFor
theorem dX10_timeBetween_0 : decode cX10_timeBetween 0 = .ok (.aload_n 0, 1) := by decide +kernel
theorem dX10_timeBetween_1 : decode cX10_timeBetween 1 = .ok (.aload_n 0, 1) := by decide +kernel
theorem dX10_timeBetween_2 : decode cX10_timeBetween 2 = .ok (.getfield 16, 3) := by decide +kernel
theorem dX10_timeBetween_5 : decode cX10_timeBetween 5 = .ok (.iload_n 1, 1) := by decide +kernel
theorem dX10_timeBetween_6 : decode cX10_timeBetween 6 = .ok (.iaload, 1) := by decide +kernel
theorem dX10_timeBetween_7 : decode cX10_timeBetween 7 = .ok (.aload_n 0, 1) := by decide +kernel
theorem dX10_timeBetween_8 : decode cX10_timeBetween 8 = .ok (.getfield 16, 3) := by decide +kernel
theorem dX10_timeBetween_11 : decode cX10_timeBetween 11 = .ok (.iload_n 2, 1) := by decide +kernel
theorem dX10_timeBetween_12 : decode cX10_timeBetween 12 = .ok (.iaload, 1) := by decide +kernel
theorem dX10_timeBetween_13 : decode cX10_timeBetween 13 = .ok (.isub, 1) := by decide +kernel
theorem dX10_timeBetween_14 : decode cX10_timeBetween 14 = .ok (.aload_n 0, 1) := by decide +kernel
theorem dX10_timeBetween_15 : decode cX10_timeBetween 15 = .ok (.getfield 19, 3) := by decide +kernel
theorem dX10_timeBetween_18 : decode cX10_timeBetween 18 = .ok (.iload_n 1, 1) := by decide +kernel
theorem dX10_timeBetween_19 : decode cX10_timeBetween 19 = .ok (.iaload, 1) := by decide +kernel
theorem dX10_timeBetween_20 : decode cX10_timeBetween 20 = .ok (.aload_n 0, 1) := by decide +kernel
theorem dX10_timeBetween_21 : decode cX10_timeBetween 21 = .ok (.getfield 19, 3) := by decide +kernel
theorem dX10_timeBetween_24 : decode cX10_timeBetween 24 = .ok (.iload_n 2, 1) := by decide +kernel
theorem dX10_timeBetween_25 : decode cX10_timeBetween 25 = .ok (.iaload, 1) := by decide +kernel
theorem dX10_timeBetween_26 : decode cX10_timeBetween 26 = .ok (.isub, 1) := by decide +kernel
theorem dX10_timeBetween_27 : decode cX10_timeBetween 27 = .ok (.invokestatic 202, 3) := by decide +kernel
theorem dX10_timeBetween_30 : decode cX10_timeBetween 30 = .ok (.invokevirtual 206, 3) := by decide +kernel
theorem dX10_timeBetween_33 : decode cX10_timeBetween 33 = .ok (.ireturn, 1) := by decide +kernel
theorem dX10_nodeX_0 : decode cX10_nodeX 0 = .ok (.aload_n 0, 1) := by decide +kernel
theorem dX10_nodeX_1 : decode cX10_nodeX 1 = .ok (.getfield 13, 3) := by decide +kernel
theorem dX10_nodeX_4 : decode cX10_nodeX 4 = .ok (.iconst 2, 1) := by decide +kernel
theorem dX10_nodeX_5 : decode cX10_nodeX 5 = .ok (.iaload, 1) := by decide +kernel
theorem dX10_nodeX_6 : decode cX10_nodeX 6 = .ok (.iload_n 1, 1) := by decide +kernel
theorem dX10_nodeX_7 : decode cX10_nodeX 7 = .ok (.aload_n 0, 1) := by decide +kernel
theorem dX10_nodeX_8 : decode cX10_nodeX 8 = .ok (.getfield 13, 3) := by decide +kernel
theorem dX10_nodeX_11 : decode cX10_nodeX 11 = .ok (.iconst 4, 1) := by decide +kernel
theorem dX10_nodeX_12 : decode cX10_nodeX 12 = .ok (.iaload, 1) := by decide +kernel
theorem dX10_nodeX_13 : decode cX10_nodeX 13 = .ok (.irem, 1) := by decide +kernel
theorem dX10_nodeX_14 : decode cX10_nodeX 14 = .ok (.aload_n 0, 1) := by decide +kernel
theorem dX10_nodeX_15 : decode cX10_nodeX 15 = .ok (.getfield 13, 3) := by decide +kernel
theorem dX10_nodeX_18 : decode cX10_nodeX 18 = .ok (.bipush 6, 2) := by decide +kernel
theorem dX10_nodeX_20 : decode cX10_nodeX 20 = .ok (.iaload, 1) := by decide +kernel
theorem dX10_nodeX_21 : decode cX10_nodeX 21 = .ok (.imul, 1) := by decide +kernel
theorem dX10_nodeX_22 : decode cX10_nodeX 22 = .ok (.iadd, 1) := by decide +kernel
theorem dX10_nodeX_23 : decode cX10_nodeX 23 = .ok (.ireturn, 1) := by decide +kernel
theorem dX10_nodeY_0 : decode cX10_nodeY 0 = .ok (.aload_n 0, 1) := by decide +kernel
theorem dX10_nodeY_1 : decode cX10_nodeY 1 = .ok (.getfield 13, 3) := by decide +kernel
theorem dX10_nodeY_4 : decode cX10_nodeY 4 = .ok (.iconst 3, 1) := by decide +kernel
theorem dX10_nodeY_5 : decode cX10_nodeY 5 = .ok (.iaload, 1) := by decide +kernel
theorem dX10_nodeY_6 : decode cX10_nodeY 6 = .ok (.iload_n 1, 1) := by decide +kernel
theorem dX10_nodeY_7 : decode cX10_nodeY 7 = .ok (.aload_n 0, 1) := by decide +kernel
theorem dX10_nodeY_8 : decode cX10_nodeY 8 = .ok (.getfield 13, 3) := by decide +kernel
theorem dX10_nodeY_11 : decode cX10_nodeY 11 = .ok (.iconst 4, 1) := by decide +kernel
theorem dX10_nodeY_12 : decode cX10_nodeY 12 = .ok (.iaload, 1) := by decide +kernel
theorem dX10_nodeY_13 : decode cX10_nodeY 13 = .ok (.idiv, 1) := by decide +kernel
theorem dX10_nodeY_14 : decode cX10_nodeY 14 = .ok (.aload_n 0, 1) := by decide +kernel
theorem dX10_nodeY_15 : decode cX10_nodeY 15 = .ok (.getfield 13, 3) := by decide +kernel
theorem dX10_nodeY_18 : decode cX10_nodeY 18 = .ok (.bipush 6, 2) := by decide +kernel
theorem dX10_nodeY_20 : decode cX10_nodeY 20 = .ok (.iaload, 1) := by decide +kernel
theorem dX10_nodeY_21 : decode cX10_nodeY 21 = .ok (.imul, 1) := by decide +kernel
theorem dX10_nodeY_22 : decode cX10_nodeY 22 = .ok (.iadd, 1) := by decide +kernel
theorem dX10_nodeY_23 : decode cX10_nodeY 23 = .ok (.ireturn, 1) := by decide +kernel
set_option maxRecDepth 20000 in
theorem ggX10_nodeApart_X10_nodeX : GoodIn wsX10_nodeApart wsX10_nodeX := goodIn_ca (goodIn_r _ [7, 8, 16, 17, 18, 19, 20, 21, 22, 23, 24, 25, 26, 27, 28, 29, 30, 31, 32, 33, 34, 35, 36, 37, 38, 39, 40, 41] (by decide +kernel) (by decide +kernel)) (goodIn_sub (fun _ h => List.mem_cons_of_mem _ (List.mem_append_right _ h)) (by decide +kernel))
set_option maxRecDepth 20000 in
theorem gX10_nodeApart_X10_nodeX : GoodIn wsX10_nodeApart (wsV RX10 209 RX10 yX10_nodeX wsX10_nodeX) := goodIn_app (goodIn_of _ (by decide +kernel)) ggX10_nodeApart_X10_nodeX
set_option maxRecDepth 20000 in
theorem ggX10_nodeApart_X10_nodeY : GoodIn wsX10_nodeApart wsX10_nodeY := goodIn_ca (goodIn_r _ [12, 8, 16, 17, 18, 19, 20, 21, 22, 23, 24, 25, 26, 27, 28, 29, 30, 31, 32, 33, 34, 35, 36, 37, 38, 39, 40, 41] (by decide +kernel) (by decide +kernel)) (goodIn_sub (fun _ h => List.mem_cons_of_mem _ (List.mem_append_right _ h)) (by decide +kernel))
set_option maxRecDepth 20000 in
theorem gX10_nodeApart_X10_nodeY : GoodIn wsX10_nodeApart (wsV RX10 212 RX10 yX10_nodeY wsX10_nodeY) := goodIn_app (goodIn_of _ (by decide +kernel)) ggX10_nodeApart_X10_nodeY
set_option maxRecDepth 20000 in
theorem ggX10_nodeApart_X10_apart : GoodIn wsX10_nodeApart wsX10_apart := goodIn_r _ [15] (by decide +kernel) (by decide +kernel)
set_option maxRecDepth 20000 in
theorem gX10_nodeApart_X10_apart : GoodIn wsX10_nodeApart (va_wsS RX10 202 yX10_apart wsX10_apart) := goodIn_app (goodIn_of _ (by decide +kernel)) ggX10_nodeApart_X10_apart
theorem dX10_nodeApart_0 : decode cX10_nodeApart 0 = .ok (.aload_n 0, 1) := by decide +kernel
theorem dX10_nodeApart_1 : decode cX10_nodeApart 1 = .ok (.iload_n 1, 1) := by decide +kernel
theorem dX10_nodeApart_2 : decode cX10_nodeApart 2 = .ok (.invokevirtual 209, 3) := by decide +kernel
theorem dX10_nodeApart_5 : decode cX10_nodeApart 5 = .ok (.aload_n 0, 1) := by decide +kernel
theorem dX10_nodeApart_6 : decode cX10_nodeApart 6 = .ok (.getfield 16, 3) := by decide +kernel
theorem dX10_nodeApart_9 : decode cX10_nodeApart 9 = .ok (.iload_n 2, 1) := by decide +kernel
theorem dX10_nodeApart_10 : decode cX10_nodeApart 10 = .ok (.iaload, 1) := by decide +kernel
theorem dX10_nodeApart_11 : decode cX10_nodeApart 11 = .ok (.isub, 1) := by decide +kernel
theorem dX10_nodeApart_12 : decode cX10_nodeApart 12 = .ok (.aload_n 0, 1) := by decide +kernel
theorem dX10_nodeApart_13 : decode cX10_nodeApart 13 = .ok (.iload_n 1, 1) := by decide +kernel
theorem dX10_nodeApart_14 : decode cX10_nodeApart 14 = .ok (.invokevirtual 212, 3) := by decide +kernel
theorem dX10_nodeApart_17 : decode cX10_nodeApart 17 = .ok (.aload_n 0, 1) := by decide +kernel
theorem dX10_nodeApart_18 : decode cX10_nodeApart 18 = .ok (.getfield 19, 3) := by decide +kernel
theorem dX10_nodeApart_21 : decode cX10_nodeApart 21 = .ok (.iload_n 2, 1) := by decide +kernel
theorem dX10_nodeApart_22 : decode cX10_nodeApart 22 = .ok (.iaload, 1) := by decide +kernel
theorem dX10_nodeApart_23 : decode cX10_nodeApart 23 = .ok (.isub, 1) := by decide +kernel
theorem dX10_nodeApart_24 : decode cX10_nodeApart 24 = .ok (.invokestatic 202, 3) := by decide +kernel
theorem dX10_nodeApart_27 : decode cX10_nodeApart 27 = .ok (.ireturn, 1) := by decide +kernel
set_option maxRecDepth 20000 in
theorem ggX10_between_X10_noStation : GoodIn wsX10_between wsX10_noStation := goodIn_ca (goodIn_r _ [6, 7, 1, 8, 9, 10, 5, 11, 12, 13, 14, 15, 16, 17, 18, 32, 33, 34, 35, 36, 37, 38, 39, 40, 41, 42, 43, 44, 45, 46, 47, 48, 49, 50, 51, 52, 53, 54, 55, 56, 57] (by decide +kernel) (by decide +kernel)) (goodIn_sub (fun _ h => List.mem_cons_of_mem _ (List.mem_append_right _ h)) (by decide +kernel))
set_option maxRecDepth 20000 in
theorem gX10_between_X10_noStation : GoodIn wsX10_between (wsV RX10 215 RX10 yX10_noStation wsX10_noStation) := goodIn_app (goodIn_of _ (by decide +kernel)) ggX10_between_X10_noStation
set_option maxRecDepth 20000 in
theorem ggX10_between_X10_no : GoodIn wsX10_between wsX10_no := goodIn_r _ [11, 12, 13, 5, 14, 15, 16, 17, 18, 7, 32, 33, 34, 35, 36, 37, 38, 39, 40, 41, 42, 43, 44, 45, 46, 47, 48, 49, 50, 51, 52, 53, 54, 55, 56, 57] (by decide +kernel) (by decide +kernel)
set_option maxRecDepth 20000 in
theorem gX10_between_X10_no : GoodIn wsX10_between (wsV RX10 190 RX10 yX10_no wsX10_no) := goodIn_app (goodIn_of _ (by decide +kernel)) ggX10_between_X10_no
set_option maxRecDepth 20000 in
theorem ggX10_between_X10_timeBetween : GoodIn wsX10_between wsX10_timeBetween := goodIn_ca (goodIn_r _ [22, 23, 24, 25, 26, 5, 27, 28, 29, 30, 31, 1, 32, 33, 34, 35, 36, 37, 38, 39, 40, 41, 42, 43, 44, 45, 46, 47, 48, 49, 50, 51, 52, 53, 54, 55, 56, 57] (by decide +kernel) (by decide +kernel)) (goodIn_sub (fun _ h => List.mem_cons_of_mem _ (List.mem_append_right _ h)) (by decide +kernel))
set_option maxRecDepth 20000 in
theorem gX10_between_X10_timeBetween : GoodIn wsX10_between (wsV RX10 218 RX10 yX10_timeBetween wsX10_timeBetween) := goodIn_app (goodIn_of _ (by decide +kernel)) ggX10_between_X10_timeBetween
theorem dX10_between_0 : decode cX10_between 0 = .ok (.aload_n 0, 1) := by decide +kernel
theorem dX10_between_1 : decode cX10_between 1 = .ok (.iload_n 1, 1) := by decide +kernel
theorem dX10_between_2 : decode cX10_between 2 = .ok (.invokevirtual 215, 3) := by decide +kernel
theorem dX10_between_5 : decode cX10_between 5 = .ok (.ifCond .ne 17, 3) := by decide +kernel
theorem dX10_between_8 : decode cX10_between 8 = .ok (.aload_n 0, 1) := by decide +kernel
theorem dX10_between_9 : decode cX10_between 9 = .ok (.iload_n 2, 1) := by decide +kernel
theorem dX10_between_10 : decode cX10_between 10 = .ok (.aload_n 0, 1) := by decide +kernel
theorem dX10_between_11 : decode cX10_between 11 = .ok (.getfield 13, 3) := by decide +kernel
theorem dX10_between_14 : decode cX10_between 14 = .ok (.iconst 0, 1) := by decide +kernel
theorem dX10_between_15 : decode cX10_between 15 = .ok (.iaload, 1) := by decide +kernel
theorem dX10_between_16 : decode cX10_between 16 = .ok (.invokevirtual 190, 3) := by decide +kernel
theorem dX10_between_19 : decode cX10_between 19 = .ok (.ifCond .eq 7, 3) := by decide +kernel
theorem dX10_between_22 : decode cX10_between 22 = .ok (.iconst 0, 1) := by decide +kernel
theorem dX10_between_23 : decode cX10_between 23 = .ok (.goto 9, 3) := by decide +kernel
theorem dX10_between_26 : decode cX10_between 26 = .ok (.aload_n 0, 1) := by decide +kernel
theorem dX10_between_27 : decode cX10_between 27 = .ok (.iload_n 1, 1) := by decide +kernel
theorem dX10_between_28 : decode cX10_between 28 = .ok (.iload_n 2, 1) := by decide +kernel
theorem dX10_between_29 : decode cX10_between 29 = .ok (.invokevirtual 218, 3) := by decide +kernel
theorem dX10_between_32 : decode cX10_between 32 = .ok (.ireturn, 1) := by decide +kernel
set_option maxRecDepth 20000 in
theorem ggX10_travel_X10_nodes : GoodIn wsX10_travel wsX10_nodes := goodIn_ca (goodIn_r _ [7, 2, 40, 41, 42, 43, 44, 45, 46, 47, 48, 49, 50, 51, 52, 53, 54, 55, 56, 57, 58, 59, 60, 61, 62, 63, 64, 65] (by decide +kernel) (by decide +kernel)) (goodIn_sub (fun _ h => List.mem_cons_of_mem _ (List.mem_append_right _ h)) (by decide +kernel))
set_option maxRecDepth 20000 in
theorem gX10_travel_X10_nodes : GoodIn wsX10_travel (wsV RX10 196 RX10 yX10_nodes wsX10_nodes) := goodIn_app (goodIn_of _ (by decide +kernel)) ggX10_travel_X10_nodes
set_option maxRecDepth 20000 in
theorem ggX10_travel_X10_no : GoodIn wsX10_travel wsX10_no := goodIn_r _ [11, 12, 13, 6, 14, 15, 16, 17, 18, 1, 40, 41, 42, 43, 44, 45, 46, 47, 48, 49, 50, 51, 52, 53, 54, 55, 56, 57, 58, 59, 60, 61, 62, 63, 64, 65] (by decide +kernel) (by decide +kernel)
set_option maxRecDepth 20000 in
theorem gX10_travel_X10_no : GoodIn wsX10_travel (wsV RX10 190 RX10 yX10_no wsX10_no) := goodIn_app (goodIn_of _ (by decide +kernel)) ggX10_travel_X10_no
set_option maxRecDepth 20000 in
theorem ggX10_travel_X10_nodeApart : GoodIn wsX10_travel wsX10_nodeApart := goodIn_ca (goodIn_r _ [22, 23, 24, 25, 26, 27, 6, 28, 2, 29, 30, 31, 32, 33, 34, 35, 40, 41, 42, 43, 44, 45, 46, 47, 48, 49, 50, 51, 52, 53, 54, 55, 56, 57, 58, 59, 60, 61, 62, 63, 64, 65] (by decide +kernel) (by decide +kernel)) (goodIn_sub (fun _ h => List.mem_cons_of_mem _ (List.mem_append_right _ h)) (by decide +kernel))
set_option maxRecDepth 20000 in
theorem gX10_travel_X10_nodeApart : GoodIn wsX10_travel (wsV RX10 221 RX10 yX10_nodeApart wsX10_nodeApart) := goodIn_app (goodIn_of _ (by decide +kernel)) ggX10_travel_X10_nodeApart
set_option maxRecDepth 20000 in
theorem ggX10_travel_X10_timeFor : GoodIn wsX10_travel wsX10_timeFor := goodIn_ca (goodIn_r _ [39, 2, 40, 41, 42, 43, 44, 45, 46, 47, 48, 49, 50, 51, 52, 53, 54, 55, 56, 57, 58, 59, 60, 61, 62, 63, 64, 65] (by decide +kernel) (by decide +kernel)) (goodIn_sub (fun _ h => List.mem_cons_of_mem _ (List.mem_append_right _ h)) (by decide +kernel))
set_option maxRecDepth 20000 in
theorem gX10_travel_X10_timeFor : GoodIn wsX10_travel (wsV RX10 206 RX10 yX10_timeFor wsX10_timeFor) := goodIn_app (goodIn_of _ (by decide +kernel)) ggX10_travel_X10_timeFor
theorem dX10_travel_0 : decode cX10_travel 0 = .ok (.aload_n 0, 1) := by decide +kernel
theorem dX10_travel_1 : decode cX10_travel 1 = .ok (.iconst 0, 1) := by decide +kernel
theorem dX10_travel_2 : decode cX10_travel 2 = .ok (.putfield 64, 3) := by decide +kernel
theorem dX10_travel_5 : decode cX10_travel 5 = .ok (.aload_n 0, 1) := by decide +kernel
theorem dX10_travel_6 : decode cX10_travel 6 = .ok (.iload_n 1, 1) := by decide +kernel
theorem dX10_travel_7 : decode cX10_travel 7 = .ok (.aload_n 0, 1) := by decide +kernel
theorem dX10_travel_8 : decode cX10_travel 8 = .ok (.invokevirtual 196, 3) := by decide +kernel
theorem dX10_travel_11 : decode cX10_travel 11 = .ok (.invokevirtual 190, 3) := by decide +kernel
theorem dX10_travel_14 : decode cX10_travel 14 = .ok (.ifCond .ne 17, 3) := by decide +kernel
theorem dX10_travel_17 : decode cX10_travel 17 = .ok (.aload_n 0, 1) := by decide +kernel
theorem dX10_travel_18 : decode cX10_travel 18 = .ok (.iload_n 2, 1) := by decide +kernel
theorem dX10_travel_19 : decode cX10_travel 19 = .ok (.aload_n 0, 1) := by decide +kernel
theorem dX10_travel_20 : decode cX10_travel 20 = .ok (.getfield 13, 3) := by decide +kernel
theorem dX10_travel_23 : decode cX10_travel 23 = .ok (.iconst 0, 1) := by decide +kernel
theorem dX10_travel_24 : decode cX10_travel 24 = .ok (.iaload, 1) := by decide +kernel
theorem dX10_travel_25 : decode cX10_travel 25 = .ok (.invokevirtual 190, 3) := by decide +kernel
theorem dX10_travel_28 : decode cX10_travel 28 = .ok (.ifCond .eq 7, 3) := by decide +kernel
theorem dX10_travel_31 : decode cX10_travel 31 = .ok (.iconst 0, 1) := by decide +kernel
theorem dX10_travel_32 : decode cX10_travel 32 = .ok (.goto 13, 3) := by decide +kernel
theorem dX10_travel_35 : decode cX10_travel 35 = .ok (.aload_n 0, 1) := by decide +kernel
theorem dX10_travel_36 : decode cX10_travel 36 = .ok (.aload_n 0, 1) := by decide +kernel
theorem dX10_travel_37 : decode cX10_travel 37 = .ok (.iload_n 1, 1) := by decide +kernel
theorem dX10_travel_38 : decode cX10_travel 38 = .ok (.iload_n 2, 1) := by decide +kernel
theorem dX10_travel_39 : decode cX10_travel 39 = .ok (.invokevirtual 221, 3) := by decide +kernel
theorem dX10_travel_42 : decode cX10_travel 42 = .ok (.invokevirtual 206, 3) := by decide +kernel
theorem dX10_travel_45 : decode cX10_travel 45 = .ok (.ireturn, 1) := by decide +kernel
theorem dX10_rungOf_0 : decode cX10_rungOf 0 = .ok (.iconst (-1), 1) := by decide +kernel
theorem dX10_rungOf_1 : decode cX10_rungOf 1 = .ok (.istore_n 2, 1) := by decide +kernel
theorem dX10_rungOf_2 : decode cX10_rungOf 2 = .ok (.iconst 0, 1) := by decide +kernel
theorem dX10_rungOf_3 : decode cX10_rungOf 3 = .ok (.istore_n 3, 1) := by decide +kernel
theorem dX10_rungOf_4 : decode cX10_rungOf 4 = .ok (.iload_n 3, 1) := by decide +kernel
theorem dX10_rungOf_5 : decode cX10_rungOf 5 = .ok (.aload_n 0, 1) := by decide +kernel
theorem dX10_rungOf_6 : decode cX10_rungOf 6 = .ok (.getfield 13, 3) := by decide +kernel
theorem dX10_rungOf_9 : decode cX10_rungOf 9 = .ok (.iconst 1, 1) := by decide +kernel
theorem dX10_rungOf_10 : decode cX10_rungOf 10 = .ok (.iaload, 1) := by decide +kernel
theorem dX10_rungOf_11 : decode cX10_rungOf 11 = .ok (.if_icmp .ge 30, 3) := by decide +kernel
theorem dX10_rungOf_14 : decode cX10_rungOf 14 = .ok (.aload_n 0, 1) := by decide +kernel
theorem dX10_rungOf_15 : decode cX10_rungOf 15 = .ok (.getfield 22, 3) := by decide +kernel
theorem dX10_rungOf_18 : decode cX10_rungOf 18 = .ok (.iload_n 3, 1) := by decide +kernel
theorem dX10_rungOf_19 : decode cX10_rungOf 19 = .ok (.iaload, 1) := by decide +kernel
theorem dX10_rungOf_20 : decode cX10_rungOf 20 = .ok (.iload_n 1, 1) := by decide +kernel
theorem dX10_rungOf_21 : decode cX10_rungOf 21 = .ok (.if_icmp .gt 12, 3) := by decide +kernel
theorem dX10_rungOf_24 : decode cX10_rungOf 24 = .ok (.aload_n 0, 1) := by decide +kernel
theorem dX10_rungOf_25 : decode cX10_rungOf 25 = .ok (.getfield 25, 3) := by decide +kernel
theorem dX10_rungOf_28 : decode cX10_rungOf 28 = .ok (.iload_n 3, 1) := by decide +kernel
theorem dX10_rungOf_29 : decode cX10_rungOf 29 = .ok (.iaload, 1) := by decide +kernel
theorem dX10_rungOf_30 : decode cX10_rungOf 30 = .ok (.goto 4, 3) := by decide +kernel
theorem dX10_rungOf_33 : decode cX10_rungOf 33 = .ok (.iload_n 2, 1) := by decide +kernel
theorem dX10_rungOf_34 : decode cX10_rungOf 34 = .ok (.istore_n 2, 1) := by decide +kernel
theorem dX10_rungOf_35 : decode cX10_rungOf 35 = .ok (.iinc 3 1, 3) := by decide +kernel
theorem dX10_rungOf_38 : decode cX10_rungOf 38 = .ok (.goto (-34), 3) := by decide +kernel
theorem dX10_rungOf_41 : decode cX10_rungOf 41 = .ok (.iload_n 2, 1) := by decide +kernel
theorem dX10_rungOf_42 : decode cX10_rungOf 42 = .ok (.ireturn, 1) := by decide +kernel
set_option maxRecDepth 20000 in
theorem ggX10_ladder_X10_within : GoodIn wsX10_ladder wsX10_within := goodIn_r _ [6] (by decide +kernel) (by decide +kernel)
set_option maxRecDepth 20000 in
theorem gX10_ladder_X10_within : GoodIn wsX10_ladder (va_wsS RX10 101 yX10_within wsX10_within) := goodIn_app (goodIn_of _ (by decide +kernel)) ggX10_ladder_X10_within
set_option maxRecDepth 20000 in
theorem ggX10_ladder_X10_throwsIf : GoodIn wsX10_ladder wsX10_throwsIf := goodIn_r _ [10, 1, 18, 19, 20, 21, 22, 23, 24, 25, 26, 27, 28, 29, 30, 31, 32, 33, 34, 35, 36, 37, 38, 39, 40, 41, 42, 43] (by decide +kernel) (by decide +kernel)
set_option maxRecDepth 20000 in
theorem gX10_ladder_X10_throwsIf : GoodIn wsX10_ladder (wsV RX10 177 RX10 yX10_throwsIf wsX10_throwsIf) := goodIn_app (goodIn_of _ (by decide +kernel)) ggX10_ladder_X10_throwsIf
set_option maxRecDepth 20000 in
theorem ggX10_ladder_X10_rungOf : GoodIn wsX10_ladder wsX10_rungOf := goodIn_ca (goodIn_r _ [14, 15, 16, 17, 18, 19, 20, 21, 22, 23, 24, 25, 26, 27, 28, 29, 30, 31, 32, 33, 34, 35, 36, 37, 38, 39, 40, 41, 42, 43] (by decide +kernel) (by decide +kernel)) (goodIn_sub (fun _ h => List.mem_cons_of_mem _ (List.mem_append_right _ h)) (by decide +kernel))
set_option maxRecDepth 20000 in
theorem gX10_ladder_X10_rungOf : GoodIn wsX10_ladder (wsV RX10 225 RX10 yX10_rungOf wsX10_rungOf) := goodIn_app (goodIn_of _ (by decide +kernel)) ggX10_ladder_X10_rungOf
theorem dX10_ladder_0 : decode cX10_ladder 0 = .ok (.aload_n 0, 1) := by decide +kernel
theorem dX10_ladder_1 : decode cX10_ladder 1 = .ok (.iconst 0, 1) := by decide +kernel
theorem dX10_ladder_2 : decode cX10_ladder 2 = .ok (.putfield 64, 3) := by decide +kernel
theorem dX10_ladder_5 : decode cX10_ladder 5 = .ok (.aload_n 0, 1) := by decide +kernel
theorem dX10_ladder_6 : decode cX10_ladder 6 = .ok (.iload_n 1, 1) := by decide +kernel
theorem dX10_ladder_7 : decode cX10_ladder 7 = .ok (.iconst 0, 1) := by decide +kernel
theorem dX10_ladder_8 : decode cX10_ladder 8 = .ok (.ldc 224, 2) := by decide +kernel
theorem dX10_ladder_10 : decode cX10_ladder 10 = .ok (.invokestatic 101, 3) := by decide +kernel
theorem dX10_ladder_13 : decode cX10_ladder 13 = .ok (.ifCond .ne 7, 3) := by decide +kernel
theorem dX10_ladder_16 : decode cX10_ladder 16 = .ok (.iconst 1, 1) := by decide +kernel
theorem dX10_ladder_17 : decode cX10_ladder 17 = .ok (.goto 4, 3) := by decide +kernel
theorem dX10_ladder_20 : decode cX10_ladder 20 = .ok (.iconst 0, 1) := by decide +kernel
theorem dX10_ladder_21 : decode cX10_ladder 21 = .ok (.iconst 1, 1) := by decide +kernel
theorem dX10_ladder_22 : decode cX10_ladder 22 = .ok (.invokevirtual 177, 3) := by decide +kernel
theorem dX10_ladder_25 : decode cX10_ladder 25 = .ok (.ifCond .eq 7, 3) := by decide +kernel
theorem dX10_ladder_28 : decode cX10_ladder 28 = .ok (.iconst 0, 1) := by decide +kernel
theorem dX10_ladder_29 : decode cX10_ladder 29 = .ok (.goto 8, 3) := by decide +kernel
theorem dX10_ladder_32 : decode cX10_ladder 32 = .ok (.aload_n 0, 1) := by decide +kernel
theorem dX10_ladder_33 : decode cX10_ladder 33 = .ok (.iload_n 1, 1) := by decide +kernel
theorem dX10_ladder_34 : decode cX10_ladder 34 = .ok (.invokevirtual 225, 3) := by decide +kernel
theorem dX10_ladder_37 : decode cX10_ladder 37 = .ok (.ireturn, 1) := by decide +kernel
theorem dX10_ringAt_0 : decode cX10_ringAt 0 = .ok (.bipush 35, 2) := by decide +kernel
theorem dX10_ringAt_2 : decode cX10_ringAt 2 = .ok (.bipush 99, 2) := by decide +kernel
theorem dX10_ringAt_4 : decode cX10_ringAt 4 = .ok (.iload_n 0, 1) := by decide +kernel
theorem dX10_ringAt_5 : decode cX10_ringAt 5 = .ok (.imul, 1) := by decide +kernel
theorem dX10_ringAt_6 : decode cX10_ringAt 6 = .ok (.iadd, 1) := by decide +kernel
theorem dX10_ringAt_7 : decode cX10_ringAt 7 = .ok (.iload_n 1, 1) := by decide +kernel
theorem dX10_ringAt_8 : decode cX10_ringAt 8 = .ok (.bipush 99, 2) := by decide +kernel
theorem dX10_ringAt_10 : decode cX10_ringAt 10 = .ok (.irem, 1) := by decide +kernel
theorem dX10_ringAt_11 : decode cX10_ringAt 11 = .ok (.iadd, 1) := by decide +kernel
theorem dX10_ringAt_12 : decode cX10_ringAt 12 = .ok (.ireturn, 1) := by decide +kernel
set_option maxRecDepth 20000 in
theorem ggX10_latest_X10_ringAt : GoodIn wsX10_latest wsX10_ringAt := goodIn_r _ [5] (by decide +kernel) (by decide +kernel)
set_option maxRecDepth 20000 in
theorem gX10_latest_X10_ringAt : GoodIn wsX10_latest (va_wsS RX10 228 yX10_ringAt wsX10_ringAt) := goodIn_app (goodIn_of _ (by decide +kernel)) ggX10_latest_X10_ringAt
theorem dX10_latest_0 : decode cX10_latest 0 = .ok (.iconst 0, 1) := by decide +kernel
theorem dX10_latest_1 : decode cX10_latest 1 = .ok (.istore_n 3, 1) := by decide +kernel
theorem dX10_latest_2 : decode cX10_latest 2 = .ok (.aload_n 0, 1) := by decide +kernel
theorem dX10_latest_3 : decode cX10_latest 3 = .ok (.getfield 7, 3) := by decide +kernel
theorem dX10_latest_6 : decode cX10_latest 6 = .ok (.iconst 0, 1) := by decide +kernel
theorem dX10_latest_7 : decode cX10_latest 7 = .ok (.iaload, 1) := by decide +kernel
theorem dX10_latest_8 : decode cX10_latest 8 = .ok (.istore 4, 2) := by decide +kernel
theorem dX10_latest_10 : decode cX10_latest 10 = .ok (.iload 4, 2) := by decide +kernel
theorem dX10_latest_12 : decode cX10_latest 12 = .ok (.ifCond .le 36, 3) := by decide +kernel
theorem dX10_latest_15 : decode cX10_latest 15 = .ok (.iload 4, 2) := by decide +kernel
theorem dX10_latest_17 : decode cX10_latest 17 = .ok (.aload_n 0, 1) := by decide +kernel
theorem dX10_latest_18 : decode cX10_latest 18 = .ok (.getfield 7, 3) := by decide +kernel
theorem dX10_latest_21 : decode cX10_latest 21 = .ok (.iconst 0, 1) := by decide +kernel
theorem dX10_latest_22 : decode cX10_latest 22 = .ok (.iaload, 1) := by decide +kernel
theorem dX10_latest_23 : decode cX10_latest 23 = .ok (.iload_n 2, 1) := by decide +kernel
theorem dX10_latest_24 : decode cX10_latest 24 = .ok (.isub, 1) := by decide +kernel
theorem dX10_latest_25 : decode cX10_latest 25 = .ok (.if_icmp .le 23, 3) := by decide +kernel
theorem dX10_latest_28 : decode cX10_latest 28 = .ok (.iload_n 3, 1) := by decide +kernel
theorem dX10_latest_29 : decode cX10_latest 29 = .ok (.aload_n 0, 1) := by decide +kernel
theorem dX10_latest_30 : decode cX10_latest 30 = .ok (.getfield 7, 3) := by decide +kernel
theorem dX10_latest_33 : decode cX10_latest 33 = .ok (.iload_n 1, 1) := by decide +kernel
theorem dX10_latest_34 : decode cX10_latest 34 = .ok (.iload 4, 2) := by decide +kernel
theorem dX10_latest_36 : decode cX10_latest 36 = .ok (.invokestatic 228, 3) := by decide +kernel
theorem dX10_latest_39 : decode cX10_latest 39 = .ok (.iaload, 1) := by decide +kernel
theorem dX10_latest_40 : decode cX10_latest 40 = .ok (.iadd, 1) := by decide +kernel
theorem dX10_latest_41 : decode cX10_latest 41 = .ok (.istore_n 3, 1) := by decide +kernel
theorem dX10_latest_42 : decode cX10_latest 42 = .ok (.iinc 4 (-1), 3) := by decide +kernel
theorem dX10_latest_45 : decode cX10_latest 45 = .ok (.goto (-35), 3) := by decide +kernel
theorem dX10_latest_48 : decode cX10_latest 48 = .ok (.iload_n 3, 1) := by decide +kernel
theorem dX10_latest_49 : decode cX10_latest 49 = .ok (.ireturn, 1) := by decide +kernel
set_option maxRecDepth 20000 in
theorem ggX10_ratioOf_X10_latest : GoodIn wsX10_ratioOf wsX10_latest := goodIn_ca (goodIn_r _ [7, 8, 9, 10, 6, 11, 12, 13, 14, 15, 16, 17, 18, 19, 20, 21, 22, 23, 24, 25, 26, 27, 28, 29, 30, 31, 32, 33, 34, 35, 36, 37] (by decide +kernel) (by decide +kernel)) (goodIn_sub (fun _ h => List.mem_cons_of_mem _ (List.mem_append_right _ h)) (by decide +kernel))
set_option maxRecDepth 20000 in
theorem gX10_ratioOf_X10_latest : GoodIn wsX10_ratioOf (wsV RX10 231 RX10 yX10_latest wsX10_latest) := goodIn_app (goodIn_of _ (by decide +kernel)) ggX10_ratioOf_X10_latest
theorem dX10_ratioOf_0 : decode cX10_ratioOf 0 = .ok (.aload_n 0, 1) := by decide +kernel
theorem dX10_ratioOf_1 : decode cX10_ratioOf 1 = .ok (.iload_n 1, 1) := by decide +kernel
theorem dX10_ratioOf_2 : decode cX10_ratioOf 2 = .ok (.aload_n 0, 1) := by decide +kernel
theorem dX10_ratioOf_3 : decode cX10_ratioOf 3 = .ok (.getfield 13, 3) := by decide +kernel
theorem dX10_ratioOf_6 : decode cX10_ratioOf 6 = .ok (.bipush 8, 2) := by decide +kernel
theorem dX10_ratioOf_8 : decode cX10_ratioOf 8 = .ok (.iaload, 1) := by decide +kernel
theorem dX10_ratioOf_9 : decode cX10_ratioOf 9 = .ok (.invokevirtual 231, 3) := by decide +kernel
theorem dX10_ratioOf_12 : decode cX10_ratioOf 12 = .ok (.i2l, 1) := by decide +kernel
theorem dX10_ratioOf_13 : decode cX10_ratioOf 13 = .ok (.lstore_n 2, 1) := by decide +kernel
theorem dX10_ratioOf_14 : decode cX10_ratioOf 14 = .ok (.aload_n 0, 1) := by decide +kernel
theorem dX10_ratioOf_15 : decode cX10_ratioOf 15 = .ok (.iload_n 1, 1) := by decide +kernel
theorem dX10_ratioOf_16 : decode cX10_ratioOf 16 = .ok (.aload_n 0, 1) := by decide +kernel
theorem dX10_ratioOf_17 : decode cX10_ratioOf 17 = .ok (.getfield 13, 3) := by decide +kernel
theorem dX10_ratioOf_20 : decode cX10_ratioOf 20 = .ok (.bipush 9, 2) := by decide +kernel
theorem dX10_ratioOf_22 : decode cX10_ratioOf 22 = .ok (.iaload, 1) := by decide +kernel
theorem dX10_ratioOf_23 : decode cX10_ratioOf 23 = .ok (.invokevirtual 231, 3) := by decide +kernel
theorem dX10_ratioOf_26 : decode cX10_ratioOf 26 = .ok (.i2l, 1) := by decide +kernel
theorem dX10_ratioOf_27 : decode cX10_ratioOf 27 = .ok (.lstore 4, 2) := by decide +kernel
theorem dX10_ratioOf_29 : decode cX10_ratioOf 29 = .ok (.lload 4, 2) := by decide +kernel
theorem dX10_ratioOf_31 : decode cX10_ratioOf 31 = .ok (.lconst 0, 1) := by decide +kernel
theorem dX10_ratioOf_32 : decode cX10_ratioOf 32 = .ok (.lcmp, 1) := by decide +kernel
theorem dX10_ratioOf_33 : decode cX10_ratioOf 33 = .ok (.ifCond .ne 7, 3) := by decide +kernel
theorem dX10_ratioOf_36 : decode cX10_ratioOf 36 = .ok (.iconst 0, 1) := by decide +kernel
theorem dX10_ratioOf_37 : decode cX10_ratioOf 37 = .ok (.goto 30, 3) := by decide +kernel
theorem dX10_ratioOf_40 : decode cX10_ratioOf 40 = .ok (.lload_n 2, 1) := by decide +kernel
theorem dX10_ratioOf_41 : decode cX10_ratioOf 41 = .ok (.aload_n 0, 1) := by decide +kernel
theorem dX10_ratioOf_42 : decode cX10_ratioOf 42 = .ok (.getfield 13, 3) := by decide +kernel
theorem dX10_ratioOf_45 : decode cX10_ratioOf 45 = .ok (.bipush 9, 2) := by decide +kernel
theorem dX10_ratioOf_47 : decode cX10_ratioOf 47 = .ok (.iaload, 1) := by decide +kernel
theorem dX10_ratioOf_48 : decode cX10_ratioOf 48 = .ok (.i2l, 1) := by decide +kernel
theorem dX10_ratioOf_49 : decode cX10_ratioOf 49 = .ok (.lmul, 1) := by decide +kernel
theorem dX10_ratioOf_50 : decode cX10_ratioOf 50 = .ok (.ldc2_w 234, 3) := by decide +kernel
theorem dX10_ratioOf_53 : decode cX10_ratioOf 53 = .ok (.lmul, 1) := by decide +kernel
theorem dX10_ratioOf_54 : decode cX10_ratioOf 54 = .ok (.lload 4, 2) := by decide +kernel
theorem dX10_ratioOf_56 : decode cX10_ratioOf 56 = .ok (.aload_n 0, 1) := by decide +kernel
theorem dX10_ratioOf_57 : decode cX10_ratioOf 57 = .ok (.getfield 13, 3) := by decide +kernel
theorem dX10_ratioOf_60 : decode cX10_ratioOf 60 = .ok (.bipush 8, 2) := by decide +kernel
theorem dX10_ratioOf_62 : decode cX10_ratioOf 62 = .ok (.iaload, 1) := by decide +kernel
theorem dX10_ratioOf_63 : decode cX10_ratioOf 63 = .ok (.i2l, 1) := by decide +kernel
theorem dX10_ratioOf_64 : decode cX10_ratioOf 64 = .ok (.lmul, 1) := by decide +kernel
theorem dX10_ratioOf_65 : decode cX10_ratioOf 65 = .ok (.ldiv, 1) := by decide +kernel
theorem dX10_ratioOf_66 : decode cX10_ratioOf 66 = .ok (.l2i, 1) := by decide +kernel
theorem dX10_ratioOf_67 : decode cX10_ratioOf 67 = .ok (.ireturn, 1) := by decide +kernel
set_option maxRecDepth 20000 in
theorem ggX10_station_X10_noStation : GoodIn wsX10_station wsX10_noStation := goodIn_ca (goodIn_r _ [9, 10, 4, 11, 12, 13, 8, 14, 15, 16, 17, 18, 19, 20, 21, 37, 38, 39, 40, 41, 42, 43, 44, 45, 46, 47, 48, 49, 50, 51, 52, 53, 54, 55, 56, 57, 58, 59, 60, 61, 62] (by decide +kernel) (by decide +kernel)) (goodIn_sub (fun _ h => List.mem_cons_of_mem _ (List.mem_append_right _ h)) (by decide +kernel))
set_option maxRecDepth 20000 in
theorem gX10_station_X10_noStation : GoodIn wsX10_station (wsV RX10 215 RX10 yX10_noStation wsX10_noStation) := goodIn_app (goodIn_of _ (by decide +kernel)) ggX10_station_X10_noStation
set_option maxRecDepth 20000 in
theorem ggX10_station_X10_within : GoodIn wsX10_station wsX10_within := goodIn_r _ [17] (by decide +kernel) (by decide +kernel)
set_option maxRecDepth 20000 in
theorem gX10_station_X10_within : GoodIn wsX10_station (va_wsS RX10 101 yX10_within wsX10_within) := goodIn_app (goodIn_of _ (by decide +kernel)) ggX10_station_X10_within
set_option maxRecDepth 20000 in
theorem ggX10_station_X10_throwsIf : GoodIn wsX10_station wsX10_throwsIf := goodIn_r _ [21, 10, 37, 38, 39, 40, 41, 42, 43, 44, 45, 46, 47, 48, 49, 50, 51, 52, 53, 54, 55, 56, 57, 58, 59, 60, 61, 62] (by decide +kernel) (by decide +kernel)
set_option maxRecDepth 20000 in
theorem gX10_station_X10_throwsIf : GoodIn wsX10_station (wsV RX10 177 RX10 yX10_throwsIf wsX10_throwsIf) := goodIn_app (goodIn_of _ (by decide +kernel)) ggX10_station_X10_throwsIf
set_option maxRecDepth 20000 in
theorem ggX10_station_X10_at : GoodIn wsX10_station wsX10_at := goodIn_r _ [24] (by decide +kernel) (by decide +kernel)
set_option maxRecDepth 20000 in
theorem gX10_station_X10_at : GoodIn wsX10_station (va_wsS RX10 236 yX10_at wsX10_at) := goodIn_app (goodIn_of _ (by decide +kernel)) ggX10_station_X10_at
set_option maxRecDepth 20000 in
theorem ggX10_station_X10_latest : GoodIn wsX10_station wsX10_latest := goodIn_ca (goodIn_r _ [28, 3, 29, 30, 8, 31, 37, 38, 39, 40, 41, 42, 43, 44, 45, 46, 47, 48, 49, 50, 51, 52, 53, 54, 55, 56, 57, 58, 59, 60, 61, 62] (by decide +kernel) (by decide +kernel)) (goodIn_sub (fun _ h => List.mem_cons_of_mem _ (List.mem_append_right _ h)) (by decide +kernel))
set_option maxRecDepth 20000 in
theorem gX10_station_X10_latest : GoodIn wsX10_station (wsV RX10 231 RX10 yX10_latest wsX10_latest) := goodIn_app (goodIn_of _ (by decide +kernel)) ggX10_station_X10_latest
set_option maxRecDepth 20000 in
theorem ggX10_station_X10_ratioOf : GoodIn wsX10_station wsX10_ratioOf := goodIn_ca (goodIn_r _ [35, 4, 36, 25, 26, 27, 8, 28, 3, 29, 30, 31, 37, 38, 39, 40, 41, 42, 43, 44, 45, 46, 47, 48, 49, 50, 51, 52, 53, 54, 55, 56, 57, 58, 59, 60, 61, 62] (by decide +kernel) (by decide +kernel)) (goodIn_sub (fun _ h => List.mem_cons_of_mem _ (List.mem_append_right _ h)) (by decide +kernel))
set_option maxRecDepth 20000 in
theorem gX10_station_X10_ratioOf : GoodIn wsX10_station (wsV RX10 239 RX10 yX10_ratioOf wsX10_ratioOf) := goodIn_app (goodIn_of _ (by decide +kernel)) ggX10_station_X10_ratioOf
theorem dX10_station_0 : decode cX10_station 0 = .ok (.aload_n 0, 1) := by decide +kernel
theorem dX10_station_1 : decode cX10_station 1 = .ok (.iload_n 1, 1) := by decide +kernel
theorem dX10_station_2 : decode cX10_station 2 = .ok (.invokevirtual 215, 3) := by decide +kernel
theorem dX10_station_5 : decode cX10_station 5 = .ok (.ifCond .ne 26, 3) := by decide +kernel
theorem dX10_station_8 : decode cX10_station 8 = .ok (.aload_n 0, 1) := by decide +kernel
theorem dX10_station_9 : decode cX10_station 9 = .ok (.iload_n 2, 1) := by decide +kernel
theorem dX10_station_10 : decode cX10_station 10 = .ok (.iconst 0, 1) := by decide +kernel
theorem dX10_station_11 : decode cX10_station 11 = .ok (.bipush 7, 2) := by decide +kernel
theorem dX10_station_13 : decode cX10_station 13 = .ok (.invokestatic 101, 3) := by decide +kernel
theorem dX10_station_16 : decode cX10_station 16 = .ok (.ifCond .ne 7, 3) := by decide +kernel
theorem dX10_station_19 : decode cX10_station 19 = .ok (.iconst 1, 1) := by decide +kernel
theorem dX10_station_20 : decode cX10_station 20 = .ok (.goto 4, 3) := by decide +kernel
theorem dX10_station_23 : decode cX10_station 23 = .ok (.iconst 0, 1) := by decide +kernel
theorem dX10_station_24 : decode cX10_station 24 = .ok (.iconst 2, 1) := by decide +kernel
theorem dX10_station_25 : decode cX10_station 25 = .ok (.invokevirtual 177, 3) := by decide +kernel
theorem dX10_station_28 : decode cX10_station 28 = .ok (.ifCond .eq 5, 3) := by decide +kernel
theorem dX10_station_31 : decode cX10_station 31 = .ok (.iconst 0, 1) := by decide +kernel
theorem dX10_station_32 : decode cX10_station 32 = .ok (.ireturn, 1) := by decide +kernel
theorem dX10_station_33 : decode cX10_station 33 = .ok (.iload_n 2, 1) := by decide +kernel
theorem dX10_station_34 : decode cX10_station 34 = .ok (.tableswitch 110 0 6 #[42, 49, 56, 67, 80, 93, 99], 42) := by decide +kernel
theorem dX10_station_76 : decode cX10_station 76 = .ok (.aload_n 0, 1) := by decide +kernel
theorem dX10_station_77 : decode cX10_station 77 = .ok (.getfield 16, 3) := by decide +kernel
theorem dX10_station_80 : decode cX10_station 80 = .ok (.iload_n 1, 1) := by decide +kernel
theorem dX10_station_81 : decode cX10_station 81 = .ok (.iaload, 1) := by decide +kernel
theorem dX10_station_82 : decode cX10_station 82 = .ok (.ireturn, 1) := by decide +kernel
theorem dX10_station_83 : decode cX10_station 83 = .ok (.aload_n 0, 1) := by decide +kernel
theorem dX10_station_84 : decode cX10_station 84 = .ok (.getfield 19, 3) := by decide +kernel
theorem dX10_station_87 : decode cX10_station 87 = .ok (.iload_n 1, 1) := by decide +kernel
theorem dX10_station_88 : decode cX10_station 88 = .ok (.iaload, 1) := by decide +kernel
theorem dX10_station_89 : decode cX10_station 89 = .ok (.ireturn, 1) := by decide +kernel
theorem dX10_station_90 : decode cX10_station 90 = .ok (.aload_n 0, 1) := by decide +kernel
theorem dX10_station_91 : decode cX10_station 91 = .ok (.getfield 7, 3) := by decide +kernel
theorem dX10_station_94 : decode cX10_station 94 = .ok (.iload_n 1, 1) := by decide +kernel
theorem dX10_station_95 : decode cX10_station 95 = .ok (.iconst 0, 1) := by decide +kernel
theorem dX10_station_96 : decode cX10_station 96 = .ok (.invokestatic 236, 3) := by decide +kernel
theorem dX10_station_99 : decode cX10_station 99 = .ok (.iaload, 1) := by decide +kernel
theorem dX10_station_100 : decode cX10_station 100 = .ok (.ireturn, 1) := by decide +kernel
theorem dX10_station_101 : decode cX10_station 101 = .ok (.aload_n 0, 1) := by decide +kernel
theorem dX10_station_102 : decode cX10_station 102 = .ok (.iload_n 1, 1) := by decide +kernel
theorem dX10_station_103 : decode cX10_station 103 = .ok (.aload_n 0, 1) := by decide +kernel
theorem dX10_station_104 : decode cX10_station 104 = .ok (.getfield 13, 3) := by decide +kernel
theorem dX10_station_107 : decode cX10_station 107 = .ok (.bipush 8, 2) := by decide +kernel
theorem dX10_station_109 : decode cX10_station 109 = .ok (.iaload, 1) := by decide +kernel
theorem dX10_station_110 : decode cX10_station 110 = .ok (.invokevirtual 231, 3) := by decide +kernel
theorem dX10_station_113 : decode cX10_station 113 = .ok (.ireturn, 1) := by decide +kernel
theorem dX10_station_114 : decode cX10_station 114 = .ok (.aload_n 0, 1) := by decide +kernel
theorem dX10_station_115 : decode cX10_station 115 = .ok (.iload_n 1, 1) := by decide +kernel
theorem dX10_station_116 : decode cX10_station 116 = .ok (.aload_n 0, 1) := by decide +kernel
theorem dX10_station_117 : decode cX10_station 117 = .ok (.getfield 13, 3) := by decide +kernel
theorem dX10_station_120 : decode cX10_station 120 = .ok (.bipush 9, 2) := by decide +kernel
theorem dX10_station_122 : decode cX10_station 122 = .ok (.iaload, 1) := by decide +kernel
theorem dX10_station_123 : decode cX10_station 123 = .ok (.invokevirtual 231, 3) := by decide +kernel
theorem dX10_station_126 : decode cX10_station 126 = .ok (.ireturn, 1) := by decide +kernel
theorem dX10_station_127 : decode cX10_station 127 = .ok (.aload_n 0, 1) := by decide +kernel
theorem dX10_station_128 : decode cX10_station 128 = .ok (.iload_n 1, 1) := by decide +kernel
theorem dX10_station_129 : decode cX10_station 129 = .ok (.invokevirtual 239, 3) := by decide +kernel
theorem dX10_station_132 : decode cX10_station 132 = .ok (.ireturn, 1) := by decide +kernel
theorem dX10_station_133 : decode cX10_station 133 = .ok (.aload_n 0, 1) := by decide +kernel
theorem dX10_station_134 : decode cX10_station 134 = .ok (.getfield 7, 3) := by decide +kernel
theorem dX10_station_137 : decode cX10_station 137 = .ok (.iload_n 1, 1) := by decide +kernel
theorem dX10_station_138 : decode cX10_station 138 = .ok (.iconst 1, 1) := by decide +kernel
theorem dX10_station_139 : decode cX10_station 139 = .ok (.invokestatic 236, 3) := by decide +kernel
theorem dX10_station_142 : decode cX10_station 142 = .ok (.iaload, 1) := by decide +kernel
theorem dX10_station_143 : decode cX10_station 143 = .ok (.ireturn, 1) := by decide +kernel
theorem dX10_station_144 : decode cX10_station 144 = .ok (.aload_n 0, 1) := by decide +kernel
theorem dX10_station_145 : decode cX10_station 145 = .ok (.getfield 7, 3) := by decide +kernel
theorem dX10_station_148 : decode cX10_station 148 = .ok (.iload_n 1, 1) := by decide +kernel
theorem dX10_station_149 : decode cX10_station 149 = .ok (.iconst 2, 1) := by decide +kernel
theorem dX10_station_150 : decode cX10_station 150 = .ok (.invokestatic 236, 3) := by decide +kernel
theorem dX10_station_153 : decode cX10_station 153 = .ok (.iaload, 1) := by decide +kernel
theorem dX10_station_154 : decode cX10_station 154 = .ok (.ireturn, 1) := by decide +kernel
set_option maxRecDepth 20000 in
theorem ggX10_triggered_X10_at : GoodIn wsX10_triggered wsX10_at := goodIn_r _ [7] (by decide +kernel) (by decide +kernel)
set_option maxRecDepth 20000 in
theorem gX10_triggered_X10_at : GoodIn wsX10_triggered (va_wsS RX10 236 yX10_at wsX10_at) := goodIn_app (goodIn_of _ (by decide +kernel)) ggX10_triggered_X10_at
theorem dX10_triggered_0 : decode cX10_triggered 0 = .ok (.aload_n 0, 1) := by decide +kernel
theorem dX10_triggered_1 : decode cX10_triggered 1 = .ok (.iconst 0, 1) := by decide +kernel
theorem dX10_triggered_2 : decode cX10_triggered 2 = .ok (.putfield 64, 3) := by decide +kernel
theorem dX10_triggered_5 : decode cX10_triggered 5 = .ok (.iconst 0, 1) := by decide +kernel
theorem dX10_triggered_6 : decode cX10_triggered 6 = .ok (.istore_n 1, 1) := by decide +kernel
theorem dX10_triggered_7 : decode cX10_triggered 7 = .ok (.iconst 0, 1) := by decide +kernel
theorem dX10_triggered_8 : decode cX10_triggered 8 = .ok (.istore_n 2, 1) := by decide +kernel
theorem dX10_triggered_9 : decode cX10_triggered 9 = .ok (.iload_n 2, 1) := by decide +kernel
theorem dX10_triggered_10 : decode cX10_triggered 10 = .ok (.aload_n 0, 1) := by decide +kernel
theorem dX10_triggered_11 : decode cX10_triggered 11 = .ok (.getfield 13, 3) := by decide +kernel
theorem dX10_triggered_14 : decode cX10_triggered 14 = .ok (.iconst 0, 1) := by decide +kernel
theorem dX10_triggered_15 : decode cX10_triggered 15 = .ok (.iaload, 1) := by decide +kernel
theorem dX10_triggered_16 : decode cX10_triggered 16 = .ok (.if_icmp .ge 22, 3) := by decide +kernel
theorem dX10_triggered_19 : decode cX10_triggered 19 = .ok (.iload_n 1, 1) := by decide +kernel
theorem dX10_triggered_20 : decode cX10_triggered 20 = .ok (.aload_n 0, 1) := by decide +kernel
theorem dX10_triggered_21 : decode cX10_triggered 21 = .ok (.getfield 7, 3) := by decide +kernel
theorem dX10_triggered_24 : decode cX10_triggered 24 = .ok (.iload_n 2, 1) := by decide +kernel
theorem dX10_triggered_25 : decode cX10_triggered 25 = .ok (.iconst 1, 1) := by decide +kernel
theorem dX10_triggered_26 : decode cX10_triggered 26 = .ok (.invokestatic 236, 3) := by decide +kernel
theorem dX10_triggered_29 : decode cX10_triggered 29 = .ok (.iaload, 1) := by decide +kernel
theorem dX10_triggered_30 : decode cX10_triggered 30 = .ok (.iadd, 1) := by decide +kernel
theorem dX10_triggered_31 : decode cX10_triggered 31 = .ok (.istore_n 1, 1) := by decide +kernel
theorem dX10_triggered_32 : decode cX10_triggered 32 = .ok (.iinc 2 1, 3) := by decide +kernel
theorem dX10_triggered_35 : decode cX10_triggered 35 = .ok (.goto (-26), 3) := by decide +kernel
theorem dX10_triggered_38 : decode cX10_triggered 38 = .ok (.iload_n 1, 1) := by decide +kernel
theorem dX10_triggered_39 : decode cX10_triggered 39 = .ok (.ireturn, 1) := by decide +kernel
set_option maxRecDepth 20000 in
theorem ggX10_pick_X10_noPick : GoodIn wsX10_pick wsX10_noPick := goodIn_ca (goodIn_r _ [7, 2, 8, 9, 10, 6, 11, 12, 13, 14, 15, 16, 17, 18, 1, 22, 23, 24, 25, 26, 27, 28, 29, 30, 31, 32, 33, 34, 35, 36, 37, 38, 39, 40, 41, 42, 43, 44, 45, 46, 47] (by decide +kernel) (by decide +kernel)) (goodIn_sub (fun _ h => List.mem_cons_of_mem _ (List.mem_append_right _ h)) (by decide +kernel))
set_option maxRecDepth 20000 in
theorem gX10_pick_X10_noPick : GoodIn wsX10_pick (wsV RX10 242 RX10 yX10_noPick wsX10_noPick) := goodIn_app (goodIn_of _ (by decide +kernel)) ggX10_pick_X10_noPick
set_option maxRecDepth 20000 in
theorem ggX10_pick_X10_within : GoodIn wsX10_pick wsX10_within := goodIn_r _ [14] (by decide +kernel) (by decide +kernel)
set_option maxRecDepth 20000 in
theorem gX10_pick_X10_within : GoodIn wsX10_pick (va_wsS RX10 101 yX10_within wsX10_within) := goodIn_app (goodIn_of _ (by decide +kernel)) ggX10_pick_X10_within
set_option maxRecDepth 20000 in
theorem ggX10_pick_X10_throwsIf : GoodIn wsX10_pick wsX10_throwsIf := goodIn_r _ [18, 1, 22, 23, 24, 25, 26, 27, 28, 29, 30, 31, 32, 33, 34, 35, 36, 37, 38, 39, 40, 41, 42, 43, 44, 45, 46, 47] (by decide +kernel) (by decide +kernel)
set_option maxRecDepth 20000 in
theorem gX10_pick_X10_throwsIf : GoodIn wsX10_pick (wsV RX10 177 RX10 yX10_throwsIf wsX10_throwsIf) := goodIn_app (goodIn_of _ (by decide +kernel)) ggX10_pick_X10_throwsIf
set_option maxRecDepth 20000 in
theorem ggX10_pick_X10_of : GoodIn wsX10_pick wsX10_of := goodIn_r _ [21] (by decide +kernel) (by decide +kernel)
set_option maxRecDepth 20000 in
theorem gX10_pick_X10_of : GoodIn wsX10_pick (va_wsS RX10 245 yX10_of wsX10_of) := goodIn_app (goodIn_of _ (by decide +kernel)) ggX10_pick_X10_of
theorem dX10_pick_0 : decode cX10_pick 0 = .ok (.aload_n 0, 1) := by decide +kernel
theorem dX10_pick_1 : decode cX10_pick 1 = .ok (.iconst 0, 1) := by decide +kernel
theorem dX10_pick_2 : decode cX10_pick 2 = .ok (.putfield 64, 3) := by decide +kernel
theorem dX10_pick_5 : decode cX10_pick 5 = .ok (.aload_n 0, 1) := by decide +kernel
theorem dX10_pick_6 : decode cX10_pick 6 = .ok (.iload_n 1, 1) := by decide +kernel
theorem dX10_pick_7 : decode cX10_pick 7 = .ok (.invokevirtual 242, 3) := by decide +kernel
theorem dX10_pick_10 : decode cX10_pick 10 = .ok (.ifCond .ne 25, 3) := by decide +kernel
theorem dX10_pick_13 : decode cX10_pick 13 = .ok (.aload_n 0, 1) := by decide +kernel
theorem dX10_pick_14 : decode cX10_pick 14 = .ok (.iload_n 2, 1) := by decide +kernel
theorem dX10_pick_15 : decode cX10_pick 15 = .ok (.iconst 0, 1) := by decide +kernel
theorem dX10_pick_16 : decode cX10_pick 16 = .ok (.iconst 4, 1) := by decide +kernel
theorem dX10_pick_17 : decode cX10_pick 17 = .ok (.invokestatic 101, 3) := by decide +kernel
theorem dX10_pick_20 : decode cX10_pick 20 = .ok (.ifCond .ne 7, 3) := by decide +kernel
theorem dX10_pick_23 : decode cX10_pick 23 = .ok (.iconst 1, 1) := by decide +kernel
theorem dX10_pick_24 : decode cX10_pick 24 = .ok (.goto 4, 3) := by decide +kernel
theorem dX10_pick_27 : decode cX10_pick 27 = .ok (.iconst 0, 1) := by decide +kernel
theorem dX10_pick_28 : decode cX10_pick 28 = .ok (.iconst 2, 1) := by decide +kernel
theorem dX10_pick_29 : decode cX10_pick 29 = .ok (.invokevirtual 177, 3) := by decide +kernel
theorem dX10_pick_32 : decode cX10_pick 32 = .ok (.ifCond .eq 7, 3) := by decide +kernel
theorem dX10_pick_35 : decode cX10_pick 35 = .ok (.iconst 0, 1) := by decide +kernel
theorem dX10_pick_36 : decode cX10_pick 36 = .ok (.goto 13, 3) := by decide +kernel
theorem dX10_pick_39 : decode cX10_pick 39 = .ok (.aload_n 0, 1) := by decide +kernel
theorem dX10_pick_40 : decode cX10_pick 40 = .ok (.getfield 7, 3) := by decide +kernel
theorem dX10_pick_43 : decode cX10_pick 43 = .ok (.iload_n 1, 1) := by decide +kernel
theorem dX10_pick_44 : decode cX10_pick 44 = .ok (.iload_n 2, 1) := by decide +kernel
theorem dX10_pick_45 : decode cX10_pick 45 = .ok (.invokestatic 245, 3) := by decide +kernel
theorem dX10_pick_48 : decode cX10_pick 48 = .ok (.iaload, 1) := by decide +kernel
theorem dX10_pick_49 : decode cX10_pick 49 = .ok (.ireturn, 1) := by decide +kernel
set_option maxRecDepth 20000 in
theorem ggX10_areFit_X10_of : GoodIn wsX10_areFit wsX10_of := goodIn_r _ [6] (by decide +kernel) (by decide +kernel)
set_option maxRecDepth 20000 in
theorem gX10_areFit_X10_of : GoodIn wsX10_areFit (va_wsS RX10 245 yX10_of wsX10_of) := goodIn_app (goodIn_of _ (by decide +kernel)) ggX10_areFit_X10_of
set_option maxRecDepth 20000 in
theorem ggX10_areFit_X10_timeBetween : GoodIn wsX10_areFit wsX10_timeBetween := goodIn_ca (goodIn_r _ [10, 11, 12, 13, 14, 5, 15, 16, 17, 18, 19, 2, 20, 21, 22, 23, 24, 25, 26, 27, 28, 29, 30, 31, 32, 33, 34, 35, 36, 37, 38, 39, 40, 41, 42, 43, 44, 45] (by decide +kernel) (by decide +kernel)) (goodIn_sub (fun _ h => List.mem_cons_of_mem _ (List.mem_append_right _ h)) (by decide +kernel))
set_option maxRecDepth 20000 in
theorem gX10_areFit_X10_timeBetween : GoodIn wsX10_areFit (wsV RX10 218 RX10 yX10_timeBetween wsX10_timeBetween) := goodIn_app (goodIn_of _ (by decide +kernel)) ggX10_areFit_X10_timeBetween
theorem dX10_areFit_0 : decode cX10_areFit 0 = .ok (.aload_n 0, 1) := by decide +kernel
theorem dX10_areFit_1 : decode cX10_areFit 1 = .ok (.getfield 7, 3) := by decide +kernel
theorem dX10_areFit_4 : decode cX10_areFit 4 = .ok (.iload_n 1, 1) := by decide +kernel
theorem dX10_areFit_5 : decode cX10_areFit 5 = .ok (.iconst 0, 1) := by decide +kernel
theorem dX10_areFit_6 : decode cX10_areFit 6 = .ok (.invokestatic 245, 3) := by decide +kernel
theorem dX10_areFit_9 : decode cX10_areFit 9 = .ok (.iaload, 1) := by decide +kernel
theorem dX10_areFit_10 : decode cX10_areFit 10 = .ok (.istore_n 3, 1) := by decide +kernel
theorem dX10_areFit_11 : decode cX10_areFit 11 = .ok (.aload_n 0, 1) := by decide +kernel
theorem dX10_areFit_12 : decode cX10_areFit 12 = .ok (.getfield 7, 3) := by decide +kernel
theorem dX10_areFit_15 : decode cX10_areFit 15 = .ok (.iload_n 2, 1) := by decide +kernel
theorem dX10_areFit_16 : decode cX10_areFit 16 = .ok (.iconst 0, 1) := by decide +kernel
theorem dX10_areFit_17 : decode cX10_areFit 17 = .ok (.invokestatic 245, 3) := by decide +kernel
theorem dX10_areFit_20 : decode cX10_areFit 20 = .ok (.iaload, 1) := by decide +kernel
theorem dX10_areFit_21 : decode cX10_areFit 21 = .ok (.istore 4, 2) := by decide +kernel
theorem dX10_areFit_23 : decode cX10_areFit 23 = .ok (.iload_n 3, 1) := by decide +kernel
theorem dX10_areFit_24 : decode cX10_areFit 24 = .ok (.iload 4, 2) := by decide +kernel
theorem dX10_areFit_26 : decode cX10_areFit 26 = .ok (.if_icmp .eq 31, 3) := by decide +kernel
theorem dX10_areFit_29 : decode cX10_areFit 29 = .ok (.aload_n 0, 1) := by decide +kernel
theorem dX10_areFit_30 : decode cX10_areFit 30 = .ok (.getfield 7, 3) := by decide +kernel
theorem dX10_areFit_33 : decode cX10_areFit 33 = .ok (.iload_n 1, 1) := by decide +kernel
theorem dX10_areFit_34 : decode cX10_areFit 34 = .ok (.iconst 4, 1) := by decide +kernel
theorem dX10_areFit_35 : decode cX10_areFit 35 = .ok (.invokestatic 245, 3) := by decide +kernel
theorem dX10_areFit_38 : decode cX10_areFit 38 = .ok (.iaload, 1) := by decide +kernel
theorem dX10_areFit_39 : decode cX10_areFit 39 = .ok (.iconst 1, 1) := by decide +kernel
theorem dX10_areFit_40 : decode cX10_areFit 40 = .ok (.if_icmp .eq 17, 3) := by decide +kernel
theorem dX10_areFit_43 : decode cX10_areFit 43 = .ok (.aload_n 0, 1) := by decide +kernel
theorem dX10_areFit_44 : decode cX10_areFit 44 = .ok (.getfield 7, 3) := by decide +kernel
theorem dX10_areFit_47 : decode cX10_areFit 47 = .ok (.iload_n 2, 1) := by decide +kernel
theorem dX10_areFit_48 : decode cX10_areFit 48 = .ok (.iconst 4, 1) := by decide +kernel
theorem dX10_areFit_49 : decode cX10_areFit 49 = .ok (.invokestatic 245, 3) := by decide +kernel
theorem dX10_areFit_52 : decode cX10_areFit 52 = .ok (.iaload, 1) := by decide +kernel
theorem dX10_areFit_53 : decode cX10_areFit 53 = .ok (.iconst 1, 1) := by decide +kernel
theorem dX10_areFit_54 : decode cX10_areFit 54 = .ok (.if_icmp .ne 5, 3) := by decide +kernel
theorem dX10_areFit_57 : decode cX10_areFit 57 = .ok (.iconst 0, 1) := by decide +kernel
theorem dX10_areFit_58 : decode cX10_areFit 58 = .ok (.ireturn, 1) := by decide +kernel
theorem dX10_areFit_59 : decode cX10_areFit 59 = .ok (.aload_n 0, 1) := by decide +kernel
theorem dX10_areFit_60 : decode cX10_areFit 60 = .ok (.getfield 7, 3) := by decide +kernel
theorem dX10_areFit_63 : decode cX10_areFit 63 = .ok (.iload_n 1, 1) := by decide +kernel
theorem dX10_areFit_64 : decode cX10_areFit 64 = .ok (.iconst 1, 1) := by decide +kernel
theorem dX10_areFit_65 : decode cX10_areFit 65 = .ok (.invokestatic 245, 3) := by decide +kernel
theorem dX10_areFit_68 : decode cX10_areFit 68 = .ok (.iaload, 1) := by decide +kernel
theorem dX10_areFit_69 : decode cX10_areFit 69 = .ok (.aload_n 0, 1) := by decide +kernel
theorem dX10_areFit_70 : decode cX10_areFit 70 = .ok (.getfield 7, 3) := by decide +kernel
theorem dX10_areFit_73 : decode cX10_areFit 73 = .ok (.iload_n 2, 1) := by decide +kernel
theorem dX10_areFit_74 : decode cX10_areFit 74 = .ok (.iconst 1, 1) := by decide +kernel
theorem dX10_areFit_75 : decode cX10_areFit 75 = .ok (.invokestatic 245, 3) := by decide +kernel
theorem dX10_areFit_78 : decode cX10_areFit 78 = .ok (.iaload, 1) := by decide +kernel
theorem dX10_areFit_79 : decode cX10_areFit 79 = .ok (.isub, 1) := by decide +kernel
theorem dX10_areFit_80 : decode cX10_areFit 80 = .ok (.istore 5, 2) := by decide +kernel
theorem dX10_areFit_82 : decode cX10_areFit 82 = .ok (.iload 5, 2) := by decide +kernel
theorem dX10_areFit_84 : decode cX10_areFit 84 = .ok (.ifCond .ge 9, 3) := by decide +kernel
theorem dX10_areFit_87 : decode cX10_areFit 87 = .ok (.iload 5, 2) := by decide +kernel
theorem dX10_areFit_89 : decode cX10_areFit 89 = .ok (.ineg, 1) := by decide +kernel
theorem dX10_areFit_90 : decode cX10_areFit 90 = .ok (.goto 5, 3) := by decide +kernel
theorem dX10_areFit_93 : decode cX10_areFit 93 = .ok (.iload 5, 2) := by decide +kernel
theorem dX10_areFit_95 : decode cX10_areFit 95 = .ok (.aload_n 0, 1) := by decide +kernel
theorem dX10_areFit_96 : decode cX10_areFit 96 = .ok (.iload_n 3, 1) := by decide +kernel
theorem dX10_areFit_97 : decode cX10_areFit 97 = .ok (.iload 4, 2) := by decide +kernel
theorem dX10_areFit_99 : decode cX10_areFit 99 = .ok (.invokevirtual 218, 3) := by decide +kernel
theorem dX10_areFit_102 : decode cX10_areFit 102 = .ok (.aload_n 0, 1) := by decide +kernel
theorem dX10_areFit_103 : decode cX10_areFit 103 = .ok (.getfield 13, 3) := by decide +kernel
theorem dX10_areFit_106 : decode cX10_areFit 106 = .ok (.bipush 13, 2) := by decide +kernel
theorem dX10_areFit_108 : decode cX10_areFit 108 = .ok (.iaload, 1) := by decide +kernel
theorem dX10_areFit_109 : decode cX10_areFit 109 = .ok (.iadd, 1) := by decide +kernel
theorem dX10_areFit_110 : decode cX10_areFit 110 = .ok (.if_icmp .gt 7, 3) := by decide +kernel
theorem dX10_areFit_113 : decode cX10_areFit 113 = .ok (.iconst 1, 1) := by decide +kernel
theorem dX10_areFit_114 : decode cX10_areFit 114 = .ok (.goto 4, 3) := by decide +kernel
theorem dX10_areFit_117 : decode cX10_areFit 117 = .ok (.iconst 0, 1) := by decide +kernel
theorem dX10_areFit_118 : decode cX10_areFit 118 = .ok (.ireturn, 1) := by decide +kernel
set_option maxRecDepth 20000 in
theorem ggX10_fits_X10_noPick : GoodIn wsX10_fits wsX10_noPick := goodIn_ca (goodIn_r _ [6, 7, 8, 9, 10, 5, 11, 12, 13, 14, 15, 16, 17, 18, 1, 40, 41, 42, 43, 44, 45, 46, 47, 48, 49, 50, 51, 52, 53, 54, 55, 56, 57, 58, 59, 60, 61, 62, 63, 64, 65] (by decide +kernel) (by decide +kernel)) (goodIn_sub (fun _ h => List.mem_cons_of_mem _ (List.mem_append_right _ h)) (by decide +kernel))
set_option maxRecDepth 20000 in
theorem gX10_fits_X10_noPick : GoodIn wsX10_fits (wsV RX10 242 RX10 yX10_noPick wsX10_noPick) := goodIn_app (goodIn_of _ (by decide +kernel)) ggX10_fits_X10_noPick
set_option maxRecDepth 20000 in
theorem ggX10_fits_X10_areFit : GoodIn wsX10_fits wsX10_areFit := goodIn_ca (goodIn_r _ [22, 7, 23, 24, 25, 5, 26, 27, 28, 29, 30, 31, 32, 33, 34, 35, 36, 37, 38, 39, 40, 41, 42, 43, 44, 45, 46, 47, 48, 49, 50, 51, 52, 53, 54, 55, 56, 57, 58, 59, 60, 61, 62, 63, 64, 65] (by decide +kernel) (by decide +kernel)) (goodIn_sub (fun _ h => List.mem_cons_of_mem _ (List.mem_append_right _ h)) (by decide +kernel))
set_option maxRecDepth 20000 in
theorem gX10_fits_X10_areFit : GoodIn wsX10_fits (wsV RX10 248 RX10 yX10_areFit wsX10_areFit) := goodIn_app (goodIn_of _ (by decide +kernel)) ggX10_fits_X10_areFit
theorem dX10_fits_0 : decode cX10_fits 0 = .ok (.aload_n 0, 1) := by decide +kernel
theorem dX10_fits_1 : decode cX10_fits 1 = .ok (.iconst 0, 1) := by decide +kernel
theorem dX10_fits_2 : decode cX10_fits 2 = .ok (.putfield 64, 3) := by decide +kernel
theorem dX10_fits_5 : decode cX10_fits 5 = .ok (.aload_n 0, 1) := by decide +kernel
theorem dX10_fits_6 : decode cX10_fits 6 = .ok (.iload_n 1, 1) := by decide +kernel
theorem dX10_fits_7 : decode cX10_fits 7 = .ok (.invokevirtual 242, 3) := by decide +kernel
theorem dX10_fits_10 : decode cX10_fits 10 = .ok (.ifCond .ne 24, 3) := by decide +kernel
theorem dX10_fits_13 : decode cX10_fits 13 = .ok (.aload_n 0, 1) := by decide +kernel
theorem dX10_fits_14 : decode cX10_fits 14 = .ok (.iload_n 2, 1) := by decide +kernel
theorem dX10_fits_15 : decode cX10_fits 15 = .ok (.invokevirtual 242, 3) := by decide +kernel
theorem dX10_fits_18 : decode cX10_fits 18 = .ok (.ifCond .ne 16, 3) := by decide +kernel
theorem dX10_fits_21 : decode cX10_fits 21 = .ok (.aload_n 0, 1) := by decide +kernel
theorem dX10_fits_22 : decode cX10_fits 22 = .ok (.iload_n 1, 1) := by decide +kernel
theorem dX10_fits_23 : decode cX10_fits 23 = .ok (.iload_n 2, 1) := by decide +kernel
theorem dX10_fits_24 : decode cX10_fits 24 = .ok (.invokevirtual 248, 3) := by decide +kernel
theorem dX10_fits_27 : decode cX10_fits 27 = .ok (.ifCond .eq 7, 3) := by decide +kernel
theorem dX10_fits_30 : decode cX10_fits 30 = .ok (.iconst 1, 1) := by decide +kernel
theorem dX10_fits_31 : decode cX10_fits 31 = .ok (.goto 4, 3) := by decide +kernel
theorem dX10_fits_34 : decode cX10_fits 34 = .ok (.iconst 0, 1) := by decide +kernel
theorem dX10_fits_35 : decode cX10_fits 35 = .ok (.ireturn, 1) := by decide +kernel
set_option maxRecDepth 20000 in
theorem ggX10_picksOf_X10_of : GoodIn wsX10_picksOf wsX10_of := goodIn_r _ [5] (by decide +kernel) (by decide +kernel)
set_option maxRecDepth 20000 in
theorem gX10_picksOf_X10_of : GoodIn wsX10_picksOf (va_wsS RX10 245 yX10_of wsX10_of) := goodIn_app (goodIn_of _ (by decide +kernel)) ggX10_picksOf_X10_of
theorem dX10_picksOf_0 : decode cX10_picksOf 0 = .ok (.iconst 0, 1) := by decide +kernel
theorem dX10_picksOf_1 : decode cX10_picksOf 1 = .ok (.istore_n 2, 1) := by decide +kernel
theorem dX10_picksOf_2 : decode cX10_picksOf 2 = .ok (.iconst 0, 1) := by decide +kernel
theorem dX10_picksOf_3 : decode cX10_picksOf 3 = .ok (.istore_n 3, 1) := by decide +kernel
theorem dX10_picksOf_4 : decode cX10_picksOf 4 = .ok (.iload_n 3, 1) := by decide +kernel
theorem dX10_picksOf_5 : decode cX10_picksOf 5 = .ok (.aload_n 0, 1) := by decide +kernel
theorem dX10_picksOf_6 : decode cX10_picksOf 6 = .ok (.getfield 7, 3) := by decide +kernel
theorem dX10_picksOf_9 : decode cX10_picksOf 9 = .ok (.iconst 1, 1) := by decide +kernel
theorem dX10_picksOf_10 : decode cX10_picksOf 10 = .ok (.iaload, 1) := by decide +kernel
theorem dX10_picksOf_11 : decode cX10_picksOf 11 = .ok (.if_icmp .ge 31, 3) := by decide +kernel
theorem dX10_picksOf_14 : decode cX10_picksOf 14 = .ok (.iload_n 2, 1) := by decide +kernel
theorem dX10_picksOf_15 : decode cX10_picksOf 15 = .ok (.aload_n 0, 1) := by decide +kernel
theorem dX10_picksOf_16 : decode cX10_picksOf 16 = .ok (.getfield 7, 3) := by decide +kernel
theorem dX10_picksOf_19 : decode cX10_picksOf 19 = .ok (.iload_n 3, 1) := by decide +kernel
theorem dX10_picksOf_20 : decode cX10_picksOf 20 = .ok (.iconst 3, 1) := by decide +kernel
theorem dX10_picksOf_21 : decode cX10_picksOf 21 = .ok (.invokestatic 245, 3) := by decide +kernel
theorem dX10_picksOf_24 : decode cX10_picksOf 24 = .ok (.iaload, 1) := by decide +kernel
theorem dX10_picksOf_25 : decode cX10_picksOf 25 = .ok (.iload_n 1, 1) := by decide +kernel
theorem dX10_picksOf_26 : decode cX10_picksOf 26 = .ok (.if_icmp .ne 7, 3) := by decide +kernel
theorem dX10_picksOf_29 : decode cX10_picksOf 29 = .ok (.iconst 1, 1) := by decide +kernel
theorem dX10_picksOf_30 : decode cX10_picksOf 30 = .ok (.goto 4, 3) := by decide +kernel
theorem dX10_picksOf_33 : decode cX10_picksOf 33 = .ok (.iconst 0, 1) := by decide +kernel
theorem dX10_picksOf_34 : decode cX10_picksOf 34 = .ok (.iadd, 1) := by decide +kernel
theorem dX10_picksOf_35 : decode cX10_picksOf 35 = .ok (.istore_n 2, 1) := by decide +kernel
theorem dX10_picksOf_36 : decode cX10_picksOf 36 = .ok (.iinc 3 1, 3) := by decide +kernel
theorem dX10_picksOf_39 : decode cX10_picksOf 39 = .ok (.goto (-35), 3) := by decide +kernel
theorem dX10_picksOf_42 : decode cX10_picksOf 42 = .ok (.iload_n 2, 1) := by decide +kernel
theorem dX10_picksOf_43 : decode cX10_picksOf 43 = .ok (.ireturn, 1) := by decide +kernel
set_option maxRecDepth 20000 in
theorem ggX10_fitsAll_X10_of : GoodIn wsX10_fitsAll wsX10_of := goodIn_r _ [5] (by decide +kernel) (by decide +kernel)
set_option maxRecDepth 20000 in
theorem gX10_fitsAll_X10_of : GoodIn wsX10_fitsAll (va_wsS RX10 245 yX10_of wsX10_of) := goodIn_app (goodIn_of _ (by decide +kernel)) ggX10_fitsAll_X10_of
set_option maxRecDepth 20000 in
theorem ggX10_fitsAll_X10_areFit : GoodIn wsX10_fitsAll wsX10_areFit := goodIn_ca (goodIn_r _ [9, 1, 10, 2, 3, 4, 5, 11, 12, 13, 14, 15, 16, 17, 18, 19, 20, 21, 22, 23, 24, 25, 26, 27, 28, 29, 30, 31, 32, 33, 34, 35, 36, 37, 38, 39, 40, 41, 42, 43, 44, 45, 46, 47, 48, 49] (by decide +kernel) (by decide +kernel)) (goodIn_sub (fun _ h => List.mem_cons_of_mem _ (List.mem_append_right _ h)) (by decide +kernel))
set_option maxRecDepth 20000 in
theorem gX10_fitsAll_X10_areFit : GoodIn wsX10_fitsAll (wsV RX10 248 RX10 yX10_areFit wsX10_areFit) := goodIn_app (goodIn_of _ (by decide +kernel)) ggX10_fitsAll_X10_areFit
theorem dX10_fitsAll_0 : decode cX10_fitsAll 0 = .ok (.iconst 1, 1) := by decide +kernel
theorem dX10_fitsAll_1 : decode cX10_fitsAll 1 = .ok (.istore_n 3, 1) := by decide +kernel
theorem dX10_fitsAll_2 : decode cX10_fitsAll 2 = .ok (.iconst 0, 1) := by decide +kernel
theorem dX10_fitsAll_3 : decode cX10_fitsAll 3 = .ok (.istore 4, 2) := by decide +kernel
theorem dX10_fitsAll_5 : decode cX10_fitsAll 5 = .ok (.iload 4, 2) := by decide +kernel
theorem dX10_fitsAll_7 : decode cX10_fitsAll 7 = .ok (.aload_n 0, 1) := by decide +kernel
theorem dX10_fitsAll_8 : decode cX10_fitsAll 8 = .ok (.getfield 7, 3) := by decide +kernel
theorem dX10_fitsAll_11 : decode cX10_fitsAll 11 = .ok (.iconst 1, 1) := by decide +kernel
theorem dX10_fitsAll_12 : decode cX10_fitsAll 12 = .ok (.iaload, 1) := by decide +kernel
theorem dX10_fitsAll_13 : decode cX10_fitsAll 13 = .ok (.if_icmp .ge 50, 3) := by decide +kernel
theorem dX10_fitsAll_16 : decode cX10_fitsAll 16 = .ok (.iload_n 3, 1) := by decide +kernel
theorem dX10_fitsAll_17 : decode cX10_fitsAll 17 = .ok (.ifCond .eq 46, 3) := by decide +kernel
theorem dX10_fitsAll_20 : decode cX10_fitsAll 20 = .ok (.iload 4, 2) := by decide +kernel
theorem dX10_fitsAll_22 : decode cX10_fitsAll 22 = .ok (.iload_n 1, 1) := by decide +kernel
theorem dX10_fitsAll_23 : decode cX10_fitsAll 23 = .ok (.if_icmp .eq 28, 3) := by decide +kernel
theorem dX10_fitsAll_26 : decode cX10_fitsAll 26 = .ok (.aload_n 0, 1) := by decide +kernel
theorem dX10_fitsAll_27 : decode cX10_fitsAll 27 = .ok (.getfield 7, 3) := by decide +kernel
theorem dX10_fitsAll_30 : decode cX10_fitsAll 30 = .ok (.iload 4, 2) := by decide +kernel
theorem dX10_fitsAll_32 : decode cX10_fitsAll 32 = .ok (.iconst 3, 1) := by decide +kernel
theorem dX10_fitsAll_33 : decode cX10_fitsAll 33 = .ok (.invokestatic 245, 3) := by decide +kernel
theorem dX10_fitsAll_36 : decode cX10_fitsAll 36 = .ok (.iaload, 1) := by decide +kernel
theorem dX10_fitsAll_37 : decode cX10_fitsAll 37 = .ok (.iload_n 2, 1) := by decide +kernel
theorem dX10_fitsAll_38 : decode cX10_fitsAll 38 = .ok (.if_icmp .ne 13, 3) := by decide +kernel
theorem dX10_fitsAll_41 : decode cX10_fitsAll 41 = .ok (.aload_n 0, 1) := by decide +kernel
theorem dX10_fitsAll_42 : decode cX10_fitsAll 42 = .ok (.iload_n 1, 1) := by decide +kernel
theorem dX10_fitsAll_43 : decode cX10_fitsAll 43 = .ok (.iload 4, 2) := by decide +kernel
theorem dX10_fitsAll_45 : decode cX10_fitsAll 45 = .ok (.invokevirtual 248, 3) := by decide +kernel
theorem dX10_fitsAll_48 : decode cX10_fitsAll 48 = .ok (.ifCond .eq 7, 3) := by decide +kernel
theorem dX10_fitsAll_51 : decode cX10_fitsAll 51 = .ok (.iconst 1, 1) := by decide +kernel
theorem dX10_fitsAll_52 : decode cX10_fitsAll 52 = .ok (.goto 4, 3) := by decide +kernel
theorem dX10_fitsAll_55 : decode cX10_fitsAll 55 = .ok (.iconst 0, 1) := by decide +kernel
theorem dX10_fitsAll_56 : decode cX10_fitsAll 56 = .ok (.istore_n 3, 1) := by decide +kernel
theorem dX10_fitsAll_57 : decode cX10_fitsAll 57 = .ok (.iinc 4 1, 3) := by decide +kernel
theorem dX10_fitsAll_60 : decode cX10_fitsAll 60 = .ok (.goto (-55), 3) := by decide +kernel
theorem dX10_fitsAll_63 : decode cX10_fitsAll 63 = .ok (.iload_n 3, 1) := by decide +kernel
theorem dX10_fitsAll_64 : decode cX10_fitsAll 64 = .ok (.ireturn, 1) := by decide +kernel
set_option maxRecDepth 20000 in
theorem ggX10_votes_X10_isRetracted : GoodIn wsX10_votes wsX10_isRetracted := goodIn_ca (goodIn_r _ [7, 1, 36, 37, 38, 39, 40, 41, 42, 43, 44, 45, 46, 47, 48, 49, 50, 51, 52, 53, 54, 55, 56, 57, 58, 59, 60, 61] (by decide +kernel) (by decide +kernel)) (goodIn_sub (fun _ h => List.mem_cons_of_mem _ (List.mem_append_right _ h)) (by decide +kernel))
set_option maxRecDepth 20000 in
theorem gX10_votes_X10_isRetracted : GoodIn wsX10_votes (wsV RX10 193 RX10 yX10_isRetracted wsX10_isRetracted) := goodIn_app (goodIn_of _ (by decide +kernel)) ggX10_votes_X10_isRetracted
set_option maxRecDepth 20000 in
theorem ggX10_votes_X10_fitsAll : GoodIn wsX10_votes wsX10_fitsAll := goodIn_ca (goodIn_r _ [11, 1, 12, 13, 6, 14, 15, 16, 17, 18, 2, 19, 20, 21, 22, 23, 24, 25, 26, 27, 28, 29, 30, 31, 36, 37, 38, 39, 40, 41, 42, 43, 44, 45, 46, 47, 48, 49, 50, 51, 52, 53, 54, 55, 56, 57, 58, 59, 60, 61] (by decide +kernel) (by decide +kernel)) (goodIn_sub (fun _ h => List.mem_cons_of_mem _ (List.mem_append_right _ h)) (by decide +kernel))
set_option maxRecDepth 20000 in
theorem gX10_votes_X10_fitsAll : GoodIn wsX10_votes (wsV RX10 251 RX10 yX10_fitsAll wsX10_fitsAll) := goodIn_app (goodIn_of _ (by decide +kernel)) ggX10_votes_X10_fitsAll
set_option maxRecDepth 20000 in
theorem ggX10_votes_X10_of : GoodIn wsX10_votes wsX10_of := goodIn_r _ [14] (by decide +kernel) (by decide +kernel)
set_option maxRecDepth 20000 in
theorem gX10_votes_X10_of : GoodIn wsX10_votes (va_wsS RX10 245 yX10_of wsX10_of) := goodIn_app (goodIn_of _ (by decide +kernel)) ggX10_votes_X10_of
set_option maxRecDepth 20000 in
theorem ggX10_votes_X10_frees : GoodIn wsX10_votes wsX10_frees := goodIn_ca (goodIn_r _ [35, 1, 12, 13, 6, 14, 36, 37, 38, 39, 40, 41, 42, 43, 44, 45, 46, 47, 48, 49, 50, 51, 52, 53, 54, 55, 56, 57, 58, 59, 60, 61] (by decide +kernel) (by decide +kernel)) (goodIn_sub (fun _ h => List.mem_cons_of_mem _ (List.mem_append_right _ h)) (by decide +kernel))
set_option maxRecDepth 20000 in
theorem gX10_votes_X10_frees : GoodIn wsX10_votes (wsV RX10 254 RX10 yX10_frees wsX10_frees) := goodIn_app (goodIn_of _ (by decide +kernel)) ggX10_votes_X10_frees
theorem dX10_votes_0 : decode cX10_votes 0 = .ok (.iconst 0, 1) := by decide +kernel
theorem dX10_votes_1 : decode cX10_votes 1 = .ok (.istore_n 2, 1) := by decide +kernel
theorem dX10_votes_2 : decode cX10_votes 2 = .ok (.iload_n 2, 1) := by decide +kernel
theorem dX10_votes_3 : decode cX10_votes 3 = .ok (.aload_n 0, 1) := by decide +kernel
theorem dX10_votes_4 : decode cX10_votes 4 = .ok (.getfield 7, 3) := by decide +kernel
theorem dX10_votes_7 : decode cX10_votes 7 = .ok (.iconst 2, 1) := by decide +kernel
theorem dX10_votes_8 : decode cX10_votes 8 = .ok (.iaload, 1) := by decide +kernel
theorem dX10_votes_9 : decode cX10_votes 9 = .ok (.if_icmp .ge 38, 3) := by decide +kernel
theorem dX10_votes_12 : decode cX10_votes 12 = .ok (.aload_n 0, 1) := by decide +kernel
theorem dX10_votes_13 : decode cX10_votes 13 = .ok (.iload_n 2, 1) := by decide +kernel
theorem dX10_votes_14 : decode cX10_votes 14 = .ok (.invokevirtual 193, 3) := by decide +kernel
theorem dX10_votes_17 : decode cX10_votes 17 = .ok (.ifCond .ne 24, 3) := by decide +kernel
theorem dX10_votes_20 : decode cX10_votes 20 = .ok (.aload_n 0, 1) := by decide +kernel
theorem dX10_votes_21 : decode cX10_votes 21 = .ok (.iload_n 1, 1) := by decide +kernel
theorem dX10_votes_22 : decode cX10_votes 22 = .ok (.iload_n 2, 1) := by decide +kernel
theorem dX10_votes_23 : decode cX10_votes 23 = .ok (.invokevirtual 251, 3) := by decide +kernel
theorem dX10_votes_26 : decode cX10_votes 26 = .ok (.ifCond .eq 15, 3) := by decide +kernel
theorem dX10_votes_29 : decode cX10_votes 29 = .ok (.aload_n 0, 1) := by decide +kernel
theorem dX10_votes_30 : decode cX10_votes 30 = .ok (.getfield 7, 3) := by decide +kernel
theorem dX10_votes_33 : decode cX10_votes 33 = .ok (.iload_n 1, 1) := by decide +kernel
theorem dX10_votes_34 : decode cX10_votes 34 = .ok (.iconst 3, 1) := by decide +kernel
theorem dX10_votes_35 : decode cX10_votes 35 = .ok (.invokestatic 245, 3) := by decide +kernel
theorem dX10_votes_38 : decode cX10_votes 38 = .ok (.iload_n 2, 1) := by decide +kernel
theorem dX10_votes_39 : decode cX10_votes 39 = .ok (.iastore, 1) := by decide +kernel
theorem dX10_votes_40 : decode cX10_votes 40 = .ok (.return_, 1) := by decide +kernel
theorem dX10_votes_41 : decode cX10_votes 41 = .ok (.iinc 2 1, 3) := by decide +kernel
theorem dX10_votes_44 : decode cX10_votes 44 = .ok (.goto (-42), 3) := by decide +kernel
theorem dX10_votes_47 : decode cX10_votes 47 = .ok (.aload_n 0, 1) := by decide +kernel
theorem dX10_votes_48 : decode cX10_votes 48 = .ok (.getfield 7, 3) := by decide +kernel
theorem dX10_votes_51 : decode cX10_votes 51 = .ok (.iconst 2, 1) := by decide +kernel
theorem dX10_votes_52 : decode cX10_votes 52 = .ok (.iaload, 1) := by decide +kernel
theorem dX10_votes_53 : decode cX10_votes 53 = .ok (.istore_n 2, 1) := by decide +kernel
theorem dX10_votes_54 : decode cX10_votes 54 = .ok (.aload_n 0, 1) := by decide +kernel
theorem dX10_votes_55 : decode cX10_votes 55 = .ok (.getfield 7, 3) := by decide +kernel
theorem dX10_votes_58 : decode cX10_votes 58 = .ok (.iload_n 1, 1) := by decide +kernel
theorem dX10_votes_59 : decode cX10_votes 59 = .ok (.iconst 3, 1) := by decide +kernel
theorem dX10_votes_60 : decode cX10_votes 60 = .ok (.invokestatic 245, 3) := by decide +kernel
theorem dX10_votes_63 : decode cX10_votes 63 = .ok (.iload_n 2, 1) := by decide +kernel
theorem dX10_votes_64 : decode cX10_votes 64 = .ok (.iastore, 1) := by decide +kernel
theorem dX10_votes_65 : decode cX10_votes 65 = .ok (.iconst 1, 1) := by decide +kernel
theorem dX10_votes_66 : decode cX10_votes 66 = .ok (.istore_n 3, 1) := by decide +kernel
theorem dX10_votes_67 : decode cX10_votes 67 = .ok (.iconst 0, 1) := by decide +kernel
theorem dX10_votes_68 : decode cX10_votes 68 = .ok (.istore 4, 2) := by decide +kernel
theorem dX10_votes_70 : decode cX10_votes 70 = .ok (.iload 4, 2) := by decide +kernel
theorem dX10_votes_72 : decode cX10_votes 72 = .ok (.aload_n 0, 1) := by decide +kernel
theorem dX10_votes_73 : decode cX10_votes 73 = .ok (.getfield 7, 3) := by decide +kernel
theorem dX10_votes_76 : decode cX10_votes 76 = .ok (.iconst 1, 1) := by decide +kernel
theorem dX10_votes_77 : decode cX10_votes 77 = .ok (.iaload, 1) := by decide +kernel
theorem dX10_votes_78 : decode cX10_votes 78 = .ok (.if_icmp .ge 63, 3) := by decide +kernel
theorem dX10_votes_81 : decode cX10_votes 81 = .ok (.aload_n 0, 1) := by decide +kernel
theorem dX10_votes_82 : decode cX10_votes 82 = .ok (.getfield 7, 3) := by decide +kernel
theorem dX10_votes_85 : decode cX10_votes 85 = .ok (.iload 4, 2) := by decide +kernel
theorem dX10_votes_87 : decode cX10_votes 87 = .ok (.iconst 3, 1) := by decide +kernel
theorem dX10_votes_88 : decode cX10_votes 88 = .ok (.invokestatic 245, 3) := by decide +kernel
theorem dX10_votes_91 : decode cX10_votes 91 = .ok (.iaload, 1) := by decide +kernel
theorem dX10_votes_92 : decode cX10_votes 92 = .ok (.iconst (-1), 1) := by decide +kernel
theorem dX10_votes_93 : decode cX10_votes 93 = .ok (.if_icmp .ne 42, 3) := by decide +kernel
theorem dX10_votes_96 : decode cX10_votes 96 = .ok (.aload_n 0, 1) := by decide +kernel
theorem dX10_votes_97 : decode cX10_votes 97 = .ok (.getfield 7, 3) := by decide +kernel
theorem dX10_votes_100 : decode cX10_votes 100 = .ok (.iload 4, 2) := by decide +kernel
theorem dX10_votes_102 : decode cX10_votes 102 = .ok (.iconst 4, 1) := by decide +kernel
theorem dX10_votes_103 : decode cX10_votes 103 = .ok (.invokestatic 245, 3) := by decide +kernel
theorem dX10_votes_106 : decode cX10_votes 106 = .ok (.iaload, 1) := by decide +kernel
theorem dX10_votes_107 : decode cX10_votes 107 = .ok (.ifCond .ne 28, 3) := by decide +kernel
theorem dX10_votes_110 : decode cX10_votes 110 = .ok (.aload_n 0, 1) := by decide +kernel
theorem dX10_votes_111 : decode cX10_votes 111 = .ok (.iload 4, 2) := by decide +kernel
theorem dX10_votes_113 : decode cX10_votes 113 = .ok (.iload_n 2, 1) := by decide +kernel
theorem dX10_votes_114 : decode cX10_votes 114 = .ok (.invokevirtual 251, 3) := by decide +kernel
theorem dX10_votes_117 : decode cX10_votes 117 = .ok (.ifCond .eq 18, 3) := by decide +kernel
theorem dX10_votes_120 : decode cX10_votes 120 = .ok (.aload_n 0, 1) := by decide +kernel
theorem dX10_votes_121 : decode cX10_votes 121 = .ok (.getfield 7, 3) := by decide +kernel
theorem dX10_votes_124 : decode cX10_votes 124 = .ok (.iload 4, 2) := by decide +kernel
theorem dX10_votes_126 : decode cX10_votes 126 = .ok (.iconst 3, 1) := by decide +kernel
theorem dX10_votes_127 : decode cX10_votes 127 = .ok (.invokestatic 245, 3) := by decide +kernel
theorem dX10_votes_130 : decode cX10_votes 130 = .ok (.iload_n 2, 1) := by decide +kernel
theorem dX10_votes_131 : decode cX10_votes 131 = .ok (.iastore, 1) := by decide +kernel
theorem dX10_votes_132 : decode cX10_votes 132 = .ok (.iinc 3 1, 3) := by decide +kernel
theorem dX10_votes_135 : decode cX10_votes 135 = .ok (.iinc 4 1, 3) := by decide +kernel
theorem dX10_votes_138 : decode cX10_votes 138 = .ok (.goto (-68), 3) := by decide +kernel
theorem dX10_votes_141 : decode cX10_votes 141 = .ok (.iload_n 3, 1) := by decide +kernel
theorem dX10_votes_142 : decode cX10_votes 142 = .ok (.aload_n 0, 1) := by decide +kernel
theorem dX10_votes_143 : decode cX10_votes 143 = .ok (.getfield 13, 3) := by decide +kernel
theorem dX10_votes_146 : decode cX10_votes 146 = .ok (.bipush 12, 2) := by decide +kernel
theorem dX10_votes_148 : decode cX10_votes 148 = .ok (.iaload, 1) := by decide +kernel
theorem dX10_votes_149 : decode cX10_votes 149 = .ok (.if_icmp .lt 53, 3) := by decide +kernel
theorem dX10_votes_152 : decode cX10_votes 152 = .ok (.iload_n 2, 1) := by decide +kernel
theorem dX10_votes_153 : decode cX10_votes 153 = .ok (.bipush 20, 2) := by decide +kernel
theorem dX10_votes_155 : decode cX10_votes 155 = .ok (.if_icmp .ge 47, 3) := by decide +kernel
theorem dX10_votes_158 : decode cX10_votes 158 = .ok (.aload_n 0, 1) := by decide +kernel
theorem dX10_votes_159 : decode cX10_votes 159 = .ok (.getfield 7, 3) := by decide +kernel
theorem dX10_votes_162 : decode cX10_votes 162 = .ok (.sipush 1127, 3) := by decide +kernel
theorem dX10_votes_165 : decode cX10_votes 165 = .ok (.iconst 2, 1) := by decide +kernel
theorem dX10_votes_166 : decode cX10_votes 166 = .ok (.iload_n 2, 1) := by decide +kernel
theorem dX10_votes_167 : decode cX10_votes 167 = .ok (.imul, 1) := by decide +kernel
theorem dX10_votes_168 : decode cX10_votes 168 = .ok (.iadd, 1) := by decide +kernel
theorem dX10_votes_169 : decode cX10_votes 169 = .ok (.iconst 0, 1) := by decide +kernel
theorem dX10_votes_170 : decode cX10_votes 170 = .ok (.iastore, 1) := by decide +kernel
theorem dX10_votes_171 : decode cX10_votes 171 = .ok (.aload_n 0, 1) := by decide +kernel
theorem dX10_votes_172 : decode cX10_votes 172 = .ok (.getfield 7, 3) := by decide +kernel
theorem dX10_votes_175 : decode cX10_votes 175 = .ok (.sipush 1127, 3) := by decide +kernel
theorem dX10_votes_178 : decode cX10_votes 178 = .ok (.iconst 2, 1) := by decide +kernel
theorem dX10_votes_179 : decode cX10_votes 179 = .ok (.iload_n 2, 1) := by decide +kernel
theorem dX10_votes_180 : decode cX10_votes 180 = .ok (.imul, 1) := by decide +kernel
theorem dX10_votes_181 : decode cX10_votes 181 = .ok (.iadd, 1) := by decide +kernel
theorem dX10_votes_182 : decode cX10_votes 182 = .ok (.iconst 1, 1) := by decide +kernel
theorem dX10_votes_183 : decode cX10_votes 183 = .ok (.iadd, 1) := by decide +kernel
theorem dX10_votes_184 : decode cX10_votes 184 = .ok (.aload_n 0, 1) := by decide +kernel
theorem dX10_votes_185 : decode cX10_votes 185 = .ok (.getfield 7, 3) := by decide +kernel
theorem dX10_votes_188 : decode cX10_votes 188 = .ok (.iconst 0, 1) := by decide +kernel
theorem dX10_votes_189 : decode cX10_votes 189 = .ok (.iaload, 1) := by decide +kernel
theorem dX10_votes_190 : decode cX10_votes 190 = .ok (.iastore, 1) := by decide +kernel
theorem dX10_votes_191 : decode cX10_votes 191 = .ok (.aload_n 0, 1) := by decide +kernel
theorem dX10_votes_192 : decode cX10_votes 192 = .ok (.getfield 7, 3) := by decide +kernel
theorem dX10_votes_195 : decode cX10_votes 195 = .ok (.iconst 2, 1) := by decide +kernel
theorem dX10_votes_196 : decode cX10_votes 196 = .ok (.dup2, 1) := by decide +kernel
theorem dX10_votes_197 : decode cX10_votes 197 = .ok (.iaload, 1) := by decide +kernel
theorem dX10_votes_198 : decode cX10_votes 198 = .ok (.iconst 1, 1) := by decide +kernel
theorem dX10_votes_199 : decode cX10_votes 199 = .ok (.iadd, 1) := by decide +kernel
theorem dX10_votes_200 : decode cX10_votes 200 = .ok (.iastore, 1) := by decide +kernel
theorem dX10_votes_201 : decode cX10_votes 201 = .ok (.return_, 1) := by decide +kernel
theorem dX10_votes_202 : decode cX10_votes 202 = .ok (.aload_n 0, 1) := by decide +kernel
theorem dX10_votes_203 : decode cX10_votes 203 = .ok (.iload_n 2, 1) := by decide +kernel
theorem dX10_votes_204 : decode cX10_votes 204 = .ok (.invokevirtual 254, 3) := by decide +kernel
theorem dX10_votes_207 : decode cX10_votes 207 = .ok (.return_, 1) := by decide +kernel
set_option maxRecDepth 20000 in
theorem ggX10_frees_X10_of : GoodIn wsX10_frees wsX10_of := goodIn_r _ [5] (by decide +kernel) (by decide +kernel)
set_option maxRecDepth 20000 in
theorem gX10_frees_X10_of : GoodIn wsX10_frees (va_wsS RX10 245 yX10_of wsX10_of) := goodIn_app (goodIn_of _ (by decide +kernel)) ggX10_frees_X10_of
theorem dX10_frees_0 : decode cX10_frees 0 = .ok (.iconst 0, 1) := by decide +kernel
theorem dX10_frees_1 : decode cX10_frees 1 = .ok (.istore_n 2, 1) := by decide +kernel
theorem dX10_frees_2 : decode cX10_frees 2 = .ok (.iload_n 2, 1) := by decide +kernel
theorem dX10_frees_3 : decode cX10_frees 3 = .ok (.aload_n 0, 1) := by decide +kernel
theorem dX10_frees_4 : decode cX10_frees 4 = .ok (.getfield 7, 3) := by decide +kernel
theorem dX10_frees_7 : decode cX10_frees 7 = .ok (.iconst 1, 1) := by decide +kernel
theorem dX10_frees_8 : decode cX10_frees 8 = .ok (.iaload, 1) := by decide +kernel
theorem dX10_frees_9 : decode cX10_frees 9 = .ok (.if_icmp .ge 34, 3) := by decide +kernel
theorem dX10_frees_12 : decode cX10_frees 12 = .ok (.aload_n 0, 1) := by decide +kernel
theorem dX10_frees_13 : decode cX10_frees 13 = .ok (.getfield 7, 3) := by decide +kernel
theorem dX10_frees_16 : decode cX10_frees 16 = .ok (.iload_n 2, 1) := by decide +kernel
theorem dX10_frees_17 : decode cX10_frees 17 = .ok (.iconst 3, 1) := by decide +kernel
theorem dX10_frees_18 : decode cX10_frees 18 = .ok (.invokestatic 245, 3) := by decide +kernel
theorem dX10_frees_21 : decode cX10_frees 21 = .ok (.iaload, 1) := by decide +kernel
theorem dX10_frees_22 : decode cX10_frees 22 = .ok (.iload_n 1, 1) := by decide +kernel
theorem dX10_frees_23 : decode cX10_frees 23 = .ok (.if_icmp .ne 14, 3) := by decide +kernel
theorem dX10_frees_26 : decode cX10_frees 26 = .ok (.aload_n 0, 1) := by decide +kernel
theorem dX10_frees_27 : decode cX10_frees 27 = .ok (.getfield 7, 3) := by decide +kernel
theorem dX10_frees_30 : decode cX10_frees 30 = .ok (.iload_n 2, 1) := by decide +kernel
theorem dX10_frees_31 : decode cX10_frees 31 = .ok (.iconst 3, 1) := by decide +kernel
theorem dX10_frees_32 : decode cX10_frees 32 = .ok (.invokestatic 245, 3) := by decide +kernel
theorem dX10_frees_35 : decode cX10_frees 35 = .ok (.iconst (-1), 1) := by decide +kernel
theorem dX10_frees_36 : decode cX10_frees 36 = .ok (.iastore, 1) := by decide +kernel
theorem dX10_frees_37 : decode cX10_frees 37 = .ok (.iinc 2 1, 3) := by decide +kernel
theorem dX10_frees_40 : decode cX10_frees 40 = .ok (.goto (-38), 3) := by decide +kernel
theorem dX10_frees_43 : decode cX10_frees 43 = .ok (.return_, 1) := by decide +kernel
set_option maxRecDepth 20000 in
theorem ggX10_passes_X10_ringAt : GoodIn wsX10_passes wsX10_ringAt := goodIn_r _ [6] (by decide +kernel) (by decide +kernel)
set_option maxRecDepth 20000 in
theorem gX10_passes_X10_ringAt : GoodIn wsX10_passes (va_wsS RX10 228 yX10_ringAt wsX10_ringAt) := goodIn_app (goodIn_of _ (by decide +kernel)) ggX10_passes_X10_ringAt
set_option maxRecDepth 20000 in
theorem ggX10_passes_X10_at : GoodIn wsX10_passes wsX10_at := goodIn_r _ [9] (by decide +kernel) (by decide +kernel)
set_option maxRecDepth 20000 in
theorem gX10_passes_X10_at : GoodIn wsX10_passes (va_wsS RX10 236 yX10_at wsX10_at) := goodIn_app (goodIn_of _ (by decide +kernel)) ggX10_passes_X10_at
set_option maxRecDepth 20000 in
theorem ggX10_passes_X10_of : GoodIn wsX10_passes wsX10_of := goodIn_r _ [12] (by decide +kernel) (by decide +kernel)
set_option maxRecDepth 20000 in
theorem gX10_passes_X10_of : GoodIn wsX10_passes (va_wsS RX10 245 yX10_of wsX10_of) := goodIn_app (goodIn_of _ (by decide +kernel)) ggX10_passes_X10_of
set_option maxRecDepth 20000 in
theorem ggX10_passes_X10_ratioOf : GoodIn wsX10_passes wsX10_ratioOf := goodIn_ca (goodIn_r _ [16, 2, 17, 18, 19, 20, 5, 21, 1, 3, 4, 6, 59, 60, 61, 62, 63, 64, 65, 66, 67, 68, 69, 70, 71, 72, 73, 74, 75, 76, 77, 78, 79, 80, 81, 82, 83, 84] (by decide +kernel) (by decide +kernel)) (goodIn_sub (fun _ h => List.mem_cons_of_mem _ (List.mem_append_right _ h)) (by decide +kernel))
set_option maxRecDepth 20000 in
theorem gX10_passes_X10_ratioOf : GoodIn wsX10_passes (wsV RX10 239 RX10 yX10_ratioOf wsX10_ratioOf) := goodIn_app (goodIn_of _ (by decide +kernel)) ggX10_passes_X10_ratioOf
set_option maxRecDepth 20000 in
theorem ggX10_passes_X10_picks : GoodIn wsX10_passes wsX10_picks := goodIn_ca (goodIn_r _ [25, 1, 10, 11, 5, 12, 7, 8, 9, 26, 27, 28, 29, 2, 30, 31, 32, 33, 34, 35, 36, 37, 38, 39, 40, 41, 42, 43, 44, 45, 46, 47, 48, 49, 50, 51, 52, 53, 54, 55, 56, 57, 58, 59, 60, 61, 62, 63, 64, 65, 66, 67, 68, 69, 70, 71, 72, 73, 74, 75, 76, 77, 78, 79, 80, 81, 82, 83, 84] (by decide +kernel) (by decide +kernel)) (goodIn_sub (fun _ h => List.mem_cons_of_mem _ (List.mem_append_right _ h)) (by decide +kernel))
set_option maxRecDepth 20000 in
theorem gX10_passes_X10_picks : GoodIn wsX10_passes (wsV RX10 257 RX10 yX10_picks wsX10_picks) := goodIn_app (goodIn_of _ (by decide +kernel)) ggX10_passes_X10_picks
theorem dX10_passes_0 : decode cX10_passes 0 = .ok (.aload_n 0, 1) := by decide +kernel
theorem dX10_passes_1 : decode cX10_passes 1 = .ok (.getfield 7, 3) := by decide +kernel
theorem dX10_passes_4 : decode cX10_passes 4 = .ok (.iconst 0, 1) := by decide +kernel
theorem dX10_passes_5 : decode cX10_passes 5 = .ok (.dup2, 1) := by decide +kernel
theorem dX10_passes_6 : decode cX10_passes 6 = .ok (.iaload, 1) := by decide +kernel
theorem dX10_passes_7 : decode cX10_passes 7 = .ok (.iconst 1, 1) := by decide +kernel
theorem dX10_passes_8 : decode cX10_passes 8 = .ok (.iadd, 1) := by decide +kernel
theorem dX10_passes_9 : decode cX10_passes 9 = .ok (.iastore, 1) := by decide +kernel
theorem dX10_passes_10 : decode cX10_passes 10 = .ok (.iconst 0, 1) := by decide +kernel
theorem dX10_passes_11 : decode cX10_passes 11 = .ok (.istore_n 1, 1) := by decide +kernel
theorem dX10_passes_12 : decode cX10_passes 12 = .ok (.iload_n 1, 1) := by decide +kernel
theorem dX10_passes_13 : decode cX10_passes 13 = .ok (.aload_n 0, 1) := by decide +kernel
theorem dX10_passes_14 : decode cX10_passes 14 = .ok (.getfield 13, 3) := by decide +kernel
theorem dX10_passes_17 : decode cX10_passes 17 = .ok (.iconst 0, 1) := by decide +kernel
theorem dX10_passes_18 : decode cX10_passes 18 = .ok (.iaload, 1) := by decide +kernel
theorem dX10_passes_19 : decode cX10_passes 19 = .ok (.if_icmp .ge 34, 3) := by decide +kernel
theorem dX10_passes_22 : decode cX10_passes 22 = .ok (.aload_n 0, 1) := by decide +kernel
theorem dX10_passes_23 : decode cX10_passes 23 = .ok (.getfield 7, 3) := by decide +kernel
theorem dX10_passes_26 : decode cX10_passes 26 = .ok (.iload_n 1, 1) := by decide +kernel
theorem dX10_passes_27 : decode cX10_passes 27 = .ok (.aload_n 0, 1) := by decide +kernel
theorem dX10_passes_28 : decode cX10_passes 28 = .ok (.getfield 7, 3) := by decide +kernel
theorem dX10_passes_31 : decode cX10_passes 31 = .ok (.iconst 0, 1) := by decide +kernel
theorem dX10_passes_32 : decode cX10_passes 32 = .ok (.iaload, 1) := by decide +kernel
theorem dX10_passes_33 : decode cX10_passes 33 = .ok (.invokestatic 228, 3) := by decide +kernel
theorem dX10_passes_36 : decode cX10_passes 36 = .ok (.aload_n 0, 1) := by decide +kernel
theorem dX10_passes_37 : decode cX10_passes 37 = .ok (.getfield 7, 3) := by decide +kernel
theorem dX10_passes_40 : decode cX10_passes 40 = .ok (.iload_n 1, 1) := by decide +kernel
theorem dX10_passes_41 : decode cX10_passes 41 = .ok (.iconst 0, 1) := by decide +kernel
theorem dX10_passes_42 : decode cX10_passes 42 = .ok (.invokestatic 236, 3) := by decide +kernel
theorem dX10_passes_45 : decode cX10_passes 45 = .ok (.iaload, 1) := by decide +kernel
theorem dX10_passes_46 : decode cX10_passes 46 = .ok (.iastore, 1) := by decide +kernel
theorem dX10_passes_47 : decode cX10_passes 47 = .ok (.iinc 1 1, 3) := by decide +kernel
theorem dX10_passes_50 : decode cX10_passes 50 = .ok (.goto (-38), 3) := by decide +kernel
theorem dX10_passes_53 : decode cX10_passes 53 = .ok (.iconst 0, 1) := by decide +kernel
theorem dX10_passes_54 : decode cX10_passes 54 = .ok (.istore_n 1, 1) := by decide +kernel
theorem dX10_passes_55 : decode cX10_passes 55 = .ok (.iload_n 1, 1) := by decide +kernel
theorem dX10_passes_56 : decode cX10_passes 56 = .ok (.aload_n 0, 1) := by decide +kernel
theorem dX10_passes_57 : decode cX10_passes 57 = .ok (.getfield 13, 3) := by decide +kernel
theorem dX10_passes_60 : decode cX10_passes 60 = .ok (.iconst 0, 1) := by decide +kernel
theorem dX10_passes_61 : decode cX10_passes 61 = .ok (.iaload, 1) := by decide +kernel
theorem dX10_passes_62 : decode cX10_passes 62 = .ok (.if_icmp .ge 175, 3) := by decide +kernel
theorem dX10_passes_65 : decode cX10_passes 65 = .ok (.aload_n 0, 1) := by decide +kernel
theorem dX10_passes_66 : decode cX10_passes 66 = .ok (.getfield 7, 3) := by decide +kernel
theorem dX10_passes_69 : decode cX10_passes 69 = .ok (.iload_n 1, 1) := by decide +kernel
theorem dX10_passes_70 : decode cX10_passes 70 = .ok (.iconst 1, 1) := by decide +kernel
theorem dX10_passes_71 : decode cX10_passes 71 = .ok (.invokestatic 236, 3) := by decide +kernel
theorem dX10_passes_74 : decode cX10_passes 74 = .ok (.iaload, 1) := by decide +kernel
theorem dX10_passes_75 : decode cX10_passes 75 = .ok (.iconst 1, 1) := by decide +kernel
theorem dX10_passes_76 : decode cX10_passes 76 = .ok (.if_icmp .ne 95, 3) := by decide +kernel
theorem dX10_passes_79 : decode cX10_passes 79 = .ok (.aload_n 0, 1) := by decide +kernel
theorem dX10_passes_80 : decode cX10_passes 80 = .ok (.getfield 7, 3) := by decide +kernel
theorem dX10_passes_83 : decode cX10_passes 83 = .ok (.iload_n 1, 1) := by decide +kernel
theorem dX10_passes_84 : decode cX10_passes 84 = .ok (.iconst 3, 1) := by decide +kernel
theorem dX10_passes_85 : decode cX10_passes 85 = .ok (.invokestatic 236, 3) := by decide +kernel
theorem dX10_passes_88 : decode cX10_passes 88 = .ok (.iaload, 1) := by decide +kernel
theorem dX10_passes_89 : decode cX10_passes 89 = .ok (.iconst 2, 1) := by decide +kernel
theorem dX10_passes_90 : decode cX10_passes 90 = .ok (.invokestatic 245, 3) := by decide +kernel
theorem dX10_passes_93 : decode cX10_passes 93 = .ok (.istore_n 2, 1) := by decide +kernel
theorem dX10_passes_94 : decode cX10_passes 94 = .ok (.aload_n 0, 1) := by decide +kernel
theorem dX10_passes_95 : decode cX10_passes 95 = .ok (.getfield 7, 3) := by decide +kernel
theorem dX10_passes_98 : decode cX10_passes 98 = .ok (.iload_n 2, 1) := by decide +kernel
theorem dX10_passes_99 : decode cX10_passes 99 = .ok (.aload_n 0, 1) := by decide +kernel
theorem dX10_passes_100 : decode cX10_passes 100 = .ok (.getfield 7, 3) := by decide +kernel
theorem dX10_passes_103 : decode cX10_passes 103 = .ok (.iload_n 1, 1) := by decide +kernel
theorem dX10_passes_104 : decode cX10_passes 104 = .ok (.iconst 0, 1) := by decide +kernel
theorem dX10_passes_105 : decode cX10_passes 105 = .ok (.invokestatic 236, 3) := by decide +kernel
theorem dX10_passes_108 : decode cX10_passes 108 = .ok (.iaload, 1) := by decide +kernel
theorem dX10_passes_109 : decode cX10_passes 109 = .ok (.aload_n 0, 1) := by decide +kernel
theorem dX10_passes_110 : decode cX10_passes 110 = .ok (.getfield 7, 3) := by decide +kernel
theorem dX10_passes_113 : decode cX10_passes 113 = .ok (.iload_n 2, 1) := by decide +kernel
theorem dX10_passes_114 : decode cX10_passes 114 = .ok (.iaload, 1) := by decide +kernel
theorem dX10_passes_115 : decode cX10_passes 115 = .ok (.if_icmp .le 16, 3) := by decide +kernel
theorem dX10_passes_118 : decode cX10_passes 118 = .ok (.aload_n 0, 1) := by decide +kernel
theorem dX10_passes_119 : decode cX10_passes 119 = .ok (.getfield 7, 3) := by decide +kernel
theorem dX10_passes_122 : decode cX10_passes 122 = .ok (.iload_n 1, 1) := by decide +kernel
theorem dX10_passes_123 : decode cX10_passes 123 = .ok (.iconst 0, 1) := by decide +kernel
theorem dX10_passes_124 : decode cX10_passes 124 = .ok (.invokestatic 236, 3) := by decide +kernel
theorem dX10_passes_127 : decode cX10_passes 127 = .ok (.iaload, 1) := by decide +kernel
theorem dX10_passes_128 : decode cX10_passes 128 = .ok (.goto 9, 3) := by decide +kernel
theorem dX10_passes_131 : decode cX10_passes 131 = .ok (.aload_n 0, 1) := by decide +kernel
theorem dX10_passes_132 : decode cX10_passes 132 = .ok (.getfield 7, 3) := by decide +kernel
theorem dX10_passes_135 : decode cX10_passes 135 = .ok (.iload_n 2, 1) := by decide +kernel
theorem dX10_passes_136 : decode cX10_passes 136 = .ok (.iaload, 1) := by decide +kernel
theorem dX10_passes_137 : decode cX10_passes 137 = .ok (.iastore, 1) := by decide +kernel
theorem dX10_passes_138 : decode cX10_passes 138 = .ok (.aload_n 0, 1) := by decide +kernel
theorem dX10_passes_139 : decode cX10_passes 139 = .ok (.getfield 7, 3) := by decide +kernel
theorem dX10_passes_142 : decode cX10_passes 142 = .ok (.iload_n 1, 1) := by decide +kernel
theorem dX10_passes_143 : decode cX10_passes 143 = .ok (.iconst 1, 1) := by decide +kernel
theorem dX10_passes_144 : decode cX10_passes 144 = .ok (.invokestatic 236, 3) := by decide +kernel
theorem dX10_passes_147 : decode cX10_passes 147 = .ok (.aload_n 0, 1) := by decide +kernel
theorem dX10_passes_148 : decode cX10_passes 148 = .ok (.iload_n 1, 1) := by decide +kernel
theorem dX10_passes_149 : decode cX10_passes 149 = .ok (.invokevirtual 239, 3) := by decide +kernel
theorem dX10_passes_152 : decode cX10_passes 152 = .ok (.aload_n 0, 1) := by decide +kernel
theorem dX10_passes_153 : decode cX10_passes 153 = .ok (.getfield 13, 3) := by decide +kernel
theorem dX10_passes_156 : decode cX10_passes 156 = .ok (.bipush 11, 2) := by decide +kernel
theorem dX10_passes_158 : decode cX10_passes 158 = .ok (.iaload, 1) := by decide +kernel
theorem dX10_passes_159 : decode cX10_passes 159 = .ok (.if_icmp .ge 7, 3) := by decide +kernel
theorem dX10_passes_162 : decode cX10_passes 162 = .ok (.iconst 0, 1) := by decide +kernel
theorem dX10_passes_163 : decode cX10_passes 163 = .ok (.goto 4, 3) := by decide +kernel
theorem dX10_passes_166 : decode cX10_passes 166 = .ok (.iconst 1, 1) := by decide +kernel
theorem dX10_passes_167 : decode cX10_passes 167 = .ok (.iastore, 1) := by decide +kernel
theorem dX10_passes_168 : decode cX10_passes 168 = .ok (.goto 63, 3) := by decide +kernel
theorem dX10_passes_171 : decode cX10_passes 171 = .ok (.aload_n 0, 1) := by decide +kernel
theorem dX10_passes_172 : decode cX10_passes 172 = .ok (.getfield 7, 3) := by decide +kernel
theorem dX10_passes_175 : decode cX10_passes 175 = .ok (.iconst 0, 1) := by decide +kernel
theorem dX10_passes_176 : decode cX10_passes 176 = .ok (.iaload, 1) := by decide +kernel
theorem dX10_passes_177 : decode cX10_passes 177 = .ok (.aload_n 0, 1) := by decide +kernel
theorem dX10_passes_178 : decode cX10_passes 178 = .ok (.getfield 13, 3) := by decide +kernel
theorem dX10_passes_181 : decode cX10_passes 181 = .ok (.bipush 9, 2) := by decide +kernel
theorem dX10_passes_183 : decode cX10_passes 183 = .ok (.iaload, 1) := by decide +kernel
theorem dX10_passes_184 : decode cX10_passes 184 = .ok (.if_icmp .lt 47, 3) := by decide +kernel
theorem dX10_passes_187 : decode cX10_passes 187 = .ok (.aload_n 0, 1) := by decide +kernel
theorem dX10_passes_188 : decode cX10_passes 188 = .ok (.getfield 7, 3) := by decide +kernel
theorem dX10_passes_191 : decode cX10_passes 191 = .ok (.iload_n 1, 1) := by decide +kernel
theorem dX10_passes_192 : decode cX10_passes 192 = .ok (.iconst 2, 1) := by decide +kernel
theorem dX10_passes_193 : decode cX10_passes 193 = .ok (.invokestatic 236, 3) := by decide +kernel
theorem dX10_passes_196 : decode cX10_passes 196 = .ok (.iaload, 1) := by decide +kernel
theorem dX10_passes_197 : decode cX10_passes 197 = .ok (.ifCond .ne 34, 3) := by decide +kernel
theorem dX10_passes_200 : decode cX10_passes 200 = .ok (.aload_n 0, 1) := by decide +kernel
theorem dX10_passes_201 : decode cX10_passes 201 = .ok (.getfield 7, 3) := by decide +kernel
theorem dX10_passes_204 : decode cX10_passes 204 = .ok (.iconst 1, 1) := by decide +kernel
theorem dX10_passes_205 : decode cX10_passes 205 = .ok (.iaload, 1) := by decide +kernel
theorem dX10_passes_206 : decode cX10_passes 206 = .ok (.bipush 60, 2) := by decide +kernel
theorem dX10_passes_208 : decode cX10_passes 208 = .ok (.if_icmp .ge 23, 3) := by decide +kernel
theorem dX10_passes_211 : decode cX10_passes 211 = .ok (.aload_n 0, 1) := by decide +kernel
theorem dX10_passes_212 : decode cX10_passes 212 = .ok (.iload_n 1, 1) := by decide +kernel
theorem dX10_passes_213 : decode cX10_passes 213 = .ok (.invokevirtual 239, 3) := by decide +kernel
theorem dX10_passes_216 : decode cX10_passes 216 = .ok (.aload_n 0, 1) := by decide +kernel
theorem dX10_passes_217 : decode cX10_passes 217 = .ok (.getfield 13, 3) := by decide +kernel
theorem dX10_passes_220 : decode cX10_passes 220 = .ok (.bipush 10, 2) := by decide +kernel
theorem dX10_passes_222 : decode cX10_passes 222 = .ok (.iaload, 1) := by decide +kernel
theorem dX10_passes_223 : decode cX10_passes 223 = .ok (.if_icmp .lt 8, 3) := by decide +kernel
theorem dX10_passes_226 : decode cX10_passes 226 = .ok (.aload_n 0, 1) := by decide +kernel
theorem dX10_passes_227 : decode cX10_passes 227 = .ok (.iload_n 1, 1) := by decide +kernel
theorem dX10_passes_228 : decode cX10_passes 228 = .ok (.invokevirtual 257, 3) := by decide +kernel
theorem dX10_passes_231 : decode cX10_passes 231 = .ok (.iinc 1 1, 3) := by decide +kernel
theorem dX10_passes_234 : decode cX10_passes 234 = .ok (.goto (-179), 3) := by decide +kernel
theorem dX10_passes_237 : decode cX10_passes 237 = .ok (.return_, 1) := by decide +kernel
set_option maxRecDepth 20000 in
theorem ggX10_picks_X10_of : GoodIn wsX10_picks wsX10_of := goodIn_r _ [5] (by decide +kernel) (by decide +kernel)
set_option maxRecDepth 20000 in
theorem gX10_picks_X10_of : GoodIn wsX10_picks (va_wsS RX10 245 yX10_of wsX10_of) := goodIn_app (goodIn_of _ (by decide +kernel)) ggX10_picks_X10_of
set_option maxRecDepth 20000 in
theorem ggX10_picks_X10_at : GoodIn wsX10_picks wsX10_at := goodIn_r _ [8] (by decide +kernel) (by decide +kernel)
set_option maxRecDepth 20000 in
theorem gX10_picks_X10_at : GoodIn wsX10_picks (va_wsS RX10 236 yX10_at wsX10_at) := goodIn_app (goodIn_of _ (by decide +kernel)) ggX10_picks_X10_at
set_option maxRecDepth 20000 in
theorem ggX10_picks_X10_votes : GoodIn wsX10_picks wsX10_votes := goodIn_ca (goodIn_r _ [12, 1, 13, 14, 15, 16, 4, 17, 18, 19, 20, 21, 2, 3, 5, 22, 23, 24, 25, 26, 27, 28, 29, 30, 31, 32, 33, 34, 35, 36, 37, 38, 39, 40, 41, 42, 43, 44, 45, 46, 47, 48, 49, 50, 51, 52, 53, 54, 55, 56, 57, 58, 59, 60, 61, 62, 63, 64, 65, 66, 67, 68] (by decide +kernel) (by decide +kernel)) (goodIn_sub (fun _ h => List.mem_cons_of_mem _ (List.mem_append_right _ h)) (by decide +kernel))
set_option maxRecDepth 20000 in
theorem gX10_picks_X10_votes : GoodIn wsX10_picks (wsV RX10 260 RX10 yX10_votes wsX10_votes) := goodIn_app (goodIn_of _ (by decide +kernel)) ggX10_picks_X10_votes
theorem dX10_picks_0 : decode cX10_picks 0 = .ok (.aload_n 0, 1) := by decide +kernel
theorem dX10_picks_1 : decode cX10_picks 1 = .ok (.getfield 7, 3) := by decide +kernel
theorem dX10_picks_4 : decode cX10_picks 4 = .ok (.iconst 1, 1) := by decide +kernel
theorem dX10_picks_5 : decode cX10_picks 5 = .ok (.iaload, 1) := by decide +kernel
theorem dX10_picks_6 : decode cX10_picks 6 = .ok (.istore_n 2, 1) := by decide +kernel
theorem dX10_picks_7 : decode cX10_picks 7 = .ok (.aload_n 0, 1) := by decide +kernel
theorem dX10_picks_8 : decode cX10_picks 8 = .ok (.getfield 7, 3) := by decide +kernel
theorem dX10_picks_11 : decode cX10_picks 11 = .ok (.iload_n 2, 1) := by decide +kernel
theorem dX10_picks_12 : decode cX10_picks 12 = .ok (.iconst 0, 1) := by decide +kernel
theorem dX10_picks_13 : decode cX10_picks 13 = .ok (.invokestatic 245, 3) := by decide +kernel
theorem dX10_picks_16 : decode cX10_picks 16 = .ok (.iload_n 1, 1) := by decide +kernel
theorem dX10_picks_17 : decode cX10_picks 17 = .ok (.iastore, 1) := by decide +kernel
theorem dX10_picks_18 : decode cX10_picks 18 = .ok (.aload_n 0, 1) := by decide +kernel
theorem dX10_picks_19 : decode cX10_picks 19 = .ok (.getfield 7, 3) := by decide +kernel
theorem dX10_picks_22 : decode cX10_picks 22 = .ok (.iload_n 2, 1) := by decide +kernel
theorem dX10_picks_23 : decode cX10_picks 23 = .ok (.iconst 1, 1) := by decide +kernel
theorem dX10_picks_24 : decode cX10_picks 24 = .ok (.invokestatic 245, 3) := by decide +kernel
theorem dX10_picks_27 : decode cX10_picks 27 = .ok (.aload_n 0, 1) := by decide +kernel
theorem dX10_picks_28 : decode cX10_picks 28 = .ok (.getfield 7, 3) := by decide +kernel
theorem dX10_picks_31 : decode cX10_picks 31 = .ok (.iconst 0, 1) := by decide +kernel
theorem dX10_picks_32 : decode cX10_picks 32 = .ok (.iaload, 1) := by decide +kernel
theorem dX10_picks_33 : decode cX10_picks 33 = .ok (.iastore, 1) := by decide +kernel
theorem dX10_picks_34 : decode cX10_picks 34 = .ok (.aload_n 0, 1) := by decide +kernel
theorem dX10_picks_35 : decode cX10_picks 35 = .ok (.getfield 7, 3) := by decide +kernel
theorem dX10_picks_38 : decode cX10_picks 38 = .ok (.iload_n 2, 1) := by decide +kernel
theorem dX10_picks_39 : decode cX10_picks 39 = .ok (.iconst 2, 1) := by decide +kernel
theorem dX10_picks_40 : decode cX10_picks 40 = .ok (.invokestatic 245, 3) := by decide +kernel
theorem dX10_picks_43 : decode cX10_picks 43 = .ok (.aload_n 0, 1) := by decide +kernel
theorem dX10_picks_44 : decode cX10_picks 44 = .ok (.getfield 7, 3) := by decide +kernel
theorem dX10_picks_47 : decode cX10_picks 47 = .ok (.iload_n 1, 1) := by decide +kernel
theorem dX10_picks_48 : decode cX10_picks 48 = .ok (.iconst 0, 1) := by decide +kernel
theorem dX10_picks_49 : decode cX10_picks 49 = .ok (.invokestatic 236, 3) := by decide +kernel
theorem dX10_picks_52 : decode cX10_picks 52 = .ok (.iaload, 1) := by decide +kernel
theorem dX10_picks_53 : decode cX10_picks 53 = .ok (.iastore, 1) := by decide +kernel
theorem dX10_picks_54 : decode cX10_picks 54 = .ok (.aload_n 0, 1) := by decide +kernel
theorem dX10_picks_55 : decode cX10_picks 55 = .ok (.getfield 7, 3) := by decide +kernel
theorem dX10_picks_58 : decode cX10_picks 58 = .ok (.iload_n 2, 1) := by decide +kernel
theorem dX10_picks_59 : decode cX10_picks 59 = .ok (.iconst 3, 1) := by decide +kernel
theorem dX10_picks_60 : decode cX10_picks 60 = .ok (.invokestatic 245, 3) := by decide +kernel
theorem dX10_picks_63 : decode cX10_picks 63 = .ok (.iconst (-1), 1) := by decide +kernel
theorem dX10_picks_64 : decode cX10_picks 64 = .ok (.iastore, 1) := by decide +kernel
theorem dX10_picks_65 : decode cX10_picks 65 = .ok (.aload_n 0, 1) := by decide +kernel
theorem dX10_picks_66 : decode cX10_picks 66 = .ok (.getfield 7, 3) := by decide +kernel
theorem dX10_picks_69 : decode cX10_picks 69 = .ok (.iload_n 2, 1) := by decide +kernel
theorem dX10_picks_70 : decode cX10_picks 70 = .ok (.iconst 4, 1) := by decide +kernel
theorem dX10_picks_71 : decode cX10_picks 71 = .ok (.invokestatic 245, 3) := by decide +kernel
theorem dX10_picks_74 : decode cX10_picks 74 = .ok (.iconst 0, 1) := by decide +kernel
theorem dX10_picks_75 : decode cX10_picks 75 = .ok (.iastore, 1) := by decide +kernel
theorem dX10_picks_76 : decode cX10_picks 76 = .ok (.aload_n 0, 1) := by decide +kernel
theorem dX10_picks_77 : decode cX10_picks 77 = .ok (.getfield 7, 3) := by decide +kernel
theorem dX10_picks_80 : decode cX10_picks 80 = .ok (.iconst 1, 1) := by decide +kernel
theorem dX10_picks_81 : decode cX10_picks 81 = .ok (.dup2, 1) := by decide +kernel
theorem dX10_picks_82 : decode cX10_picks 82 = .ok (.iaload, 1) := by decide +kernel
theorem dX10_picks_83 : decode cX10_picks 83 = .ok (.iconst 1, 1) := by decide +kernel
theorem dX10_picks_84 : decode cX10_picks 84 = .ok (.iadd, 1) := by decide +kernel
theorem dX10_picks_85 : decode cX10_picks 85 = .ok (.iastore, 1) := by decide +kernel
theorem dX10_picks_86 : decode cX10_picks 86 = .ok (.aload_n 0, 1) := by decide +kernel
theorem dX10_picks_87 : decode cX10_picks 87 = .ok (.getfield 7, 3) := by decide +kernel
theorem dX10_picks_90 : decode cX10_picks 90 = .ok (.iload_n 1, 1) := by decide +kernel
theorem dX10_picks_91 : decode cX10_picks 91 = .ok (.iconst 1, 1) := by decide +kernel
theorem dX10_picks_92 : decode cX10_picks 92 = .ok (.invokestatic 236, 3) := by decide +kernel
theorem dX10_picks_95 : decode cX10_picks 95 = .ok (.iconst 1, 1) := by decide +kernel
theorem dX10_picks_96 : decode cX10_picks 96 = .ok (.iastore, 1) := by decide +kernel
theorem dX10_picks_97 : decode cX10_picks 97 = .ok (.aload_n 0, 1) := by decide +kernel
theorem dX10_picks_98 : decode cX10_picks 98 = .ok (.getfield 7, 3) := by decide +kernel
theorem dX10_picks_101 : decode cX10_picks 101 = .ok (.iload_n 1, 1) := by decide +kernel
theorem dX10_picks_102 : decode cX10_picks 102 = .ok (.iconst 3, 1) := by decide +kernel
theorem dX10_picks_103 : decode cX10_picks 103 = .ok (.invokestatic 236, 3) := by decide +kernel
theorem dX10_picks_106 : decode cX10_picks 106 = .ok (.iload_n 2, 1) := by decide +kernel
theorem dX10_picks_107 : decode cX10_picks 107 = .ok (.iastore, 1) := by decide +kernel
theorem dX10_picks_108 : decode cX10_picks 108 = .ok (.aload_n 0, 1) := by decide +kernel
theorem dX10_picks_109 : decode cX10_picks 109 = .ok (.iload_n 2, 1) := by decide +kernel
theorem dX10_picks_110 : decode cX10_picks 110 = .ok (.invokevirtual 260, 3) := by decide +kernel
theorem dX10_picks_113 : decode cX10_picks 113 = .ok (.return_, 1) := by decide +kernel
set_option maxRecDepth 20000 in
theorem ggX10_delayOf_X10_of : GoodIn wsX10_delayOf wsX10_of := goodIn_r _ [5] (by decide +kernel) (by decide +kernel)
set_option maxRecDepth 20000 in
theorem gX10_delayOf_X10_of : GoodIn wsX10_delayOf (va_wsS RX10 245 yX10_of wsX10_of) := goodIn_app (goodIn_of _ (by decide +kernel)) ggX10_delayOf_X10_of
set_option maxRecDepth 20000 in
theorem ggX10_delayOf_X10_nodeApart : GoodIn wsX10_delayOf wsX10_nodeApart := goodIn_ca (goodIn_r _ [9, 10, 11, 12, 13, 14, 4, 15, 16, 17, 18, 19, 20, 21, 22, 23, 28, 29, 30, 31, 32, 33, 34, 35, 36, 37, 38, 39, 40, 41, 42, 43, 44, 45, 46, 47, 48, 49, 50, 51, 52, 53] (by decide +kernel) (by decide +kernel)) (goodIn_sub (fun _ h => List.mem_cons_of_mem _ (List.mem_append_right _ h)) (by decide +kernel))
set_option maxRecDepth 20000 in
theorem gX10_delayOf_X10_nodeApart : GoodIn wsX10_delayOf (wsV RX10 221 RX10 yX10_nodeApart wsX10_nodeApart) := goodIn_app (goodIn_of _ (by decide +kernel)) ggX10_delayOf_X10_nodeApart
set_option maxRecDepth 20000 in
theorem ggX10_delayOf_X10_timeFor : GoodIn wsX10_delayOf wsX10_timeFor := goodIn_ca (goodIn_r _ [27, 16, 28, 29, 30, 31, 32, 33, 34, 35, 36, 37, 38, 39, 40, 41, 42, 43, 44, 45, 46, 47, 48, 49, 50, 51, 52, 53] (by decide +kernel) (by decide +kernel)) (goodIn_sub (fun _ h => List.mem_cons_of_mem _ (List.mem_append_right _ h)) (by decide +kernel))
set_option maxRecDepth 20000 in
theorem gX10_delayOf_X10_timeFor : GoodIn wsX10_delayOf (wsV RX10 206 RX10 yX10_timeFor wsX10_timeFor) := goodIn_app (goodIn_of _ (by decide +kernel)) ggX10_delayOf_X10_timeFor
theorem dX10_delayOf_0 : decode cX10_delayOf 0 = .ok (.aload_n 0, 1) := by decide +kernel
theorem dX10_delayOf_1 : decode cX10_delayOf 1 = .ok (.getfield 7, 3) := by decide +kernel
theorem dX10_delayOf_4 : decode cX10_delayOf 4 = .ok (.iload_n 2, 1) := by decide +kernel
theorem dX10_delayOf_5 : decode cX10_delayOf 5 = .ok (.iconst 1, 1) := by decide +kernel
theorem dX10_delayOf_6 : decode cX10_delayOf 6 = .ok (.invokestatic 245, 3) := by decide +kernel
theorem dX10_delayOf_9 : decode cX10_delayOf 9 = .ok (.iaload, 1) := by decide +kernel
theorem dX10_delayOf_10 : decode cX10_delayOf 10 = .ok (.aload_n 0, 1) := by decide +kernel
theorem dX10_delayOf_11 : decode cX10_delayOf 11 = .ok (.aload_n 0, 1) := by decide +kernel
theorem dX10_delayOf_12 : decode cX10_delayOf 12 = .ok (.iload_n 1, 1) := by decide +kernel
theorem dX10_delayOf_13 : decode cX10_delayOf 13 = .ok (.aload_n 0, 1) := by decide +kernel
theorem dX10_delayOf_14 : decode cX10_delayOf 14 = .ok (.getfield 7, 3) := by decide +kernel
theorem dX10_delayOf_17 : decode cX10_delayOf 17 = .ok (.iload_n 2, 1) := by decide +kernel
theorem dX10_delayOf_18 : decode cX10_delayOf 18 = .ok (.iconst 0, 1) := by decide +kernel
theorem dX10_delayOf_19 : decode cX10_delayOf 19 = .ok (.invokestatic 245, 3) := by decide +kernel
theorem dX10_delayOf_22 : decode cX10_delayOf 22 = .ok (.iaload, 1) := by decide +kernel
theorem dX10_delayOf_23 : decode cX10_delayOf 23 = .ok (.invokevirtual 221, 3) := by decide +kernel
theorem dX10_delayOf_26 : decode cX10_delayOf 26 = .ok (.invokevirtual 206, 3) := by decide +kernel
theorem dX10_delayOf_29 : decode cX10_delayOf 29 = .ok (.isub, 1) := by decide +kernel
theorem dX10_delayOf_30 : decode cX10_delayOf 30 = .ok (.ireturn, 1) := by decide +kernel
set_option maxRecDepth 20000 in
theorem ggX10_originOf_X10_of : GoodIn wsX10_originOf wsX10_of := goodIn_r _ [5] (by decide +kernel) (by decide +kernel)
set_option maxRecDepth 20000 in
theorem gX10_originOf_X10_of : GoodIn wsX10_originOf (va_wsS RX10 245 yX10_of wsX10_of) := goodIn_app (goodIn_of _ (by decide +kernel)) ggX10_originOf_X10_of
set_option maxRecDepth 20000 in
theorem ggX10_originOf_X10_delayOf : GoodIn wsX10_originOf wsX10_delayOf := goodIn_ca (goodIn_r _ [9, 1, 2, 3, 4, 5, 10, 11, 12, 13, 14, 15, 16, 17, 18, 19, 20, 21, 22, 23, 24, 25, 26, 27, 28, 29, 30, 31, 36, 37, 38, 39, 40, 41, 42, 43, 44, 45, 46, 47, 48, 49, 50, 51, 52, 53, 54, 55, 56, 57, 58, 59, 60, 61] (by decide +kernel) (by decide +kernel)) (goodIn_sub (fun _ h => List.mem_cons_of_mem _ (List.mem_append_right _ h)) (by decide +kernel))
set_option maxRecDepth 20000 in
theorem gX10_originOf_X10_delayOf : GoodIn wsX10_originOf (wsV RX10 262 RX10 yX10_delayOf wsX10_delayOf) := goodIn_app (goodIn_of _ (by decide +kernel)) ggX10_originOf_X10_delayOf
set_option maxRecDepth 20000 in
theorem ggX10_originOf_X10_picksOf : GoodIn wsX10_originOf wsX10_picksOf := goodIn_ca (goodIn_r _ [35, 1, 2, 3, 4, 5, 36, 37, 38, 39, 40, 41, 42, 43, 44, 45, 46, 47, 48, 49, 50, 51, 52, 53, 54, 55, 56, 57, 58, 59, 60, 61] (by decide +kernel) (by decide +kernel)) (goodIn_sub (fun _ h => List.mem_cons_of_mem _ (List.mem_append_right _ h)) (by decide +kernel))
set_option maxRecDepth 20000 in
theorem gX10_originOf_X10_picksOf : GoodIn wsX10_originOf (wsV RX10 265 RX10 yX10_picksOf wsX10_picksOf) := goodIn_app (goodIn_of _ (by decide +kernel)) ggX10_originOf_X10_picksOf
theorem dX10_originOf_0 : decode cX10_originOf 0 = .ok (.iconst 0, 1) := by decide +kernel
theorem dX10_originOf_1 : decode cX10_originOf 1 = .ok (.istore_n 3, 1) := by decide +kernel
theorem dX10_originOf_2 : decode cX10_originOf 2 = .ok (.iconst 0, 1) := by decide +kernel
theorem dX10_originOf_3 : decode cX10_originOf 3 = .ok (.istore 4, 2) := by decide +kernel
theorem dX10_originOf_5 : decode cX10_originOf 5 = .ok (.iload 4, 2) := by decide +kernel
theorem dX10_originOf_7 : decode cX10_originOf 7 = .ok (.aload_n 0, 1) := by decide +kernel
theorem dX10_originOf_8 : decode cX10_originOf 8 = .ok (.getfield 7, 3) := by decide +kernel
theorem dX10_originOf_11 : decode cX10_originOf 11 = .ok (.iconst 1, 1) := by decide +kernel
theorem dX10_originOf_12 : decode cX10_originOf 12 = .ok (.iaload, 1) := by decide +kernel
theorem dX10_originOf_13 : decode cX10_originOf 13 = .ok (.if_icmp .ge 38, 3) := by decide +kernel
theorem dX10_originOf_16 : decode cX10_originOf 16 = .ok (.iload_n 3, 1) := by decide +kernel
theorem dX10_originOf_17 : decode cX10_originOf 17 = .ok (.aload_n 0, 1) := by decide +kernel
theorem dX10_originOf_18 : decode cX10_originOf 18 = .ok (.getfield 7, 3) := by decide +kernel
theorem dX10_originOf_21 : decode cX10_originOf 21 = .ok (.iload 4, 2) := by decide +kernel
theorem dX10_originOf_23 : decode cX10_originOf 23 = .ok (.iconst 3, 1) := by decide +kernel
theorem dX10_originOf_24 : decode cX10_originOf 24 = .ok (.invokestatic 245, 3) := by decide +kernel
theorem dX10_originOf_27 : decode cX10_originOf 27 = .ok (.iaload, 1) := by decide +kernel
theorem dX10_originOf_28 : decode cX10_originOf 28 = .ok (.iload_n 2, 1) := by decide +kernel
theorem dX10_originOf_29 : decode cX10_originOf 29 = .ok (.if_icmp .ne 13, 3) := by decide +kernel
theorem dX10_originOf_32 : decode cX10_originOf 32 = .ok (.aload_n 0, 1) := by decide +kernel
theorem dX10_originOf_33 : decode cX10_originOf 33 = .ok (.iload_n 1, 1) := by decide +kernel
theorem dX10_originOf_34 : decode cX10_originOf 34 = .ok (.iload 4, 2) := by decide +kernel
theorem dX10_originOf_36 : decode cX10_originOf 36 = .ok (.invokevirtual 262, 3) := by decide +kernel
theorem dX10_originOf_39 : decode cX10_originOf 39 = .ok (.goto 4, 3) := by decide +kernel
theorem dX10_originOf_42 : decode cX10_originOf 42 = .ok (.iconst 0, 1) := by decide +kernel
theorem dX10_originOf_43 : decode cX10_originOf 43 = .ok (.iadd, 1) := by decide +kernel
theorem dX10_originOf_44 : decode cX10_originOf 44 = .ok (.istore_n 3, 1) := by decide +kernel
theorem dX10_originOf_45 : decode cX10_originOf 45 = .ok (.iinc 4 1, 3) := by decide +kernel
theorem dX10_originOf_48 : decode cX10_originOf 48 = .ok (.goto (-43), 3) := by decide +kernel
theorem dX10_originOf_51 : decode cX10_originOf 51 = .ok (.iload_n 3, 1) := by decide +kernel
theorem dX10_originOf_52 : decode cX10_originOf 52 = .ok (.aload_n 0, 1) := by decide +kernel
theorem dX10_originOf_53 : decode cX10_originOf 53 = .ok (.iload_n 2, 1) := by decide +kernel
theorem dX10_originOf_54 : decode cX10_originOf 54 = .ok (.invokevirtual 265, 3) := by decide +kernel
theorem dX10_originOf_57 : decode cX10_originOf 57 = .ok (.idiv, 1) := by decide +kernel
theorem dX10_originOf_58 : decode cX10_originOf 58 = .ok (.ireturn, 1) := by decide +kernel
set_option maxRecDepth 20000 in
theorem ggX10_misfitOf_X10_originOf : GoodIn wsX10_misfitOf wsX10_originOf := goodIn_ca (goodIn_r _ [6, 1, 7, 8, 5, 9, 10, 11, 12, 13, 14, 15, 16, 17, 18, 19, 20, 21, 22, 23, 24, 25, 26, 27, 28, 29, 30, 31, 32, 33, 34, 35, 36, 37, 38, 39, 40, 41, 42, 43, 44, 45, 46, 47, 48, 49, 50, 51, 52, 53, 54, 55, 56, 57, 58, 59, 60, 61, 62, 63, 64, 65] (by decide +kernel) (by decide +kernel)) (goodIn_sub (fun _ h => List.mem_cons_of_mem _ (List.mem_append_right _ h)) (by decide +kernel))
set_option maxRecDepth 20000 in
theorem gX10_misfitOf_X10_originOf : GoodIn wsX10_misfitOf (wsV RX10 268 RX10 yX10_originOf wsX10_originOf) := goodIn_app (goodIn_of _ (by decide +kernel)) ggX10_misfitOf_X10_originOf
set_option maxRecDepth 20000 in
theorem ggX10_misfitOf_X10_of : GoodIn wsX10_misfitOf wsX10_of := goodIn_r _ [9] (by decide +kernel) (by decide +kernel)
set_option maxRecDepth 20000 in
theorem gX10_misfitOf_X10_of : GoodIn wsX10_misfitOf (va_wsS RX10 245 yX10_of wsX10_of) := goodIn_app (goodIn_of _ (by decide +kernel)) ggX10_misfitOf_X10_of
set_option maxRecDepth 20000 in
theorem ggX10_misfitOf_X10_delayOf : GoodIn wsX10_misfitOf wsX10_delayOf := goodIn_ca (goodIn_r _ [13, 1, 7, 8, 5, 9, 14, 15, 16, 17, 18, 19, 20, 21, 22, 23, 24, 25, 26, 27, 28, 29, 30, 31, 32, 33, 34, 35, 40, 41, 42, 43, 44, 45, 46, 47, 48, 49, 50, 51, 52, 53, 54, 55, 56, 57, 58, 59, 60, 61, 62, 63, 64, 65] (by decide +kernel) (by decide +kernel)) (goodIn_sub (fun _ h => List.mem_cons_of_mem _ (List.mem_append_right _ h)) (by decide +kernel))
set_option maxRecDepth 20000 in
theorem gX10_misfitOf_X10_delayOf : GoodIn wsX10_misfitOf (wsV RX10 262 RX10 yX10_delayOf wsX10_delayOf) := goodIn_app (goodIn_of _ (by decide +kernel)) ggX10_misfitOf_X10_delayOf
theorem dX10_misfitOf_0 : decode cX10_misfitOf 0 = .ok (.aload_n 0, 1) := by decide +kernel
theorem dX10_misfitOf_1 : decode cX10_misfitOf 1 = .ok (.iload_n 1, 1) := by decide +kernel
theorem dX10_misfitOf_2 : decode cX10_misfitOf 2 = .ok (.iload_n 2, 1) := by decide +kernel
theorem dX10_misfitOf_3 : decode cX10_misfitOf 3 = .ok (.invokevirtual 268, 3) := by decide +kernel
theorem dX10_misfitOf_6 : decode cX10_misfitOf 6 = .ok (.istore_n 3, 1) := by decide +kernel
theorem dX10_misfitOf_7 : decode cX10_misfitOf 7 = .ok (.iconst 0, 1) := by decide +kernel
theorem dX10_misfitOf_8 : decode cX10_misfitOf 8 = .ok (.istore 4, 2) := by decide +kernel
theorem dX10_misfitOf_10 : decode cX10_misfitOf 10 = .ok (.iconst 0, 1) := by decide +kernel
theorem dX10_misfitOf_11 : decode cX10_misfitOf 11 = .ok (.istore 5, 2) := by decide +kernel
theorem dX10_misfitOf_13 : decode cX10_misfitOf 13 = .ok (.iload 5, 2) := by decide +kernel
theorem dX10_misfitOf_15 : decode cX10_misfitOf 15 = .ok (.aload_n 0, 1) := by decide +kernel
theorem dX10_misfitOf_16 : decode cX10_misfitOf 16 = .ok (.getfield 7, 3) := by decide +kernel
theorem dX10_misfitOf_19 : decode cX10_misfitOf 19 = .ok (.iconst 1, 1) := by decide +kernel
theorem dX10_misfitOf_20 : decode cX10_misfitOf 20 = .ok (.iaload, 1) := by decide +kernel
theorem dX10_misfitOf_21 : decode cX10_misfitOf 21 = .ok (.if_icmp .ge 53, 3) := by decide +kernel
theorem dX10_misfitOf_24 : decode cX10_misfitOf 24 = .ok (.aload_n 0, 1) := by decide +kernel
theorem dX10_misfitOf_25 : decode cX10_misfitOf 25 = .ok (.getfield 7, 3) := by decide +kernel
theorem dX10_misfitOf_28 : decode cX10_misfitOf 28 = .ok (.iload 5, 2) := by decide +kernel
theorem dX10_misfitOf_30 : decode cX10_misfitOf 30 = .ok (.iconst 3, 1) := by decide +kernel
theorem dX10_misfitOf_31 : decode cX10_misfitOf 31 = .ok (.invokestatic 245, 3) := by decide +kernel
theorem dX10_misfitOf_34 : decode cX10_misfitOf 34 = .ok (.iaload, 1) := by decide +kernel
theorem dX10_misfitOf_35 : decode cX10_misfitOf 35 = .ok (.iload_n 2, 1) := by decide +kernel
theorem dX10_misfitOf_36 : decode cX10_misfitOf 36 = .ok (.if_icmp .ne 32, 3) := by decide +kernel
theorem dX10_misfitOf_39 : decode cX10_misfitOf 39 = .ok (.aload_n 0, 1) := by decide +kernel
theorem dX10_misfitOf_40 : decode cX10_misfitOf 40 = .ok (.iload_n 1, 1) := by decide +kernel
theorem dX10_misfitOf_41 : decode cX10_misfitOf 41 = .ok (.iload 5, 2) := by decide +kernel
theorem dX10_misfitOf_43 : decode cX10_misfitOf 43 = .ok (.invokevirtual 262, 3) := by decide +kernel
theorem dX10_misfitOf_46 : decode cX10_misfitOf 46 = .ok (.iload_n 3, 1) := by decide +kernel
theorem dX10_misfitOf_47 : decode cX10_misfitOf 47 = .ok (.isub, 1) := by decide +kernel
theorem dX10_misfitOf_48 : decode cX10_misfitOf 48 = .ok (.istore 6, 2) := by decide +kernel
theorem dX10_misfitOf_50 : decode cX10_misfitOf 50 = .ok (.iload 4, 2) := by decide +kernel
theorem dX10_misfitOf_52 : decode cX10_misfitOf 52 = .ok (.iload 6, 2) := by decide +kernel
theorem dX10_misfitOf_54 : decode cX10_misfitOf 54 = .ok (.ifCond .ge 9, 3) := by decide +kernel
theorem dX10_misfitOf_57 : decode cX10_misfitOf 57 = .ok (.iload 6, 2) := by decide +kernel
theorem dX10_misfitOf_59 : decode cX10_misfitOf 59 = .ok (.ineg, 1) := by decide +kernel
theorem dX10_misfitOf_60 : decode cX10_misfitOf 60 = .ok (.goto 5, 3) := by decide +kernel
theorem dX10_misfitOf_63 : decode cX10_misfitOf 63 = .ok (.iload 6, 2) := by decide +kernel
theorem dX10_misfitOf_65 : decode cX10_misfitOf 65 = .ok (.iadd, 1) := by decide +kernel
theorem dX10_misfitOf_66 : decode cX10_misfitOf 66 = .ok (.istore 4, 2) := by decide +kernel
theorem dX10_misfitOf_68 : decode cX10_misfitOf 68 = .ok (.iinc 5 1, 3) := by decide +kernel
theorem dX10_misfitOf_71 : decode cX10_misfitOf 71 = .ok (.goto (-58), 3) := by decide +kernel
theorem dX10_misfitOf_74 : decode cX10_misfitOf 74 = .ok (.iload 4, 2) := by decide +kernel
theorem dX10_misfitOf_76 : decode cX10_misfitOf 76 = .ok (.ireturn, 1) := by decide +kernel
set_option maxRecDepth 20000 in
theorem ggX10_nodeOf_X10_misfitOf : GoodIn wsX10_nodeOf wsX10_misfitOf := goodIn_ca (goodIn_r _ [5, 6, 7, 8, 9, 4, 10, 11, 12, 13, 14, 15, 16, 17, 18, 19, 20, 21, 22, 23, 24, 25, 26, 27, 28, 29, 30, 31, 32, 33, 34, 35, 36, 37, 38, 39, 40, 41, 42, 43, 48, 49, 50, 51, 52, 53, 54, 55, 56, 57, 58, 59, 60, 61, 62, 63, 64, 65, 66, 67, 68, 69, 70, 71, 72, 73] (by decide +kernel) (by decide +kernel)) (goodIn_sub (fun _ h => List.mem_cons_of_mem _ (List.mem_append_right _ h)) (by decide +kernel))
set_option maxRecDepth 20000 in
theorem gX10_nodeOf_X10_misfitOf : GoodIn wsX10_nodeOf (wsV RX10 271 RX10 yX10_misfitOf wsX10_misfitOf) := goodIn_app (goodIn_of _ (by decide +kernel)) ggX10_nodeOf_X10_misfitOf
set_option maxRecDepth 20000 in
theorem ggX10_nodeOf_X10_nodes : GoodIn wsX10_nodeOf wsX10_nodes := goodIn_ca (goodIn_r _ [47, 28, 48, 49, 50, 51, 52, 53, 54, 55, 56, 57, 58, 59, 60, 61, 62, 63, 64, 65, 66, 67, 68, 69, 70, 71, 72, 73] (by decide +kernel) (by decide +kernel)) (goodIn_sub (fun _ h => List.mem_cons_of_mem _ (List.mem_append_right _ h)) (by decide +kernel))
set_option maxRecDepth 20000 in
theorem gX10_nodeOf_X10_nodes : GoodIn wsX10_nodeOf (wsV RX10 196 RX10 yX10_nodes wsX10_nodes) := goodIn_app (goodIn_of _ (by decide +kernel)) ggX10_nodeOf_X10_nodes
theorem dX10_nodeOf_0 : decode cX10_nodeOf 0 = .ok (.iconst 0, 1) := by decide +kernel
theorem dX10_nodeOf_1 : decode cX10_nodeOf 1 = .ok (.istore_n 2, 1) := by decide +kernel
theorem dX10_nodeOf_2 : decode cX10_nodeOf 2 = .ok (.aload_n 0, 1) := by decide +kernel
theorem dX10_nodeOf_3 : decode cX10_nodeOf 3 = .ok (.iconst 0, 1) := by decide +kernel
theorem dX10_nodeOf_4 : decode cX10_nodeOf 4 = .ok (.iload_n 1, 1) := by decide +kernel
theorem dX10_nodeOf_5 : decode cX10_nodeOf 5 = .ok (.invokevirtual 271, 3) := by decide +kernel
theorem dX10_nodeOf_8 : decode cX10_nodeOf 8 = .ok (.istore_n 3, 1) := by decide +kernel
theorem dX10_nodeOf_9 : decode cX10_nodeOf 9 = .ok (.iconst 1, 1) := by decide +kernel
theorem dX10_nodeOf_10 : decode cX10_nodeOf 10 = .ok (.istore 4, 2) := by decide +kernel
theorem dX10_nodeOf_12 : decode cX10_nodeOf 12 = .ok (.iload 4, 2) := by decide +kernel
theorem dX10_nodeOf_14 : decode cX10_nodeOf 14 = .ok (.aload_n 0, 1) := by decide +kernel
theorem dX10_nodeOf_15 : decode cX10_nodeOf 15 = .ok (.invokevirtual 196, 3) := by decide +kernel
theorem dX10_nodeOf_18 : decode cX10_nodeOf 18 = .ok (.if_icmp .ge 44, 3) := by decide +kernel
theorem dX10_nodeOf_21 : decode cX10_nodeOf 21 = .ok (.aload_n 0, 1) := by decide +kernel
theorem dX10_nodeOf_22 : decode cX10_nodeOf 22 = .ok (.iload 4, 2) := by decide +kernel
theorem dX10_nodeOf_24 : decode cX10_nodeOf 24 = .ok (.iload_n 1, 1) := by decide +kernel
theorem dX10_nodeOf_25 : decode cX10_nodeOf 25 = .ok (.invokevirtual 271, 3) := by decide +kernel
theorem dX10_nodeOf_28 : decode cX10_nodeOf 28 = .ok (.istore 5, 2) := by decide +kernel
theorem dX10_nodeOf_30 : decode cX10_nodeOf 30 = .ok (.iload 5, 2) := by decide +kernel
theorem dX10_nodeOf_32 : decode cX10_nodeOf 32 = .ok (.iload_n 3, 1) := by decide +kernel
theorem dX10_nodeOf_33 : decode cX10_nodeOf 33 = .ok (.if_icmp .ge 8, 3) := by decide +kernel
theorem dX10_nodeOf_36 : decode cX10_nodeOf 36 = .ok (.iload 4, 2) := by decide +kernel
theorem dX10_nodeOf_38 : decode cX10_nodeOf 38 = .ok (.goto 4, 3) := by decide +kernel
theorem dX10_nodeOf_41 : decode cX10_nodeOf 41 = .ok (.iload_n 2, 1) := by decide +kernel
theorem dX10_nodeOf_42 : decode cX10_nodeOf 42 = .ok (.istore_n 2, 1) := by decide +kernel
theorem dX10_nodeOf_43 : decode cX10_nodeOf 43 = .ok (.iload 5, 2) := by decide +kernel
theorem dX10_nodeOf_45 : decode cX10_nodeOf 45 = .ok (.iload_n 3, 1) := by decide +kernel
theorem dX10_nodeOf_46 : decode cX10_nodeOf 46 = .ok (.if_icmp .ge 8, 3) := by decide +kernel
theorem dX10_nodeOf_49 : decode cX10_nodeOf 49 = .ok (.iload 5, 2) := by decide +kernel
theorem dX10_nodeOf_51 : decode cX10_nodeOf 51 = .ok (.goto 4, 3) := by decide +kernel
theorem dX10_nodeOf_54 : decode cX10_nodeOf 54 = .ok (.iload_n 3, 1) := by decide +kernel
theorem dX10_nodeOf_55 : decode cX10_nodeOf 55 = .ok (.istore_n 3, 1) := by decide +kernel
theorem dX10_nodeOf_56 : decode cX10_nodeOf 56 = .ok (.iinc 4 1, 3) := by decide +kernel
theorem dX10_nodeOf_59 : decode cX10_nodeOf 59 = .ok (.goto (-47), 3) := by decide +kernel
theorem dX10_nodeOf_62 : decode cX10_nodeOf 62 = .ok (.iload_n 2, 1) := by decide +kernel
theorem dX10_nodeOf_63 : decode cX10_nodeOf 63 = .ok (.ireturn, 1) := by decide +kernel
set_option maxRecDepth 20000 in
theorem ggX10_magnitudeOf_X10_of : GoodIn wsX10_magnitudeOf wsX10_of := goodIn_r _ [7] (by decide +kernel) (by decide +kernel)
set_option maxRecDepth 20000 in
theorem gX10_magnitudeOf_X10_of : GoodIn wsX10_magnitudeOf (va_wsS RX10 245 yX10_of wsX10_of) := goodIn_app (goodIn_of _ (by decide +kernel)) ggX10_magnitudeOf_X10_of
set_option maxRecDepth 20000 in
theorem ggX10_magnitudeOf_X10_nodeApart : GoodIn wsX10_magnitudeOf wsX10_nodeApart := goodIn_ca (goodIn_r _ [11, 12, 13, 14, 15, 16, 6, 17, 3, 18, 19, 20, 21, 22, 23, 24, 35, 36, 37, 38, 39, 40, 41, 42, 43, 44, 45, 46, 47, 48, 49, 50, 51, 52, 53, 54, 55, 56, 57, 58, 59, 60] (by decide +kernel) (by decide +kernel)) (goodIn_sub (fun _ h => List.mem_cons_of_mem _ (List.mem_append_right _ h)) (by decide +kernel))
set_option maxRecDepth 20000 in
theorem gX10_magnitudeOf_X10_nodeApart : GoodIn wsX10_magnitudeOf (wsV RX10 221 RX10 yX10_nodeApart wsX10_nodeApart) := goodIn_app (goodIn_of _ (by decide +kernel)) ggX10_magnitudeOf_X10_nodeApart
set_option maxRecDepth 20000 in
theorem ggX10_magnitudeOf_X10_rungOf : GoodIn wsX10_magnitudeOf wsX10_rungOf := goodIn_ca (goodIn_r _ [28, 3, 29, 30, 35, 36, 37, 38, 39, 40, 41, 42, 43, 44, 45, 46, 47, 48, 49, 50, 51, 52, 53, 54, 55, 56, 57, 58, 59, 60] (by decide +kernel) (by decide +kernel)) (goodIn_sub (fun _ h => List.mem_cons_of_mem _ (List.mem_append_right _ h)) (by decide +kernel))
set_option maxRecDepth 20000 in
theorem gX10_magnitudeOf_X10_rungOf : GoodIn wsX10_magnitudeOf (wsV RX10 225 RX10 yX10_rungOf wsX10_rungOf) := goodIn_app (goodIn_of _ (by decide +kernel)) ggX10_magnitudeOf_X10_rungOf
set_option maxRecDepth 20000 in
theorem ggX10_magnitudeOf_X10_picksOf : GoodIn wsX10_magnitudeOf wsX10_picksOf := goodIn_ca (goodIn_r _ [34, 2, 4, 5, 6, 7, 35, 36, 37, 38, 39, 40, 41, 42, 43, 44, 45, 46, 47, 48, 49, 50, 51, 52, 53, 54, 55, 56, 57, 58, 59, 60] (by decide +kernel) (by decide +kernel)) (goodIn_sub (fun _ h => List.mem_cons_of_mem _ (List.mem_append_right _ h)) (by decide +kernel))
set_option maxRecDepth 20000 in
theorem gX10_magnitudeOf_X10_picksOf : GoodIn wsX10_magnitudeOf (wsV RX10 265 RX10 yX10_picksOf wsX10_picksOf) := goodIn_app (goodIn_of _ (by decide +kernel)) ggX10_magnitudeOf_X10_picksOf
theorem dX10_magnitudeOf_0 : decode cX10_magnitudeOf 0 = .ok (.iconst 0, 1) := by decide +kernel
theorem dX10_magnitudeOf_1 : decode cX10_magnitudeOf 1 = .ok (.istore_n 3, 1) := by decide +kernel
theorem dX10_magnitudeOf_2 : decode cX10_magnitudeOf 2 = .ok (.iload_n 3, 1) := by decide +kernel
theorem dX10_magnitudeOf_3 : decode cX10_magnitudeOf 3 = .ok (.bipush 101, 2) := by decide +kernel
theorem dX10_magnitudeOf_5 : decode cX10_magnitudeOf 5 = .ok (.if_icmp .ge 16, 3) := by decide +kernel
theorem dX10_magnitudeOf_8 : decode cX10_magnitudeOf 8 = .ok (.aload_n 0, 1) := by decide +kernel
theorem dX10_magnitudeOf_9 : decode cX10_magnitudeOf 9 = .ok (.getfield 36, 3) := by decide +kernel
theorem dX10_magnitudeOf_12 : decode cX10_magnitudeOf 12 = .ok (.iload_n 3, 1) := by decide +kernel
theorem dX10_magnitudeOf_13 : decode cX10_magnitudeOf 13 = .ok (.iconst 0, 1) := by decide +kernel
theorem dX10_magnitudeOf_14 : decode cX10_magnitudeOf 14 = .ok (.iastore, 1) := by decide +kernel
theorem dX10_magnitudeOf_15 : decode cX10_magnitudeOf 15 = .ok (.iinc 3 1, 3) := by decide +kernel
theorem dX10_magnitudeOf_18 : decode cX10_magnitudeOf 18 = .ok (.goto (-16), 3) := by decide +kernel
theorem dX10_magnitudeOf_21 : decode cX10_magnitudeOf 21 = .ok (.iconst 0, 1) := by decide +kernel
theorem dX10_magnitudeOf_22 : decode cX10_magnitudeOf 22 = .ok (.istore_n 3, 1) := by decide +kernel
theorem dX10_magnitudeOf_23 : decode cX10_magnitudeOf 23 = .ok (.iload_n 3, 1) := by decide +kernel
theorem dX10_magnitudeOf_24 : decode cX10_magnitudeOf 24 = .ok (.aload_n 0, 1) := by decide +kernel
theorem dX10_magnitudeOf_25 : decode cX10_magnitudeOf 25 = .ok (.getfield 7, 3) := by decide +kernel
theorem dX10_magnitudeOf_28 : decode cX10_magnitudeOf 28 = .ok (.iconst 1, 1) := by decide +kernel
theorem dX10_magnitudeOf_29 : decode cX10_magnitudeOf 29 = .ok (.iaload, 1) := by decide +kernel
theorem dX10_magnitudeOf_30 : decode cX10_magnitudeOf 30 = .ok (.if_icmp .ge 72, 3) := by decide +kernel
theorem dX10_magnitudeOf_33 : decode cX10_magnitudeOf 33 = .ok (.aload_n 0, 1) := by decide +kernel
theorem dX10_magnitudeOf_34 : decode cX10_magnitudeOf 34 = .ok (.getfield 7, 3) := by decide +kernel
theorem dX10_magnitudeOf_37 : decode cX10_magnitudeOf 37 = .ok (.iload_n 3, 1) := by decide +kernel
theorem dX10_magnitudeOf_38 : decode cX10_magnitudeOf 38 = .ok (.iconst 3, 1) := by decide +kernel
theorem dX10_magnitudeOf_39 : decode cX10_magnitudeOf 39 = .ok (.invokestatic 245, 3) := by decide +kernel
theorem dX10_magnitudeOf_42 : decode cX10_magnitudeOf 42 = .ok (.iaload, 1) := by decide +kernel
theorem dX10_magnitudeOf_43 : decode cX10_magnitudeOf 43 = .ok (.iload_n 1, 1) := by decide +kernel
theorem dX10_magnitudeOf_44 : decode cX10_magnitudeOf 44 = .ok (.if_icmp .ne 52, 3) := by decide +kernel
theorem dX10_magnitudeOf_47 : decode cX10_magnitudeOf 47 = .ok (.aload_n 0, 1) := by decide +kernel
theorem dX10_magnitudeOf_48 : decode cX10_magnitudeOf 48 = .ok (.getfield 36, 3) := by decide +kernel
theorem dX10_magnitudeOf_51 : decode cX10_magnitudeOf 51 = .ok (.iconst 1, 1) := by decide +kernel
theorem dX10_magnitudeOf_52 : decode cX10_magnitudeOf 52 = .ok (.aload_n 0, 1) := by decide +kernel
theorem dX10_magnitudeOf_53 : decode cX10_magnitudeOf 53 = .ok (.aload_n 0, 1) := by decide +kernel
theorem dX10_magnitudeOf_54 : decode cX10_magnitudeOf 54 = .ok (.getfield 7, 3) := by decide +kernel
theorem dX10_magnitudeOf_57 : decode cX10_magnitudeOf 57 = .ok (.iload_n 3, 1) := by decide +kernel
theorem dX10_magnitudeOf_58 : decode cX10_magnitudeOf 58 = .ok (.iconst 2, 1) := by decide +kernel
theorem dX10_magnitudeOf_59 : decode cX10_magnitudeOf 59 = .ok (.invokestatic 245, 3) := by decide +kernel
theorem dX10_magnitudeOf_62 : decode cX10_magnitudeOf 62 = .ok (.iaload, 1) := by decide +kernel
theorem dX10_magnitudeOf_63 : decode cX10_magnitudeOf 63 = .ok (.aload_n 0, 1) := by decide +kernel
theorem dX10_magnitudeOf_64 : decode cX10_magnitudeOf 64 = .ok (.getfield 13, 3) := by decide +kernel
theorem dX10_magnitudeOf_67 : decode cX10_magnitudeOf 67 = .ok (.bipush 14, 2) := by decide +kernel
theorem dX10_magnitudeOf_69 : decode cX10_magnitudeOf 69 = .ok (.iaload, 1) := by decide +kernel
theorem dX10_magnitudeOf_70 : decode cX10_magnitudeOf 70 = .ok (.aload_n 0, 1) := by decide +kernel
theorem dX10_magnitudeOf_71 : decode cX10_magnitudeOf 71 = .ok (.iload_n 2, 1) := by decide +kernel
theorem dX10_magnitudeOf_72 : decode cX10_magnitudeOf 72 = .ok (.aload_n 0, 1) := by decide +kernel
theorem dX10_magnitudeOf_73 : decode cX10_magnitudeOf 73 = .ok (.getfield 7, 3) := by decide +kernel
theorem dX10_magnitudeOf_76 : decode cX10_magnitudeOf 76 = .ok (.iload_n 3, 1) := by decide +kernel
theorem dX10_magnitudeOf_77 : decode cX10_magnitudeOf 77 = .ok (.iconst 0, 1) := by decide +kernel
theorem dX10_magnitudeOf_78 : decode cX10_magnitudeOf 78 = .ok (.invokestatic 245, 3) := by decide +kernel
theorem dX10_magnitudeOf_81 : decode cX10_magnitudeOf 81 = .ok (.iaload, 1) := by decide +kernel
theorem dX10_magnitudeOf_82 : decode cX10_magnitudeOf 82 = .ok (.invokevirtual 221, 3) := by decide +kernel
theorem dX10_magnitudeOf_85 : decode cX10_magnitudeOf 85 = .ok (.imul, 1) := by decide +kernel
theorem dX10_magnitudeOf_86 : decode cX10_magnitudeOf 86 = .ok (.iadd, 1) := by decide +kernel
theorem dX10_magnitudeOf_87 : decode cX10_magnitudeOf 87 = .ok (.invokevirtual 225, 3) := by decide +kernel
theorem dX10_magnitudeOf_90 : decode cX10_magnitudeOf 90 = .ok (.iadd, 1) := by decide +kernel
theorem dX10_magnitudeOf_91 : decode cX10_magnitudeOf 91 = .ok (.dup2, 1) := by decide +kernel
theorem dX10_magnitudeOf_92 : decode cX10_magnitudeOf 92 = .ok (.iaload, 1) := by decide +kernel
theorem dX10_magnitudeOf_93 : decode cX10_magnitudeOf 93 = .ok (.iconst 1, 1) := by decide +kernel
theorem dX10_magnitudeOf_94 : decode cX10_magnitudeOf 94 = .ok (.iadd, 1) := by decide +kernel
theorem dX10_magnitudeOf_95 : decode cX10_magnitudeOf 95 = .ok (.iastore, 1) := by decide +kernel
theorem dX10_magnitudeOf_96 : decode cX10_magnitudeOf 96 = .ok (.iinc 3 1, 3) := by decide +kernel
theorem dX10_magnitudeOf_99 : decode cX10_magnitudeOf 99 = .ok (.goto (-76), 3) := by decide +kernel
theorem dX10_magnitudeOf_102 : decode cX10_magnitudeOf 102 = .ok (.aload_n 0, 1) := by decide +kernel
theorem dX10_magnitudeOf_103 : decode cX10_magnitudeOf 103 = .ok (.iload_n 1, 1) := by decide +kernel
theorem dX10_magnitudeOf_104 : decode cX10_magnitudeOf 104 = .ok (.invokevirtual 265, 3) := by decide +kernel
theorem dX10_magnitudeOf_107 : decode cX10_magnitudeOf 107 = .ok (.iconst 1, 1) := by decide +kernel
theorem dX10_magnitudeOf_108 : decode cX10_magnitudeOf 108 = .ok (.isub, 1) := by decide +kernel
theorem dX10_magnitudeOf_109 : decode cX10_magnitudeOf 109 = .ok (.iconst 2, 1) := by decide +kernel
theorem dX10_magnitudeOf_110 : decode cX10_magnitudeOf 110 = .ok (.idiv, 1) := by decide +kernel
theorem dX10_magnitudeOf_111 : decode cX10_magnitudeOf 111 = .ok (.istore_n 3, 1) := by decide +kernel
theorem dX10_magnitudeOf_112 : decode cX10_magnitudeOf 112 = .ok (.iconst 0, 1) := by decide +kernel
theorem dX10_magnitudeOf_113 : decode cX10_magnitudeOf 113 = .ok (.istore 4, 2) := by decide +kernel
theorem dX10_magnitudeOf_115 : decode cX10_magnitudeOf 115 = .ok (.iload_n 3, 1) := by decide +kernel
theorem dX10_magnitudeOf_116 : decode cX10_magnitudeOf 116 = .ok (.aload_n 0, 1) := by decide +kernel
theorem dX10_magnitudeOf_117 : decode cX10_magnitudeOf 117 = .ok (.getfield 36, 3) := by decide +kernel
theorem dX10_magnitudeOf_120 : decode cX10_magnitudeOf 120 = .ok (.iload 4, 2) := by decide +kernel
theorem dX10_magnitudeOf_122 : decode cX10_magnitudeOf 122 = .ok (.iaload, 1) := by decide +kernel
theorem dX10_magnitudeOf_123 : decode cX10_magnitudeOf 123 = .ok (.if_icmp .lt 19, 3) := by decide +kernel
theorem dX10_magnitudeOf_126 : decode cX10_magnitudeOf 126 = .ok (.iload_n 3, 1) := by decide +kernel
theorem dX10_magnitudeOf_127 : decode cX10_magnitudeOf 127 = .ok (.aload_n 0, 1) := by decide +kernel
theorem dX10_magnitudeOf_128 : decode cX10_magnitudeOf 128 = .ok (.getfield 36, 3) := by decide +kernel
theorem dX10_magnitudeOf_131 : decode cX10_magnitudeOf 131 = .ok (.iload 4, 2) := by decide +kernel
theorem dX10_magnitudeOf_133 : decode cX10_magnitudeOf 133 = .ok (.iaload, 1) := by decide +kernel
theorem dX10_magnitudeOf_134 : decode cX10_magnitudeOf 134 = .ok (.isub, 1) := by decide +kernel
theorem dX10_magnitudeOf_135 : decode cX10_magnitudeOf 135 = .ok (.istore_n 3, 1) := by decide +kernel
theorem dX10_magnitudeOf_136 : decode cX10_magnitudeOf 136 = .ok (.iinc 4 1, 3) := by decide +kernel
theorem dX10_magnitudeOf_139 : decode cX10_magnitudeOf 139 = .ok (.goto (-24), 3) := by decide +kernel
theorem dX10_magnitudeOf_142 : decode cX10_magnitudeOf 142 = .ok (.iload 4, 2) := by decide +kernel
theorem dX10_magnitudeOf_144 : decode cX10_magnitudeOf 144 = .ok (.iconst 1, 1) := by decide +kernel
theorem dX10_magnitudeOf_145 : decode cX10_magnitudeOf 145 = .ok (.isub, 1) := by decide +kernel
theorem dX10_magnitudeOf_146 : decode cX10_magnitudeOf 146 = .ok (.ireturn, 1) := by decide +kernel
set_option maxRecDepth 20000 in
theorem ggX10_event_X10_noEvent : GoodIn wsX10_event wsX10_noEvent := goodIn_ca (goodIn_r _ [7, 2, 8, 9, 10, 6, 11, 12, 13, 14, 15, 16, 17, 18, 1, 83, 84, 85, 86, 87, 88, 89, 90, 91, 92, 93, 94, 95, 96, 97, 98, 99, 100, 101, 102, 103, 104, 105, 106, 107, 108] (by decide +kernel) (by decide +kernel)) (goodIn_sub (fun _ h => List.mem_cons_of_mem _ (List.mem_append_right _ h)) (by decide +kernel))
set_option maxRecDepth 20000 in
theorem gX10_event_X10_noEvent : GoodIn wsX10_event (wsV RX10 274 RX10 yX10_noEvent wsX10_noEvent) := goodIn_app (goodIn_of _ (by decide +kernel)) ggX10_event_X10_noEvent
set_option maxRecDepth 20000 in
theorem ggX10_event_X10_within : GoodIn wsX10_event wsX10_within := goodIn_r _ [14] (by decide +kernel) (by decide +kernel)
set_option maxRecDepth 20000 in
theorem gX10_event_X10_within : GoodIn wsX10_event (va_wsS RX10 101 yX10_within wsX10_within) := goodIn_app (goodIn_of _ (by decide +kernel)) ggX10_event_X10_within
set_option maxRecDepth 20000 in
theorem ggX10_event_X10_throwsIf : GoodIn wsX10_event wsX10_throwsIf := goodIn_r _ [18, 1, 83, 84, 85, 86, 87, 88, 89, 90, 91, 92, 93, 94, 95, 96, 97, 98, 99, 100, 101, 102, 103, 104, 105, 106, 107, 108] (by decide +kernel) (by decide +kernel)
set_option maxRecDepth 20000 in
theorem gX10_event_X10_throwsIf : GoodIn wsX10_event (wsV RX10 177 RX10 yX10_throwsIf wsX10_throwsIf) := goodIn_app (goodIn_of _ (by decide +kernel)) ggX10_event_X10_throwsIf
set_option maxRecDepth 20000 in
theorem ggX10_event_X10_picksOf : GoodIn wsX10_event wsX10_picksOf := goodIn_ca (goodIn_r _ [22, 2, 23, 24, 6, 25, 83, 84, 85, 86, 87, 88, 89, 90, 91, 92, 93, 94, 95, 96, 97, 98, 99, 100, 101, 102, 103, 104, 105, 106, 107, 108] (by decide +kernel) (by decide +kernel)) (goodIn_sub (fun _ h => List.mem_cons_of_mem _ (List.mem_append_right _ h)) (by decide +kernel))
set_option maxRecDepth 20000 in
theorem gX10_event_X10_picksOf : GoodIn wsX10_event (wsV RX10 265 RX10 yX10_picksOf wsX10_picksOf) := goodIn_app (goodIn_of _ (by decide +kernel)) ggX10_event_X10_picksOf
set_option maxRecDepth 20000 in
theorem ggX10_event_X10_isRetracted : GoodIn wsX10_event wsX10_isRetracted := goodIn_ca (goodIn_r _ [29, 2, 83, 84, 85, 86, 87, 88, 89, 90, 91, 92, 93, 94, 95, 96, 97, 98, 99, 100, 101, 102, 103, 104, 105, 106, 107, 108] (by decide +kernel) (by decide +kernel)) (goodIn_sub (fun _ h => List.mem_cons_of_mem _ (List.mem_append_right _ h)) (by decide +kernel))
set_option maxRecDepth 20000 in
theorem gX10_event_X10_isRetracted : GoodIn wsX10_event (wsV RX10 193 RX10 yX10_isRetracted wsX10_isRetracted) := goodIn_app (goodIn_of _ (by decide +kernel)) ggX10_event_X10_isRetracted
set_option maxRecDepth 20000 in
theorem ggX10_event_X10_nodeOf : GoodIn wsX10_event wsX10_nodeOf := goodIn_ca (goodIn_r _ [33, 34, 35, 36, 6, 37, 2, 38, 39, 40, 41, 23, 24, 25, 42, 43, 44, 45, 46, 47, 48, 49, 50, 51, 52, 53, 54, 55, 56, 57, 58, 59, 60, 61, 62, 63, 64, 65, 66, 67, 19, 20, 21, 22, 68, 69, 70, 71, 83, 84, 85, 86, 87, 88, 89, 90, 91, 92, 93, 94, 95, 96, 97, 98, 99, 100, 101, 102, 103, 104, 105, 106, 107, 108] (by decide +kernel) (by decide +kernel)) (goodIn_sub (fun _ h => List.mem_cons_of_mem _ (List.mem_append_right _ h)) (by decide +kernel))
set_option maxRecDepth 20000 in
theorem gX10_event_X10_nodeOf : GoodIn wsX10_event (wsV RX10 277 RX10 yX10_nodeOf wsX10_nodeOf) := goodIn_app (goodIn_of _ (by decide +kernel)) ggX10_event_X10_nodeOf
set_option maxRecDepth 20000 in
theorem ggX10_event_X10_originOf : GoodIn wsX10_event wsX10_originOf := goodIn_ca (goodIn_r _ [41, 2, 23, 24, 6, 25, 42, 43, 44, 45, 46, 47, 48, 49, 50, 51, 52, 53, 54, 55, 56, 57, 58, 59, 60, 61, 62, 63, 64, 65, 66, 67, 19, 20, 21, 22, 83, 84, 85, 86, 87, 88, 89, 90, 91, 92, 93, 94, 95, 96, 97, 98, 99, 100, 101, 102, 103, 104, 105, 106, 107, 108] (by decide +kernel) (by decide +kernel)) (goodIn_sub (fun _ h => List.mem_cons_of_mem _ (List.mem_append_right _ h)) (by decide +kernel))
set_option maxRecDepth 20000 in
theorem gX10_event_X10_originOf : GoodIn wsX10_event (wsV RX10 268 RX10 yX10_originOf wsX10_originOf) := goodIn_app (goodIn_of _ (by decide +kernel)) ggX10_event_X10_originOf
set_option maxRecDepth 20000 in
theorem ggX10_event_X10_misfitOf : GoodIn wsX10_event wsX10_misfitOf := goodIn_ca (goodIn_r _ [37, 2, 38, 39, 40, 6, 41, 23, 24, 25, 42, 43, 44, 45, 46, 47, 48, 49, 50, 51, 52, 53, 54, 55, 56, 57, 58, 59, 60, 61, 62, 63, 64, 65, 66, 67, 19, 20, 21, 22, 83, 84, 85, 86, 87, 88, 89, 90, 91, 92, 93, 94, 95, 96, 97, 98, 99, 100, 101, 102, 103, 104, 105, 106, 107, 108] (by decide +kernel) (by decide +kernel)) (goodIn_sub (fun _ h => List.mem_cons_of_mem _ (List.mem_append_right _ h)) (by decide +kernel))
set_option maxRecDepth 20000 in
theorem gX10_event_X10_misfitOf : GoodIn wsX10_event (wsV RX10 271 RX10 yX10_misfitOf wsX10_misfitOf) := goodIn_app (goodIn_of _ (by decide +kernel)) ggX10_event_X10_misfitOf
set_option maxRecDepth 20000 in
theorem ggX10_event_X10_magnitudeOf : GoodIn wsX10_event wsX10_magnitudeOf := goodIn_ca (goodIn_r _ [75, 76, 2, 56, 23, 24, 6, 25, 46, 47, 48, 49, 50, 51, 52, 53, 54, 55, 57, 58, 59, 60, 61, 62, 63, 77, 78, 79, 80, 81, 82, 19, 20, 21, 22, 83, 84, 85, 86, 87, 88, 89, 90, 91, 92, 93, 94, 95, 96, 97, 98, 99, 100, 101, 102, 103, 104, 105, 106, 107, 108] (by decide +kernel) (by decide +kernel)) (goodIn_sub (fun _ h => List.mem_cons_of_mem _ (List.mem_append_right _ h)) (by decide +kernel))
set_option maxRecDepth 20000 in
theorem gX10_event_X10_magnitudeOf : GoodIn wsX10_event (wsV RX10 280 RX10 yX10_magnitudeOf wsX10_magnitudeOf) := goodIn_app (goodIn_of _ (by decide +kernel)) ggX10_event_X10_magnitudeOf
theorem dX10_event_0 : decode cX10_event 0 = .ok (.aload_n 0, 1) := by decide +kernel
theorem dX10_event_1 : decode cX10_event 1 = .ok (.iconst 0, 1) := by decide +kernel
theorem dX10_event_2 : decode cX10_event 2 = .ok (.putfield 64, 3) := by decide +kernel
theorem dX10_event_5 : decode cX10_event 5 = .ok (.aload_n 0, 1) := by decide +kernel
theorem dX10_event_6 : decode cX10_event 6 = .ok (.iload_n 1, 1) := by decide +kernel
theorem dX10_event_7 : decode cX10_event 7 = .ok (.invokevirtual 274, 3) := by decide +kernel
theorem dX10_event_10 : decode cX10_event 10 = .ok (.ifCond .ne 26, 3) := by decide +kernel
theorem dX10_event_13 : decode cX10_event 13 = .ok (.aload_n 0, 1) := by decide +kernel
theorem dX10_event_14 : decode cX10_event 14 = .ok (.iload_n 2, 1) := by decide +kernel
theorem dX10_event_15 : decode cX10_event 15 = .ok (.iconst 0, 1) := by decide +kernel
theorem dX10_event_16 : decode cX10_event 16 = .ok (.bipush 6, 2) := by decide +kernel
theorem dX10_event_18 : decode cX10_event 18 = .ok (.invokestatic 101, 3) := by decide +kernel
theorem dX10_event_21 : decode cX10_event 21 = .ok (.ifCond .ne 7, 3) := by decide +kernel
theorem dX10_event_24 : decode cX10_event 24 = .ok (.iconst 1, 1) := by decide +kernel
theorem dX10_event_25 : decode cX10_event 25 = .ok (.goto 4, 3) := by decide +kernel
theorem dX10_event_28 : decode cX10_event 28 = .ok (.iconst 0, 1) := by decide +kernel
theorem dX10_event_29 : decode cX10_event 29 = .ok (.iconst 2, 1) := by decide +kernel
theorem dX10_event_30 : decode cX10_event 30 = .ok (.invokevirtual 177, 3) := by decide +kernel
theorem dX10_event_33 : decode cX10_event 33 = .ok (.ifCond .eq 5, 3) := by decide +kernel
theorem dX10_event_36 : decode cX10_event 36 = .ok (.iconst 0, 1) := by decide +kernel
theorem dX10_event_37 : decode cX10_event 37 = .ok (.ireturn, 1) := by decide +kernel
theorem dX10_event_38 : decode cX10_event 38 = .ok (.iload_n 2, 1) := by decide +kernel
theorem dX10_event_39 : decode cX10_event 39 = .ok (.iconst 3, 1) := by decide +kernel
theorem dX10_event_40 : decode cX10_event 40 = .ok (.if_icmp .ge 33, 3) := by decide +kernel
theorem dX10_event_43 : decode cX10_event 43 = .ok (.iload_n 2, 1) := by decide +kernel
theorem dX10_event_44 : decode cX10_event 44 = .ok (.iconst 1, 1) := by decide +kernel
theorem dX10_event_45 : decode cX10_event 45 = .ok (.if_icmp .ne 11, 3) := by decide +kernel
theorem dX10_event_48 : decode cX10_event 48 = .ok (.aload_n 0, 1) := by decide +kernel
theorem dX10_event_49 : decode cX10_event 49 = .ok (.iload_n 1, 1) := by decide +kernel
theorem dX10_event_50 : decode cX10_event 50 = .ok (.invokevirtual 265, 3) := by decide +kernel
theorem dX10_event_53 : decode cX10_event 53 = .ok (.goto 19, 3) := by decide +kernel
theorem dX10_event_56 : decode cX10_event 56 = .ok (.aload_n 0, 1) := by decide +kernel
theorem dX10_event_57 : decode cX10_event 57 = .ok (.getfield 7, 3) := by decide +kernel
theorem dX10_event_60 : decode cX10_event 60 = .ok (.sipush 1127, 3) := by decide +kernel
theorem dX10_event_63 : decode cX10_event 63 = .ok (.iconst 2, 1) := by decide +kernel
theorem dX10_event_64 : decode cX10_event 64 = .ok (.iload_n 1, 1) := by decide +kernel
theorem dX10_event_65 : decode cX10_event 65 = .ok (.imul, 1) := by decide +kernel
theorem dX10_event_66 : decode cX10_event 66 = .ok (.iadd, 1) := by decide +kernel
theorem dX10_event_67 : decode cX10_event 67 = .ok (.iload_n 2, 1) := by decide +kernel
theorem dX10_event_68 : decode cX10_event 68 = .ok (.iconst 2, 1) := by decide +kernel
theorem dX10_event_69 : decode cX10_event 69 = .ok (.idiv, 1) := by decide +kernel
theorem dX10_event_70 : decode cX10_event 70 = .ok (.iadd, 1) := by decide +kernel
theorem dX10_event_71 : decode cX10_event 71 = .ok (.iaload, 1) := by decide +kernel
theorem dX10_event_72 : decode cX10_event 72 = .ok (.ireturn, 1) := by decide +kernel
theorem dX10_event_73 : decode cX10_event 73 = .ok (.aload_n 0, 1) := by decide +kernel
theorem dX10_event_74 : decode cX10_event 74 = .ok (.iload_n 1, 1) := by decide +kernel
theorem dX10_event_75 : decode cX10_event 75 = .ok (.invokevirtual 193, 3) := by decide +kernel
theorem dX10_event_78 : decode cX10_event 78 = .ok (.ifCond .eq 5, 3) := by decide +kernel
theorem dX10_event_81 : decode cX10_event 81 = .ok (.iconst (-1), 1) := by decide +kernel
theorem dX10_event_82 : decode cX10_event 82 = .ok (.ireturn, 1) := by decide +kernel
theorem dX10_event_83 : decode cX10_event 83 = .ok (.aload_n 0, 1) := by decide +kernel
theorem dX10_event_84 : decode cX10_event 84 = .ok (.iload_n 1, 1) := by decide +kernel
theorem dX10_event_85 : decode cX10_event 85 = .ok (.invokevirtual 277, 3) := by decide +kernel
theorem dX10_event_88 : decode cX10_event 88 = .ok (.istore_n 3, 1) := by decide +kernel
theorem dX10_event_89 : decode cX10_event 89 = .ok (.iload_n 2, 1) := by decide +kernel
theorem dX10_event_90 : decode cX10_event 90 = .ok (.iconst 3, 1) := by decide +kernel
theorem dX10_event_91 : decode cX10_event 91 = .ok (.if_icmp .ne 7, 3) := by decide +kernel
theorem dX10_event_94 : decode cX10_event 94 = .ok (.iload_n 3, 1) := by decide +kernel
theorem dX10_event_95 : decode cX10_event 95 = .ok (.goto 37, 3) := by decide +kernel
theorem dX10_event_98 : decode cX10_event 98 = .ok (.iload_n 2, 1) := by decide +kernel
theorem dX10_event_99 : decode cX10_event 99 = .ok (.iconst 4, 1) := by decide +kernel
theorem dX10_event_100 : decode cX10_event 100 = .ok (.if_icmp .ne 12, 3) := by decide +kernel
theorem dX10_event_103 : decode cX10_event 103 = .ok (.aload_n 0, 1) := by decide +kernel
theorem dX10_event_104 : decode cX10_event 104 = .ok (.iload_n 3, 1) := by decide +kernel
theorem dX10_event_105 : decode cX10_event 105 = .ok (.iload_n 1, 1) := by decide +kernel
theorem dX10_event_106 : decode cX10_event 106 = .ok (.invokevirtual 268, 3) := by decide +kernel
theorem dX10_event_109 : decode cX10_event 109 = .ok (.goto 23, 3) := by decide +kernel
theorem dX10_event_112 : decode cX10_event 112 = .ok (.iload_n 2, 1) := by decide +kernel
theorem dX10_event_113 : decode cX10_event 113 = .ok (.iconst 5, 1) := by decide +kernel
theorem dX10_event_114 : decode cX10_event 114 = .ok (.if_icmp .ne 12, 3) := by decide +kernel
theorem dX10_event_117 : decode cX10_event 117 = .ok (.aload_n 0, 1) := by decide +kernel
theorem dX10_event_118 : decode cX10_event 118 = .ok (.iload_n 3, 1) := by decide +kernel
theorem dX10_event_119 : decode cX10_event 119 = .ok (.iload_n 1, 1) := by decide +kernel
theorem dX10_event_120 : decode cX10_event 120 = .ok (.invokevirtual 271, 3) := by decide +kernel
theorem dX10_event_123 : decode cX10_event 123 = .ok (.goto 9, 3) := by decide +kernel
theorem dX10_event_126 : decode cX10_event 126 = .ok (.aload_n 0, 1) := by decide +kernel
theorem dX10_event_127 : decode cX10_event 127 = .ok (.iload_n 1, 1) := by decide +kernel
theorem dX10_event_128 : decode cX10_event 128 = .ok (.iload_n 3, 1) := by decide +kernel
theorem dX10_event_129 : decode cX10_event 129 = .ok (.invokevirtual 280, 3) := by decide +kernel
theorem dX10_event_132 : decode cX10_event 132 = .ok (.ireturn, 1) := by decide +kernel
set_option maxRecDepth 20000 in
theorem ggX10_eventPick_X10_noEvent : GoodIn wsX10_eventPick wsX10_noEvent := goodIn_ca (goodIn_r _ [7, 2, 8, 9, 10, 6, 11, 12, 13, 14, 15, 16, 17, 18, 1, 22, 23, 24, 25, 26, 27, 28, 29, 30, 31, 32, 33, 34, 35, 36, 37, 38, 39, 40, 41, 42, 43, 44, 45, 46, 47] (by decide +kernel) (by decide +kernel)) (goodIn_sub (fun _ h => List.mem_cons_of_mem _ (List.mem_append_right _ h)) (by decide +kernel))
set_option maxRecDepth 20000 in
theorem gX10_eventPick_X10_noEvent : GoodIn wsX10_eventPick (wsV RX10 274 RX10 yX10_noEvent wsX10_noEvent) := goodIn_app (goodIn_of _ (by decide +kernel)) ggX10_eventPick_X10_noEvent
set_option maxRecDepth 20000 in
theorem ggX10_eventPick_X10_of : GoodIn wsX10_eventPick wsX10_of := goodIn_r _ [21] (by decide +kernel) (by decide +kernel)
set_option maxRecDepth 20000 in
theorem gX10_eventPick_X10_of : GoodIn wsX10_eventPick (va_wsS RX10 245 yX10_of wsX10_of) := goodIn_app (goodIn_of _ (by decide +kernel)) ggX10_eventPick_X10_of
theorem dX10_eventPick_0 : decode cX10_eventPick 0 = .ok (.aload_n 0, 1) := by decide +kernel
theorem dX10_eventPick_1 : decode cX10_eventPick 1 = .ok (.iconst 0, 1) := by decide +kernel
theorem dX10_eventPick_2 : decode cX10_eventPick 2 = .ok (.putfield 64, 3) := by decide +kernel
theorem dX10_eventPick_5 : decode cX10_eventPick 5 = .ok (.aload_n 0, 1) := by decide +kernel
theorem dX10_eventPick_6 : decode cX10_eventPick 6 = .ok (.iload_n 1, 1) := by decide +kernel
theorem dX10_eventPick_7 : decode cX10_eventPick 7 = .ok (.invokevirtual 274, 3) := by decide +kernel
theorem dX10_eventPick_10 : decode cX10_eventPick 10 = .ok (.ifCond .eq 5, 3) := by decide +kernel
theorem dX10_eventPick_13 : decode cX10_eventPick 13 = .ok (.iconst 0, 1) := by decide +kernel
theorem dX10_eventPick_14 : decode cX10_eventPick 14 = .ok (.ireturn, 1) := by decide +kernel
theorem dX10_eventPick_15 : decode cX10_eventPick 15 = .ok (.iload_n 2, 1) := by decide +kernel
theorem dX10_eventPick_16 : decode cX10_eventPick 16 = .ok (.istore_n 3, 1) := by decide +kernel
theorem dX10_eventPick_17 : decode cX10_eventPick 17 = .ok (.iconst 0, 1) := by decide +kernel
theorem dX10_eventPick_18 : decode cX10_eventPick 18 = .ok (.istore 4, 2) := by decide +kernel
theorem dX10_eventPick_20 : decode cX10_eventPick 20 = .ok (.iload 4, 2) := by decide +kernel
theorem dX10_eventPick_22 : decode cX10_eventPick 22 = .ok (.aload_n 0, 1) := by decide +kernel
theorem dX10_eventPick_23 : decode cX10_eventPick 23 = .ok (.getfield 7, 3) := by decide +kernel
theorem dX10_eventPick_26 : decode cX10_eventPick 26 = .ok (.iconst 1, 1) := by decide +kernel
theorem dX10_eventPick_27 : decode cX10_eventPick 27 = .ok (.iaload, 1) := by decide +kernel
theorem dX10_eventPick_28 : decode cX10_eventPick 28 = .ok (.if_icmp .ge 38, 3) := by decide +kernel
theorem dX10_eventPick_31 : decode cX10_eventPick 31 = .ok (.iload_n 2, 1) := by decide +kernel
theorem dX10_eventPick_32 : decode cX10_eventPick 32 = .ok (.ifCond .lt 34, 3) := by decide +kernel
theorem dX10_eventPick_35 : decode cX10_eventPick 35 = .ok (.aload_n 0, 1) := by decide +kernel
theorem dX10_eventPick_36 : decode cX10_eventPick 36 = .ok (.getfield 7, 3) := by decide +kernel
theorem dX10_eventPick_39 : decode cX10_eventPick 39 = .ok (.iload 4, 2) := by decide +kernel
theorem dX10_eventPick_41 : decode cX10_eventPick 41 = .ok (.iconst 3, 1) := by decide +kernel
theorem dX10_eventPick_42 : decode cX10_eventPick 42 = .ok (.invokestatic 245, 3) := by decide +kernel
theorem dX10_eventPick_45 : decode cX10_eventPick 45 = .ok (.iaload, 1) := by decide +kernel
theorem dX10_eventPick_46 : decode cX10_eventPick 46 = .ok (.iload_n 1, 1) := by decide +kernel
theorem dX10_eventPick_47 : decode cX10_eventPick 47 = .ok (.if_icmp .ne 13, 3) := by decide +kernel
theorem dX10_eventPick_50 : decode cX10_eventPick 50 = .ok (.iload_n 3, 1) := by decide +kernel
theorem dX10_eventPick_51 : decode cX10_eventPick 51 = .ok (.ifCond .ne 6, 3) := by decide +kernel
theorem dX10_eventPick_54 : decode cX10_eventPick 54 = .ok (.iload 4, 2) := by decide +kernel
theorem dX10_eventPick_56 : decode cX10_eventPick 56 = .ok (.ireturn, 1) := by decide +kernel
theorem dX10_eventPick_57 : decode cX10_eventPick 57 = .ok (.iinc 3 (-1), 3) := by decide +kernel
theorem dX10_eventPick_60 : decode cX10_eventPick 60 = .ok (.iinc 4 1, 3) := by decide +kernel
theorem dX10_eventPick_63 : decode cX10_eventPick 63 = .ok (.goto (-43), 3) := by decide +kernel
theorem dX10_eventPick_66 : decode cX10_eventPick 66 = .ok (.iconst (-1), 1) := by decide +kernel
theorem dX10_eventPick_67 : decode cX10_eventPick 67 = .ok (.ireturn, 1) := by decide +kernel
set_option maxRecDepth 20000 in
theorem ggX10_misfit_X10_nodes : GoodIn wsX10_misfit wsX10_nodes := goodIn_ca (goodIn_r _ [6, 7, 68, 69, 70, 71, 72, 73, 74, 75, 76, 77, 78, 79, 80, 81, 82, 83, 84, 85, 86, 87, 88, 89, 90, 91, 92, 93] (by decide +kernel) (by decide +kernel)) (goodIn_sub (fun _ h => List.mem_cons_of_mem _ (List.mem_append_right _ h)) (by decide +kernel))
set_option maxRecDepth 20000 in
theorem gX10_misfit_X10_nodes : GoodIn wsX10_misfit (wsV RX10 196 RX10 yX10_nodes wsX10_nodes) := goodIn_app (goodIn_of _ (by decide +kernel)) ggX10_misfit_X10_nodes
set_option maxRecDepth 20000 in
theorem ggX10_misfit_X10_no : GoodIn wsX10_misfit wsX10_no := goodIn_r _ [11, 12, 13, 5, 14, 15, 16, 17, 18, 1, 68, 69, 70, 71, 72, 73, 74, 75, 76, 77, 78, 79, 80, 81, 82, 83, 84, 85, 86, 87, 88, 89, 90, 91, 92, 93] (by decide +kernel) (by decide +kernel)
set_option maxRecDepth 20000 in
theorem gX10_misfit_X10_no : GoodIn wsX10_misfit (wsV RX10 190 RX10 yX10_no wsX10_no) := goodIn_app (goodIn_of _ (by decide +kernel)) ggX10_misfit_X10_no
set_option maxRecDepth 20000 in
theorem ggX10_misfit_X10_noEvent : GoodIn wsX10_misfit wsX10_noEvent := goodIn_ca (goodIn_r _ [22, 23, 8, 9, 10, 5, 11, 12, 13, 14, 15, 16, 17, 18, 1, 68, 69, 70, 71, 72, 73, 74, 75, 76, 77, 78, 79, 80, 81, 82, 83, 84, 85, 86, 87, 88, 89, 90, 91, 92, 93] (by decide +kernel) (by decide +kernel)) (goodIn_sub (fun _ h => List.mem_cons_of_mem _ (List.mem_append_right _ h)) (by decide +kernel))
set_option maxRecDepth 20000 in
theorem gX10_misfit_X10_noEvent : GoodIn wsX10_misfit (wsV RX10 274 RX10 yX10_noEvent wsX10_noEvent) := goodIn_app (goodIn_of _ (by decide +kernel)) ggX10_misfit_X10_noEvent
set_option maxRecDepth 20000 in
theorem ggX10_misfit_X10_isRetracted : GoodIn wsX10_misfit wsX10_isRetracted := goodIn_ca (goodIn_r _ [27, 23, 68, 69, 70, 71, 72, 73, 74, 75, 76, 77, 78, 79, 80, 81, 82, 83, 84, 85, 86, 87, 88, 89, 90, 91, 92, 93] (by decide +kernel) (by decide +kernel)) (goodIn_sub (fun _ h => List.mem_cons_of_mem _ (List.mem_append_right _ h)) (by decide +kernel))
set_option maxRecDepth 20000 in
theorem gX10_misfit_X10_isRetracted : GoodIn wsX10_misfit (wsV RX10 193 RX10 yX10_isRetracted wsX10_isRetracted) := goodIn_app (goodIn_of _ (by decide +kernel)) ggX10_misfit_X10_isRetracted
set_option maxRecDepth 20000 in
theorem ggX10_misfit_X10_throwsIf : GoodIn wsX10_misfit wsX10_throwsIf := goodIn_r _ [18, 1, 68, 69, 70, 71, 72, 73, 74, 75, 76, 77, 78, 79, 80, 81, 82, 83, 84, 85, 86, 87, 88, 89, 90, 91, 92, 93] (by decide +kernel) (by decide +kernel)
set_option maxRecDepth 20000 in
theorem gX10_misfit_X10_throwsIf : GoodIn wsX10_misfit (wsV RX10 177 RX10 yX10_throwsIf wsX10_throwsIf) := goodIn_app (goodIn_of _ (by decide +kernel)) ggX10_misfit_X10_throwsIf
set_option maxRecDepth 20000 in
theorem ggX10_misfit_X10_misfitOf : GoodIn wsX10_misfit wsX10_misfitOf := goodIn_ca (goodIn_r _ [31, 23, 32, 33, 34, 5, 35, 36, 37, 38, 39, 40, 41, 42, 43, 44, 45, 46, 47, 48, 49, 50, 51, 52, 7, 53, 54, 55, 56, 57, 58, 59, 60, 61, 62, 63, 64, 65, 66, 67, 68, 69, 70, 71, 72, 73, 74, 75, 76, 77, 78, 79, 80, 81, 82, 83, 84, 85, 86, 87, 88, 89, 90, 91, 92, 93] (by decide +kernel) (by decide +kernel)) (goodIn_sub (fun _ h => List.mem_cons_of_mem _ (List.mem_append_right _ h)) (by decide +kernel))
set_option maxRecDepth 20000 in
theorem gX10_misfit_X10_misfitOf : GoodIn wsX10_misfit (wsV RX10 271 RX10 yX10_misfitOf wsX10_misfitOf) := goodIn_app (goodIn_of _ (by decide +kernel)) ggX10_misfit_X10_misfitOf
theorem dX10_misfit_0 : decode cX10_misfit 0 = .ok (.aload_n 0, 1) := by decide +kernel
theorem dX10_misfit_1 : decode cX10_misfit 1 = .ok (.iconst 0, 1) := by decide +kernel
theorem dX10_misfit_2 : decode cX10_misfit 2 = .ok (.putfield 64, 3) := by decide +kernel
theorem dX10_misfit_5 : decode cX10_misfit 5 = .ok (.aload_n 0, 1) := by decide +kernel
theorem dX10_misfit_6 : decode cX10_misfit 6 = .ok (.iload_n 1, 1) := by decide +kernel
theorem dX10_misfit_7 : decode cX10_misfit 7 = .ok (.aload_n 0, 1) := by decide +kernel
theorem dX10_misfit_8 : decode cX10_misfit 8 = .ok (.invokevirtual 196, 3) := by decide +kernel
theorem dX10_misfit_11 : decode cX10_misfit 11 = .ok (.invokevirtual 190, 3) := by decide +kernel
theorem dX10_misfit_14 : decode cX10_misfit 14 = .ok (.ifCond .ne 24, 3) := by decide +kernel
theorem dX10_misfit_17 : decode cX10_misfit 17 = .ok (.aload_n 0, 1) := by decide +kernel
theorem dX10_misfit_18 : decode cX10_misfit 18 = .ok (.iload_n 2, 1) := by decide +kernel
theorem dX10_misfit_19 : decode cX10_misfit 19 = .ok (.invokevirtual 274, 3) := by decide +kernel
theorem dX10_misfit_22 : decode cX10_misfit 22 = .ok (.ifCond .ne 16, 3) := by decide +kernel
theorem dX10_misfit_25 : decode cX10_misfit 25 = .ok (.aload_n 0, 1) := by decide +kernel
theorem dX10_misfit_26 : decode cX10_misfit 26 = .ok (.aload_n 0, 1) := by decide +kernel
theorem dX10_misfit_27 : decode cX10_misfit 27 = .ok (.iload_n 2, 1) := by decide +kernel
theorem dX10_misfit_28 : decode cX10_misfit 28 = .ok (.invokevirtual 193, 3) := by decide +kernel
theorem dX10_misfit_31 : decode cX10_misfit 31 = .ok (.iconst 2, 1) := by decide +kernel
theorem dX10_misfit_32 : decode cX10_misfit 32 = .ok (.invokevirtual 177, 3) := by decide +kernel
theorem dX10_misfit_35 : decode cX10_misfit 35 = .ok (.ifCond .eq 7, 3) := by decide +kernel
theorem dX10_misfit_38 : decode cX10_misfit 38 = .ok (.iconst 0, 1) := by decide +kernel
theorem dX10_misfit_39 : decode cX10_misfit 39 = .ok (.goto 9, 3) := by decide +kernel
theorem dX10_misfit_42 : decode cX10_misfit 42 = .ok (.aload_n 0, 1) := by decide +kernel
theorem dX10_misfit_43 : decode cX10_misfit 43 = .ok (.iload_n 1, 1) := by decide +kernel
theorem dX10_misfit_44 : decode cX10_misfit 44 = .ok (.iload_n 2, 1) := by decide +kernel
theorem dX10_misfit_45 : decode cX10_misfit 45 = .ok (.invokevirtual 271, 3) := by decide +kernel
theorem dX10_misfit_48 : decode cX10_misfit 48 = .ok (.ireturn, 1) := by decide +kernel
set_option maxRecDepth 20000 in
theorem ggX10_saysWord_J0_length_8abf5 : GoodIn wsX10_saysWord wsJ0_length_8abf5 := goodIn_r _ [7, 8, 9, 10, 11, 6, 12, 13, 14, 78, 79, 80, 81] (by decide +kernel) (by decide +kernel)
set_option maxRecDepth 20000 in
theorem gX10_saysWord_J0_length_8abf5 : GoodIn wsX10_saysWord (wsV RX10 105 RJ0 yJ0_length_8abf5 wsJ0_length_8abf5) := goodIn_app (goodIn_of _ (by decide +kernel)) ggX10_saysWord_J0_length_8abf5
set_option maxRecDepth 20000 in
theorem ggX10_saysWord_J0_charAt_5068e : GoodIn wsX10_saysWord wsJ0_charAt_5068e := goodIn_r _ [18, 8, 19, 20, 21, 6, 22, 13, 14, 23, 24, 25, 26, 27, 28, 29, 30, 31, 32, 33, 34, 35, 36, 37, 38, 39, 40, 41, 42, 43, 44, 45, 46, 47, 48, 49, 50, 51, 78, 79, 80, 81] (by decide +kernel) (by decide +kernel)
set_option maxRecDepth 20000 in
theorem gX10_saysWord_J0_charAt_5068e : GoodIn wsX10_saysWord (wsV RX10 110 RJ0 yJ0_charAt_5068e wsJ0_charAt_5068e) := goodIn_app (goodIn_of _ (by decide +kernel)) ggX10_saysWord_J0_charAt_5068e
theorem dX10_saysWord_0 : decode cX10_saysWord 0 = .ok (.iconst 0, 1) := by decide +kernel
theorem dX10_saysWord_1 : decode cX10_saysWord 1 = .ok (.istore_n 2, 1) := by decide +kernel
theorem dX10_saysWord_2 : decode cX10_saysWord 2 = .ok (.iload_n 2, 1) := by decide +kernel
theorem dX10_saysWord_3 : decode cX10_saysWord 3 = .ok (.aload_n 1, 1) := by decide +kernel
theorem dX10_saysWord_4 : decode cX10_saysWord 4 = .ok (.invokevirtual 105, 3) := by decide +kernel
theorem dX10_saysWord_7 : decode cX10_saysWord 7 = .ok (.if_icmp .ge 33, 3) := by decide +kernel
theorem dX10_saysWord_10 : decode cX10_saysWord 10 = .ok (.aload_n 0, 1) := by decide +kernel
theorem dX10_saysWord_11 : decode cX10_saysWord 11 = .ok (.getfield 39, 3) := by decide +kernel
theorem dX10_saysWord_14 : decode cX10_saysWord 14 = .ok (.aload_n 0, 1) := by decide +kernel
theorem dX10_saysWord_15 : decode cX10_saysWord 15 = .ok (.getfield 283, 3) := by decide +kernel
theorem dX10_saysWord_18 : decode cX10_saysWord 18 = .ok (.aload_n 1, 1) := by decide +kernel
theorem dX10_saysWord_19 : decode cX10_saysWord 19 = .ok (.iload_n 2, 1) := by decide +kernel
theorem dX10_saysWord_20 : decode cX10_saysWord 20 = .ok (.invokevirtual 110, 3) := by decide +kernel
theorem dX10_saysWord_23 : decode cX10_saysWord 23 = .ok (.iastore, 1) := by decide +kernel
theorem dX10_saysWord_24 : decode cX10_saysWord 24 = .ok (.aload_n 0, 1) := by decide +kernel
theorem dX10_saysWord_25 : decode cX10_saysWord 25 = .ok (.dup, 1) := by decide +kernel
theorem dX10_saysWord_26 : decode cX10_saysWord 26 = .ok (.getfield 283, 3) := by decide +kernel
theorem dX10_saysWord_29 : decode cX10_saysWord 29 = .ok (.iconst 1, 1) := by decide +kernel
theorem dX10_saysWord_30 : decode cX10_saysWord 30 = .ok (.iadd, 1) := by decide +kernel
theorem dX10_saysWord_31 : decode cX10_saysWord 31 = .ok (.putfield 283, 3) := by decide +kernel
theorem dX10_saysWord_34 : decode cX10_saysWord 34 = .ok (.iinc 2 1, 3) := by decide +kernel
theorem dX10_saysWord_37 : decode cX10_saysWord 37 = .ok (.goto (-35), 3) := by decide +kernel
theorem dX10_saysWord_40 : decode cX10_saysWord 40 = .ok (.return_, 1) := by decide +kernel
theorem dX10_saysNumber_0 : decode cX10_saysNumber 0 = .ok (.iconst 1, 1) := by decide +kernel
theorem dX10_saysNumber_1 : decode cX10_saysNumber 1 = .ok (.istore_n 2, 1) := by decide +kernel
theorem dX10_saysNumber_2 : decode cX10_saysNumber 2 = .ok (.iload_n 1, 1) := by decide +kernel
theorem dX10_saysNumber_3 : decode cX10_saysNumber 3 = .ok (.iload_n 2, 1) := by decide +kernel
theorem dX10_saysNumber_4 : decode cX10_saysNumber 4 = .ok (.idiv, 1) := by decide +kernel
theorem dX10_saysNumber_5 : decode cX10_saysNumber 5 = .ok (.bipush 9, 2) := by decide +kernel
theorem dX10_saysNumber_7 : decode cX10_saysNumber 7 = .ok (.if_icmp .le 11, 3) := by decide +kernel
theorem dX10_saysNumber_10 : decode cX10_saysNumber 10 = .ok (.iload_n 2, 1) := by decide +kernel
theorem dX10_saysNumber_11 : decode cX10_saysNumber 11 = .ok (.bipush 10, 2) := by decide +kernel
theorem dX10_saysNumber_13 : decode cX10_saysNumber 13 = .ok (.imul, 1) := by decide +kernel
theorem dX10_saysNumber_14 : decode cX10_saysNumber 14 = .ok (.istore_n 2, 1) := by decide +kernel
theorem dX10_saysNumber_15 : decode cX10_saysNumber 15 = .ok (.goto (-13), 3) := by decide +kernel
theorem dX10_saysNumber_18 : decode cX10_saysNumber 18 = .ok (.iload_n 2, 1) := by decide +kernel
theorem dX10_saysNumber_19 : decode cX10_saysNumber 19 = .ok (.ifCond .le 39, 3) := by decide +kernel
theorem dX10_saysNumber_22 : decode cX10_saysNumber 22 = .ok (.aload_n 0, 1) := by decide +kernel
theorem dX10_saysNumber_23 : decode cX10_saysNumber 23 = .ok (.getfield 39, 3) := by decide +kernel
theorem dX10_saysNumber_26 : decode cX10_saysNumber 26 = .ok (.aload_n 0, 1) := by decide +kernel
theorem dX10_saysNumber_27 : decode cX10_saysNumber 27 = .ok (.getfield 283, 3) := by decide +kernel
theorem dX10_saysNumber_30 : decode cX10_saysNumber 30 = .ok (.bipush 48, 2) := by decide +kernel
theorem dX10_saysNumber_32 : decode cX10_saysNumber 32 = .ok (.iload_n 1, 1) := by decide +kernel
theorem dX10_saysNumber_33 : decode cX10_saysNumber 33 = .ok (.iload_n 2, 1) := by decide +kernel
theorem dX10_saysNumber_34 : decode cX10_saysNumber 34 = .ok (.idiv, 1) := by decide +kernel
theorem dX10_saysNumber_35 : decode cX10_saysNumber 35 = .ok (.bipush 10, 2) := by decide +kernel
theorem dX10_saysNumber_37 : decode cX10_saysNumber 37 = .ok (.irem, 1) := by decide +kernel
theorem dX10_saysNumber_38 : decode cX10_saysNumber 38 = .ok (.iadd, 1) := by decide +kernel
theorem dX10_saysNumber_39 : decode cX10_saysNumber 39 = .ok (.iastore, 1) := by decide +kernel
theorem dX10_saysNumber_40 : decode cX10_saysNumber 40 = .ok (.aload_n 0, 1) := by decide +kernel
theorem dX10_saysNumber_41 : decode cX10_saysNumber 41 = .ok (.dup, 1) := by decide +kernel
theorem dX10_saysNumber_42 : decode cX10_saysNumber 42 = .ok (.getfield 283, 3) := by decide +kernel
theorem dX10_saysNumber_45 : decode cX10_saysNumber 45 = .ok (.iconst 1, 1) := by decide +kernel
theorem dX10_saysNumber_46 : decode cX10_saysNumber 46 = .ok (.iadd, 1) := by decide +kernel
theorem dX10_saysNumber_47 : decode cX10_saysNumber 47 = .ok (.putfield 283, 3) := by decide +kernel
theorem dX10_saysNumber_50 : decode cX10_saysNumber 50 = .ok (.iload_n 2, 1) := by decide +kernel
theorem dX10_saysNumber_51 : decode cX10_saysNumber 51 = .ok (.bipush 10, 2) := by decide +kernel
theorem dX10_saysNumber_53 : decode cX10_saysNumber 53 = .ok (.idiv, 1) := by decide +kernel
theorem dX10_saysNumber_54 : decode cX10_saysNumber 54 = .ok (.istore_n 2, 1) := by decide +kernel
theorem dX10_saysNumber_55 : decode cX10_saysNumber 55 = .ok (.goto (-37), 3) := by decide +kernel
theorem dX10_saysNumber_58 : decode cX10_saysNumber 58 = .ok (.return_, 1) := by decide +kernel
set_option maxRecDepth 20000 in
theorem ggX10_describe_X10_noEvent : GoodIn wsX10_describe wsX10_noEvent := goodIn_ca (goodIn_r _ [7, 8, 9, 10, 11, 6, 12, 13, 14, 15, 16, 17, 18, 19, 1, 142, 143, 144, 145, 146, 147, 148, 149, 150, 151, 152, 153, 154, 155, 156, 157, 158, 159, 160, 161, 162, 163, 164, 165, 166, 167] (by decide +kernel) (by decide +kernel)) (goodIn_sub (fun _ h => List.mem_cons_of_mem _ (List.mem_append_right _ h)) (by decide +kernel))
set_option maxRecDepth 20000 in
theorem gX10_describe_X10_noEvent : GoodIn wsX10_describe (wsV RX10 274 RX10 yX10_noEvent wsX10_noEvent) := goodIn_app (goodIn_of _ (by decide +kernel)) ggX10_describe_X10_noEvent
set_option maxRecDepth 20000 in
theorem ggX10_describe_X10_saysWord : GoodIn wsX10_describe wsX10_saysWord := goodIn_ca (goodIn_r _ [23, 24, 2, 25, 26, 27, 28, 29, 30, 31, 32, 33, 34, 35, 36, 37, 38, 39, 40, 41, 42, 43, 44, 45, 46, 47, 48, 49, 50, 51, 52, 53, 54, 55, 56, 57, 58, 59, 60, 61, 62, 63, 64, 65, 66, 67, 68, 69, 70, 71, 72, 73, 142, 143, 144, 145, 146, 147, 148, 149, 150, 151, 152, 153, 154, 155, 156, 157, 158, 159, 160, 161, 162, 163, 164, 165, 166, 167, 168, 169, 170, 171] (by decide +kernel) (by decide +kernel)) (goodIn_sub (fun _ h => List.mem_cons_of_mem _ (List.mem_append_right _ h)) (by decide +kernel))
set_option maxRecDepth 20000 in
theorem gX10_describe_X10_saysWord : GoodIn wsX10_describe (wsV RX10 288 RX10 yX10_saysWord wsX10_saysWord) := goodIn_app (goodIn_of _ (by decide +kernel)) ggX10_describe_X10_saysWord
set_option maxRecDepth 20000 in
theorem ggX10_describe_X10_saysNumber : GoodIn wsX10_describe wsX10_saysNumber := goodIn_ca (goodIn_r _ [77, 24, 2, 142, 143, 144, 145, 146, 147, 148, 149, 150, 151, 152, 153, 154, 155, 156, 157, 158, 159, 160, 161, 162, 163, 164, 165, 166, 167] (by decide +kernel) (by decide +kernel)) (goodIn_sub (fun _ h => List.mem_cons_of_mem _ (List.mem_append_right _ h)) (by decide +kernel))
set_option maxRecDepth 20000 in
theorem gX10_describe_X10_saysNumber : GoodIn wsX10_describe (wsV RX10 292 RX10 yX10_saysNumber wsX10_saysNumber) := goodIn_app (goodIn_of _ (by decide +kernel)) ggX10_describe_X10_saysNumber
set_option maxRecDepth 20000 in
theorem ggX10_describe_X10_isRetracted : GoodIn wsX10_describe wsX10_isRetracted := goodIn_ca (goodIn_r _ [81, 8, 142, 143, 144, 145, 146, 147, 148, 149, 150, 151, 152, 153, 154, 155, 156, 157, 158, 159, 160, 161, 162, 163, 164, 165, 166, 167] (by decide +kernel) (by decide +kernel)) (goodIn_sub (fun _ h => List.mem_cons_of_mem _ (List.mem_append_right _ h)) (by decide +kernel))
set_option maxRecDepth 20000 in
theorem gX10_describe_X10_isRetracted : GoodIn wsX10_describe (wsV RX10 193 RX10 yX10_isRetracted wsX10_isRetracted) := goodIn_app (goodIn_of _ (by decide +kernel)) ggX10_describe_X10_isRetracted
set_option maxRecDepth 20000 in
theorem ggX10_describe_X10_nodeOf : GoodIn wsX10_describe wsX10_nodeOf := goodIn_ca (goodIn_r _ [85, 86, 87, 88, 6, 89, 8, 90, 91, 92, 93, 94, 95, 96, 97, 98, 99, 100, 101, 102, 103, 104, 105, 106, 107, 108, 109, 110, 111, 112, 113, 114, 115, 116, 117, 118, 119, 120, 121, 122, 123, 124, 125, 126, 127, 128, 129, 130, 142, 143, 144, 145, 146, 147, 148, 149, 150, 151, 152, 153, 154, 155, 156, 157, 158, 159, 160, 161, 162, 163, 164, 165, 166, 167] (by decide +kernel) (by decide +kernel)) (goodIn_sub (fun _ h => List.mem_cons_of_mem _ (List.mem_append_right _ h)) (by decide +kernel))
set_option maxRecDepth 20000 in
theorem gX10_describe_X10_nodeOf : GoodIn wsX10_describe (wsV RX10 277 RX10 yX10_nodeOf wsX10_nodeOf) := goodIn_app (goodIn_of _ (by decide +kernel)) ggX10_describe_X10_nodeOf
set_option maxRecDepth 20000 in
theorem ggX10_describe_X10_nodeX : GoodIn wsX10_describe wsX10_nodeX := goodIn_ca (goodIn_r _ [110, 111, 142, 143, 144, 145, 146, 147, 148, 149, 150, 151, 152, 153, 154, 155, 156, 157, 158, 159, 160, 161, 162, 163, 164, 165, 166, 167] (by decide +kernel) (by decide +kernel)) (goodIn_sub (fun _ h => List.mem_cons_of_mem _ (List.mem_append_right _ h)) (by decide +kernel))
set_option maxRecDepth 20000 in
theorem gX10_describe_X10_nodeX : GoodIn wsX10_describe (wsV RX10 209 RX10 yX10_nodeX wsX10_nodeX) := goodIn_app (goodIn_of _ (by decide +kernel)) ggX10_describe_X10_nodeX
set_option maxRecDepth 20000 in
theorem ggX10_describe_X10_nodeY : GoodIn wsX10_describe wsX10_nodeY := goodIn_ca (goodIn_r _ [115, 111, 142, 143, 144, 145, 146, 147, 148, 149, 150, 151, 152, 153, 154, 155, 156, 157, 158, 159, 160, 161, 162, 163, 164, 165, 166, 167] (by decide +kernel) (by decide +kernel)) (goodIn_sub (fun _ h => List.mem_cons_of_mem _ (List.mem_append_right _ h)) (by decide +kernel))
set_option maxRecDepth 20000 in
theorem gX10_describe_X10_nodeY : GoodIn wsX10_describe (wsV RX10 212 RX10 yX10_nodeY wsX10_nodeY) := goodIn_app (goodIn_of _ (by decide +kernel)) ggX10_describe_X10_nodeY
set_option maxRecDepth 20000 in
theorem ggX10_describe_X10_picksOf : GoodIn wsX10_describe wsX10_picksOf := goodIn_ca (goodIn_r _ [126, 8, 94, 95, 6, 96, 142, 143, 144, 145, 146, 147, 148, 149, 150, 151, 152, 153, 154, 155, 156, 157, 158, 159, 160, 161, 162, 163, 164, 165, 166, 167] (by decide +kernel) (by decide +kernel)) (goodIn_sub (fun _ h => List.mem_cons_of_mem _ (List.mem_append_right _ h)) (by decide +kernel))
set_option maxRecDepth 20000 in
theorem gX10_describe_X10_picksOf : GoodIn wsX10_describe (wsV RX10 265 RX10 yX10_picksOf wsX10_picksOf) := goodIn_app (goodIn_of _ (by decide +kernel)) ggX10_describe_X10_picksOf
set_option maxRecDepth 20000 in
theorem ggX10_describe_X10_magnitudeOf : GoodIn wsX10_describe wsX10_magnitudeOf := goodIn_ca (goodIn_r _ [134, 135, 8, 111, 94, 95, 6, 96, 101, 102, 103, 104, 105, 106, 107, 108, 109, 110, 112, 113, 114, 115, 116, 117, 118, 136, 137, 138, 139, 140, 141, 123, 124, 125, 126, 142, 143, 144, 145, 146, 147, 148, 149, 150, 151, 152, 153, 154, 155, 156, 157, 158, 159, 160, 161, 162, 163, 164, 165, 166, 167] (by decide +kernel) (by decide +kernel)) (goodIn_sub (fun _ h => List.mem_cons_of_mem _ (List.mem_append_right _ h)) (by decide +kernel))
set_option maxRecDepth 20000 in
theorem gX10_describe_X10_magnitudeOf : GoodIn wsX10_describe (wsV RX10 280 RX10 yX10_magnitudeOf wsX10_magnitudeOf) := goodIn_app (goodIn_of _ (by decide +kernel)) ggX10_describe_X10_magnitudeOf
theorem dX10_describe_0 : decode cX10_describe 0 = .ok (.aload_n 0, 1) := by decide +kernel
theorem dX10_describe_1 : decode cX10_describe 1 = .ok (.iconst 0, 1) := by decide +kernel
theorem dX10_describe_2 : decode cX10_describe 2 = .ok (.putfield 64, 3) := by decide +kernel
theorem dX10_describe_5 : decode cX10_describe 5 = .ok (.aload_n 0, 1) := by decide +kernel
theorem dX10_describe_6 : decode cX10_describe 6 = .ok (.iload_n 1, 1) := by decide +kernel
theorem dX10_describe_7 : decode cX10_describe 7 = .ok (.invokevirtual 274, 3) := by decide +kernel
theorem dX10_describe_10 : decode cX10_describe 10 = .ok (.ifCond .eq 5, 3) := by decide +kernel
theorem dX10_describe_13 : decode cX10_describe 13 = .ok (.iconst 0, 1) := by decide +kernel
theorem dX10_describe_14 : decode cX10_describe 14 = .ok (.ireturn, 1) := by decide +kernel
theorem dX10_describe_15 : decode cX10_describe 15 = .ok (.aload_n 0, 1) := by decide +kernel
theorem dX10_describe_16 : decode cX10_describe 16 = .ok (.iconst 0, 1) := by decide +kernel
theorem dX10_describe_17 : decode cX10_describe 17 = .ok (.putfield 283, 3) := by decide +kernel
theorem dX10_describe_20 : decode cX10_describe 20 = .ok (.aload_n 0, 1) := by decide +kernel
theorem dX10_describe_21 : decode cX10_describe 21 = .ok (.ldc_w 286, 3) := by decide +kernel
theorem dX10_describe_24 : decode cX10_describe 24 = .ok (.invokevirtual 288, 3) := by decide +kernel
theorem dX10_describe_27 : decode cX10_describe 27 = .ok (.aload_n 0, 1) := by decide +kernel
theorem dX10_describe_28 : decode cX10_describe 28 = .ok (.iload_n 1, 1) := by decide +kernel
theorem dX10_describe_29 : decode cX10_describe 29 = .ok (.invokevirtual 292, 3) := by decide +kernel
theorem dX10_describe_32 : decode cX10_describe 32 = .ok (.aload_n 0, 1) := by decide +kernel
theorem dX10_describe_33 : decode cX10_describe 33 = .ok (.iload_n 1, 1) := by decide +kernel
theorem dX10_describe_34 : decode cX10_describe 34 = .ok (.invokevirtual 193, 3) := by decide +kernel
theorem dX10_describe_37 : decode cX10_describe 37 = .ok (.ifCond .eq 15, 3) := by decide +kernel
theorem dX10_describe_40 : decode cX10_describe 40 = .ok (.aload_n 0, 1) := by decide +kernel
theorem dX10_describe_41 : decode cX10_describe 41 = .ok (.ldc_w 295, 3) := by decide +kernel
theorem dX10_describe_44 : decode cX10_describe 44 = .ok (.invokevirtual 288, 3) := by decide +kernel
theorem dX10_describe_47 : decode cX10_describe 47 = .ok (.aload_n 0, 1) := by decide +kernel
theorem dX10_describe_48 : decode cX10_describe 48 = .ok (.getfield 283, 3) := by decide +kernel
theorem dX10_describe_51 : decode cX10_describe 51 = .ok (.ireturn, 1) := by decide +kernel
theorem dX10_describe_52 : decode cX10_describe 52 = .ok (.aload_n 0, 1) := by decide +kernel
theorem dX10_describe_53 : decode cX10_describe 53 = .ok (.iload_n 1, 1) := by decide +kernel
theorem dX10_describe_54 : decode cX10_describe 54 = .ok (.invokevirtual 277, 3) := by decide +kernel
theorem dX10_describe_57 : decode cX10_describe 57 = .ok (.istore_n 2, 1) := by decide +kernel
theorem dX10_describe_58 : decode cX10_describe 58 = .ok (.aload_n 0, 1) := by decide +kernel
theorem dX10_describe_59 : decode cX10_describe 59 = .ok (.ldc_w 297, 3) := by decide +kernel
theorem dX10_describe_62 : decode cX10_describe 62 = .ok (.invokevirtual 288, 3) := by decide +kernel
theorem dX10_describe_65 : decode cX10_describe 65 = .ok (.aload_n 0, 1) := by decide +kernel
theorem dX10_describe_66 : decode cX10_describe 66 = .ok (.aload_n 0, 1) := by decide +kernel
theorem dX10_describe_67 : decode cX10_describe 67 = .ok (.iload_n 2, 1) := by decide +kernel
theorem dX10_describe_68 : decode cX10_describe 68 = .ok (.invokevirtual 209, 3) := by decide +kernel
theorem dX10_describe_71 : decode cX10_describe 71 = .ok (.invokevirtual 292, 3) := by decide +kernel
theorem dX10_describe_74 : decode cX10_describe 74 = .ok (.aload_n 0, 1) := by decide +kernel
theorem dX10_describe_75 : decode cX10_describe 75 = .ok (.ldc_w 299, 3) := by decide +kernel
theorem dX10_describe_78 : decode cX10_describe 78 = .ok (.invokevirtual 288, 3) := by decide +kernel
theorem dX10_describe_81 : decode cX10_describe 81 = .ok (.aload_n 0, 1) := by decide +kernel
theorem dX10_describe_82 : decode cX10_describe 82 = .ok (.aload_n 0, 1) := by decide +kernel
theorem dX10_describe_83 : decode cX10_describe 83 = .ok (.iload_n 2, 1) := by decide +kernel
theorem dX10_describe_84 : decode cX10_describe 84 = .ok (.invokevirtual 212, 3) := by decide +kernel
theorem dX10_describe_87 : decode cX10_describe 87 = .ok (.invokevirtual 292, 3) := by decide +kernel
theorem dX10_describe_90 : decode cX10_describe 90 = .ok (.aload_n 0, 1) := by decide +kernel
theorem dX10_describe_91 : decode cX10_describe 91 = .ok (.ldc_w 301, 3) := by decide +kernel
theorem dX10_describe_94 : decode cX10_describe 94 = .ok (.invokevirtual 288, 3) := by decide +kernel
theorem dX10_describe_97 : decode cX10_describe 97 = .ok (.aload_n 0, 1) := by decide +kernel
theorem dX10_describe_98 : decode cX10_describe 98 = .ok (.aload_n 0, 1) := by decide +kernel
theorem dX10_describe_99 : decode cX10_describe 99 = .ok (.iload_n 1, 1) := by decide +kernel
theorem dX10_describe_100 : decode cX10_describe 100 = .ok (.invokevirtual 265, 3) := by decide +kernel
theorem dX10_describe_103 : decode cX10_describe 103 = .ok (.invokevirtual 292, 3) := by decide +kernel
theorem dX10_describe_106 : decode cX10_describe 106 = .ok (.aload_n 0, 1) := by decide +kernel
theorem dX10_describe_107 : decode cX10_describe 107 = .ok (.ldc_w 303, 3) := by decide +kernel
theorem dX10_describe_110 : decode cX10_describe 110 = .ok (.invokevirtual 288, 3) := by decide +kernel
theorem dX10_describe_113 : decode cX10_describe 113 = .ok (.aload_n 0, 1) := by decide +kernel
theorem dX10_describe_114 : decode cX10_describe 114 = .ok (.iload_n 1, 1) := by decide +kernel
theorem dX10_describe_115 : decode cX10_describe 115 = .ok (.iload_n 2, 1) := by decide +kernel
theorem dX10_describe_116 : decode cX10_describe 116 = .ok (.invokevirtual 280, 3) := by decide +kernel
theorem dX10_describe_119 : decode cX10_describe 119 = .ok (.istore_n 3, 1) := by decide +kernel
theorem dX10_describe_120 : decode cX10_describe 120 = .ok (.iload_n 3, 1) := by decide +kernel
theorem dX10_describe_121 : decode cX10_describe 121 = .ok (.iconst (-1), 1) := by decide +kernel
theorem dX10_describe_122 : decode cX10_describe 122 = .ok (.if_icmp .eq 15, 3) := by decide +kernel
theorem dX10_describe_125 : decode cX10_describe 125 = .ok (.aload_n 0, 1) := by decide +kernel
theorem dX10_describe_126 : decode cX10_describe 126 = .ok (.ldc_w 305, 3) := by decide +kernel
theorem dX10_describe_129 : decode cX10_describe 129 = .ok (.invokevirtual 288, 3) := by decide +kernel
theorem dX10_describe_132 : decode cX10_describe 132 = .ok (.aload_n 0, 1) := by decide +kernel
theorem dX10_describe_133 : decode cX10_describe 133 = .ok (.iload_n 3, 1) := by decide +kernel
theorem dX10_describe_134 : decode cX10_describe 134 = .ok (.invokevirtual 292, 3) := by decide +kernel
theorem dX10_describe_137 : decode cX10_describe 137 = .ok (.aload_n 0, 1) := by decide +kernel
theorem dX10_describe_138 : decode cX10_describe 138 = .ok (.getfield 283, 3) := by decide +kernel
theorem dX10_describe_141 : decode cX10_describe 141 = .ok (.ireturn, 1) := by decide +kernel
set_option maxRecDepth 20000 in
theorem ggX10_describedByte_X10_within : GoodIn wsX10_describedByte wsX10_within := goodIn_r _ [7] (by decide +kernel) (by decide +kernel)
set_option maxRecDepth 20000 in
theorem gX10_describedByte_X10_within : GoodIn wsX10_describedByte (va_wsS RX10 101 yX10_within wsX10_within) := goodIn_app (goodIn_of _ (by decide +kernel)) ggX10_describedByte_X10_within
theorem dX10_describedByte_0 : decode cX10_describedByte 0 = .ok (.aload_n 0, 1) := by decide +kernel
theorem dX10_describedByte_1 : decode cX10_describedByte 1 = .ok (.iconst 0, 1) := by decide +kernel
theorem dX10_describedByte_2 : decode cX10_describedByte 2 = .ok (.putfield 64, 3) := by decide +kernel
theorem dX10_describedByte_5 : decode cX10_describedByte 5 = .ok (.iload_n 1, 1) := by decide +kernel
theorem dX10_describedByte_6 : decode cX10_describedByte 6 = .ok (.iconst 0, 1) := by decide +kernel
theorem dX10_describedByte_7 : decode cX10_describedByte 7 = .ok (.aload_n 0, 1) := by decide +kernel
theorem dX10_describedByte_8 : decode cX10_describedByte 8 = .ok (.getfield 283, 3) := by decide +kernel
theorem dX10_describedByte_11 : decode cX10_describedByte 11 = .ok (.iconst 1, 1) := by decide +kernel
theorem dX10_describedByte_12 : decode cX10_describedByte 12 = .ok (.isub, 1) := by decide +kernel
theorem dX10_describedByte_13 : decode cX10_describedByte 13 = .ok (.invokestatic 101, 3) := by decide +kernel
theorem dX10_describedByte_16 : decode cX10_describedByte 16 = .ok (.ifCond .eq 12, 3) := by decide +kernel
theorem dX10_describedByte_19 : decode cX10_describedByte 19 = .ok (.aload_n 0, 1) := by decide +kernel
theorem dX10_describedByte_20 : decode cX10_describedByte 20 = .ok (.getfield 39, 3) := by decide +kernel
theorem dX10_describedByte_23 : decode cX10_describedByte 23 = .ok (.iload_n 1, 1) := by decide +kernel
theorem dX10_describedByte_24 : decode cX10_describedByte 24 = .ok (.iaload, 1) := by decide +kernel
theorem dX10_describedByte_25 : decode cX10_describedByte 25 = .ok (.goto 4, 3) := by decide +kernel
theorem dX10_describedByte_28 : decode cX10_describedByte 28 = .ok (.iconst (-1), 1) := by decide +kernel
theorem dX10_describedByte_29 : decode cX10_describedByte 29 = .ok (.ireturn, 1) := by decide +kernel
set_option maxRecDepth 20000 in
theorem ggX10_ratioAfter_X10_noStation : GoodIn wsX10_ratioAfter wsX10_noStation := goodIn_ca (goodIn_r _ [7, 8, 9, 10, 11, 12, 6, 13, 14, 15, 16, 17, 18, 19, 20, 36, 37, 38, 39, 40, 41, 42, 43, 44, 45, 46, 47, 48, 49, 50, 51, 52, 53, 54, 55, 56, 57, 58, 59, 60, 61] (by decide +kernel) (by decide +kernel)) (goodIn_sub (fun _ h => List.mem_cons_of_mem _ (List.mem_append_right _ h)) (by decide +kernel))
set_option maxRecDepth 20000 in
theorem gX10_ratioAfter_X10_noStation : GoodIn wsX10_ratioAfter (wsV RX10 215 RX10 yX10_noStation wsX10_noStation) := goodIn_app (goodIn_of _ (by decide +kernel)) ggX10_ratioAfter_X10_noStation
set_option maxRecDepth 20000 in
theorem ggX10_ratioAfter_X10_within : GoodIn wsX10_ratioAfter wsX10_within := goodIn_r _ [16] (by decide +kernel) (by decide +kernel)
set_option maxRecDepth 20000 in
theorem gX10_ratioAfter_X10_within : GoodIn wsX10_ratioAfter (va_wsS RX10 101 yX10_within wsX10_within) := goodIn_app (goodIn_of _ (by decide +kernel)) ggX10_ratioAfter_X10_within
set_option maxRecDepth 20000 in
theorem ggX10_ratioAfter_X10_throwsIf : GoodIn wsX10_ratioAfter wsX10_throwsIf := goodIn_r _ [20, 8, 36, 37, 38, 39, 40, 41, 42, 43, 44, 45, 46, 47, 48, 49, 50, 51, 52, 53, 54, 55, 56, 57, 58, 59, 60, 61] (by decide +kernel) (by decide +kernel)
set_option maxRecDepth 20000 in
theorem gX10_ratioAfter_X10_throwsIf : GoodIn wsX10_ratioAfter (wsV RX10 177 RX10 yX10_throwsIf wsX10_throwsIf) := goodIn_app (goodIn_of _ (by decide +kernel)) ggX10_ratioAfter_X10_throwsIf
set_option maxRecDepth 20000 in
theorem ggX10_ratioAfter_X10_copies : GoodIn wsX10_ratioAfter wsX10_copies := goodIn_ca (goodIn_r _ [23] (by decide +kernel) (by decide +kernel)) (goodIn_sub (fun _ h => List.mem_cons_of_mem _ (List.mem_append_right _ h)) (by decide +kernel))
set_option maxRecDepth 20000 in
theorem gX10_ratioAfter_X10_copies : GoodIn wsX10_ratioAfter (va_wsS RX10 307 yX10_copies wsX10_copies) := goodIn_app (goodIn_of _ (by decide +kernel)) ggX10_ratioAfter_X10_copies
set_option maxRecDepth 20000 in
theorem ggX10_ratioAfter_X10_ringAt : GoodIn wsX10_ratioAfter wsX10_ringAt := goodIn_r _ [26] (by decide +kernel) (by decide +kernel)
set_option maxRecDepth 20000 in
theorem gX10_ratioAfter_X10_ringAt : GoodIn wsX10_ratioAfter (va_wsS RX10 228 yX10_ringAt wsX10_ringAt) := goodIn_app (goodIn_of _ (by decide +kernel)) ggX10_ratioAfter_X10_ringAt
set_option maxRecDepth 20000 in
theorem ggX10_ratioAfter_X10_ratioOf : GoodIn wsX10_ratioAfter wsX10_ratioOf := goodIn_ca (goodIn_r _ [30, 9, 31, 32, 33, 34, 6, 35, 1, 24, 25, 26, 36, 37, 38, 39, 40, 41, 42, 43, 44, 45, 46, 47, 48, 49, 50, 51, 52, 53, 54, 55, 56, 57, 58, 59, 60, 61] (by decide +kernel) (by decide +kernel)) (goodIn_sub (fun _ h => List.mem_cons_of_mem _ (List.mem_append_right _ h)) (by decide +kernel))
set_option maxRecDepth 20000 in
theorem gX10_ratioAfter_X10_ratioOf : GoodIn wsX10_ratioAfter (wsV RX10 239 RX10 yX10_ratioOf wsX10_ratioOf) := goodIn_app (goodIn_of _ (by decide +kernel)) ggX10_ratioAfter_X10_ratioOf
theorem dX10_ratioAfter_0 : decode cX10_ratioAfter 0 = .ok (.aload_n 0, 1) := by decide +kernel
theorem dX10_ratioAfter_1 : decode cX10_ratioAfter 1 = .ok (.iload_n 1, 1) := by decide +kernel
theorem dX10_ratioAfter_2 : decode cX10_ratioAfter 2 = .ok (.invokevirtual 215, 3) := by decide +kernel
theorem dX10_ratioAfter_5 : decode cX10_ratioAfter 5 = .ok (.ifCond .ne 38, 3) := by decide +kernel
theorem dX10_ratioAfter_8 : decode cX10_ratioAfter 8 = .ok (.aload_n 0, 1) := by decide +kernel
theorem dX10_ratioAfter_9 : decode cX10_ratioAfter 9 = .ok (.iload_n 2, 1) := by decide +kernel
theorem dX10_ratioAfter_10 : decode cX10_ratioAfter 10 = .ok (.iconst 0, 1) := by decide +kernel
theorem dX10_ratioAfter_11 : decode cX10_ratioAfter 11 = .ok (.sipush 9999, 3) := by decide +kernel
theorem dX10_ratioAfter_14 : decode cX10_ratioAfter 14 = .ok (.invokestatic 101, 3) := by decide +kernel
theorem dX10_ratioAfter_17 : decode cX10_ratioAfter 17 = .ok (.ifCond .eq 14, 3) := by decide +kernel
theorem dX10_ratioAfter_20 : decode cX10_ratioAfter 20 = .ok (.iload_n 3, 1) := by decide +kernel
theorem dX10_ratioAfter_21 : decode cX10_ratioAfter 21 = .ok (.iconst 0, 1) := by decide +kernel
theorem dX10_ratioAfter_22 : decode cX10_ratioAfter 22 = .ok (.sipush 200, 3) := by decide +kernel
theorem dX10_ratioAfter_25 : decode cX10_ratioAfter 25 = .ok (.invokestatic 101, 3) := by decide +kernel
theorem dX10_ratioAfter_28 : decode cX10_ratioAfter 28 = .ok (.ifCond .ne 7, 3) := by decide +kernel
theorem dX10_ratioAfter_31 : decode cX10_ratioAfter 31 = .ok (.iconst 1, 1) := by decide +kernel
theorem dX10_ratioAfter_32 : decode cX10_ratioAfter 32 = .ok (.goto 4, 3) := by decide +kernel
theorem dX10_ratioAfter_35 : decode cX10_ratioAfter 35 = .ok (.iconst 0, 1) := by decide +kernel
theorem dX10_ratioAfter_36 : decode cX10_ratioAfter 36 = .ok (.iconst 2, 1) := by decide +kernel
theorem dX10_ratioAfter_37 : decode cX10_ratioAfter 37 = .ok (.invokevirtual 177, 3) := by decide +kernel
theorem dX10_ratioAfter_40 : decode cX10_ratioAfter 40 = .ok (.ifCond .eq 5, 3) := by decide +kernel
theorem dX10_ratioAfter_43 : decode cX10_ratioAfter 43 = .ok (.iconst 0, 1) := by decide +kernel
theorem dX10_ratioAfter_44 : decode cX10_ratioAfter 44 = .ok (.ireturn, 1) := by decide +kernel
theorem dX10_ratioAfter_45 : decode cX10_ratioAfter 45 = .ok (.aload_n 0, 1) := by decide +kernel
theorem dX10_ratioAfter_46 : decode cX10_ratioAfter 46 = .ok (.getfield 7, 3) := by decide +kernel
theorem dX10_ratioAfter_49 : decode cX10_ratioAfter 49 = .ok (.iconst 0, 1) := by decide +kernel
theorem dX10_ratioAfter_50 : decode cX10_ratioAfter 50 = .ok (.aload_n 0, 1) := by decide +kernel
theorem dX10_ratioAfter_51 : decode cX10_ratioAfter 51 = .ok (.getfield 42, 3) := by decide +kernel
theorem dX10_ratioAfter_54 : decode cX10_ratioAfter 54 = .ok (.iconst 0, 1) := by decide +kernel
theorem dX10_ratioAfter_55 : decode cX10_ratioAfter 55 = .ok (.sipush 1167, 3) := by decide +kernel
theorem dX10_ratioAfter_58 : decode cX10_ratioAfter 58 = .ok (.invokestatic 307, 3) := by decide +kernel
theorem dX10_ratioAfter_61 : decode cX10_ratioAfter 61 = .ok (.iconst 0, 1) := by decide +kernel
theorem dX10_ratioAfter_62 : decode cX10_ratioAfter 62 = .ok (.istore 4, 2) := by decide +kernel
theorem dX10_ratioAfter_64 : decode cX10_ratioAfter 64 = .ok (.iload 4, 2) := by decide +kernel
theorem dX10_ratioAfter_66 : decode cX10_ratioAfter 66 = .ok (.iload_n 3, 1) := by decide +kernel
theorem dX10_ratioAfter_67 : decode cX10_ratioAfter 67 = .ok (.if_icmp .ge 35, 3) := by decide +kernel
theorem dX10_ratioAfter_70 : decode cX10_ratioAfter 70 = .ok (.aload_n 0, 1) := by decide +kernel
theorem dX10_ratioAfter_71 : decode cX10_ratioAfter 71 = .ok (.getfield 7, 3) := by decide +kernel
theorem dX10_ratioAfter_74 : decode cX10_ratioAfter 74 = .ok (.iconst 0, 1) := by decide +kernel
theorem dX10_ratioAfter_75 : decode cX10_ratioAfter 75 = .ok (.dup2, 1) := by decide +kernel
theorem dX10_ratioAfter_76 : decode cX10_ratioAfter 76 = .ok (.iaload, 1) := by decide +kernel
theorem dX10_ratioAfter_77 : decode cX10_ratioAfter 77 = .ok (.iconst 1, 1) := by decide +kernel
theorem dX10_ratioAfter_78 : decode cX10_ratioAfter 78 = .ok (.iadd, 1) := by decide +kernel
theorem dX10_ratioAfter_79 : decode cX10_ratioAfter 79 = .ok (.iastore, 1) := by decide +kernel
theorem dX10_ratioAfter_80 : decode cX10_ratioAfter 80 = .ok (.aload_n 0, 1) := by decide +kernel
theorem dX10_ratioAfter_81 : decode cX10_ratioAfter 81 = .ok (.getfield 7, 3) := by decide +kernel
theorem dX10_ratioAfter_84 : decode cX10_ratioAfter 84 = .ok (.iload_n 1, 1) := by decide +kernel
theorem dX10_ratioAfter_85 : decode cX10_ratioAfter 85 = .ok (.aload_n 0, 1) := by decide +kernel
theorem dX10_ratioAfter_86 : decode cX10_ratioAfter 86 = .ok (.getfield 7, 3) := by decide +kernel
theorem dX10_ratioAfter_89 : decode cX10_ratioAfter 89 = .ok (.iconst 0, 1) := by decide +kernel
theorem dX10_ratioAfter_90 : decode cX10_ratioAfter 90 = .ok (.iaload, 1) := by decide +kernel
theorem dX10_ratioAfter_91 : decode cX10_ratioAfter 91 = .ok (.invokestatic 228, 3) := by decide +kernel
theorem dX10_ratioAfter_94 : decode cX10_ratioAfter 94 = .ok (.iload_n 2, 1) := by decide +kernel
theorem dX10_ratioAfter_95 : decode cX10_ratioAfter 95 = .ok (.iastore, 1) := by decide +kernel
theorem dX10_ratioAfter_96 : decode cX10_ratioAfter 96 = .ok (.iinc 4 1, 3) := by decide +kernel
theorem dX10_ratioAfter_99 : decode cX10_ratioAfter 99 = .ok (.goto (-35), 3) := by decide +kernel
theorem dX10_ratioAfter_102 : decode cX10_ratioAfter 102 = .ok (.aload_n 0, 1) := by decide +kernel
theorem dX10_ratioAfter_103 : decode cX10_ratioAfter 103 = .ok (.iload_n 1, 1) := by decide +kernel
theorem dX10_ratioAfter_104 : decode cX10_ratioAfter 104 = .ok (.invokevirtual 239, 3) := by decide +kernel
theorem dX10_ratioAfter_107 : decode cX10_ratioAfter 107 = .ok (.istore 4, 2) := by decide +kernel
theorem dX10_ratioAfter_109 : decode cX10_ratioAfter 109 = .ok (.aload_n 0, 1) := by decide +kernel
theorem dX10_ratioAfter_110 : decode cX10_ratioAfter 110 = .ok (.getfield 42, 3) := by decide +kernel
theorem dX10_ratioAfter_113 : decode cX10_ratioAfter 113 = .ok (.iconst 0, 1) := by decide +kernel
theorem dX10_ratioAfter_114 : decode cX10_ratioAfter 114 = .ok (.aload_n 0, 1) := by decide +kernel
theorem dX10_ratioAfter_115 : decode cX10_ratioAfter 115 = .ok (.getfield 7, 3) := by decide +kernel
theorem dX10_ratioAfter_118 : decode cX10_ratioAfter 118 = .ok (.iconst 0, 1) := by decide +kernel
theorem dX10_ratioAfter_119 : decode cX10_ratioAfter 119 = .ok (.sipush 1167, 3) := by decide +kernel
theorem dX10_ratioAfter_122 : decode cX10_ratioAfter 122 = .ok (.invokestatic 307, 3) := by decide +kernel
theorem dX10_ratioAfter_125 : decode cX10_ratioAfter 125 = .ok (.iload 4, 2) := by decide +kernel
theorem dX10_ratioAfter_127 : decode cX10_ratioAfter 127 = .ok (.ireturn, 1) := by decide +kernel
set_option maxRecDepth 20000 in
theorem ggX10_eventsWithout_X10_noStation : GoodIn wsX10_eventsWithout wsX10_noStation := goodIn_ca (goodIn_r _ [7, 8, 9, 10, 11, 12, 6, 13, 14, 15, 16, 17, 18, 19, 20, 99, 100, 101, 102, 103, 104, 105, 106, 107, 108, 109, 110, 111, 112, 113, 114, 115, 116, 117, 118, 119, 120, 121, 122, 123, 124] (by decide +kernel) (by decide +kernel)) (goodIn_sub (fun _ h => List.mem_cons_of_mem _ (List.mem_append_right _ h)) (by decide +kernel))
set_option maxRecDepth 20000 in
theorem gX10_eventsWithout_X10_noStation : GoodIn wsX10_eventsWithout (wsV RX10 215 RX10 yX10_noStation wsX10_noStation) := goodIn_app (goodIn_of _ (by decide +kernel)) ggX10_eventsWithout_X10_noStation
set_option maxRecDepth 20000 in
theorem ggX10_eventsWithout_X10_within : GoodIn wsX10_eventsWithout wsX10_within := goodIn_r _ [16] (by decide +kernel) (by decide +kernel)
set_option maxRecDepth 20000 in
theorem gX10_eventsWithout_X10_within : GoodIn wsX10_eventsWithout (va_wsS RX10 101 yX10_within wsX10_within) := goodIn_app (goodIn_of _ (by decide +kernel)) ggX10_eventsWithout_X10_within
set_option maxRecDepth 20000 in
theorem ggX10_eventsWithout_X10_throwsIf : GoodIn wsX10_eventsWithout wsX10_throwsIf := goodIn_r _ [20, 8, 99, 100, 101, 102, 103, 104, 105, 106, 107, 108, 109, 110, 111, 112, 113, 114, 115, 116, 117, 118, 119, 120, 121, 122, 123, 124] (by decide +kernel) (by decide +kernel)
set_option maxRecDepth 20000 in
theorem gX10_eventsWithout_X10_throwsIf : GoodIn wsX10_eventsWithout (wsV RX10 177 RX10 yX10_throwsIf wsX10_throwsIf) := goodIn_app (goodIn_of _ (by decide +kernel)) ggX10_eventsWithout_X10_throwsIf
set_option maxRecDepth 20000 in
theorem ggX10_eventsWithout_X10_at : GoodIn wsX10_eventsWithout wsX10_at := goodIn_r _ [23] (by decide +kernel) (by decide +kernel)
set_option maxRecDepth 20000 in
theorem gX10_eventsWithout_X10_at : GoodIn wsX10_eventsWithout (va_wsS RX10 236 yX10_at wsX10_at) := goodIn_app (goodIn_of _ (by decide +kernel)) ggX10_eventsWithout_X10_at
set_option maxRecDepth 20000 in
theorem ggX10_eventsWithout_X10_copies : GoodIn wsX10_eventsWithout wsX10_copies := goodIn_ca (goodIn_r _ [26] (by decide +kernel) (by decide +kernel)) (goodIn_sub (fun _ h => List.mem_cons_of_mem _ (List.mem_append_right _ h)) (by decide +kernel))
set_option maxRecDepth 20000 in
theorem gX10_eventsWithout_X10_copies : GoodIn wsX10_eventsWithout (va_wsS RX10 307 yX10_copies wsX10_copies) := goodIn_app (goodIn_of _ (by decide +kernel)) ggX10_eventsWithout_X10_copies
set_option maxRecDepth 20000 in
theorem ggX10_eventsWithout_X10_mutes : GoodIn wsX10_eventsWithout wsX10_mutes := goodIn_ca (goodIn_r _ [30, 1, 9, 21, 22, 6, 23, 31, 32, 33, 34, 35, 36, 37, 38, 39, 40, 41, 42, 43, 44, 45, 99, 100, 101, 102, 103, 104, 105, 106, 107, 108, 109, 110, 111, 112, 113, 114, 115, 116, 117, 118, 119, 120, 121, 122, 123, 124] (by decide +kernel) (by decide +kernel)) (goodIn_sub (fun _ h => List.mem_cons_of_mem _ (List.mem_append_right _ h)) (by decide +kernel))
set_option maxRecDepth 20000 in
theorem gX10_eventsWithout_X10_mutes : GoodIn wsX10_eventsWithout (wsV RX10 311 RX10 yX10_mutes wsX10_mutes) := goodIn_app (goodIn_of _ (by decide +kernel)) ggX10_eventsWithout_X10_mutes
set_option maxRecDepth 20000 in
theorem ggX10_eventsWithout_X10_passes : GoodIn wsX10_eventsWithout wsX10_passes := goodIn_ca (goodIn_r _ [49, 1, 9, 50, 51, 6, 52, 21, 22, 23, 31, 32, 33, 53, 54, 55, 56, 57, 58, 59, 60, 61, 62, 63, 64, 65, 66, 67, 68, 69, 70, 71, 72, 73, 74, 75, 76, 77, 78, 79, 80, 81, 82, 83, 84, 85, 86, 87, 88, 89, 90, 91, 92, 93, 94, 42, 43, 44, 45, 99, 100, 101, 102, 103, 104, 105, 106, 107, 108, 109, 110, 111, 112, 113, 114, 115, 116, 117, 118, 119, 120, 121, 122, 123, 124] (by decide +kernel) (by decide +kernel)) (goodIn_sub (fun _ h => List.mem_cons_of_mem _ (List.mem_append_right _ h)) (by decide +kernel))
set_option maxRecDepth 20000 in
theorem gX10_eventsWithout_X10_passes : GoodIn wsX10_eventsWithout (wsV RX10 314 RX10 yX10_passes wsX10_passes) := goodIn_app (goodIn_of _ (by decide +kernel)) ggX10_eventsWithout_X10_passes
set_option maxRecDepth 20000 in
theorem ggX10_eventsWithout_X10_live : GoodIn wsX10_eventsWithout wsX10_live := goodIn_ca (goodIn_r _ [98, 1, 70, 71, 72, 6, 73, 99, 100, 101, 102, 103, 104, 105, 106, 107, 108, 109, 110, 111, 112, 113, 114, 115, 116, 117, 118, 119, 120, 121, 122, 123, 124] (by decide +kernel) (by decide +kernel)) (goodIn_sub (fun _ h => List.mem_cons_of_mem _ (List.mem_append_right _ h)) (by decide +kernel))
set_option maxRecDepth 20000 in
theorem gX10_eventsWithout_X10_live : GoodIn wsX10_eventsWithout (wsV RX10 199 RX10 yX10_live wsX10_live) := goodIn_app (goodIn_of _ (by decide +kernel)) ggX10_eventsWithout_X10_live
theorem dX10_eventsWithout_0 : decode cX10_eventsWithout 0 = .ok (.aload_n 0, 1) := by decide +kernel
theorem dX10_eventsWithout_1 : decode cX10_eventsWithout 1 = .ok (.iload_n 1, 1) := by decide +kernel
theorem dX10_eventsWithout_2 : decode cX10_eventsWithout 2 = .ok (.invokevirtual 215, 3) := by decide +kernel
theorem dX10_eventsWithout_5 : decode cX10_eventsWithout 5 = .ok (.ifCond .ne 54, 3) := by decide +kernel
theorem dX10_eventsWithout_8 : decode cX10_eventsWithout 8 = .ok (.aload_n 0, 1) := by decide +kernel
theorem dX10_eventsWithout_9 : decode cX10_eventsWithout 9 = .ok (.iload_n 2, 1) := by decide +kernel
theorem dX10_eventsWithout_10 : decode cX10_eventsWithout 10 = .ok (.iconst 0, 1) := by decide +kernel
theorem dX10_eventsWithout_11 : decode cX10_eventsWithout 11 = .ok (.sipush 200, 3) := by decide +kernel
theorem dX10_eventsWithout_14 : decode cX10_eventsWithout 14 = .ok (.invokestatic 101, 3) := by decide +kernel
theorem dX10_eventsWithout_17 : decode cX10_eventsWithout 17 = .ok (.ifCond .ne 7, 3) := by decide +kernel
theorem dX10_eventsWithout_20 : decode cX10_eventsWithout 20 = .ok (.iconst 1, 1) := by decide +kernel
theorem dX10_eventsWithout_21 : decode cX10_eventsWithout 21 = .ok (.goto 4, 3) := by decide +kernel
theorem dX10_eventsWithout_24 : decode cX10_eventsWithout 24 = .ok (.iconst 0, 1) := by decide +kernel
theorem dX10_eventsWithout_25 : decode cX10_eventsWithout 25 = .ok (.iconst 2, 1) := by decide +kernel
theorem dX10_eventsWithout_26 : decode cX10_eventsWithout 26 = .ok (.invokevirtual 177, 3) := by decide +kernel
theorem dX10_eventsWithout_29 : decode cX10_eventsWithout 29 = .ok (.ifCond .ne 30, 3) := by decide +kernel
theorem dX10_eventsWithout_32 : decode cX10_eventsWithout 32 = .ok (.aload_n 0, 1) := by decide +kernel
theorem dX10_eventsWithout_33 : decode cX10_eventsWithout 33 = .ok (.aload_n 0, 1) := by decide +kernel
theorem dX10_eventsWithout_34 : decode cX10_eventsWithout 34 = .ok (.getfield 7, 3) := by decide +kernel
theorem dX10_eventsWithout_37 : decode cX10_eventsWithout 37 = .ok (.iload_n 1, 1) := by decide +kernel
theorem dX10_eventsWithout_38 : decode cX10_eventsWithout 38 = .ok (.iconst 2, 1) := by decide +kernel
theorem dX10_eventsWithout_39 : decode cX10_eventsWithout 39 = .ok (.invokestatic 236, 3) := by decide +kernel
theorem dX10_eventsWithout_42 : decode cX10_eventsWithout 42 = .ok (.iaload, 1) := by decide +kernel
theorem dX10_eventsWithout_43 : decode cX10_eventsWithout 43 = .ok (.iconst 1, 1) := by decide +kernel
theorem dX10_eventsWithout_44 : decode cX10_eventsWithout 44 = .ok (.if_icmp .ne 7, 3) := by decide +kernel
theorem dX10_eventsWithout_47 : decode cX10_eventsWithout 47 = .ok (.iconst 1, 1) := by decide +kernel
theorem dX10_eventsWithout_48 : decode cX10_eventsWithout 48 = .ok (.goto 4, 3) := by decide +kernel
theorem dX10_eventsWithout_51 : decode cX10_eventsWithout 51 = .ok (.iconst 0, 1) := by decide +kernel
theorem dX10_eventsWithout_52 : decode cX10_eventsWithout 52 = .ok (.iconst 3, 1) := by decide +kernel
theorem dX10_eventsWithout_53 : decode cX10_eventsWithout 53 = .ok (.invokevirtual 177, 3) := by decide +kernel
theorem dX10_eventsWithout_56 : decode cX10_eventsWithout 56 = .ok (.ifCond .eq 5, 3) := by decide +kernel
theorem dX10_eventsWithout_59 : decode cX10_eventsWithout 59 = .ok (.iconst 0, 1) := by decide +kernel
theorem dX10_eventsWithout_60 : decode cX10_eventsWithout 60 = .ok (.ireturn, 1) := by decide +kernel
theorem dX10_eventsWithout_61 : decode cX10_eventsWithout 61 = .ok (.aload_n 0, 1) := by decide +kernel
theorem dX10_eventsWithout_62 : decode cX10_eventsWithout 62 = .ok (.getfield 7, 3) := by decide +kernel
theorem dX10_eventsWithout_65 : decode cX10_eventsWithout 65 = .ok (.iconst 0, 1) := by decide +kernel
theorem dX10_eventsWithout_66 : decode cX10_eventsWithout 66 = .ok (.aload_n 0, 1) := by decide +kernel
theorem dX10_eventsWithout_67 : decode cX10_eventsWithout 67 = .ok (.getfield 42, 3) := by decide +kernel
theorem dX10_eventsWithout_70 : decode cX10_eventsWithout 70 = .ok (.iconst 0, 1) := by decide +kernel
theorem dX10_eventsWithout_71 : decode cX10_eventsWithout 71 = .ok (.sipush 1167, 3) := by decide +kernel
theorem dX10_eventsWithout_74 : decode cX10_eventsWithout 74 = .ok (.invokestatic 307, 3) := by decide +kernel
theorem dX10_eventsWithout_77 : decode cX10_eventsWithout 77 = .ok (.aload_n 0, 1) := by decide +kernel
theorem dX10_eventsWithout_78 : decode cX10_eventsWithout 78 = .ok (.iload_n 1, 1) := by decide +kernel
theorem dX10_eventsWithout_79 : decode cX10_eventsWithout 79 = .ok (.invokevirtual 311, 3) := by decide +kernel
theorem dX10_eventsWithout_82 : decode cX10_eventsWithout 82 = .ok (.istore_n 3, 1) := by decide +kernel
theorem dX10_eventsWithout_83 : decode cX10_eventsWithout 83 = .ok (.iconst 0, 1) := by decide +kernel
theorem dX10_eventsWithout_84 : decode cX10_eventsWithout 84 = .ok (.istore 4, 2) := by decide +kernel
theorem dX10_eventsWithout_86 : decode cX10_eventsWithout 86 = .ok (.iload 4, 2) := by decide +kernel
theorem dX10_eventsWithout_88 : decode cX10_eventsWithout 88 = .ok (.iload_n 2, 1) := by decide +kernel
theorem dX10_eventsWithout_89 : decode cX10_eventsWithout 89 = .ok (.if_icmp .ge 13, 3) := by decide +kernel
theorem dX10_eventsWithout_92 : decode cX10_eventsWithout 92 = .ok (.aload_n 0, 1) := by decide +kernel
theorem dX10_eventsWithout_93 : decode cX10_eventsWithout 93 = .ok (.invokevirtual 314, 3) := by decide +kernel
theorem dX10_eventsWithout_96 : decode cX10_eventsWithout 96 = .ok (.iinc 4 1, 3) := by decide +kernel
theorem dX10_eventsWithout_99 : decode cX10_eventsWithout 99 = .ok (.goto (-13), 3) := by decide +kernel
theorem dX10_eventsWithout_102 : decode cX10_eventsWithout 102 = .ok (.iload_n 3, 1) := by decide +kernel
theorem dX10_eventsWithout_103 : decode cX10_eventsWithout 103 = .ok (.ifCond .ge 7, 3) := by decide +kernel
theorem dX10_eventsWithout_106 : decode cX10_eventsWithout 106 = .ok (.iload_n 3, 1) := by decide +kernel
theorem dX10_eventsWithout_107 : decode cX10_eventsWithout 107 = .ok (.goto 7, 3) := by decide +kernel
theorem dX10_eventsWithout_110 : decode cX10_eventsWithout 110 = .ok (.aload_n 0, 1) := by decide +kernel
theorem dX10_eventsWithout_111 : decode cX10_eventsWithout 111 = .ok (.invokevirtual 199, 3) := by decide +kernel
theorem dX10_eventsWithout_114 : decode cX10_eventsWithout 114 = .ok (.istore 4, 2) := by decide +kernel
theorem dX10_eventsWithout_116 : decode cX10_eventsWithout 116 = .ok (.aload_n 0, 1) := by decide +kernel
theorem dX10_eventsWithout_117 : decode cX10_eventsWithout 117 = .ok (.getfield 42, 3) := by decide +kernel
theorem dX10_eventsWithout_120 : decode cX10_eventsWithout 120 = .ok (.iconst 0, 1) := by decide +kernel
theorem dX10_eventsWithout_121 : decode cX10_eventsWithout 121 = .ok (.aload_n 0, 1) := by decide +kernel
theorem dX10_eventsWithout_122 : decode cX10_eventsWithout 122 = .ok (.getfield 7, 3) := by decide +kernel
theorem dX10_eventsWithout_125 : decode cX10_eventsWithout 125 = .ok (.iconst 0, 1) := by decide +kernel
theorem dX10_eventsWithout_126 : decode cX10_eventsWithout 126 = .ok (.sipush 1167, 3) := by decide +kernel
theorem dX10_eventsWithout_129 : decode cX10_eventsWithout 129 = .ok (.invokestatic 307, 3) := by decide +kernel
theorem dX10_eventsWithout_132 : decode cX10_eventsWithout 132 = .ok (.iload 4, 2) := by decide +kernel
theorem dX10_eventsWithout_134 : decode cX10_eventsWithout 134 = .ok (.ireturn, 1) := by decide +kernel
set_option maxRecDepth 20000 in
theorem ggX10_ticksToEvent_X10_copies : GoodIn wsX10_ticksToEvent wsX10_copies := goodIn_ca (goodIn_r _ [7] (by decide +kernel) (by decide +kernel)) (goodIn_sub (fun _ h => List.mem_cons_of_mem _ (List.mem_append_right _ h)) (by decide +kernel))
set_option maxRecDepth 20000 in
theorem gX10_ticksToEvent_X10_copies : GoodIn wsX10_ticksToEvent (va_wsS RX10 307 yX10_copies wsX10_copies) := goodIn_app (goodIn_of _ (by decide +kernel)) ggX10_ticksToEvent_X10_copies
set_option maxRecDepth 20000 in
theorem ggX10_ticksToEvent_X10_passes : GoodIn wsX10_ticksToEvent wsX10_passes := goodIn_ca (goodIn_r _ [11, 2, 12, 13, 14, 6, 15, 16, 17, 18, 19, 20, 21, 22, 23, 24, 25, 26, 27, 28, 29, 30, 31, 32, 33, 34, 35, 36, 37, 38, 39, 40, 41, 42, 43, 44, 45, 46, 47, 48, 49, 50, 51, 52, 53, 54, 55, 56, 57, 58, 59, 60, 61, 62, 63, 64, 65, 66, 67, 68, 69, 70, 71, 72, 73, 74, 75, 76, 77, 78, 79, 80, 81, 82, 83, 84, 85, 86, 87, 88, 89, 90, 91, 92, 93] (by decide +kernel) (by decide +kernel)) (goodIn_sub (fun _ h => List.mem_cons_of_mem _ (List.mem_append_right _ h)) (by decide +kernel))
set_option maxRecDepth 20000 in
theorem gX10_ticksToEvent_X10_passes : GoodIn wsX10_ticksToEvent (wsV RX10 314 RX10 yX10_passes wsX10_passes) := goodIn_app (goodIn_of _ (by decide +kernel)) ggX10_ticksToEvent_X10_passes
theorem dX10_ticksToEvent_0 : decode cX10_ticksToEvent 0 = .ok (.aload_n 0, 1) := by decide +kernel
theorem dX10_ticksToEvent_1 : decode cX10_ticksToEvent 1 = .ok (.iconst 0, 1) := by decide +kernel
theorem dX10_ticksToEvent_2 : decode cX10_ticksToEvent 2 = .ok (.putfield 64, 3) := by decide +kernel
theorem dX10_ticksToEvent_5 : decode cX10_ticksToEvent 5 = .ok (.aload_n 0, 1) := by decide +kernel
theorem dX10_ticksToEvent_6 : decode cX10_ticksToEvent 6 = .ok (.getfield 7, 3) := by decide +kernel
theorem dX10_ticksToEvent_9 : decode cX10_ticksToEvent 9 = .ok (.iconst 0, 1) := by decide +kernel
theorem dX10_ticksToEvent_10 : decode cX10_ticksToEvent 10 = .ok (.aload_n 0, 1) := by decide +kernel
theorem dX10_ticksToEvent_11 : decode cX10_ticksToEvent 11 = .ok (.getfield 42, 3) := by decide +kernel
theorem dX10_ticksToEvent_14 : decode cX10_ticksToEvent 14 = .ok (.iconst 0, 1) := by decide +kernel
theorem dX10_ticksToEvent_15 : decode cX10_ticksToEvent 15 = .ok (.sipush 1167, 3) := by decide +kernel
theorem dX10_ticksToEvent_18 : decode cX10_ticksToEvent 18 = .ok (.invokestatic 307, 3) := by decide +kernel
theorem dX10_ticksToEvent_21 : decode cX10_ticksToEvent 21 = .ok (.iconst 0, 1) := by decide +kernel
theorem dX10_ticksToEvent_22 : decode cX10_ticksToEvent 22 = .ok (.istore_n 1, 1) := by decide +kernel
theorem dX10_ticksToEvent_23 : decode cX10_ticksToEvent 23 = .ok (.iload_n 1, 1) := by decide +kernel
theorem dX10_ticksToEvent_24 : decode cX10_ticksToEvent 24 = .ok (.sipush 200, 3) := by decide +kernel
theorem dX10_ticksToEvent_27 : decode cX10_ticksToEvent 27 = .ok (.if_icmp .ge 28, 3) := by decide +kernel
theorem dX10_ticksToEvent_30 : decode cX10_ticksToEvent 30 = .ok (.aload_n 0, 1) := by decide +kernel
theorem dX10_ticksToEvent_31 : decode cX10_ticksToEvent 31 = .ok (.getfield 7, 3) := by decide +kernel
theorem dX10_ticksToEvent_34 : decode cX10_ticksToEvent 34 = .ok (.iconst 2, 1) := by decide +kernel
theorem dX10_ticksToEvent_35 : decode cX10_ticksToEvent 35 = .ok (.iaload, 1) := by decide +kernel
theorem dX10_ticksToEvent_36 : decode cX10_ticksToEvent 36 = .ok (.aload_n 0, 1) := by decide +kernel
theorem dX10_ticksToEvent_37 : decode cX10_ticksToEvent 37 = .ok (.getfield 42, 3) := by decide +kernel
theorem dX10_ticksToEvent_40 : decode cX10_ticksToEvent 40 = .ok (.iconst 2, 1) := by decide +kernel
theorem dX10_ticksToEvent_41 : decode cX10_ticksToEvent 41 = .ok (.iaload, 1) := by decide +kernel
theorem dX10_ticksToEvent_42 : decode cX10_ticksToEvent 42 = .ok (.if_icmp .ne 13, 3) := by decide +kernel
theorem dX10_ticksToEvent_45 : decode cX10_ticksToEvent 45 = .ok (.aload_n 0, 1) := by decide +kernel
theorem dX10_ticksToEvent_46 : decode cX10_ticksToEvent 46 = .ok (.invokevirtual 314, 3) := by decide +kernel
theorem dX10_ticksToEvent_49 : decode cX10_ticksToEvent 49 = .ok (.iinc 1 1, 3) := by decide +kernel
theorem dX10_ticksToEvent_52 : decode cX10_ticksToEvent 52 = .ok (.goto (-29), 3) := by decide +kernel
theorem dX10_ticksToEvent_55 : decode cX10_ticksToEvent 55 = .ok (.aload_n 0, 1) := by decide +kernel
theorem dX10_ticksToEvent_56 : decode cX10_ticksToEvent 56 = .ok (.getfield 7, 3) := by decide +kernel
theorem dX10_ticksToEvent_59 : decode cX10_ticksToEvent 59 = .ok (.iconst 2, 1) := by decide +kernel
theorem dX10_ticksToEvent_60 : decode cX10_ticksToEvent 60 = .ok (.iaload, 1) := by decide +kernel
theorem dX10_ticksToEvent_61 : decode cX10_ticksToEvent 61 = .ok (.aload_n 0, 1) := by decide +kernel
theorem dX10_ticksToEvent_62 : decode cX10_ticksToEvent 62 = .ok (.getfield 42, 3) := by decide +kernel
theorem dX10_ticksToEvent_65 : decode cX10_ticksToEvent 65 = .ok (.iconst 2, 1) := by decide +kernel
theorem dX10_ticksToEvent_66 : decode cX10_ticksToEvent 66 = .ok (.iaload, 1) := by decide +kernel
theorem dX10_ticksToEvent_67 : decode cX10_ticksToEvent 67 = .ok (.if_icmp .le 7, 3) := by decide +kernel
theorem dX10_ticksToEvent_70 : decode cX10_ticksToEvent 70 = .ok (.iconst 1, 1) := by decide +kernel
theorem dX10_ticksToEvent_71 : decode cX10_ticksToEvent 71 = .ok (.goto 4, 3) := by decide +kernel
theorem dX10_ticksToEvent_74 : decode cX10_ticksToEvent 74 = .ok (.iconst 0, 1) := by decide +kernel
theorem dX10_ticksToEvent_75 : decode cX10_ticksToEvent 75 = .ok (.istore_n 2, 1) := by decide +kernel
theorem dX10_ticksToEvent_76 : decode cX10_ticksToEvent 76 = .ok (.aload_n 0, 1) := by decide +kernel
theorem dX10_ticksToEvent_77 : decode cX10_ticksToEvent 77 = .ok (.getfield 42, 3) := by decide +kernel
theorem dX10_ticksToEvent_80 : decode cX10_ticksToEvent 80 = .ok (.iconst 0, 1) := by decide +kernel
theorem dX10_ticksToEvent_81 : decode cX10_ticksToEvent 81 = .ok (.aload_n 0, 1) := by decide +kernel
theorem dX10_ticksToEvent_82 : decode cX10_ticksToEvent 82 = .ok (.getfield 7, 3) := by decide +kernel
theorem dX10_ticksToEvent_85 : decode cX10_ticksToEvent 85 = .ok (.iconst 0, 1) := by decide +kernel
theorem dX10_ticksToEvent_86 : decode cX10_ticksToEvent 86 = .ok (.sipush 1167, 3) := by decide +kernel
theorem dX10_ticksToEvent_89 : decode cX10_ticksToEvent 89 = .ok (.invokestatic 307, 3) := by decide +kernel
theorem dX10_ticksToEvent_92 : decode cX10_ticksToEvent 92 = .ok (.iload_n 2, 1) := by decide +kernel
theorem dX10_ticksToEvent_93 : decode cX10_ticksToEvent 93 = .ok (.ifCond .eq 7, 3) := by decide +kernel
theorem dX10_ticksToEvent_96 : decode cX10_ticksToEvent 96 = .ok (.iload_n 1, 1) := by decide +kernel
theorem dX10_ticksToEvent_97 : decode cX10_ticksToEvent 97 = .ok (.goto 4, 3) := by decide +kernel
theorem dX10_ticksToEvent_100 : decode cX10_ticksToEvent 100 = .ok (.iconst (-1), 1) := by decide +kernel
theorem dX10_ticksToEvent_101 : decode cX10_ticksToEvent 101 = .ok (.ireturn, 1) := by decide +kernel
set_option maxRecDepth 20000 in
theorem ggX10_setLevel_X10_noStation : GoodIn wsX10_setLevel wsX10_noStation := goodIn_ca (goodIn_r _ [6, 7, 8, 9, 10, 11, 5, 12, 13, 14, 15, 16, 17, 18, 19, 32, 33, 34, 35, 36, 37, 38, 39, 40, 41, 42, 43, 44, 45, 46, 47, 48, 49, 50, 51, 52, 53, 54, 55, 56, 57] (by decide +kernel) (by decide +kernel)) (goodIn_sub (fun _ h => List.mem_cons_of_mem _ (List.mem_append_right _ h)) (by decide +kernel))
set_option maxRecDepth 20000 in
theorem gX10_setLevel_X10_noStation : GoodIn wsX10_setLevel (wsV RX10 215 RX10 yX10_noStation wsX10_noStation) := goodIn_app (goodIn_of _ (by decide +kernel)) ggX10_setLevel_X10_noStation
set_option maxRecDepth 20000 in
theorem ggX10_setLevel_X10_within : GoodIn wsX10_setLevel wsX10_within := goodIn_r _ [15] (by decide +kernel) (by decide +kernel)
set_option maxRecDepth 20000 in
theorem gX10_setLevel_X10_within : GoodIn wsX10_setLevel (va_wsS RX10 101 yX10_within wsX10_within) := goodIn_app (goodIn_of _ (by decide +kernel)) ggX10_setLevel_X10_within
set_option maxRecDepth 20000 in
theorem ggX10_setLevel_X10_throwsIf : GoodIn wsX10_setLevel wsX10_throwsIf := goodIn_r _ [19, 7, 32, 33, 34, 35, 36, 37, 38, 39, 40, 41, 42, 43, 44, 45, 46, 47, 48, 49, 50, 51, 52, 53, 54, 55, 56, 57] (by decide +kernel) (by decide +kernel)
set_option maxRecDepth 20000 in
theorem gX10_setLevel_X10_throwsIf : GoodIn wsX10_setLevel (wsV RX10 177 RX10 yX10_throwsIf wsX10_throwsIf) := goodIn_app (goodIn_of _ (by decide +kernel)) ggX10_setLevel_X10_throwsIf
set_option maxRecDepth 20000 in
theorem ggX10_setLevel_X10_keeps : GoodIn wsX10_setLevel wsX10_keeps := goodIn_ca (goodIn_r _ [23, 24, 25, 1, 26, 27, 5, 28, 32, 33, 34, 35, 36, 37, 38, 39, 40, 41, 42, 43, 44, 45, 46, 47, 48, 49, 50, 51, 52, 53, 54, 55, 56, 57] (by decide +kernel) (by decide +kernel)) (goodIn_sub (fun _ h => List.mem_cons_of_mem _ (List.mem_append_right _ h)) (by decide +kernel))
set_option maxRecDepth 20000 in
theorem gX10_setLevel_X10_keeps : GoodIn wsX10_setLevel (wsV RX10 317 RX10 yX10_keeps wsX10_keeps) := goodIn_app (goodIn_of _ (by decide +kernel)) ggX10_setLevel_X10_keeps
set_option maxRecDepth 20000 in
theorem ggX10_setLevel_X10_at : GoodIn wsX10_setLevel wsX10_at := goodIn_r _ [31] (by decide +kernel) (by decide +kernel)
set_option maxRecDepth 20000 in
theorem gX10_setLevel_X10_at : GoodIn wsX10_setLevel (va_wsS RX10 236 yX10_at wsX10_at) := goodIn_app (goodIn_of _ (by decide +kernel)) ggX10_setLevel_X10_at
theorem dX10_setLevel_0 : decode cX10_setLevel 0 = .ok (.aload_n 0, 1) := by decide +kernel
theorem dX10_setLevel_1 : decode cX10_setLevel 1 = .ok (.iload_n 1, 1) := by decide +kernel
theorem dX10_setLevel_2 : decode cX10_setLevel 2 = .ok (.invokevirtual 215, 3) := by decide +kernel
theorem dX10_setLevel_5 : decode cX10_setLevel 5 = .ok (.ifCond .ne 27, 3) := by decide +kernel
theorem dX10_setLevel_8 : decode cX10_setLevel 8 = .ok (.aload_n 0, 1) := by decide +kernel
theorem dX10_setLevel_9 : decode cX10_setLevel 9 = .ok (.iload_n 2, 1) := by decide +kernel
theorem dX10_setLevel_10 : decode cX10_setLevel 10 = .ok (.iconst 0, 1) := by decide +kernel
theorem dX10_setLevel_11 : decode cX10_setLevel 11 = .ok (.sipush 9999, 3) := by decide +kernel
theorem dX10_setLevel_14 : decode cX10_setLevel 14 = .ok (.invokestatic 101, 3) := by decide +kernel
theorem dX10_setLevel_17 : decode cX10_setLevel 17 = .ok (.ifCond .ne 7, 3) := by decide +kernel
theorem dX10_setLevel_20 : decode cX10_setLevel 20 = .ok (.iconst 1, 1) := by decide +kernel
theorem dX10_setLevel_21 : decode cX10_setLevel 21 = .ok (.goto 4, 3) := by decide +kernel
theorem dX10_setLevel_24 : decode cX10_setLevel 24 = .ok (.iconst 0, 1) := by decide +kernel
theorem dX10_setLevel_25 : decode cX10_setLevel 25 = .ok (.iconst 2, 1) := by decide +kernel
theorem dX10_setLevel_26 : decode cX10_setLevel 26 = .ok (.invokevirtual 177, 3) := by decide +kernel
theorem dX10_setLevel_29 : decode cX10_setLevel 29 = .ok (.ifCond .eq 5, 3) := by decide +kernel
theorem dX10_setLevel_32 : decode cX10_setLevel 32 = .ok (.iconst 0, 1) := by decide +kernel
theorem dX10_setLevel_33 : decode cX10_setLevel 33 = .ok (.ireturn, 1) := by decide +kernel
theorem dX10_setLevel_34 : decode cX10_setLevel 34 = .ok (.aload_n 0, 1) := by decide +kernel
theorem dX10_setLevel_35 : decode cX10_setLevel 35 = .ok (.invokevirtual 317, 3) := by decide +kernel
theorem dX10_setLevel_38 : decode cX10_setLevel 38 = .ok (.aload_n 0, 1) := by decide +kernel
theorem dX10_setLevel_39 : decode cX10_setLevel 39 = .ok (.getfield 7, 3) := by decide +kernel
theorem dX10_setLevel_42 : decode cX10_setLevel 42 = .ok (.iload_n 1, 1) := by decide +kernel
theorem dX10_setLevel_43 : decode cX10_setLevel 43 = .ok (.iconst 0, 1) := by decide +kernel
theorem dX10_setLevel_44 : decode cX10_setLevel 44 = .ok (.invokestatic 236, 3) := by decide +kernel
theorem dX10_setLevel_47 : decode cX10_setLevel 47 = .ok (.iaload, 1) := by decide +kernel
theorem dX10_setLevel_48 : decode cX10_setLevel 48 = .ok (.istore_n 3, 1) := by decide +kernel
theorem dX10_setLevel_49 : decode cX10_setLevel 49 = .ok (.aload_n 0, 1) := by decide +kernel
theorem dX10_setLevel_50 : decode cX10_setLevel 50 = .ok (.getfield 7, 3) := by decide +kernel
theorem dX10_setLevel_53 : decode cX10_setLevel 53 = .ok (.iload_n 1, 1) := by decide +kernel
theorem dX10_setLevel_54 : decode cX10_setLevel 54 = .ok (.iconst 0, 1) := by decide +kernel
theorem dX10_setLevel_55 : decode cX10_setLevel 55 = .ok (.invokestatic 236, 3) := by decide +kernel
theorem dX10_setLevel_58 : decode cX10_setLevel 58 = .ok (.iload_n 2, 1) := by decide +kernel
theorem dX10_setLevel_59 : decode cX10_setLevel 59 = .ok (.iastore, 1) := by decide +kernel
theorem dX10_setLevel_60 : decode cX10_setLevel 60 = .ok (.iload_n 3, 1) := by decide +kernel
theorem dX10_setLevel_61 : decode cX10_setLevel 61 = .ok (.ireturn, 1) := by decide +kernel
set_option maxRecDepth 20000 in
theorem ggX10_pass_X10_within : GoodIn wsX10_pass wsX10_within := goodIn_r _ [6] (by decide +kernel) (by decide +kernel)
set_option maxRecDepth 20000 in
theorem gX10_pass_X10_within : GoodIn wsX10_pass (va_wsS RX10 101 yX10_within wsX10_within) := goodIn_app (goodIn_of _ (by decide +kernel)) ggX10_pass_X10_within
set_option maxRecDepth 20000 in
theorem ggX10_pass_X10_throwsIf : GoodIn wsX10_pass wsX10_throwsIf := goodIn_r _ [10, 1, 80, 81, 82, 83, 84, 85, 86, 87, 88, 89, 90, 91, 92, 93, 94, 95, 96, 97, 98, 99, 100, 101, 102, 103, 104, 105] (by decide +kernel) (by decide +kernel)
set_option maxRecDepth 20000 in
theorem gX10_pass_X10_throwsIf : GoodIn wsX10_pass (wsV RX10 177 RX10 yX10_throwsIf wsX10_throwsIf) := goodIn_app (goodIn_of _ (by decide +kernel)) ggX10_pass_X10_throwsIf
set_option maxRecDepth 20000 in
theorem ggX10_pass_X10_keeps : GoodIn wsX10_pass wsX10_keeps := goodIn_ca (goodIn_r _ [14, 15, 16, 2, 17, 18, 5, 19, 80, 81, 82, 83, 84, 85, 86, 87, 88, 89, 90, 91, 92, 93, 94, 95, 96, 97, 98, 99, 100, 101, 102, 103, 104, 105] (by decide +kernel) (by decide +kernel)) (goodIn_sub (fun _ h => List.mem_cons_of_mem _ (List.mem_append_right _ h)) (by decide +kernel))
set_option maxRecDepth 20000 in
theorem gX10_pass_X10_keeps : GoodIn wsX10_pass (wsV RX10 317 RX10 yX10_keeps wsX10_keeps) := goodIn_app (goodIn_of _ (by decide +kernel)) ggX10_pass_X10_keeps
set_option maxRecDepth 20000 in
theorem ggX10_pass_X10_passes : GoodIn wsX10_pass wsX10_passes := goodIn_ca (goodIn_r _ [23, 2, 24, 25, 26, 5, 27, 28, 29, 30, 31, 32, 33, 34, 35, 36, 37, 38, 39, 40, 41, 42, 43, 44, 45, 46, 47, 48, 49, 50, 51, 52, 53, 54, 55, 56, 57, 58, 59, 60, 61, 62, 63, 64, 65, 66, 67, 68, 69, 70, 71, 72, 73, 74, 75, 76, 77, 78, 79, 80, 81, 82, 83, 84, 85, 86, 87, 88, 89, 90, 91, 92, 93, 94, 95, 96, 97, 98, 99, 100, 101, 102, 103, 104, 105] (by decide +kernel) (by decide +kernel)) (goodIn_sub (fun _ h => List.mem_cons_of_mem _ (List.mem_append_right _ h)) (by decide +kernel))
set_option maxRecDepth 20000 in
theorem gX10_pass_X10_passes : GoodIn wsX10_pass (wsV RX10 314 RX10 yX10_passes wsX10_passes) := goodIn_app (goodIn_of _ (by decide +kernel)) ggX10_pass_X10_passes
theorem dX10_pass_0 : decode cX10_pass 0 = .ok (.aload_n 0, 1) := by decide +kernel
theorem dX10_pass_1 : decode cX10_pass 1 = .ok (.iconst 0, 1) := by decide +kernel
theorem dX10_pass_2 : decode cX10_pass 2 = .ok (.putfield 64, 3) := by decide +kernel
theorem dX10_pass_5 : decode cX10_pass 5 = .ok (.aload_n 0, 1) := by decide +kernel
theorem dX10_pass_6 : decode cX10_pass 6 = .ok (.iload_n 1, 1) := by decide +kernel
theorem dX10_pass_7 : decode cX10_pass 7 = .ok (.iconst 1, 1) := by decide +kernel
theorem dX10_pass_8 : decode cX10_pass 8 = .ok (.sipush 200, 3) := by decide +kernel
theorem dX10_pass_11 : decode cX10_pass 11 = .ok (.invokestatic 101, 3) := by decide +kernel
theorem dX10_pass_14 : decode cX10_pass 14 = .ok (.ifCond .ne 7, 3) := by decide +kernel
theorem dX10_pass_17 : decode cX10_pass 17 = .ok (.iconst 1, 1) := by decide +kernel
theorem dX10_pass_18 : decode cX10_pass 18 = .ok (.goto 4, 3) := by decide +kernel
theorem dX10_pass_21 : decode cX10_pass 21 = .ok (.iconst 0, 1) := by decide +kernel
theorem dX10_pass_22 : decode cX10_pass 22 = .ok (.iconst 1, 1) := by decide +kernel
theorem dX10_pass_23 : decode cX10_pass 23 = .ok (.invokevirtual 177, 3) := by decide +kernel
theorem dX10_pass_26 : decode cX10_pass 26 = .ok (.ifCond .ne 30, 3) := by decide +kernel
theorem dX10_pass_29 : decode cX10_pass 29 = .ok (.aload_n 0, 1) := by decide +kernel
theorem dX10_pass_30 : decode cX10_pass 30 = .ok (.aload_n 0, 1) := by decide +kernel
theorem dX10_pass_31 : decode cX10_pass 31 = .ok (.getfield 7, 3) := by decide +kernel
theorem dX10_pass_34 : decode cX10_pass 34 = .ok (.iconst 0, 1) := by decide +kernel
theorem dX10_pass_35 : decode cX10_pass 35 = .ok (.iaload, 1) := by decide +kernel
theorem dX10_pass_36 : decode cX10_pass 36 = .ok (.iload_n 1, 1) := by decide +kernel
theorem dX10_pass_37 : decode cX10_pass 37 = .ok (.iadd, 1) := by decide +kernel
theorem dX10_pass_38 : decode cX10_pass 38 = .ok (.sipush 9999, 3) := by decide +kernel
theorem dX10_pass_41 : decode cX10_pass 41 = .ok (.if_icmp .le 7, 3) := by decide +kernel
theorem dX10_pass_44 : decode cX10_pass 44 = .ok (.iconst 1, 1) := by decide +kernel
theorem dX10_pass_45 : decode cX10_pass 45 = .ok (.goto 4, 3) := by decide +kernel
theorem dX10_pass_48 : decode cX10_pass 48 = .ok (.iconst 0, 1) := by decide +kernel
theorem dX10_pass_49 : decode cX10_pass 49 = .ok (.iconst 2, 1) := by decide +kernel
theorem dX10_pass_50 : decode cX10_pass 50 = .ok (.invokevirtual 177, 3) := by decide +kernel
theorem dX10_pass_53 : decode cX10_pass 53 = .ok (.ifCond .eq 5, 3) := by decide +kernel
theorem dX10_pass_56 : decode cX10_pass 56 = .ok (.iconst 0, 1) := by decide +kernel
theorem dX10_pass_57 : decode cX10_pass 57 = .ok (.ireturn, 1) := by decide +kernel
theorem dX10_pass_58 : decode cX10_pass 58 = .ok (.aload_n 0, 1) := by decide +kernel
theorem dX10_pass_59 : decode cX10_pass 59 = .ok (.invokevirtual 317, 3) := by decide +kernel
theorem dX10_pass_62 : decode cX10_pass 62 = .ok (.aload_n 0, 1) := by decide +kernel
theorem dX10_pass_63 : decode cX10_pass 63 = .ok (.getfield 7, 3) := by decide +kernel
theorem dX10_pass_66 : decode cX10_pass 66 = .ok (.iconst 1, 1) := by decide +kernel
theorem dX10_pass_67 : decode cX10_pass 67 = .ok (.iaload, 1) := by decide +kernel
theorem dX10_pass_68 : decode cX10_pass 68 = .ok (.istore_n 2, 1) := by decide +kernel
theorem dX10_pass_69 : decode cX10_pass 69 = .ok (.iconst 0, 1) := by decide +kernel
theorem dX10_pass_70 : decode cX10_pass 70 = .ok (.istore_n 3, 1) := by decide +kernel
theorem dX10_pass_71 : decode cX10_pass 71 = .ok (.iload_n 3, 1) := by decide +kernel
theorem dX10_pass_72 : decode cX10_pass 72 = .ok (.iload_n 1, 1) := by decide +kernel
theorem dX10_pass_73 : decode cX10_pass 73 = .ok (.if_icmp .ge 13, 3) := by decide +kernel
theorem dX10_pass_76 : decode cX10_pass 76 = .ok (.aload_n 0, 1) := by decide +kernel
theorem dX10_pass_77 : decode cX10_pass 77 = .ok (.invokevirtual 314, 3) := by decide +kernel
theorem dX10_pass_80 : decode cX10_pass 80 = .ok (.iinc 3 1, 3) := by decide +kernel
theorem dX10_pass_83 : decode cX10_pass 83 = .ok (.goto (-12), 3) := by decide +kernel
theorem dX10_pass_86 : decode cX10_pass 86 = .ok (.aload_n 0, 1) := by decide +kernel
theorem dX10_pass_87 : decode cX10_pass 87 = .ok (.getfield 7, 3) := by decide +kernel
theorem dX10_pass_90 : decode cX10_pass 90 = .ok (.iconst 1, 1) := by decide +kernel
theorem dX10_pass_91 : decode cX10_pass 91 = .ok (.iaload, 1) := by decide +kernel
theorem dX10_pass_92 : decode cX10_pass 92 = .ok (.iload_n 2, 1) := by decide +kernel
theorem dX10_pass_93 : decode cX10_pass 93 = .ok (.isub, 1) := by decide +kernel
theorem dX10_pass_94 : decode cX10_pass 94 = .ok (.ireturn, 1) := by decide +kernel
set_option maxRecDepth 20000 in
theorem ggX10_mutes_X10_at : GoodIn wsX10_mutes wsX10_at := goodIn_r _ [6] (by decide +kernel) (by decide +kernel)
set_option maxRecDepth 20000 in
theorem gX10_mutes_X10_at : GoodIn wsX10_mutes (va_wsS RX10 236 yX10_at wsX10_at) := goodIn_app (goodIn_of _ (by decide +kernel)) ggX10_mutes_X10_at
set_option maxRecDepth 20000 in
theorem ggX10_mutes_X10_of : GoodIn wsX10_mutes wsX10_of := goodIn_r _ [9] (by decide +kernel) (by decide +kernel)
set_option maxRecDepth 20000 in
theorem gX10_mutes_X10_of : GoodIn wsX10_mutes (va_wsS RX10 245 yX10_of wsX10_of) := goodIn_app (goodIn_of _ (by decide +kernel)) ggX10_mutes_X10_of
set_option maxRecDepth 20000 in
theorem ggX10_mutes_X10_picksOf : GoodIn wsX10_mutes wsX10_picksOf := goodIn_ca (goodIn_r _ [13, 1, 7, 8, 5, 9, 22, 23, 24, 25, 26, 27, 28, 29, 30, 31, 32, 33, 34, 35, 36, 37, 38, 39, 40, 41, 42, 43, 44, 45, 46, 47] (by decide +kernel) (by decide +kernel)) (goodIn_sub (fun _ h => List.mem_cons_of_mem _ (List.mem_append_right _ h)) (by decide +kernel))
set_option maxRecDepth 20000 in
theorem gX10_mutes_X10_picksOf : GoodIn wsX10_mutes (wsV RX10 265 RX10 yX10_picksOf wsX10_picksOf) := goodIn_app (goodIn_of _ (by decide +kernel)) ggX10_mutes_X10_picksOf
set_option maxRecDepth 20000 in
theorem ggX10_mutes_X10_retracts : GoodIn wsX10_mutes wsX10_retracts := goodIn_ca (goodIn_r _ [17, 1, 18, 19, 20, 5, 21, 7, 8, 9, 22, 23, 24, 25, 26, 27, 28, 29, 30, 31, 32, 33, 34, 35, 36, 37, 38, 39, 40, 41, 42, 43, 44, 45, 46, 47] (by decide +kernel) (by decide +kernel)) (goodIn_sub (fun _ h => List.mem_cons_of_mem _ (List.mem_append_right _ h)) (by decide +kernel))
set_option maxRecDepth 20000 in
theorem gX10_mutes_X10_retracts : GoodIn wsX10_mutes (wsV RX10 320 RX10 yX10_retracts wsX10_retracts) := goodIn_app (goodIn_of _ (by decide +kernel)) ggX10_mutes_X10_retracts
theorem dX10_mutes_0 : decode cX10_mutes 0 = .ok (.aload_n 0, 1) := by decide +kernel
theorem dX10_mutes_1 : decode cX10_mutes 1 = .ok (.getfield 7, 3) := by decide +kernel
theorem dX10_mutes_4 : decode cX10_mutes 4 = .ok (.iload_n 1, 1) := by decide +kernel
theorem dX10_mutes_5 : decode cX10_mutes 5 = .ok (.iconst 2, 1) := by decide +kernel
theorem dX10_mutes_6 : decode cX10_mutes 6 = .ok (.invokestatic 236, 3) := by decide +kernel
theorem dX10_mutes_9 : decode cX10_mutes 9 = .ok (.iconst 1, 1) := by decide +kernel
theorem dX10_mutes_10 : decode cX10_mutes 10 = .ok (.iastore, 1) := by decide +kernel
theorem dX10_mutes_11 : decode cX10_mutes 11 = .ok (.aload_n 0, 1) := by decide +kernel
theorem dX10_mutes_12 : decode cX10_mutes 12 = .ok (.getfield 7, 3) := by decide +kernel
theorem dX10_mutes_15 : decode cX10_mutes 15 = .ok (.iload_n 1, 1) := by decide +kernel
theorem dX10_mutes_16 : decode cX10_mutes 16 = .ok (.iconst 1, 1) := by decide +kernel
theorem dX10_mutes_17 : decode cX10_mutes 17 = .ok (.invokestatic 236, 3) := by decide +kernel
theorem dX10_mutes_20 : decode cX10_mutes 20 = .ok (.iconst 0, 1) := by decide +kernel
theorem dX10_mutes_21 : decode cX10_mutes 21 = .ok (.iastore, 1) := by decide +kernel
