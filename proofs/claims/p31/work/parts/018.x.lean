theorem dX8_refuseLongOnes_28 : decode cX8_refuseLongOnes 28 = .ok (.getfield 18, 3) := by decide +kernel
theorem dX8_refuseLongOnes_31 : decode cX8_refuseLongOnes 31 = .ok (.iload_n 1, 1) := by decide +kernel
theorem dX8_refuseLongOnes_32 : decode cX8_refuseLongOnes 32 = .ok (.iaload, 1) := by decide +kernel
theorem dX8_refuseLongOnes_33 : decode cX8_refuseLongOnes 33 = .ok (.bipush 8, 2) := by decide +kernel
theorem dX8_refuseLongOnes_35 : decode cX8_refuseLongOnes 35 = .ok (.if_icmp .le 7, 3) := by decide +kernel
theorem dX8_refuseLongOnes_38 : decode cX8_refuseLongOnes 38 = .ok (.iconst 1, 1) := by decide +kernel
theorem dX8_refuseLongOnes_39 : decode cX8_refuseLongOnes 39 = .ok (.goto 4, 3) := by decide +kernel
theorem dX8_refuseLongOnes_42 : decode cX8_refuseLongOnes 42 = .ok (.iconst 0, 1) := by decide +kernel
theorem dX8_refuseLongOnes_43 : decode cX8_refuseLongOnes 43 = .ok (.istore_n 2, 1) := by decide +kernel
theorem dX8_refuseLongOnes_44 : decode cX8_refuseLongOnes 44 = .ok (.aload_n 0, 1) := by decide +kernel
theorem dX8_refuseLongOnes_45 : decode cX8_refuseLongOnes 45 = .ok (.getfield 9, 3) := by decide +kernel
theorem dX8_refuseLongOnes_48 : decode cX8_refuseLongOnes 48 = .ok (.iload_n 1, 1) := by decide +kernel
theorem dX8_refuseLongOnes_49 : decode cX8_refuseLongOnes 49 = .ok (.iaload, 1) := by decide +kernel
theorem dX8_refuseLongOnes_50 : decode cX8_refuseLongOnes 50 = .ok (.iconst 2, 1) := by decide +kernel
theorem dX8_refuseLongOnes_51 : decode cX8_refuseLongOnes 51 = .ok (.if_icmp .ne 17, 3) := by decide +kernel
theorem dX8_refuseLongOnes_54 : decode cX8_refuseLongOnes 54 = .ok (.aload_n 0, 1) := by decide +kernel
theorem dX8_refuseLongOnes_55 : decode cX8_refuseLongOnes 55 = .ok (.getfield 18, 3) := by decide +kernel
theorem dX8_refuseLongOnes_58 : decode cX8_refuseLongOnes 58 = .ok (.iload_n 1, 1) := by decide +kernel
theorem dX8_refuseLongOnes_59 : decode cX8_refuseLongOnes 59 = .ok (.iaload, 1) := by decide +kernel
theorem dX8_refuseLongOnes_60 : decode cX8_refuseLongOnes 60 = .ok (.iconst 4, 1) := by decide +kernel
theorem dX8_refuseLongOnes_61 : decode cX8_refuseLongOnes 61 = .ok (.if_icmp .le 7, 3) := by decide +kernel
theorem dX8_refuseLongOnes_64 : decode cX8_refuseLongOnes 64 = .ok (.iconst 1, 1) := by decide +kernel
theorem dX8_refuseLongOnes_65 : decode cX8_refuseLongOnes 65 = .ok (.goto 4, 3) := by decide +kernel
theorem dX8_refuseLongOnes_68 : decode cX8_refuseLongOnes 68 = .ok (.iconst 0, 1) := by decide +kernel
theorem dX8_refuseLongOnes_69 : decode cX8_refuseLongOnes 69 = .ok (.istore_n 3, 1) := by decide +kernel
theorem dX8_refuseLongOnes_70 : decode cX8_refuseLongOnes 70 = .ok (.iload_n 2, 1) := by decide +kernel
theorem dX8_refuseLongOnes_71 : decode cX8_refuseLongOnes 71 = .ok (.ifCond .ne 7, 3) := by decide +kernel
theorem dX8_refuseLongOnes_74 : decode cX8_refuseLongOnes 74 = .ok (.iload_n 3, 1) := by decide +kernel
theorem dX8_refuseLongOnes_75 : decode cX8_refuseLongOnes 75 = .ok (.ifCond .eq 10, 3) := by decide +kernel
theorem dX8_refuseLongOnes_78 : decode cX8_refuseLongOnes 78 = .ok (.aload_n 0, 1) := by decide +kernel
theorem dX8_refuseLongOnes_79 : decode cX8_refuseLongOnes 79 = .ok (.getfield 9, 3) := by decide +kernel
theorem dX8_refuseLongOnes_82 : decode cX8_refuseLongOnes 82 = .ok (.iload_n 1, 1) := by decide +kernel
theorem dX8_refuseLongOnes_83 : decode cX8_refuseLongOnes 83 = .ok (.iconst 4, 1) := by decide +kernel
theorem dX8_refuseLongOnes_84 : decode cX8_refuseLongOnes 84 = .ok (.iastore, 1) := by decide +kernel
theorem dX8_refuseLongOnes_85 : decode cX8_refuseLongOnes 85 = .ok (.iinc 1 1, 3) := by decide +kernel
theorem dX8_refuseLongOnes_88 : decode cX8_refuseLongOnes 88 = .ok (.goto (-86), 3) := by decide +kernel
theorem dX8_refuseLongOnes_91 : decode cX8_refuseLongOnes 91 = .ok (.return_, 1) := by decide +kernel
set_option maxRecDepth 20000 in
theorem ggX8_spells_J0_length_8abf5 : GoodIn wsX8_spells wsJ0_length_8abf5 := goodIn_r _ [8, 9, 10, 11, 12, 7, 13, 14, 15, 58, 59, 60, 61] (by decide +kernel) (by decide +kernel)
set_option maxRecDepth 20000 in
theorem gX8_spells_J0_length_8abf5 : GoodIn wsX8_spells (wsV RX8 43 RJ0 yJ0_length_8abf5 wsJ0_length_8abf5) := goodIn_app (goodIn_of _ (by decide +kernel)) ggX8_spells_J0_length_8abf5
set_option maxRecDepth 20000 in
theorem ggX8_spells_J0_charAt_5068e : GoodIn wsX8_spells wsJ0_charAt_5068e := goodIn_r _ [19, 9, 20, 21, 22, 7, 23, 14, 15, 24, 25, 26, 27, 28, 29, 30, 31, 32, 33, 34, 35, 36, 37, 38, 39, 40, 41, 42, 43, 44, 45, 46, 47, 48, 49, 50, 51, 52, 58, 59, 60, 61] (by decide +kernel) (by decide +kernel)
set_option maxRecDepth 20000 in
theorem gX8_spells_J0_charAt_5068e : GoodIn wsX8_spells (wsV RX8 49 RJ0 yJ0_charAt_5068e wsJ0_charAt_5068e) := goodIn_app (goodIn_of _ (by decide +kernel)) ggX8_spells_J0_charAt_5068e
theorem dX8_spells_0 : decode cX8_spells 0 = .ok (.iload_n 1, 1) := by decide +kernel
theorem dX8_spells_1 : decode cX8_spells 1 = .ok (.ifCond .lt 24, 3) := by decide +kernel
theorem dX8_spells_4 : decode cX8_spells 4 = .ok (.iload_n 1, 1) := by decide +kernel
theorem dX8_spells_5 : decode cX8_spells 5 = .ok (.aload_n 0, 1) := by decide +kernel
theorem dX8_spells_6 : decode cX8_spells 6 = .ok (.getfield 24, 3) := by decide +kernel
theorem dX8_spells_9 : decode cX8_spells 9 = .ok (.if_icmp .ge 16, 3) := by decide +kernel
theorem dX8_spells_12 : decode cX8_spells 12 = .ok (.aload_n 0, 1) := by decide +kernel
theorem dX8_spells_13 : decode cX8_spells 13 = .ok (.getfield 18, 3) := by decide +kernel
theorem dX8_spells_16 : decode cX8_spells 16 = .ok (.iload_n 1, 1) := by decide +kernel
theorem dX8_spells_17 : decode cX8_spells 17 = .ok (.iaload, 1) := by decide +kernel
theorem dX8_spells_18 : decode cX8_spells 18 = .ok (.aload_n 3, 1) := by decide +kernel
theorem dX8_spells_19 : decode cX8_spells 19 = .ok (.invokevirtual 43, 3) := by decide +kernel
theorem dX8_spells_22 : decode cX8_spells 22 = .ok (.if_icmp .eq 5, 3) := by decide +kernel
theorem dX8_spells_25 : decode cX8_spells 25 = .ok (.iconst 0, 1) := by decide +kernel
theorem dX8_spells_26 : decode cX8_spells 26 = .ok (.ireturn, 1) := by decide +kernel
theorem dX8_spells_27 : decode cX8_spells 27 = .ok (.iconst 0, 1) := by decide +kernel
theorem dX8_spells_28 : decode cX8_spells 28 = .ok (.istore 4, 2) := by decide +kernel
theorem dX8_spells_30 : decode cX8_spells 30 = .ok (.iload 4, 2) := by decide +kernel
theorem dX8_spells_32 : decode cX8_spells 32 = .ok (.aload_n 3, 1) := by decide +kernel
theorem dX8_spells_33 : decode cX8_spells 33 = .ok (.invokevirtual 43, 3) := by decide +kernel
theorem dX8_spells_36 : decode cX8_spells 36 = .ok (.if_icmp .ge 47, 3) := by decide +kernel
theorem dX8_spells_39 : decode cX8_spells 39 = .ok (.aload_n 0, 1) := by decide +kernel
theorem dX8_spells_40 : decode cX8_spells 40 = .ok (.getfield 15, 3) := by decide +kernel
theorem dX8_spells_43 : decode cX8_spells 43 = .ok (.iload_n 1, 1) := by decide +kernel
theorem dX8_spells_44 : decode cX8_spells 44 = .ok (.iaload, 1) := by decide +kernel
theorem dX8_spells_45 : decode cX8_spells 45 = .ok (.iload 4, 2) := by decide +kernel
theorem dX8_spells_47 : decode cX8_spells 47 = .ok (.iadd, 1) := by decide +kernel
theorem dX8_spells_48 : decode cX8_spells 48 = .ok (.istore 5, 2) := by decide +kernel
theorem dX8_spells_50 : decode cX8_spells 50 = .ok (.iload 5, 2) := by decide +kernel
theorem dX8_spells_52 : decode cX8_spells 52 = .ok (.ifCond .lt 23, 3) := by decide +kernel
theorem dX8_spells_55 : decode cX8_spells 55 = .ok (.iload 5, 2) := by decide +kernel
theorem dX8_spells_57 : decode cX8_spells 57 = .ok (.aload_n 2, 1) := by decide +kernel
theorem dX8_spells_58 : decode cX8_spells 58 = .ok (.arraylength, 1) := by decide +kernel
theorem dX8_spells_59 : decode cX8_spells 59 = .ok (.if_icmp .ge 16, 3) := by decide +kernel
theorem dX8_spells_62 : decode cX8_spells 62 = .ok (.aload_n 2, 1) := by decide +kernel
theorem dX8_spells_63 : decode cX8_spells 63 = .ok (.iload 5, 2) := by decide +kernel
theorem dX8_spells_65 : decode cX8_spells 65 = .ok (.iaload, 1) := by decide +kernel
theorem dX8_spells_66 : decode cX8_spells 66 = .ok (.aload_n 3, 1) := by decide +kernel
theorem dX8_spells_67 : decode cX8_spells 67 = .ok (.iload 4, 2) := by decide +kernel
theorem dX8_spells_69 : decode cX8_spells 69 = .ok (.invokevirtual 49, 3) := by decide +kernel
theorem dX8_spells_72 : decode cX8_spells 72 = .ok (.if_icmp .eq 5, 3) := by decide +kernel
theorem dX8_spells_75 : decode cX8_spells 75 = .ok (.iconst 0, 1) := by decide +kernel
theorem dX8_spells_76 : decode cX8_spells 76 = .ok (.ireturn, 1) := by decide +kernel
theorem dX8_spells_77 : decode cX8_spells 77 = .ok (.iinc 4 1, 3) := by decide +kernel
theorem dX8_spells_80 : decode cX8_spells 80 = .ok (.goto (-50), 3) := by decide +kernel
theorem dX8_spells_83 : decode cX8_spells 83 = .ok (.iconst 1, 1) := by decide +kernel
theorem dX8_spells_84 : decode cX8_spells 84 = .ok (.ireturn, 1) := by decide +kernel
set_option maxRecDepth 20000 in
theorem ggX9_init_X1_init : GoodIn wsX9_init wsX1_init := goodIn_r _ [39, 40, 2, 3, 41, 42, 43, 44, 45, 4, 46, 47, 48, 49, 50, 51, 52, 53, 54, 171, 172, 173, 174, 175, 176, 226, 227, 228, 229, 230] (by decide +kernel) (by decide +kernel)
set_option maxRecDepth 20000 in
theorem gX9_init_X1_init_n22 : GoodIn wsX9_init (wsX1_init) := ggX9_init_X1_init
set_option maxRecDepth 20000 in
theorem ggX9_init_X5_init : GoodIn wsX9_init wsX5_init := goodIn_r _ [57, 58, 2, 3, 59, 60, 61, 62, 63, 64, 65, 66, 4, 67, 68, 69, 70, 71, 72, 73, 74, 75, 76, 77, 78, 79, 80, 81, 14, 82, 83, 84, 85, 86, 87, 88, 89, 90, 91, 92, 93, 94, 95, 96, 97, 98, 99, 100, 101, 231, 232, 233, 234, 235, 177, 178, 179, 180, 181, 182, 183, 184, 185, 186, 187, 188, 189, 190, 191, 236, 237, 238] (by decide +kernel) (by decide +kernel)
set_option maxRecDepth 20000 in
theorem gX9_init_X5_init : GoodIn wsX9_init (wsX5_init) := ggX9_init_X5_init
set_option maxRecDepth 20000 in
theorem ggX9_init_X7_init : GoodIn wsX9_init wsX7_init := goodIn_r _ [103, 104, 2, 3, 4, 105, 106, 107, 108, 109, 110, 111, 112, 113, 114, 115, 116, 117, 118, 192, 193, 194, 195, 196, 197, 198, 199, 200, 201, 202, 203, 204, 205, 206, 207, 208] (by decide +kernel) (by decide +kernel)
set_option maxRecDepth 20000 in
theorem gX9_init_X7_init_n39 : GoodIn wsX9_init (wsX7_init) := ggX9_init_X7_init
set_option maxRecDepth 20000 in
theorem ggX9_init_X4_init : GoodIn wsX9_init wsX4_init := goodIn_r _ [121, 122, 2, 3, 123, 124, 125, 126, 127, 128, 129, 18, 19, 102, 103, 104, 4, 105, 106, 107, 108, 109, 110, 111, 112, 113, 114, 115, 116, 117, 118, 209, 210, 211, 212, 213, 192, 193, 194, 195, 196, 197, 198, 199, 200, 201, 202, 203, 204, 205, 206, 207, 208] (by decide +kernel) (by decide +kernel)
set_option maxRecDepth 20000 in
theorem gX9_init_X4_init : GoodIn wsX9_init (wsX4_init) := ggX9_init_X4_init
set_option maxRecDepth 20000 in
theorem ggX9_init_X0_init : GoodIn wsX9_init wsX0_init := goodIn_r _ [131, 132, 2, 3, 4, 133, 214, 215] (by decide +kernel) (by decide +kernel)
set_option maxRecDepth 20000 in
theorem gX9_init_X0_init_n56 : GoodIn wsX9_init (wsX0_init) := ggX9_init_X0_init
set_option maxRecDepth 20000 in
theorem ggX9_init_X3_init : GoodIn wsX9_init wsX3_init := goodIn_r _ [135, 136, 2, 3, 4, 137, 138, 216, 217, 218, 219, 220, 221] (by decide +kernel) (by decide +kernel)
set_option maxRecDepth 20000 in
theorem gX9_init_X3_init_n63 : GoodIn wsX9_init (wsX3_init) := ggX9_init_X3_init
set_option maxRecDepth 20000 in
theorem ggX9_init_J4_init_da8c8 : GoodIn wsX9_init wsJ4_init_da8c8 := goodIn_r _ [141, 142, 143, 144, 145, 146, 2, 3, 147, 148, 149, 150, 151, 152, 153, 154, 155, 156, 157, 158, 222, 223, 224, 225] (by decide +kernel) (by decide +kernel)
set_option maxRecDepth 20000 in
theorem gX9_init_J4_init_da8c8 : GoodIn wsX9_init (wsJ4_init_da8c8) := ggX9_init_J4_init_da8c8
theorem dX9_init_0 : decode cX9_init 0 = .ok (.aload_n 0, 1) := by decide +kernel
theorem dX9_init_1 : decode cX9_init 1 = .ok (.invokespecial 1, 3) := by decide +kernel
theorem dX9_init_4 : decode cX9_init 4 = .ok (.aload_n 0, 1) := by decide +kernel
theorem dX9_init_5 : decode cX9_init 5 = .ok (.sipush 500, 3) := by decide +kernel
theorem dX9_init_8 : decode cX9_init 8 = .ok (.newarray .int, 2) := by decide +kernel
theorem dX9_init_10 : decode cX9_init 10 = .ok (.putfield 9, 3) := by decide +kernel
theorem dX9_init_13 : decode cX9_init 13 = .ok (.aload_n 0, 1) := by decide +kernel
theorem dX9_init_14 : decode cX9_init 14 = .ok (.iconst 0, 1) := by decide +kernel
theorem dX9_init_15 : decode cX9_init 15 = .ok (.putfield 13, 3) := by decide +kernel
theorem dX9_init_18 : decode cX9_init 18 = .ok (.aload_n 0, 1) := by decide +kernel
theorem dX9_init_19 : decode cX9_init 19 = .ok (.iconst (-1), 1) := by decide +kernel
theorem dX9_init_20 : decode cX9_init 20 = .ok (.putfield 17, 3) := by decide +kernel
theorem dX9_init_23 : decode cX9_init 23 = .ok (.aload_n 0, 1) := by decide +kernel
theorem dX9_init_24 : decode cX9_init 24 = .ok (.new 20, 3) := by decide +kernel
theorem dX9_init_27 : decode cX9_init 27 = .ok (.dup, 1) := by decide +kernel
theorem dX9_init_28 : decode cX9_init 28 = .ok (.invokespecial 22, 3) := by decide +kernel
theorem dX9_init_31 : decode cX9_init 31 = .ok (.putfield 23, 3) := by decide +kernel
theorem dX9_init_34 : decode cX9_init 34 = .ok (.aload_n 0, 1) := by decide +kernel
theorem dX9_init_35 : decode cX9_init 35 = .ok (.new 27, 3) := by decide +kernel
theorem dX9_init_38 : decode cX9_init 38 = .ok (.dup, 1) := by decide +kernel
theorem dX9_init_39 : decode cX9_init 39 = .ok (.invokespecial 29, 3) := by decide +kernel
theorem dX9_init_42 : decode cX9_init 42 = .ok (.putfield 30, 3) := by decide +kernel
theorem dX9_init_45 : decode cX9_init 45 = .ok (.aload_n 0, 1) := by decide +kernel
theorem dX9_init_46 : decode cX9_init 46 = .ok (.new 27, 3) := by decide +kernel
theorem dX9_init_49 : decode cX9_init 49 = .ok (.dup, 1) := by decide +kernel
theorem dX9_init_50 : decode cX9_init 50 = .ok (.invokespecial 29, 3) := by decide +kernel
theorem dX9_init_53 : decode cX9_init 53 = .ok (.putfield 34, 3) := by decide +kernel
theorem dX9_init_56 : decode cX9_init 56 = .ok (.aload_n 0, 1) := by decide +kernel
theorem dX9_init_57 : decode cX9_init 57 = .ok (.new 37, 3) := by decide +kernel
theorem dX9_init_60 : decode cX9_init 60 = .ok (.dup, 1) := by decide +kernel
theorem dX9_init_61 : decode cX9_init 61 = .ok (.invokespecial 39, 3) := by decide +kernel
theorem dX9_init_64 : decode cX9_init 64 = .ok (.putfield 40, 3) := by decide +kernel
theorem dX9_init_67 : decode cX9_init 67 = .ok (.aload_n 0, 1) := by decide +kernel
theorem dX9_init_68 : decode cX9_init 68 = .ok (.new 37, 3) := by decide +kernel
theorem dX9_init_71 : decode cX9_init 71 = .ok (.dup, 1) := by decide +kernel
theorem dX9_init_72 : decode cX9_init 72 = .ok (.invokespecial 39, 3) := by decide +kernel
theorem dX9_init_75 : decode cX9_init 75 = .ok (.putfield 44, 3) := by decide +kernel
theorem dX9_init_78 : decode cX9_init 78 = .ok (.aload_n 0, 1) := by decide +kernel
theorem dX9_init_79 : decode cX9_init 79 = .ok (.new 47, 3) := by decide +kernel
theorem dX9_init_82 : decode cX9_init 82 = .ok (.dup, 1) := by decide +kernel
theorem dX9_init_83 : decode cX9_init 83 = .ok (.invokespecial 49, 3) := by decide +kernel
theorem dX9_init_86 : decode cX9_init 86 = .ok (.putfield 50, 3) := by decide +kernel
theorem dX9_init_89 : decode cX9_init 89 = .ok (.aload_n 0, 1) := by decide +kernel
theorem dX9_init_90 : decode cX9_init 90 = .ok (.new 54, 3) := by decide +kernel
theorem dX9_init_93 : decode cX9_init 93 = .ok (.dup, 1) := by decide +kernel
theorem dX9_init_94 : decode cX9_init 94 = .ok (.invokespecial 56, 3) := by decide +kernel
theorem dX9_init_97 : decode cX9_init 97 = .ok (.putfield 57, 3) := by decide +kernel
theorem dX9_init_100 : decode cX9_init 100 = .ok (.aload_n 0, 1) := by decide +kernel
theorem dX9_init_101 : decode cX9_init 101 = .ok (.new 61, 3) := by decide +kernel
theorem dX9_init_104 : decode cX9_init 104 = .ok (.dup, 1) := by decide +kernel
theorem dX9_init_105 : decode cX9_init 105 = .ok (.invokespecial 63, 3) := by decide +kernel
theorem dX9_init_108 : decode cX9_init 108 = .ok (.putfield 64, 3) := by decide +kernel
theorem dX9_init_111 : decode cX9_init 111 = .ok (.aload_n 0, 1) := by decide +kernel
theorem dX9_init_112 : decode cX9_init 112 = .ok (.new 68, 3) := by decide +kernel
theorem dX9_init_115 : decode cX9_init 115 = .ok (.dup, 1) := by decide +kernel
theorem dX9_init_116 : decode cX9_init 116 = .ok (.invokespecial 70, 3) := by decide +kernel
theorem dX9_init_119 : decode cX9_init 119 = .ok (.putfield 71, 3) := by decide +kernel
theorem dX9_init_122 : decode cX9_init 122 = .ok (.return_, 1) := by decide +kernel
set_option maxRecDepth 20000 in
theorem ggX9_append_X9_appendWord : GoodIn wsX9_append wsX9_appendWord := goodIn_r _ [6, 1, 7, 8, 9, 10, 11, 12, 13, 14, 15, 16, 17, 18, 19] (by decide +kernel) (by decide +kernel)
set_option maxRecDepth 20000 in
theorem gX9_append_X9_appendWord : GoodIn wsX9_append (wsV RX9 75 RX9 yX9_appendWord wsX9_appendWord) := goodIn_app (goodIn_of _ (by decide +kernel)) ggX9_append_X9_appendWord
theorem dX9_append_0 : decode cX9_append 0 = .ok (.aload_n 0, 1) := by decide +kernel
theorem dX9_append_1 : decode cX9_append 1 = .ok (.getfield 13, 3) := by decide +kernel
theorem dX9_append_4 : decode cX9_append 4 = .ok (.bipush 20, 2) := by decide +kernel
theorem dX9_append_6 : decode cX9_append 6 = .ok (.iadd, 1) := by decide +kernel
theorem dX9_append_7 : decode cX9_append 7 = .ok (.sipush 500, 3) := by decide +kernel
theorem dX9_append_10 : decode cX9_append 10 = .ok (.if_icmp .le 5, 3) := by decide +kernel
theorem dX9_append_13 : decode cX9_append 13 = .ok (.iconst (-1), 1) := by decide +kernel
theorem dX9_append_14 : decode cX9_append 14 = .ok (.ireturn, 1) := by decide +kernel
theorem dX9_append_15 : decode cX9_append 15 = .ok (.aload_n 0, 1) := by decide +kernel
theorem dX9_append_16 : decode cX9_append 16 = .ok (.iload_n 1, 1) := by decide +kernel
theorem dX9_append_17 : decode cX9_append 17 = .ok (.invokevirtual 75, 3) := by decide +kernel
theorem dX9_append_20 : decode cX9_append 20 = .ok (.aload_n 0, 1) := by decide +kernel
theorem dX9_append_21 : decode cX9_append 21 = .ok (.iload_n 2, 1) := by decide +kernel
theorem dX9_append_22 : decode cX9_append 22 = .ok (.invokevirtual 75, 3) := by decide +kernel
theorem dX9_append_25 : decode cX9_append 25 = .ok (.aload_n 0, 1) := by decide +kernel
theorem dX9_append_26 : decode cX9_append 26 = .ok (.iload_n 3, 1) := by decide +kernel
theorem dX9_append_27 : decode cX9_append 27 = .ok (.invokevirtual 75, 3) := by decide +kernel
theorem dX9_append_30 : decode cX9_append 30 = .ok (.aload_n 0, 1) := by decide +kernel
theorem dX9_append_31 : decode cX9_append 31 = .ok (.iload 4, 2) := by decide +kernel
theorem dX9_append_33 : decode cX9_append 33 = .ok (.invokevirtual 75, 3) := by decide +kernel
theorem dX9_append_36 : decode cX9_append 36 = .ok (.aload_n 0, 1) := by decide +kernel
theorem dX9_append_37 : decode cX9_append 37 = .ok (.iload 5, 2) := by decide +kernel
theorem dX9_append_39 : decode cX9_append 39 = .ok (.invokevirtual 75, 3) := by decide +kernel
theorem dX9_append_42 : decode cX9_append 42 = .ok (.aload_n 0, 1) := by decide +kernel
theorem dX9_append_43 : decode cX9_append 43 = .ok (.getfield 13, 3) := by decide +kernel
theorem dX9_append_46 : decode cX9_append 46 = .ok (.ireturn, 1) := by decide +kernel
set_option maxRecDepth 20000 in
theorem ggX9_parse_X1_read : GoodIn wsX9_parse wsX1_read := goodIn_r _ [13, 14, 15, 16, 17, 18, 19, 20, 21, 22, 23, 24, 25, 26, 27, 28, 29, 30, 31, 32, 33, 34, 35, 36, 37, 38, 39, 40, 41, 42, 43, 44, 45, 46, 47, 48, 49, 50, 51, 52, 53, 54, 55, 56, 57, 58, 59, 60, 61, 62, 63, 64, 65, 66, 67, 68, 69, 70, 71, 72, 73, 74, 75, 76, 77, 78, 12, 79, 80, 81, 82, 83, 84, 85, 86, 87, 88, 89, 90, 91, 92, 93, 94, 95, 96, 97, 98, 99, 100, 101, 102, 103, 104, 105, 106, 107, 108, 109, 110, 111, 112, 113, 114, 115, 116, 117, 118, 119, 120, 121, 122, 123, 124, 125, 126, 127, 128, 129, 130, 131, 132, 133, 134, 135, 136, 137, 138, 139, 140, 141, 142, 143, 144, 145, 146, 147, 148, 149, 150, 151, 152, 153, 154, 155, 156, 157, 158, 159, 160, 161, 162, 163, 164, 165, 166, 167, 168, 169, 170, 171, 172, 173, 174, 175, 176, 177, 178, 179, 180, 181, 182, 183, 184, 185, 186, 187, 188, 189, 190, 191, 192, 193, 194, 195, 196, 197, 198, 199, 200, 201, 202, 203, 204, 205, 206, 207, 208, 209, 210, 211, 212, 213, 214, 215, 216, 217, 218, 219, 220, 221, 222, 223, 224, 225, 226, 227, 228, 271, 272, 273, 274, 275, 276, 277, 278, 279, 280, 281, 282, 283, 284, 285, 286, 287, 288, 289, 290, 291, 292, 293, 294, 295, 296, 297, 298, 299, 300, 301, 302, 303, 304, 305, 306, 307, 308] (by decide +kernel) (by decide +kernel)
set_option maxRecDepth 20000 in
theorem gX9_parse_X1_read : GoodIn wsX9_parse (wsV RX9 86 RX1 yX1_read wsX1_read) := goodIn_app (goodIn_of _ (by decide +kernel)) ggX9_parse_X1_read
set_option maxRecDepth 20000 in
theorem ggX9_parse_X9_adoptSpare : GoodIn wsX9_parse wsX9_adoptSpare := goodIn_r _ [232, 6, 233, 234, 235, 236, 237, 238, 239, 240, 241, 242, 243, 244, 245, 246, 247, 248, 249, 250, 251, 48, 49, 50, 252, 253, 254, 255, 256, 257, 258, 259, 260, 261, 262, 263, 264, 265, 266, 267, 268, 269, 270, 309, 310, 311, 312, 313, 314, 315, 316, 317, 318, 319, 320, 321, 322, 323, 324, 325, 326, 327, 328, 329, 330] (by decide +kernel) (by decide +kernel)
set_option maxRecDepth 20000 in
theorem gX9_parse_X9_adoptSpare : GoodIn wsX9_parse (wsV RX9 91 RX9 yX9_adoptSpare wsX9_adoptSpare) := goodIn_app (goodIn_of _ (by decide +kernel)) ggX9_parse_X9_adoptSpare
theorem dX9_parse_0 : decode cX9_parse 0 = .ok (.iload_n 1, 1) := by decide +kernel
theorem dX9_parse_1 : decode cX9_parse 1 = .ok (.ifCond .lt 11, 3) := by decide +kernel
theorem dX9_parse_4 : decode cX9_parse 4 = .ok (.iload_n 1, 1) := by decide +kernel
theorem dX9_parse_5 : decode cX9_parse 5 = .ok (.aload_n 0, 1) := by decide +kernel
theorem dX9_parse_6 : decode cX9_parse 6 = .ok (.getfield 13, 3) := by decide +kernel
theorem dX9_parse_9 : decode cX9_parse 9 = .ok (.if_icmp .le 13, 3) := by decide +kernel
theorem dX9_parse_12 : decode cX9_parse 12 = .ok (.new 79, 3) := by decide +kernel
theorem dX9_parse_15 : decode cX9_parse 15 = .ok (.dup, 1) := by decide +kernel
theorem dX9_parse_16 : decode cX9_parse 16 = .ok (.ldc 81, 2) := by decide +kernel
theorem dX9_parse_18 : decode cX9_parse 18 = .ok (.invokespecial 83, 3) := by decide +kernel
theorem dX9_parse_21 : decode cX9_parse 21 = .ok (.athrow, 1) := by decide +kernel
theorem dX9_parse_22 : decode cX9_parse 22 = .ok (.aload_n 0, 1) := by decide +kernel
theorem dX9_parse_23 : decode cX9_parse 23 = .ok (.iconst 0, 1) := by decide +kernel
theorem dX9_parse_24 : decode cX9_parse 24 = .ok (.putfield 13, 3) := by decide +kernel
theorem dX9_parse_27 : decode cX9_parse 27 = .ok (.aload_n 0, 1) := by decide +kernel
theorem dX9_parse_28 : decode cX9_parse 28 = .ok (.getfield 23, 3) := by decide +kernel
theorem dX9_parse_31 : decode cX9_parse 31 = .ok (.aload_n 0, 1) := by decide +kernel
theorem dX9_parse_32 : decode cX9_parse 32 = .ok (.getfield 9, 3) := by decide +kernel
theorem dX9_parse_35 : decode cX9_parse 35 = .ok (.iload_n 1, 1) := by decide +kernel
theorem dX9_parse_36 : decode cX9_parse 36 = .ok (.aload_n 0, 1) := by decide +kernel
theorem dX9_parse_37 : decode cX9_parse 37 = .ok (.getfield 34, 3) := by decide +kernel
theorem dX9_parse_40 : decode cX9_parse 40 = .ok (.invokevirtual 86, 3) := by decide +kernel
theorem dX9_parse_43 : decode cX9_parse 43 = .ok (.istore_n 2, 1) := by decide +kernel
theorem dX9_parse_44 : decode cX9_parse 44 = .ok (.aload_n 0, 1) := by decide +kernel
theorem dX9_parse_45 : decode cX9_parse 45 = .ok (.aload_n 0, 1) := by decide +kernel
theorem dX9_parse_46 : decode cX9_parse 46 = .ok (.getfield 23, 3) := by decide +kernel
theorem dX9_parse_49 : decode cX9_parse 49 = .ok (.getfield 90, 3) := by decide +kernel
theorem dX9_parse_52 : decode cX9_parse 52 = .ok (.putfield 17, 3) := by decide +kernel
theorem dX9_parse_55 : decode cX9_parse 55 = .ok (.iload_n 2, 1) := by decide +kernel
theorem dX9_parse_56 : decode cX9_parse 56 = .ok (.ifCond .ne 7, 3) := by decide +kernel
theorem dX9_parse_59 : decode cX9_parse 59 = .ok (.aload_n 0, 1) := by decide +kernel
theorem dX9_parse_60 : decode cX9_parse 60 = .ok (.invokevirtual 91, 3) := by decide +kernel
theorem dX9_parse_63 : decode cX9_parse 63 = .ok (.iload_n 2, 1) := by decide +kernel
theorem dX9_parse_64 : decode cX9_parse 64 = .ok (.ireturn, 1) := by decide +kernel
set_option maxRecDepth 20000 in
theorem ggX9_size_X2_nodeCount : GoodIn wsX9_size wsX2_nodeCount := goodIn_r _ [15, 16, 17, 72, 73, 74, 75, 76] (by decide +kernel) (by decide +kernel)
set_option maxRecDepth 20000 in
theorem gX9_size_X2_nodeCount : GoodIn wsX9_size (wsV RX9 101 RX2 yX2_nodeCount wsX2_nodeCount) := goodIn_app (goodIn_of _ (by decide +kernel)) ggX9_size_X2_nodeCount
set_option maxRecDepth 20000 in
theorem ggX9_size_X7_standingEvents : GoodIn wsX9_size wsX7_standingEvents := goodIn_r _ [22, 23, 24, 55, 56, 57, 58, 59, 60, 61, 62, 63, 64, 65, 66, 67, 68, 69, 70, 71] (by decide +kernel) (by decide +kernel)
set_option maxRecDepth 20000 in
theorem gX9_size_X7_standingEvents : GoodIn wsX9_size (wsV RX9 122 RX7 yX7_standingEvents wsX7_standingEvents) := goodIn_app (goodIn_of _ (by decide +kernel)) ggX9_size_X7_standingEvents
theorem dX9_size_0 : decode cX9_size 0 = .ok (.iload_n 1, 1) := by decide +kernel
theorem dX9_size_1 : decode cX9_size 1 = .ok (.tableswitch 93 0 5 #[39, 47, 58, 69, 77, 85], 39) := by decide +kernel
theorem dX9_size_40 : decode cX9_size 40 = .ok (.aload_n 0, 1) := by decide +kernel
theorem dX9_size_41 : decode cX9_size 41 = .ok (.getfield 30, 3) := by decide +kernel
theorem dX9_size_44 : decode cX9_size 44 = .ok (.getfield 94, 3) := by decide +kernel
theorem dX9_size_47 : decode cX9_size 47 = .ok (.ireturn, 1) := by decide +kernel
theorem dX9_size_48 : decode cX9_size 48 = .ok (.aload_n 0, 1) := by decide +kernel
theorem dX9_size_49 : decode cX9_size 49 = .ok (.getfield 30, 3) := by decide +kernel
theorem dX9_size_52 : decode cX9_size 52 = .ok (.getfield 97, 3) := by decide +kernel
theorem dX9_size_55 : decode cX9_size 55 = .ok (.invokevirtual 101, 3) := by decide +kernel
theorem dX9_size_58 : decode cX9_size 58 = .ok (.ireturn, 1) := by decide +kernel
theorem dX9_size_59 : decode cX9_size 59 = .ok (.aload_n 0, 1) := by decide +kernel
theorem dX9_size_60 : decode cX9_size 60 = .ok (.getfield 30, 3) := by decide +kernel
theorem dX9_size_63 : decode cX9_size 63 = .ok (.getfield 107, 3) := by decide +kernel
theorem dX9_size_66 : decode cX9_size 66 = .ok (.getfield 111, 3) := by decide +kernel
theorem dX9_size_69 : decode cX9_size 69 = .ok (.ireturn, 1) := by decide +kernel
theorem dX9_size_70 : decode cX9_size 70 = .ok (.aload_n 0, 1) := by decide +kernel
theorem dX9_size_71 : decode cX9_size 71 = .ok (.getfield 40, 3) := by decide +kernel
theorem dX9_size_74 : decode cX9_size 74 = .ok (.getfield 116, 3) := by decide +kernel
theorem dX9_size_77 : decode cX9_size 77 = .ok (.ireturn, 1) := by decide +kernel
theorem dX9_size_78 : decode cX9_size 78 = .ok (.aload_n 0, 1) := by decide +kernel
theorem dX9_size_79 : decode cX9_size 79 = .ok (.getfield 40, 3) := by decide +kernel
theorem dX9_size_82 : decode cX9_size 82 = .ok (.getfield 119, 3) := by decide +kernel
theorem dX9_size_85 : decode cX9_size 85 = .ok (.ireturn, 1) := by decide +kernel
theorem dX9_size_86 : decode cX9_size 86 = .ok (.aload_n 0, 1) := by decide +kernel
theorem dX9_size_87 : decode cX9_size 87 = .ok (.getfield 40, 3) := by decide +kernel
theorem dX9_size_90 : decode cX9_size 90 = .ok (.invokevirtual 122, 3) := by decide +kernel
theorem dX9_size_93 : decode cX9_size 93 = .ok (.ireturn, 1) := by decide +kernel
theorem dX9_size_94 : decode cX9_size 94 = .ok (.new 79, 3) := by decide +kernel
theorem dX9_size_97 : decode cX9_size 97 = .ok (.dup, 1) := by decide +kernel
theorem dX9_size_98 : decode cX9_size 98 = .ok (.ldc 125, 2) := by decide +kernel
theorem dX9_size_100 : decode cX9_size 100 = .ok (.invokespecial 83, 3) := by decide +kernel
theorem dX9_size_103 : decode cX9_size 103 = .ok (.athrow, 1) := by decide +kernel
theorem dX9_tick_0 : decode cX9_tick 0 = .ok (.aload_n 0, 1) := by decide +kernel
theorem dX9_tick_1 : decode cX9_tick 1 = .ok (.getfield 40, 3) := by decide +kernel
theorem dX9_tick_4 : decode cX9_tick 4 = .ok (.getfield 127, 3) := by decide +kernel
theorem dX9_tick_7 : decode cX9_tick 7 = .ok (.ireturn, 1) := by decide +kernel
set_option maxRecDepth 20000 in
theorem ggX9_between_X9_needStation : GoodIn wsX9_between wsX9_needStation := goodIn_ca (goodIn_r _ [6, 7, 8, 1, 9, 16, 17, 18, 19, 20, 21, 22, 23, 24, 25, 26, 27, 28, 29, 30, 31, 32, 33, 34, 35, 36, 37, 38, 39, 40, 41, 42] (by decide +kernel) (by decide +kernel)) (goodIn_sub (fun _ h => List.mem_cons_of_mem _ (List.mem_append_right _ h)) (by decide +kernel))
set_option maxRecDepth 20000 in
theorem gX9_between_X9_needStation : GoodIn wsX9_between (wsV RX9 130 RX9 yX9_needStation wsX9_needStation) := goodIn_app (goodIn_of _ (by decide +kernel)) ggX9_between_X9_needStation
set_option maxRecDepth 20000 in
theorem ggX9_between_X5_travelOfStations : GoodIn wsX9_between wsX5_travelOfStations := goodIn_r _ [14, 15, 28, 29, 30, 31, 32, 33, 34, 35, 36, 37, 38, 39, 40, 41, 42] (by decide +kernel) (by decide +kernel)
set_option maxRecDepth 20000 in
theorem gX9_between_X5_travelOfStations : GoodIn wsX9_between (wsV RX9 133 RX5 yX5_travelOfStations wsX5_travelOfStations) := goodIn_app (goodIn_of _ (by decide +kernel)) ggX9_between_X5_travelOfStations
theorem dX9_between_0 : decode cX9_between 0 = .ok (.aload_n 0, 1) := by decide +kernel
theorem dX9_between_1 : decode cX9_between 1 = .ok (.iload_n 1, 1) := by decide +kernel
theorem dX9_between_2 : decode cX9_between 2 = .ok (.invokevirtual 130, 3) := by decide +kernel
theorem dX9_between_5 : decode cX9_between 5 = .ok (.aload_n 0, 1) := by decide +kernel
theorem dX9_between_6 : decode cX9_between 6 = .ok (.iload_n 2, 1) := by decide +kernel
theorem dX9_between_7 : decode cX9_between 7 = .ok (.invokevirtual 130, 3) := by decide +kernel
theorem dX9_between_10 : decode cX9_between 10 = .ok (.aload_n 0, 1) := by decide +kernel
theorem dX9_between_11 : decode cX9_between 11 = .ok (.getfield 30, 3) := by decide +kernel
theorem dX9_between_14 : decode cX9_between 14 = .ok (.iload_n 1, 1) := by decide +kernel
theorem dX9_between_15 : decode cX9_between 15 = .ok (.iload_n 2, 1) := by decide +kernel
theorem dX9_between_16 : decode cX9_between 16 = .ok (.invokevirtual 133, 3) := by decide +kernel
theorem dX9_between_19 : decode cX9_between 19 = .ok (.ireturn, 1) := by decide +kernel
set_option maxRecDepth 20000 in
theorem ggX9_travel_X9_needNode : GoodIn wsX9_travel wsX9_needNode := goodIn_ca (goodIn_r _ [6, 7, 8, 1, 9, 10, 11, 12, 13, 14, 15, 16, 37, 38, 39, 40, 41, 42, 43, 44, 45, 46, 47, 48, 49, 50, 51, 52, 53, 54, 55, 56, 57, 58, 59, 60, 61, 62, 63, 64, 65, 66, 67, 68] (by decide +kernel) (by decide +kernel)) (goodIn_sub (fun _ h => List.mem_cons_of_mem _ (List.mem_append_right _ h)) (by decide +kernel))
set_option maxRecDepth 20000 in
theorem gX9_travel_X9_needNode : GoodIn wsX9_travel (wsV RX9 137 RX9 yX9_needNode wsX9_needNode) := goodIn_app (goodIn_of _ (by decide +kernel)) ggX9_travel_X9_needNode
set_option maxRecDepth 20000 in
theorem ggX9_travel_X9_needStation : GoodIn wsX9_travel wsX9_needStation := goodIn_ca (goodIn_r _ [20, 7, 8, 1, 21, 37, 38, 39, 40, 41, 42, 43, 44, 45, 46, 47, 48, 49, 50, 51, 52, 53, 54, 55, 56, 57, 58, 59, 60, 61, 62, 63] (by decide +kernel) (by decide +kernel)) (goodIn_sub (fun _ h => List.mem_cons_of_mem _ (List.mem_append_right _ h)) (by decide +kernel))
set_option maxRecDepth 20000 in
theorem gX9_travel_X9_needStation : GoodIn wsX9_travel (wsV RX9 130 RX9 yX9_needStation wsX9_needStation) := goodIn_app (goodIn_of _ (by decide +kernel)) ggX9_travel_X9_needStation
set_option maxRecDepth 20000 in
theorem ggX9_travel_X5_travelFromNode : GoodIn wsX9_travel wsX5_travelFromNode := goodIn_r _ [26, 27, 28, 29, 25, 30, 31, 32, 33, 34, 35, 36, 49, 50, 51, 52, 53, 54, 55, 56, 57, 58, 59, 60, 61, 62, 63] (by decide +kernel) (by decide +kernel)
set_option maxRecDepth 20000 in
theorem gX9_travel_X5_travelFromNode : GoodIn wsX9_travel (wsV RX9 140 RX5 yX5_travelFromNode wsX5_travelFromNode) := goodIn_app (goodIn_of _ (by decide +kernel)) ggX9_travel_X5_travelFromNode
theorem dX9_travel_0 : decode cX9_travel 0 = .ok (.aload_n 0, 1) := by decide +kernel
theorem dX9_travel_1 : decode cX9_travel 1 = .ok (.iload_n 1, 1) := by decide +kernel
theorem dX9_travel_2 : decode cX9_travel 2 = .ok (.invokevirtual 137, 3) := by decide +kernel
theorem dX9_travel_5 : decode cX9_travel 5 = .ok (.aload_n 0, 1) := by decide +kernel
theorem dX9_travel_6 : decode cX9_travel 6 = .ok (.iload_n 2, 1) := by decide +kernel
theorem dX9_travel_7 : decode cX9_travel 7 = .ok (.invokevirtual 130, 3) := by decide +kernel
theorem dX9_travel_10 : decode cX9_travel 10 = .ok (.aload_n 0, 1) := by decide +kernel
theorem dX9_travel_11 : decode cX9_travel 11 = .ok (.getfield 30, 3) := by decide +kernel
theorem dX9_travel_14 : decode cX9_travel 14 = .ok (.iload_n 1, 1) := by decide +kernel
theorem dX9_travel_15 : decode cX9_travel 15 = .ok (.iload_n 2, 1) := by decide +kernel
theorem dX9_travel_16 : decode cX9_travel 16 = .ok (.invokevirtual 140, 3) := by decide +kernel
theorem dX9_travel_19 : decode cX9_travel 19 = .ok (.ireturn, 1) := by decide +kernel
set_option maxRecDepth 20000 in
theorem ggX9_ladder_X6_magnitudeOf : GoodIn wsX9_ladder wsX6_magnitudeOf := goodIn_r _ [10, 11, 12, 13, 41, 42, 43] (by decide +kernel) (by decide +kernel)
set_option maxRecDepth 20000 in
theorem gX9_ladder_X6_magnitudeOf : GoodIn wsX9_ladder (wsV RX9 146 RX6 yX6_magnitudeOf wsX6_magnitudeOf) := goodIn_app (goodIn_of _ (by decide +kernel)) ggX9_ladder_X6_magnitudeOf
theorem dX9_ladder_0 : decode cX9_ladder 0 = .ok (.iload_n 1, 1) := by decide +kernel
theorem dX9_ladder_1 : decode cX9_ladder 1 = .ok (.ifCond .lt 9, 3) := by decide +kernel
theorem dX9_ladder_4 : decode cX9_ladder 4 = .ok (.iload_n 1, 1) := by decide +kernel
theorem dX9_ladder_5 : decode cX9_ladder 5 = .ok (.ldc 143, 2) := by decide +kernel
theorem dX9_ladder_7 : decode cX9_ladder 7 = .ok (.if_icmp .le 13, 3) := by decide +kernel
theorem dX9_ladder_10 : decode cX9_ladder 10 = .ok (.new 79, 3) := by decide +kernel
theorem dX9_ladder_13 : decode cX9_ladder 13 = .ok (.dup, 1) := by decide +kernel
theorem dX9_ladder_14 : decode cX9_ladder 14 = .ok (.ldc 144, 2) := by decide +kernel
theorem dX9_ladder_16 : decode cX9_ladder 16 = .ok (.invokespecial 83, 3) := by decide +kernel
theorem dX9_ladder_19 : decode cX9_ladder 19 = .ok (.athrow, 1) := by decide +kernel
theorem dX9_ladder_20 : decode cX9_ladder 20 = .ok (.aload_n 0, 1) := by decide +kernel
theorem dX9_ladder_21 : decode cX9_ladder 21 = .ok (.getfield 30, 3) := by decide +kernel
theorem dX9_ladder_24 : decode cX9_ladder 24 = .ok (.getfield 107, 3) := by decide +kernel
theorem dX9_ladder_27 : decode cX9_ladder 27 = .ok (.iload_n 1, 1) := by decide +kernel
theorem dX9_ladder_28 : decode cX9_ladder 28 = .ok (.invokevirtual 146, 3) := by decide +kernel
theorem dX9_ladder_31 : decode cX9_ladder 31 = .ok (.ireturn, 1) := by decide +kernel
set_option maxRecDepth 20000 in
theorem ggX9_station_X9_needStation : GoodIn wsX9_station wsX9_needStation := goodIn_ca (goodIn_r _ [16, 17, 18, 3, 19, 28, 29, 30, 31, 32, 33, 34, 35, 36, 37, 38, 39, 40, 41, 42, 43, 44, 45, 46, 47, 48, 49, 50, 51, 52, 53, 54] (by decide +kernel) (by decide +kernel)) (goodIn_sub (fun _ h => List.mem_cons_of_mem _ (List.mem_append_right _ h)) (by decide +kernel))
set_option maxRecDepth 20000 in
theorem gX9_station_X9_needStation : GoodIn wsX9_station (wsV RX9 130 RX9 yX9_needStation wsX9_needStation) := goodIn_app (goodIn_of _ (by decide +kernel)) ggX9_station_X9_needStation
set_option maxRecDepth 20000 in
theorem ggX9_station_X5_ratioOf : GoodIn wsX9_station wsX5_ratioOf := goodIn_r _ [24, 25, 26, 27, 40, 41, 42, 43, 44, 45, 46, 47, 48, 49, 50, 51, 52, 53, 54] (by decide +kernel) (by decide +kernel)
set_option maxRecDepth 20000 in
theorem gX9_station_X5_ratioOf : GoodIn wsX9_station (wsV RX9 165 RX5 yX5_ratioOf wsX5_ratioOf) := goodIn_app (goodIn_of _ (by decide +kernel)) ggX9_station_X5_ratioOf
theorem dX9_station_0 : decode cX9_station 0 = .ok (.aload_n 0, 1) := by decide +kernel
theorem dX9_station_1 : decode cX9_station 1 = .ok (.iload_n 1, 1) := by decide +kernel
theorem dX9_station_2 : decode cX9_station 2 = .ok (.invokevirtual 130, 3) := by decide +kernel
theorem dX9_station_5 : decode cX9_station 5 = .ok (.iload_n 2, 1) := by decide +kernel
theorem dX9_station_6 : decode cX9_station 6 = .ok (.tableswitch 142 0 7 #[46, 56, 66, 76, 86, 96, 122, 132], 46) := by decide +kernel
theorem dX9_station_52 : decode cX9_station 52 = .ok (.aload_n 0, 1) := by decide +kernel
theorem dX9_station_53 : decode cX9_station 53 = .ok (.getfield 30, 3) := by decide +kernel
theorem dX9_station_56 : decode cX9_station 56 = .ok (.getfield 150, 3) := by decide +kernel
theorem dX9_station_59 : decode cX9_station 59 = .ok (.iload_n 1, 1) := by decide +kernel
theorem dX9_station_60 : decode cX9_station 60 = .ok (.iaload, 1) := by decide +kernel
theorem dX9_station_61 : decode cX9_station 61 = .ok (.ireturn, 1) := by decide +kernel
theorem dX9_station_62 : decode cX9_station 62 = .ok (.aload_n 0, 1) := by decide +kernel
theorem dX9_station_63 : decode cX9_station 63 = .ok (.getfield 30, 3) := by decide +kernel
theorem dX9_station_66 : decode cX9_station 66 = .ok (.getfield 153, 3) := by decide +kernel
theorem dX9_station_69 : decode cX9_station 69 = .ok (.iload_n 1, 1) := by decide +kernel
theorem dX9_station_70 : decode cX9_station 70 = .ok (.iaload, 1) := by decide +kernel
theorem dX9_station_71 : decode cX9_station 71 = .ok (.ireturn, 1) := by decide +kernel
theorem dX9_station_72 : decode cX9_station 72 = .ok (.aload_n 0, 1) := by decide +kernel
theorem dX9_station_73 : decode cX9_station 73 = .ok (.getfield 40, 3) := by decide +kernel
theorem dX9_station_76 : decode cX9_station 76 = .ok (.getfield 156, 3) := by decide +kernel
theorem dX9_station_79 : decode cX9_station 79 = .ok (.iload_n 1, 1) := by decide +kernel
theorem dX9_station_80 : decode cX9_station 80 = .ok (.iaload, 1) := by decide +kernel
theorem dX9_station_81 : decode cX9_station 81 = .ok (.ireturn, 1) := by decide +kernel
theorem dX9_station_82 : decode cX9_station 82 = .ok (.aload_n 0, 1) := by decide +kernel
theorem dX9_station_83 : decode cX9_station 83 = .ok (.getfield 40, 3) := by decide +kernel
theorem dX9_station_86 : decode cX9_station 86 = .ok (.getfield 159, 3) := by decide +kernel
theorem dX9_station_89 : decode cX9_station 89 = .ok (.iload_n 1, 1) := by decide +kernel
theorem dX9_station_90 : decode cX9_station 90 = .ok (.iaload, 1) := by decide +kernel
theorem dX9_station_91 : decode cX9_station 91 = .ok (.ireturn, 1) := by decide +kernel
theorem dX9_station_92 : decode cX9_station 92 = .ok (.aload_n 0, 1) := by decide +kernel
theorem dX9_station_93 : decode cX9_station 93 = .ok (.getfield 40, 3) := by decide +kernel
theorem dX9_station_96 : decode cX9_station 96 = .ok (.getfield 162, 3) := by decide +kernel
theorem dX9_station_99 : decode cX9_station 99 = .ok (.iload_n 1, 1) := by decide +kernel
theorem dX9_station_100 : decode cX9_station 100 = .ok (.iaload, 1) := by decide +kernel
theorem dX9_station_101 : decode cX9_station 101 = .ok (.ireturn, 1) := by decide +kernel
theorem dX9_station_102 : decode cX9_station 102 = .ok (.aload_n 0, 1) := by decide +kernel
theorem dX9_station_103 : decode cX9_station 103 = .ok (.getfield 30, 3) := by decide +kernel
theorem dX9_station_106 : decode cX9_station 106 = .ok (.aload_n 0, 1) := by decide +kernel
theorem dX9_station_107 : decode cX9_station 107 = .ok (.getfield 40, 3) := by decide +kernel
theorem dX9_station_110 : decode cX9_station 110 = .ok (.getfield 159, 3) := by decide +kernel
theorem dX9_station_113 : decode cX9_station 113 = .ok (.iload_n 1, 1) := by decide +kernel
theorem dX9_station_114 : decode cX9_station 114 = .ok (.iaload, 1) := by decide +kernel
theorem dX9_station_115 : decode cX9_station 115 = .ok (.aload_n 0, 1) := by decide +kernel
theorem dX9_station_116 : decode cX9_station 116 = .ok (.getfield 40, 3) := by decide +kernel
theorem dX9_station_119 : decode cX9_station 119 = .ok (.getfield 162, 3) := by decide +kernel
theorem dX9_station_122 : decode cX9_station 122 = .ok (.iload_n 1, 1) := by decide +kernel
theorem dX9_station_123 : decode cX9_station 123 = .ok (.iaload, 1) := by decide +kernel
theorem dX9_station_124 : decode cX9_station 124 = .ok (.invokevirtual 165, 3) := by decide +kernel
theorem dX9_station_127 : decode cX9_station 127 = .ok (.ireturn, 1) := by decide +kernel
theorem dX9_station_128 : decode cX9_station 128 = .ok (.aload_n 0, 1) := by decide +kernel
theorem dX9_station_129 : decode cX9_station 129 = .ok (.getfield 40, 3) := by decide +kernel
theorem dX9_station_132 : decode cX9_station 132 = .ok (.getfield 168, 3) := by decide +kernel
theorem dX9_station_135 : decode cX9_station 135 = .ok (.iload_n 1, 1) := by decide +kernel
theorem dX9_station_136 : decode cX9_station 136 = .ok (.iaload, 1) := by decide +kernel
theorem dX9_station_137 : decode cX9_station 137 = .ok (.ireturn, 1) := by decide +kernel
theorem dX9_station_138 : decode cX9_station 138 = .ok (.aload_n 0, 1) := by decide +kernel
theorem dX9_station_139 : decode cX9_station 139 = .ok (.getfield 40, 3) := by decide +kernel
theorem dX9_station_142 : decode cX9_station 142 = .ok (.getfield 171, 3) := by decide +kernel
theorem dX9_station_145 : decode cX9_station 145 = .ok (.iload_n 1, 1) := by decide +kernel
theorem dX9_station_146 : decode cX9_station 146 = .ok (.iaload, 1) := by decide +kernel
theorem dX9_station_147 : decode cX9_station 147 = .ok (.ireturn, 1) := by decide +kernel
theorem dX9_station_148 : decode cX9_station 148 = .ok (.new 79, 3) := by decide +kernel
theorem dX9_station_151 : decode cX9_station 151 = .ok (.dup, 1) := by decide +kernel
theorem dX9_station_152 : decode cX9_station 152 = .ok (.ldc 174, 2) := by decide +kernel
theorem dX9_station_154 : decode cX9_station 154 = .ok (.invokespecial 83, 3) := by decide +kernel
theorem dX9_station_157 : decode cX9_station 157 = .ok (.athrow, 1) := by decide +kernel
set_option maxRecDepth 20000 in
theorem ggX9_triggered_X7_triggeredStations : GoodIn wsX9_triggered wsX7_triggeredStations := goodIn_r _ [6, 7, 20, 21, 22, 23, 24, 25, 26, 27, 28, 29, 30, 31, 32, 33, 34, 35, 36] (by decide +kernel) (by decide +kernel)
set_option maxRecDepth 20000 in
theorem gX9_triggered_X7_triggeredStations : GoodIn wsX9_triggered (wsV RX9 176 RX7 yX7_triggeredStations wsX7_triggeredStations) := goodIn_app (goodIn_of _ (by decide +kernel)) ggX9_triggered_X7_triggeredStations
theorem dX9_triggered_0 : decode cX9_triggered 0 = .ok (.aload_n 0, 1) := by decide +kernel
theorem dX9_triggered_1 : decode cX9_triggered 1 = .ok (.getfield 40, 3) := by decide +kernel
theorem dX9_triggered_4 : decode cX9_triggered 4 = .ok (.invokevirtual 176, 3) := by decide +kernel
theorem dX9_triggered_7 : decode cX9_triggered 7 = .ok (.ireturn, 1) := by decide +kernel
set_option maxRecDepth 20000 in
theorem ggX9_pick_X9_needPick : GoodIn wsX9_pick wsX9_needPick := goodIn_ca (goodIn_r _ [13, 14, 15, 3, 16, 17, 18, 19, 20, 21, 22, 23, 24, 25, 26, 27, 28, 29, 30, 31, 32, 33, 34, 35, 36, 37, 38, 39, 40, 41, 42, 43, 44, 45] (by decide +kernel) (by decide +kernel)) (goodIn_sub (fun _ h => List.mem_cons_of_mem _ (List.mem_append_right _ h)) (by decide +kernel))
set_option maxRecDepth 20000 in
theorem gX9_pick_X9_needPick : GoodIn wsX9_pick (wsV RX9 179 RX9 yX9_needPick wsX9_needPick) := goodIn_app (goodIn_of _ (by decide +kernel)) ggX9_pick_X9_needPick
theorem dX9_pick_0 : decode cX9_pick 0 = .ok (.aload_n 0, 1) := by decide +kernel
theorem dX9_pick_1 : decode cX9_pick 1 = .ok (.iload_n 1, 1) := by decide +kernel
theorem dX9_pick_2 : decode cX9_pick 2 = .ok (.invokevirtual 179, 3) := by decide +kernel
theorem dX9_pick_5 : decode cX9_pick 5 = .ok (.iload_n 2, 1) := by decide +kernel
theorem dX9_pick_6 : decode cX9_pick 6 = .ok (.tableswitch 84 0 4 #[34, 44, 54, 64, 74], 34) := by decide +kernel
theorem dX9_pick_40 : decode cX9_pick 40 = .ok (.aload_n 0, 1) := by decide +kernel
theorem dX9_pick_41 : decode cX9_pick 41 = .ok (.getfield 40, 3) := by decide +kernel
theorem dX9_pick_44 : decode cX9_pick 44 = .ok (.getfield 182, 3) := by decide +kernel
theorem dX9_pick_47 : decode cX9_pick 47 = .ok (.iload_n 1, 1) := by decide +kernel
theorem dX9_pick_48 : decode cX9_pick 48 = .ok (.iaload, 1) := by decide +kernel
theorem dX9_pick_49 : decode cX9_pick 49 = .ok (.ireturn, 1) := by decide +kernel
theorem dX9_pick_50 : decode cX9_pick 50 = .ok (.aload_n 0, 1) := by decide +kernel
theorem dX9_pick_51 : decode cX9_pick 51 = .ok (.getfield 40, 3) := by decide +kernel
theorem dX9_pick_54 : decode cX9_pick 54 = .ok (.getfield 185, 3) := by decide +kernel
theorem dX9_pick_57 : decode cX9_pick 57 = .ok (.iload_n 1, 1) := by decide +kernel
theorem dX9_pick_58 : decode cX9_pick 58 = .ok (.iaload, 1) := by decide +kernel
theorem dX9_pick_59 : decode cX9_pick 59 = .ok (.ireturn, 1) := by decide +kernel
theorem dX9_pick_60 : decode cX9_pick 60 = .ok (.aload_n 0, 1) := by decide +kernel
theorem dX9_pick_61 : decode cX9_pick 61 = .ok (.getfield 40, 3) := by decide +kernel
theorem dX9_pick_64 : decode cX9_pick 64 = .ok (.getfield 188, 3) := by decide +kernel
theorem dX9_pick_67 : decode cX9_pick 67 = .ok (.iload_n 1, 1) := by decide +kernel
theorem dX9_pick_68 : decode cX9_pick 68 = .ok (.iaload, 1) := by decide +kernel
theorem dX9_pick_69 : decode cX9_pick 69 = .ok (.ireturn, 1) := by decide +kernel
theorem dX9_pick_70 : decode cX9_pick 70 = .ok (.aload_n 0, 1) := by decide +kernel
theorem dX9_pick_71 : decode cX9_pick 71 = .ok (.getfield 40, 3) := by decide +kernel
theorem dX9_pick_74 : decode cX9_pick 74 = .ok (.getfield 191, 3) := by decide +kernel
theorem dX9_pick_77 : decode cX9_pick 77 = .ok (.iload_n 1, 1) := by decide +kernel
theorem dX9_pick_78 : decode cX9_pick 78 = .ok (.iaload, 1) := by decide +kernel
theorem dX9_pick_79 : decode cX9_pick 79 = .ok (.ireturn, 1) := by decide +kernel
theorem dX9_pick_80 : decode cX9_pick 80 = .ok (.aload_n 0, 1) := by decide +kernel
theorem dX9_pick_81 : decode cX9_pick 81 = .ok (.getfield 40, 3) := by decide +kernel
theorem dX9_pick_84 : decode cX9_pick 84 = .ok (.getfield 194, 3) := by decide +kernel
theorem dX9_pick_87 : decode cX9_pick 87 = .ok (.iload_n 1, 1) := by decide +kernel
theorem dX9_pick_88 : decode cX9_pick 88 = .ok (.iaload, 1) := by decide +kernel
theorem dX9_pick_89 : decode cX9_pick 89 = .ok (.ireturn, 1) := by decide +kernel
theorem dX9_pick_90 : decode cX9_pick 90 = .ok (.new 79, 3) := by decide +kernel
theorem dX9_pick_93 : decode cX9_pick 93 = .ok (.dup, 1) := by decide +kernel
theorem dX9_pick_94 : decode cX9_pick 94 = .ok (.ldc 197, 2) := by decide +kernel
theorem dX9_pick_96 : decode cX9_pick 96 = .ok (.invokespecial 83, 3) := by decide +kernel
theorem dX9_pick_99 : decode cX9_pick 99 = .ok (.athrow, 1) := by decide +kernel
set_option maxRecDepth 20000 in
theorem ggX9_fits_X9_needPick : GoodIn wsX9_fits wsX9_needPick := goodIn_ca (goodIn_r _ [7, 8, 9, 1, 10, 30, 31, 32, 33, 34, 35, 36, 37, 38, 39, 40, 41, 42, 43, 44, 45, 46, 47, 48, 49, 50, 51, 52, 53, 54, 55, 56, 57, 58] (by decide +kernel) (by decide +kernel)) (goodIn_sub (fun _ h => List.mem_cons_of_mem _ (List.mem_append_right _ h)) (by decide +kernel))
set_option maxRecDepth 20000 in
theorem gX9_fits_X9_needPick : GoodIn wsX9_fits (wsV RX9 179 RX9 yX9_needPick wsX9_needPick) := goodIn_app (goodIn_of _ (by decide +kernel)) ggX9_fits_X9_needPick
set_option maxRecDepth 20000 in
theorem ggX9_fits_X7_picksFit : GoodIn wsX9_fits wsX7_picksFit := goodIn_r _ [15, 16, 17, 18, 19, 20, 21, 22, 23, 24, 25, 26, 27, 28, 29, 42, 43, 44, 45, 46, 47, 48, 49, 50, 51, 52, 53, 54, 55, 56, 57, 58, 59, 60, 61, 62, 63, 64, 65, 66, 67, 68, 69, 70, 71, 72, 73] (by decide +kernel) (by decide +kernel)
set_option maxRecDepth 20000 in
theorem gX9_fits_X7_picksFit : GoodIn wsX9_fits (wsV RX9 199 RX7 yX7_picksFit wsX7_picksFit) := goodIn_app (goodIn_of _ (by decide +kernel)) ggX9_fits_X7_picksFit
theorem dX9_fits_0 : decode cX9_fits 0 = .ok (.aload_n 0, 1) := by decide +kernel
theorem dX9_fits_1 : decode cX9_fits 1 = .ok (.iload_n 1, 1) := by decide +kernel
theorem dX9_fits_2 : decode cX9_fits 2 = .ok (.invokevirtual 179, 3) := by decide +kernel
theorem dX9_fits_5 : decode cX9_fits 5 = .ok (.aload_n 0, 1) := by decide +kernel
theorem dX9_fits_6 : decode cX9_fits 6 = .ok (.iload_n 2, 1) := by decide +kernel
theorem dX9_fits_7 : decode cX9_fits 7 = .ok (.invokevirtual 179, 3) := by decide +kernel
theorem dX9_fits_10 : decode cX9_fits 10 = .ok (.aload_n 0, 1) := by decide +kernel
theorem dX9_fits_11 : decode cX9_fits 11 = .ok (.getfield 40, 3) := by decide +kernel
theorem dX9_fits_14 : decode cX9_fits 14 = .ok (.aload_n 0, 1) := by decide +kernel
theorem dX9_fits_15 : decode cX9_fits 15 = .ok (.getfield 30, 3) := by decide +kernel
theorem dX9_fits_18 : decode cX9_fits 18 = .ok (.iload_n 1, 1) := by decide +kernel
theorem dX9_fits_19 : decode cX9_fits 19 = .ok (.iload_n 2, 1) := by decide +kernel
theorem dX9_fits_20 : decode cX9_fits 20 = .ok (.invokevirtual 199, 3) := by decide +kernel
theorem dX9_fits_23 : decode cX9_fits 23 = .ok (.ireturn, 1) := by decide +kernel
set_option maxRecDepth 20000 in
theorem ggX9_event_X9_needEvent : GoodIn wsX9_event wsX9_needEvent := goodIn_ca (goodIn_r _ [10, 11, 12, 3, 13, 108, 109, 110, 111, 112, 113, 114, 115, 116, 117, 118, 119, 120, 121, 122, 123, 124, 125, 126, 127, 128, 129, 130, 131, 132, 133, 134, 135, 136] (by decide +kernel) (by decide +kernel)) (goodIn_sub (fun _ h => List.mem_cons_of_mem _ (List.mem_append_right _ h)) (by decide +kernel))
set_option maxRecDepth 20000 in
theorem gX9_event_X9_needEvent : GoodIn wsX9_event (wsV RX9 203 RX9 yX9_needEvent wsX9_needEvent) := goodIn_app (goodIn_of _ (by decide +kernel)) ggX9_event_X9_needEvent
set_option maxRecDepth 20000 in
theorem ggX9_event_X7_picksOf : GoodIn wsX9_event wsX7_picksOf := goodIn_r _ [18, 19, 20, 120, 121, 122, 123, 124, 125, 126, 127, 128, 129, 130, 131, 132, 133, 134, 135, 136] (by decide +kernel) (by decide +kernel)
set_option maxRecDepth 20000 in
theorem gX9_event_X7_picksOf : GoodIn wsX9_event (wsV RX9 209 RX7 yX7_picksOf wsX7_picksOf) := goodIn_app (goodIn_of _ (by decide +kernel)) ggX9_event_X7_picksOf
set_option maxRecDepth 20000 in
theorem ggX9_event_X9_located : GoodIn wsX9_event wsX9_located := goodIn_r _ [24, 25, 26, 3, 27, 28, 29, 30, 31, 32, 33, 34, 35, 36, 37, 38, 39, 40, 41, 42, 43, 44, 45, 46, 47, 48, 49, 50, 51, 52, 53, 54, 55, 56, 57, 58, 59, 60, 61, 62, 63, 64, 65, 66, 67, 68, 69, 70, 71, 72, 73, 74, 75, 76, 77, 78, 79, 80, 81, 82, 83, 84, 85, 86, 87, 88, 89, 90, 91, 92, 93, 94, 95, 96, 97, 98, 99, 100, 101, 102, 103, 104, 105, 106, 107, 108, 109, 110, 111, 112, 113, 114, 115, 116, 117, 118, 119, 137, 138, 139, 140, 141, 142, 143, 144, 145, 146, 147, 148, 149, 150, 151, 152, 153, 154, 155, 156, 157, 120, 121, 122, 123, 124, 125, 126, 127, 128, 129, 130, 131, 132, 133, 134, 135, 136, 158, 159, 160, 161, 162, 163, 164, 165] (by decide +kernel) (by decide +kernel)
set_option maxRecDepth 20000 in
theorem gX9_event_X9_located : GoodIn wsX9_event (wsV RX9 215 RX9 yX9_located wsX9_located) := goodIn_app (goodIn_of _ (by decide +kernel)) ggX9_event_X9_located
theorem dX9_event_0 : decode cX9_event 0 = .ok (.aload_n 0, 1) := by decide +kernel
theorem dX9_event_1 : decode cX9_event 1 = .ok (.iload_n 1, 1) := by decide +kernel
theorem dX9_event_2 : decode cX9_event 2 = .ok (.invokevirtual 203, 3) := by decide +kernel
theorem dX9_event_5 : decode cX9_event 5 = .ok (.iload_n 2, 1) := by decide +kernel
theorem dX9_event_6 : decode cX9_event 6 = .ok (.tableswitch 95 0 6 #[42, 52, 61, 71, 71, 71, 71], 42) := by decide +kernel
theorem dX9_event_48 : decode cX9_event 48 = .ok (.aload_n 0, 1) := by decide +kernel
theorem dX9_event_49 : decode cX9_event 49 = .ok (.getfield 40, 3) := by decide +kernel
theorem dX9_event_52 : decode cX9_event 52 = .ok (.getfield 206, 3) := by decide +kernel
theorem dX9_event_55 : decode cX9_event 55 = .ok (.iload_n 1, 1) := by decide +kernel
theorem dX9_event_56 : decode cX9_event 56 = .ok (.iaload, 1) := by decide +kernel
theorem dX9_event_57 : decode cX9_event 57 = .ok (.ireturn, 1) := by decide +kernel
theorem dX9_event_58 : decode cX9_event 58 = .ok (.aload_n 0, 1) := by decide +kernel
theorem dX9_event_59 : decode cX9_event 59 = .ok (.getfield 40, 3) := by decide +kernel
theorem dX9_event_62 : decode cX9_event 62 = .ok (.iload_n 1, 1) := by decide +kernel
theorem dX9_event_63 : decode cX9_event 63 = .ok (.invokevirtual 209, 3) := by decide +kernel
theorem dX9_event_66 : decode cX9_event 66 = .ok (.ireturn, 1) := by decide +kernel
theorem dX9_event_67 : decode cX9_event 67 = .ok (.aload_n 0, 1) := by decide +kernel
theorem dX9_event_68 : decode cX9_event 68 = .ok (.getfield 40, 3) := by decide +kernel
theorem dX9_event_71 : decode cX9_event 71 = .ok (.getfield 212, 3) := by decide +kernel
theorem dX9_event_74 : decode cX9_event 74 = .ok (.iload_n 1, 1) := by decide +kernel
theorem dX9_event_75 : decode cX9_event 75 = .ok (.iaload, 1) := by decide +kernel
theorem dX9_event_76 : decode cX9_event 76 = .ok (.ireturn, 1) := by decide +kernel
theorem dX9_event_77 : decode cX9_event 77 = .ok (.aload_n 0, 1) := by decide +kernel
theorem dX9_event_78 : decode cX9_event 78 = .ok (.getfield 40, 3) := by decide +kernel
theorem dX9_event_81 : decode cX9_event 81 = .ok (.getfield 206, 3) := by decide +kernel
theorem dX9_event_84 : decode cX9_event 84 = .ok (.iload_n 1, 1) := by decide +kernel
theorem dX9_event_85 : decode cX9_event 85 = .ok (.iaload, 1) := by decide +kernel
theorem dX9_event_86 : decode cX9_event 86 = .ok (.iconst 1, 1) := by decide +kernel
theorem dX9_event_87 : decode cX9_event 87 = .ok (.if_icmp .ne 7, 3) := by decide +kernel
theorem dX9_event_90 : decode cX9_event 90 = .ok (.iconst (-1), 1) := by decide +kernel
theorem dX9_event_91 : decode cX9_event 91 = .ok (.goto 9, 3) := by decide +kernel
theorem dX9_event_94 : decode cX9_event 94 = .ok (.aload_n 0, 1) := by decide +kernel
theorem dX9_event_95 : decode cX9_event 95 = .ok (.iload_n 1, 1) := by decide +kernel
theorem dX9_event_96 : decode cX9_event 96 = .ok (.iload_n 2, 1) := by decide +kernel
theorem dX9_event_97 : decode cX9_event 97 = .ok (.invokevirtual 215, 3) := by decide +kernel
theorem dX9_event_100 : decode cX9_event 100 = .ok (.ireturn, 1) := by decide +kernel
theorem dX9_event_101 : decode cX9_event 101 = .ok (.new 79, 3) := by decide +kernel
theorem dX9_event_104 : decode cX9_event 104 = .ok (.dup, 1) := by decide +kernel
theorem dX9_event_105 : decode cX9_event 105 = .ok (.ldc 218, 2) := by decide +kernel
theorem dX9_event_107 : decode cX9_event 107 = .ok (.invokespecial 83, 3) := by decide +kernel
theorem dX9_event_110 : decode cX9_event 110 = .ok (.athrow, 1) := by decide +kernel
set_option maxRecDepth 20000 in
theorem ggX9_misfit_X9_needNode : GoodIn wsX9_misfit wsX9_needNode := goodIn_ca (goodIn_r _ [9, 10, 11, 3, 12, 13, 14, 15, 16, 17, 18, 19, 73, 74, 75, 76, 77, 78, 79, 80, 81, 82, 83, 84, 91, 92, 93, 94, 95, 96, 97, 98, 99, 100, 101, 102, 103, 104, 105, 106, 107, 108, 109, 110] (by decide +kernel) (by decide +kernel)) (goodIn_sub (fun _ h => List.mem_cons_of_mem _ (List.mem_append_left _ (List.mem_append_right _ h))) (by decide +kernel))
set_option maxRecDepth 20000 in
theorem gX9_misfit_X9_needNode : GoodIn wsX9_misfit (wsV RX9 137 RX9 yX9_needNode wsX9_needNode) := goodIn_app (goodIn_of _ (by decide +kernel)) ggX9_misfit_X9_needNode
set_option maxRecDepth 20000 in
theorem ggX9_misfit_X9_needEvent : GoodIn wsX9_misfit wsX9_needEvent := goodIn_ca (goodIn_r _ [23, 10, 11, 2, 24, 73, 74, 75, 76, 77, 78, 79, 80, 81, 82, 83, 84, 111, 112, 113, 114, 115, 116, 117, 118, 119, 120, 121, 122, 123, 124, 125, 126, 127] (by decide +kernel) (by decide +kernel)) (goodIn_sub (fun _ h => List.mem_cons_of_mem _ (List.mem_append_left _ (List.mem_append_right _ h))) (by decide +kernel))
set_option maxRecDepth 20000 in
theorem gX9_misfit_X9_needEvent : GoodIn wsX9_misfit (wsV RX9 203 RX9 yX9_needEvent wsX9_needEvent) := goodIn_app (goodIn_of _ (by decide +kernel)) ggX9_misfit_X9_needEvent
set_option maxRecDepth 20000 in
theorem ggX9_misfit_X9_needStanding : GoodIn wsX9_misfit wsX9_needStanding := goodIn_ca (goodIn_r _ [28, 29, 30, 2, 31, 73, 74, 75, 76, 77, 78, 79, 80, 81, 82, 83, 84, 111, 112, 113, 114, 115, 116, 117, 118, 119, 120, 121, 122, 123, 124, 125, 126, 127] (by decide +kernel) (by decide +kernel)) (goodIn_sub (fun _ h => List.mem_cons_of_mem _ (List.mem_append_right _ h)) (by decide +kernel))
set_option maxRecDepth 20000 in
theorem gX9_misfit_X9_needStanding : GoodIn wsX9_misfit (wsV RX9 223 RX9 yX9_needStanding wsX9_needStanding) := goodIn_app (goodIn_of _ (by decide +kernel)) ggX9_misfit_X9_needStanding
set_option maxRecDepth 20000 in
theorem ggX9_misfit_X3_gather : GoodIn wsX9_misfit wsX3_gather := goodIn_r _ [36, 37, 38, 39, 40, 85, 86, 87, 88, 89, 90, 111, 112, 113, 114, 115, 116, 117, 118, 119, 120, 121, 122, 123, 124, 125, 126, 127] (by decide +kernel) (by decide +kernel)
set_option maxRecDepth 20000 in
theorem gX9_misfit_X3_gather : GoodIn wsX9_misfit (wsV RX9 226 RX3 yX3_gather wsX3_gather) := goodIn_app (goodIn_of _ (by decide +kernel)) ggX9_misfit_X3_gather
set_option maxRecDepth 20000 in
theorem ggX9_misfit_X3_weigh : GoodIn wsX9_misfit wsX3_weigh := goodIn_r _ [44, 45, 37, 40, 46, 47, 48, 49, 50, 51, 52, 53, 54, 35, 55, 56, 57, 58, 59, 60, 61, 62, 63, 64, 65, 66, 67, 68, 69, 70, 71, 72, 85, 86, 87, 88, 89, 90, 111, 112, 113, 114, 115, 116, 117, 118, 119, 120, 121, 122, 123, 124, 125, 126, 127, 91, 92, 93, 94, 95, 96, 97, 98, 99, 100, 101, 102, 103, 104, 105] (by decide +kernel) (by decide +kernel)
set_option maxRecDepth 20000 in
theorem gX9_misfit_X3_weigh : GoodIn wsX9_misfit (wsV RX9 230 RX3 yX3_weigh wsX3_weigh) := goodIn_app (goodIn_of _ (by decide +kernel)) ggX9_misfit_X3_weigh
theorem dX9_misfit_0 : decode cX9_misfit 0 = .ok (.aload_n 0, 1) := by decide +kernel
theorem dX9_misfit_1 : decode cX9_misfit 1 = .ok (.iload_n 1, 1) := by decide +kernel
theorem dX9_misfit_2 : decode cX9_misfit 2 = .ok (.invokevirtual 137, 3) := by decide +kernel
theorem dX9_misfit_5 : decode cX9_misfit 5 = .ok (.aload_n 0, 1) := by decide +kernel
theorem dX9_misfit_6 : decode cX9_misfit 6 = .ok (.iload_n 2, 1) := by decide +kernel
theorem dX9_misfit_7 : decode cX9_misfit 7 = .ok (.invokevirtual 203, 3) := by decide +kernel
theorem dX9_misfit_10 : decode cX9_misfit 10 = .ok (.aload_n 0, 1) := by decide +kernel
theorem dX9_misfit_11 : decode cX9_misfit 11 = .ok (.iload_n 2, 1) := by decide +kernel
theorem dX9_misfit_12 : decode cX9_misfit 12 = .ok (.invokevirtual 223, 3) := by decide +kernel
theorem dX9_misfit_15 : decode cX9_misfit 15 = .ok (.aload_n 0, 1) := by decide +kernel
theorem dX9_misfit_16 : decode cX9_misfit 16 = .ok (.getfield 64, 3) := by decide +kernel
theorem dX9_misfit_19 : decode cX9_misfit 19 = .ok (.aload_n 0, 1) := by decide +kernel
theorem dX9_misfit_20 : decode cX9_misfit 20 = .ok (.getfield 40, 3) := by decide +kernel
theorem dX9_misfit_23 : decode cX9_misfit 23 = .ok (.iload_n 2, 1) := by decide +kernel
theorem dX9_misfit_24 : decode cX9_misfit 24 = .ok (.invokevirtual 226, 3) := by decide +kernel
theorem dX9_misfit_27 : decode cX9_misfit 27 = .ok (.aload_n 0, 1) := by decide +kernel
theorem dX9_misfit_28 : decode cX9_misfit 28 = .ok (.getfield 64, 3) := by decide +kernel
theorem dX9_misfit_31 : decode cX9_misfit 31 = .ok (.aload_n 0, 1) := by decide +kernel
theorem dX9_misfit_32 : decode cX9_misfit 32 = .ok (.getfield 30, 3) := by decide +kernel
theorem dX9_misfit_35 : decode cX9_misfit 35 = .ok (.aload_n 0, 1) := by decide +kernel
theorem dX9_misfit_36 : decode cX9_misfit 36 = .ok (.getfield 40, 3) := by decide +kernel
theorem dX9_misfit_39 : decode cX9_misfit 39 = .ok (.iload_n 1, 1) := by decide +kernel
theorem dX9_misfit_40 : decode cX9_misfit 40 = .ok (.invokevirtual 230, 3) := by decide +kernel
theorem dX9_misfit_43 : decode cX9_misfit 43 = .ok (.aload_n 0, 1) := by decide +kernel
theorem dX9_misfit_44 : decode cX9_misfit 44 = .ok (.getfield 64, 3) := by decide +kernel
theorem dX9_misfit_47 : decode cX9_misfit 47 = .ok (.getfield 234, 3) := by decide +kernel
theorem dX9_misfit_50 : decode cX9_misfit 50 = .ok (.ireturn, 1) := by decide +kernel
set_option maxRecDepth 20000 in
theorem ggX9_setLevel_X9_needStation : GoodIn wsX9_setLevel wsX9_needStation := goodIn_ca (goodIn_r _ [8, 9, 10, 11, 12, 60, 61, 62, 63, 64, 65, 66, 67, 68, 69, 70, 71, 89, 90, 91, 92, 93, 94, 95, 96, 97, 98, 99, 100, 101, 102, 103] (by decide +kernel) (by decide +kernel)) (goodIn_sub (fun _ h => List.mem_cons_of_mem _ (List.mem_append_left _ (List.mem_append_right _ h))) (by decide +kernel))
set_option maxRecDepth 20000 in
theorem gX9_setLevel_X9_needStation : GoodIn wsX9_setLevel (wsV RX9 130 RX9 yX9_needStation wsX9_needStation) := goodIn_app (goodIn_of _ (by decide +kernel)) ggX9_setLevel_X9_needStation
set_option maxRecDepth 20000 in
theorem ggX9_setLevel_X9_needLevel : GoodIn wsX9_setLevel wsX9_needLevel := goodIn_ca (goodIn_r _ [16, 17, 18] (by decide +kernel) (by decide +kernel)) (goodIn_sub (fun _ h => List.mem_cons_of_mem _ (List.mem_append_right _ h)) (by decide +kernel))
set_option maxRecDepth 20000 in
theorem gX9_setLevel_X9_needLevel : GoodIn wsX9_setLevel (wsV RX9 261 RX9 yX9_needLevel wsX9_needLevel) := goodIn_app (goodIn_of _ (by decide +kernel)) ggX9_setLevel_X9_needLevel
set_option maxRecDepth 20000 in
theorem ggX9_setLevel_X4_remember : GoodIn wsX9_setLevel wsX4_remember := goodIn_r _ [23, 24, 25, 26, 27, 28, 29, 30, 31, 32, 33, 34, 35, 36, 37, 38, 39, 40, 41, 42, 43, 44, 45, 46, 47, 48, 49, 50, 51, 52, 53, 7, 54, 55, 56, 57, 58, 59, 104, 105, 106, 107, 108, 72, 73, 74, 75, 76, 77, 78, 79, 80, 81, 82, 83, 84, 85, 86, 87, 88] (by decide +kernel) (by decide +kernel)
set_option maxRecDepth 20000 in
theorem gX9_setLevel_X4_remember : GoodIn wsX9_setLevel (wsV RX9 293 RX4 yX4_remember wsX4_remember) := goodIn_app (goodIn_of _ (by decide +kernel)) ggX9_setLevel_X4_remember
theorem dX9_setLevel_0 : decode cX9_setLevel 0 = .ok (.aload_n 0, 1) := by decide +kernel
theorem dX9_setLevel_1 : decode cX9_setLevel 1 = .ok (.iload_n 1, 1) := by decide +kernel
theorem dX9_setLevel_2 : decode cX9_setLevel 2 = .ok (.invokevirtual 130, 3) := by decide +kernel
theorem dX9_setLevel_5 : decode cX9_setLevel 5 = .ok (.aload_n 0, 1) := by decide +kernel
theorem dX9_setLevel_6 : decode cX9_setLevel 6 = .ok (.iload_n 2, 1) := by decide +kernel
theorem dX9_setLevel_7 : decode cX9_setLevel 7 = .ok (.invokevirtual 261, 3) := by decide +kernel
theorem dX9_setLevel_10 : decode cX9_setLevel 10 = .ok (.aload_n 0, 1) := by decide +kernel
theorem dX9_setLevel_11 : decode cX9_setLevel 11 = .ok (.getfield 50, 3) := by decide +kernel
theorem dX9_setLevel_14 : decode cX9_setLevel 14 = .ok (.aload_n 0, 1) := by decide +kernel
theorem dX9_setLevel_15 : decode cX9_setLevel 15 = .ok (.getfield 40, 3) := by decide +kernel
theorem dX9_setLevel_18 : decode cX9_setLevel 18 = .ok (.invokevirtual 293, 3) := by decide +kernel
theorem dX9_setLevel_21 : decode cX9_setLevel 21 = .ok (.aload_n 0, 1) := by decide +kernel
theorem dX9_setLevel_22 : decode cX9_setLevel 22 = .ok (.getfield 40, 3) := by decide +kernel
theorem dX9_setLevel_25 : decode cX9_setLevel 25 = .ok (.getfield 156, 3) := by decide +kernel
theorem dX9_setLevel_28 : decode cX9_setLevel 28 = .ok (.iload_n 1, 1) := by decide +kernel
theorem dX9_setLevel_29 : decode cX9_setLevel 29 = .ok (.iaload, 1) := by decide +kernel
theorem dX9_setLevel_30 : decode cX9_setLevel 30 = .ok (.istore_n 3, 1) := by decide +kernel
theorem dX9_setLevel_31 : decode cX9_setLevel 31 = .ok (.aload_n 0, 1) := by decide +kernel
theorem dX9_setLevel_32 : decode cX9_setLevel 32 = .ok (.getfield 40, 3) := by decide +kernel
theorem dX9_setLevel_35 : decode cX9_setLevel 35 = .ok (.getfield 156, 3) := by decide +kernel
theorem dX9_setLevel_38 : decode cX9_setLevel 38 = .ok (.iload_n 1, 1) := by decide +kernel
theorem dX9_setLevel_39 : decode cX9_setLevel 39 = .ok (.iload_n 2, 1) := by decide +kernel
theorem dX9_setLevel_40 : decode cX9_setLevel 40 = .ok (.iastore, 1) := by decide +kernel
theorem dX9_setLevel_41 : decode cX9_setLevel 41 = .ok (.iload_n 3, 1) := by decide +kernel
theorem dX9_setLevel_42 : decode cX9_setLevel 42 = .ok (.ireturn, 1) := by decide +kernel
set_option maxRecDepth 20000 in
theorem ggX9_pass_X9_needTicks : GoodIn wsX9_pass wsX9_needTicks := goodIn_ca (goodIn_r _ [13, 14, 15] (by decide +kernel) (by decide +kernel)) (goodIn_sub (fun _ h => List.mem_cons_of_mem _ (List.mem_append_right _ h)) (by decide +kernel))
set_option maxRecDepth 20000 in
theorem gX9_pass_X9_needTicks : GoodIn wsX9_pass (wsV RX9 264 RX9 yX9_needTicks wsX9_needTicks) := goodIn_app (goodIn_of _ (by decide +kernel)) ggX9_pass_X9_needTicks
set_option maxRecDepth 20000 in
theorem ggX9_pass_X4_remember : GoodIn wsX9_pass wsX4_remember := goodIn_r _ [20, 21, 22, 23, 24, 25, 26, 27, 28, 29, 30, 31, 32, 33, 34, 35, 36, 37, 38, 39, 40, 41, 42, 43, 44, 45, 46, 47, 48, 49, 50, 12, 51, 52, 53, 54, 55, 56, 175, 176, 177, 178, 179, 158, 159, 160, 161, 162, 163, 164, 165, 166, 167, 168, 169, 170, 171, 172, 173, 174] (by decide +kernel) (by decide +kernel)
set_option maxRecDepth 20000 in
theorem gX9_pass_X4_remember : GoodIn wsX9_pass (wsV RX9 293 RX4 yX4_remember wsX4_remember) := goodIn_app (goodIn_of _ (by decide +kernel)) ggX9_pass_X4_remember
set_option maxRecDepth 20000 in
theorem ggX9_pass_X0_doTick : GoodIn wsX9_pass wsX0_doTick := goodIn_r _ [61, 62, 63, 64, 65, 66, 67, 31, 68, 33, 37, 36, 38, 69, 39, 70, 71, 72, 73, 74, 75, 76, 60, 77, 78, 79, 80, 81, 82, 83, 84, 85, 86, 87, 88, 89, 90, 91, 92, 93, 94, 95, 96, 97, 98, 99, 100, 26, 101, 102, 103, 104, 105, 34, 43, 44, 45, 46, 47, 42, 106, 107, 108, 109, 110, 111, 112, 113, 114, 115, 116, 117, 118, 119, 120, 121, 122, 123, 124, 125, 126, 127, 128, 129, 130, 131, 132, 133, 134, 135, 136, 137, 138, 139, 140, 141, 142, 143, 144, 145, 158, 159, 160, 161, 162, 163, 164, 165, 166, 167, 168, 169, 170, 171, 172, 173, 174, 180, 181, 182, 183, 184, 185, 186, 187, 188, 189, 190, 191, 192, 193, 194, 195, 196] (by decide +kernel) (by decide +kernel)
set_option maxRecDepth 20000 in
theorem gX9_pass_X0_doTick : GoodIn wsX9_pass (wsV RX9 289 RX0 yX0_doTick wsX0_doTick) := goodIn_app (goodIn_of _ (by decide +kernel)) ggX9_pass_X0_doTick
theorem dX9_pass_0 : decode cX9_pass 0 = .ok (.aload_n 0, 1) := by decide +kernel
theorem dX9_pass_1 : decode cX9_pass 1 = .ok (.iconst 1, 1) := by decide +kernel
theorem dX9_pass_2 : decode cX9_pass 2 = .ok (.iload_n 1, 1) := by decide +kernel
theorem dX9_pass_3 : decode cX9_pass 3 = .ok (.invokevirtual 264, 3) := by decide +kernel
theorem dX9_pass_6 : decode cX9_pass 6 = .ok (.aload_n 0, 1) := by decide +kernel
theorem dX9_pass_7 : decode cX9_pass 7 = .ok (.getfield 40, 3) := by decide +kernel
theorem dX9_pass_10 : decode cX9_pass 10 = .ok (.getfield 127, 3) := by decide +kernel
theorem dX9_pass_13 : decode cX9_pass 13 = .ok (.iload_n 1, 1) := by decide +kernel
theorem dX9_pass_14 : decode cX9_pass 14 = .ok (.iadd, 1) := by decide +kernel
theorem dX9_pass_15 : decode cX9_pass 15 = .ok (.sipush 9999, 3) := by decide +kernel
theorem dX9_pass_18 : decode cX9_pass 18 = .ok (.if_icmp .le 14, 3) := by decide +kernel
theorem dX9_pass_21 : decode cX9_pass 21 = .ok (.new 296, 3) := by decide +kernel
theorem dX9_pass_24 : decode cX9_pass 24 = .ok (.dup, 1) := by decide +kernel
theorem dX9_pass_25 : decode cX9_pass 25 = .ok (.ldc_w 298, 3) := by decide +kernel
theorem dX9_pass_28 : decode cX9_pass 28 = .ok (.invokespecial 300, 3) := by decide +kernel
theorem dX9_pass_31 : decode cX9_pass 31 = .ok (.athrow, 1) := by decide +kernel
theorem dX9_pass_32 : decode cX9_pass 32 = .ok (.aload_n 0, 1) := by decide +kernel
theorem dX9_pass_33 : decode cX9_pass 33 = .ok (.getfield 50, 3) := by decide +kernel
theorem dX9_pass_36 : decode cX9_pass 36 = .ok (.aload_n 0, 1) := by decide +kernel
theorem dX9_pass_37 : decode cX9_pass 37 = .ok (.getfield 40, 3) := by decide +kernel
theorem dX9_pass_40 : decode cX9_pass 40 = .ok (.invokevirtual 293, 3) := by decide +kernel
theorem dX9_pass_43 : decode cX9_pass 43 = .ok (.aload_n 0, 1) := by decide +kernel
theorem dX9_pass_44 : decode cX9_pass 44 = .ok (.getfield 40, 3) := by decide +kernel
theorem dX9_pass_47 : decode cX9_pass 47 = .ok (.getfield 116, 3) := by decide +kernel
theorem dX9_pass_50 : decode cX9_pass 50 = .ok (.istore_n 2, 1) := by decide +kernel
theorem dX9_pass_51 : decode cX9_pass 51 = .ok (.iconst 0, 1) := by decide +kernel
theorem dX9_pass_52 : decode cX9_pass 52 = .ok (.istore_n 3, 1) := by decide +kernel
theorem dX9_pass_53 : decode cX9_pass 53 = .ok (.iload_n 3, 1) := by decide +kernel
theorem dX9_pass_54 : decode cX9_pass 54 = .ok (.iload_n 1, 1) := by decide +kernel
theorem dX9_pass_55 : decode cX9_pass 55 = .ok (.if_icmp .ge 24, 3) := by decide +kernel
theorem dX9_pass_58 : decode cX9_pass 58 = .ok (.aload_n 0, 1) := by decide +kernel
theorem dX9_pass_59 : decode cX9_pass 59 = .ok (.getfield 57, 3) := by decide +kernel
theorem dX9_pass_62 : decode cX9_pass 62 = .ok (.aload_n 0, 1) := by decide +kernel
theorem dX9_pass_63 : decode cX9_pass 63 = .ok (.getfield 30, 3) := by decide +kernel
theorem dX9_pass_66 : decode cX9_pass 66 = .ok (.aload_n 0, 1) := by decide +kernel
theorem dX9_pass_67 : decode cX9_pass 67 = .ok (.getfield 40, 3) := by decide +kernel
theorem dX9_pass_70 : decode cX9_pass 70 = .ok (.invokevirtual 289, 3) := by decide +kernel
theorem dX9_pass_73 : decode cX9_pass 73 = .ok (.iinc 3 1, 3) := by decide +kernel
theorem dX9_pass_76 : decode cX9_pass 76 = .ok (.goto (-23), 3) := by decide +kernel
theorem dX9_pass_79 : decode cX9_pass 79 = .ok (.aload_n 0, 1) := by decide +kernel
theorem dX9_pass_80 : decode cX9_pass 80 = .ok (.getfield 40, 3) := by decide +kernel
theorem dX9_pass_83 : decode cX9_pass 83 = .ok (.getfield 116, 3) := by decide +kernel
theorem dX9_pass_86 : decode cX9_pass 86 = .ok (.iload_n 2, 1) := by decide +kernel
theorem dX9_pass_87 : decode cX9_pass 87 = .ok (.isub, 1) := by decide +kernel
theorem dX9_pass_88 : decode cX9_pass 88 = .ok (.ireturn, 1) := by decide +kernel
set_option maxRecDepth 20000 in
theorem ggX9_mute_X9_needStation : GoodIn wsX9_mute wsX9_needStation := goodIn_ca (goodIn_r _ [8, 9, 10, 3, 11, 73, 74, 75, 76, 77, 78, 79, 80, 81, 82, 83, 84, 85, 86, 87, 88, 89, 90, 91, 92, 93, 94, 95, 96, 97, 98, 99] (by decide +kernel) (by decide +kernel)) (goodIn_sub (fun _ h => List.mem_cons_of_mem _ (List.mem_append_left _ (List.mem_append_right _ h))) (by decide +kernel))
set_option maxRecDepth 20000 in
theorem gX9_mute_X9_needStation : GoodIn wsX9_mute (wsV RX9 130 RX9 yX9_needStation wsX9_needStation) := goodIn_app (goodIn_of _ (by decide +kernel)) ggX9_mute_X9_needStation
set_option maxRecDepth 20000 in
theorem ggX9_mute_X9_needMuted : GoodIn wsX9_mute wsX9_needMuted := goodIn_ca (goodIn_r _ [15, 16, 17, 2, 18, 73, 74, 75, 76, 77, 78, 79, 80, 81, 82, 83, 84, 100, 101, 102, 103, 104, 105, 106, 107, 108, 109, 110, 111, 112, 113, 114, 115, 116] (by decide +kernel) (by decide +kernel)) (goodIn_sub (fun _ h => List.mem_cons_of_mem _ (List.mem_append_right _ h)) (by decide +kernel))
set_option maxRecDepth 20000 in
theorem gX9_mute_X9_needMuted : GoodIn wsX9_mute (wsV RX9 278 RX9 yX9_needMuted wsX9_needMuted) := goodIn_app (goodIn_of _ (by decide +kernel)) ggX9_mute_X9_needMuted
set_option maxRecDepth 20000 in
theorem ggX9_mute_X4_remember : GoodIn wsX9_mute wsX4_remember := goodIn_r _ [23, 24, 25, 26, 27, 28, 29, 30, 31, 32, 33, 34, 35, 36, 37, 38, 39, 40, 41, 42, 43, 44, 45, 46, 47, 48, 49, 50, 51, 52, 53, 7, 54, 55, 56, 57, 58, 59, 117, 118, 119, 120, 121, 100, 101, 102, 103, 104, 105, 106, 107, 108, 109, 110, 111, 112, 113, 114, 115, 116] (by decide +kernel) (by decide +kernel)
set_option maxRecDepth 20000 in
theorem gX9_mute_X4_remember : GoodIn wsX9_mute (wsV RX9 293 RX4 yX4_remember wsX4_remember) := goodIn_app (goodIn_of _ (by decide +kernel)) ggX9_mute_X4_remember
set_option maxRecDepth 20000 in
theorem ggX9_mute_X7_silence : GoodIn wsX9_mute wsX7_silence := goodIn_r _ [63, 44, 43, 37, 46, 50, 49, 38, 52, 64, 65, 66, 67, 34, 68, 69, 70, 71, 72, 100, 101, 102, 103, 104, 105, 106, 107, 108, 109, 110, 111, 112, 113, 114, 115, 116, 85, 86, 87, 88, 89, 90, 91, 92, 93, 94, 95, 96, 97, 98, 99] (by decide +kernel) (by decide +kernel)
set_option maxRecDepth 20000 in
theorem gX9_mute_X7_silence : GoodIn wsX9_mute (wsV RX9 285 RX7 yX7_silence wsX7_silence) := goodIn_app (goodIn_of _ (by decide +kernel)) ggX9_mute_X7_silence
theorem dX9_mute_0 : decode cX9_mute 0 = .ok (.aload_n 0, 1) := by decide +kernel
theorem dX9_mute_1 : decode cX9_mute 1 = .ok (.iload_n 1, 1) := by decide +kernel
theorem dX9_mute_2 : decode cX9_mute 2 = .ok (.invokevirtual 130, 3) := by decide +kernel
theorem dX9_mute_5 : decode cX9_mute 5 = .ok (.aload_n 0, 1) := by decide +kernel
theorem dX9_mute_6 : decode cX9_mute 6 = .ok (.iload_n 1, 1) := by decide +kernel
theorem dX9_mute_7 : decode cX9_mute 7 = .ok (.iconst 0, 1) := by decide +kernel
theorem dX9_mute_8 : decode cX9_mute 8 = .ok (.invokevirtual 278, 3) := by decide +kernel
theorem dX9_mute_11 : decode cX9_mute 11 = .ok (.aload_n 0, 1) := by decide +kernel
theorem dX9_mute_12 : decode cX9_mute 12 = .ok (.getfield 50, 3) := by decide +kernel
theorem dX9_mute_15 : decode cX9_mute 15 = .ok (.aload_n 0, 1) := by decide +kernel
theorem dX9_mute_16 : decode cX9_mute 16 = .ok (.getfield 40, 3) := by decide +kernel
theorem dX9_mute_19 : decode cX9_mute 19 = .ok (.invokevirtual 293, 3) := by decide +kernel
theorem dX9_mute_22 : decode cX9_mute 22 = .ok (.aload_n 0, 1) := by decide +kernel
theorem dX9_mute_23 : decode cX9_mute 23 = .ok (.getfield 40, 3) := by decide +kernel
theorem dX9_mute_26 : decode cX9_mute 26 = .ok (.aload_n 0, 1) := by decide +kernel
theorem dX9_mute_27 : decode cX9_mute 27 = .ok (.getfield 30, 3) := by decide +kernel
theorem dX9_mute_30 : decode cX9_mute 30 = .ok (.iload_n 1, 1) := by decide +kernel
theorem dX9_mute_31 : decode cX9_mute 31 = .ok (.invokevirtual 285, 3) := by decide +kernel
theorem dX9_mute_34 : decode cX9_mute 34 = .ok (.ireturn, 1) := by decide +kernel
set_option maxRecDepth 20000 in
theorem ggX9_unmute_X9_needStation : GoodIn wsX9_unmute wsX9_needStation := goodIn_ca (goodIn_r _ [11, 12, 13, 4, 14, 70, 71, 72, 73, 74, 75, 76, 77, 78, 79, 80, 81, 99, 100, 101, 102, 103, 104, 105, 106, 107, 108, 109, 110, 111, 112, 113] (by decide +kernel) (by decide +kernel)) (goodIn_sub (fun _ h => List.mem_cons_of_mem _ (List.mem_append_left _ (List.mem_append_right _ h))) (by decide +kernel))
set_option maxRecDepth 20000 in
theorem gX9_unmute_X9_needStation : GoodIn wsX9_unmute (wsV RX9 130 RX9 yX9_needStation wsX9_needStation) := goodIn_app (goodIn_of _ (by decide +kernel)) ggX9_unmute_X9_needStation
set_option maxRecDepth 20000 in
theorem ggX9_unmute_X9_needMuted : GoodIn wsX9_unmute wsX9_needMuted := goodIn_ca (goodIn_r _ [18, 19, 20, 2, 3, 70, 71, 72, 73, 74, 75, 76, 77, 78, 79, 80, 81, 82, 83, 84, 85, 86, 87, 88, 89, 90, 91, 92, 93, 94, 95, 96, 97, 98] (by decide +kernel) (by decide +kernel)) (goodIn_sub (fun _ h => List.mem_cons_of_mem _ (List.mem_append_right _ h)) (by decide +kernel))
set_option maxRecDepth 20000 in
theorem gX9_unmute_X9_needMuted : GoodIn wsX9_unmute (wsV RX9 278 RX9 yX9_needMuted wsX9_needMuted) := goodIn_app (goodIn_of _ (by decide +kernel)) ggX9_unmute_X9_needMuted
set_option maxRecDepth 20000 in
theorem ggX9_unmute_X4_remember : GoodIn wsX9_unmute wsX4_remember := goodIn_r _ [25, 26, 27, 28, 29, 30, 31, 32, 33, 34, 35, 36, 37, 38, 39, 40, 41, 42, 43, 44, 45, 46, 47, 48, 49, 50, 51, 52, 53, 54, 55, 10, 56, 57, 58, 59, 60, 61, 114, 115, 116, 117, 118, 82, 83, 84, 85, 86, 87, 88, 89, 90, 91, 92, 93, 94, 95, 96, 97, 98] (by decide +kernel) (by decide +kernel)
set_option maxRecDepth 20000 in
theorem gX9_unmute_X4_remember : GoodIn wsX9_unmute (wsV RX9 293 RX4 yX4_remember wsX4_remember) := goodIn_app (goodIn_of _ (by decide +kernel)) ggX9_unmute_X4_remember
set_option maxRecDepth 20000 in
theorem ggX9_unmute_X5_ratioOf : GoodIn wsX9_unmute wsX5_ratioOf := goodIn_r _ [66, 67, 68, 69, 99, 100, 101, 102, 103, 104, 105, 106, 107, 108, 109, 110, 111, 112, 113] (by decide +kernel) (by decide +kernel)
set_option maxRecDepth 20000 in
theorem gX9_unmute_X5_ratioOf : GoodIn wsX9_unmute (wsV RX9 165 RX5 yX5_ratioOf wsX5_ratioOf) := goodIn_app (goodIn_of _ (by decide +kernel)) ggX9_unmute_X5_ratioOf
theorem dX9_unmute_0 : decode cX9_unmute 0 = .ok (.aload_n 0, 1) := by decide +kernel
theorem dX9_unmute_1 : decode cX9_unmute 1 = .ok (.iload_n 1, 1) := by decide +kernel
theorem dX9_unmute_2 : decode cX9_unmute 2 = .ok (.invokevirtual 130, 3) := by decide +kernel
theorem dX9_unmute_5 : decode cX9_unmute 5 = .ok (.aload_n 0, 1) := by decide +kernel
theorem dX9_unmute_6 : decode cX9_unmute 6 = .ok (.iload_n 1, 1) := by decide +kernel
theorem dX9_unmute_7 : decode cX9_unmute 7 = .ok (.iconst 1, 1) := by decide +kernel
theorem dX9_unmute_8 : decode cX9_unmute 8 = .ok (.invokevirtual 278, 3) := by decide +kernel
theorem dX9_unmute_11 : decode cX9_unmute 11 = .ok (.aload_n 0, 1) := by decide +kernel
theorem dX9_unmute_12 : decode cX9_unmute 12 = .ok (.getfield 50, 3) := by decide +kernel
theorem dX9_unmute_15 : decode cX9_unmute 15 = .ok (.aload_n 0, 1) := by decide +kernel
theorem dX9_unmute_16 : decode cX9_unmute 16 = .ok (.getfield 40, 3) := by decide +kernel
theorem dX9_unmute_19 : decode cX9_unmute 19 = .ok (.invokevirtual 293, 3) := by decide +kernel
theorem dX9_unmute_22 : decode cX9_unmute 22 = .ok (.aload_n 0, 1) := by decide +kernel
theorem dX9_unmute_23 : decode cX9_unmute 23 = .ok (.getfield 40, 3) := by decide +kernel
theorem dX9_unmute_26 : decode cX9_unmute 26 = .ok (.getfield 171, 3) := by decide +kernel
theorem dX9_unmute_29 : decode cX9_unmute 29 = .ok (.iload_n 1, 1) := by decide +kernel
theorem dX9_unmute_30 : decode cX9_unmute 30 = .ok (.iconst 0, 1) := by decide +kernel
theorem dX9_unmute_31 : decode cX9_unmute 31 = .ok (.iastore, 1) := by decide +kernel
theorem dX9_unmute_32 : decode cX9_unmute 32 = .ok (.aload_n 0, 1) := by decide +kernel
theorem dX9_unmute_33 : decode cX9_unmute 33 = .ok (.getfield 30, 3) := by decide +kernel
theorem dX9_unmute_36 : decode cX9_unmute 36 = .ok (.aload_n 0, 1) := by decide +kernel
theorem dX9_unmute_37 : decode cX9_unmute 37 = .ok (.getfield 40, 3) := by decide +kernel
theorem dX9_unmute_40 : decode cX9_unmute 40 = .ok (.getfield 159, 3) := by decide +kernel
theorem dX9_unmute_43 : decode cX9_unmute 43 = .ok (.iload_n 1, 1) := by decide +kernel
theorem dX9_unmute_44 : decode cX9_unmute 44 = .ok (.iaload, 1) := by decide +kernel
theorem dX9_unmute_45 : decode cX9_unmute 45 = .ok (.aload_n 0, 1) := by decide +kernel
theorem dX9_unmute_46 : decode cX9_unmute 46 = .ok (.getfield 40, 3) := by decide +kernel
theorem dX9_unmute_49 : decode cX9_unmute 49 = .ok (.getfield 162, 3) := by decide +kernel
theorem dX9_unmute_52 : decode cX9_unmute 52 = .ok (.iload_n 1, 1) := by decide +kernel
theorem dX9_unmute_53 : decode cX9_unmute 53 = .ok (.iaload, 1) := by decide +kernel
theorem dX9_unmute_54 : decode cX9_unmute 54 = .ok (.invokevirtual 165, 3) := by decide +kernel
theorem dX9_unmute_57 : decode cX9_unmute 57 = .ok (.ireturn, 1) := by decide +kernel
set_option maxRecDepth 20000 in
theorem ggX9_retract_X9_needEvent : GoodIn wsX9_retract wsX9_needEvent := goodIn_ca (goodIn_r _ [7, 8, 9, 2, 10, 67, 68, 69, 70, 71, 72, 73, 74, 75, 76, 77, 78, 79, 80, 81, 82, 83, 84, 85, 86, 87, 88, 89, 90, 91, 92, 93, 94, 95] (by decide +kernel) (by decide +kernel)) (goodIn_sub (fun _ h => List.mem_cons_of_mem _ (List.mem_append_left _ (List.mem_append_right _ h))) (by decide +kernel))
set_option maxRecDepth 20000 in
theorem gX9_retract_X9_needEvent : GoodIn wsX9_retract (wsV RX9 203 RX9 yX9_needEvent wsX9_needEvent) := goodIn_app (goodIn_of _ (by decide +kernel)) ggX9_retract_X9_needEvent
set_option maxRecDepth 20000 in
theorem ggX9_retract_X9_needStanding : GoodIn wsX9_retract wsX9_needStanding := goodIn_ca (goodIn_r _ [14, 15, 16, 2, 17, 67, 68, 69, 70, 71, 72, 73, 74, 75, 76, 77, 78, 79, 80, 81, 82, 83, 84, 85, 86, 87, 88, 89, 90, 91, 92, 93, 94, 95] (by decide +kernel) (by decide +kernel)) (goodIn_sub (fun _ h => List.mem_cons_of_mem _ (List.mem_append_right _ h)) (by decide +kernel))
set_option maxRecDepth 20000 in
theorem gX9_retract_X9_needStanding : GoodIn wsX9_retract (wsV RX9 223 RX9 yX9_needStanding wsX9_needStanding) := goodIn_app (goodIn_of _ (by decide +kernel)) ggX9_retract_X9_needStanding
set_option maxRecDepth 20000 in
theorem ggX9_retract_X4_remember : GoodIn wsX9_retract wsX4_remember := goodIn_r _ [22, 23, 24, 25, 26, 27, 28, 29, 30, 31, 32, 33, 34, 35, 36, 37, 38, 39, 40, 41, 42, 43, 44, 45, 46, 47, 48, 49, 50, 51, 52, 6, 53, 54, 55, 56, 57, 58, 96, 97, 98, 99, 100, 79, 80, 81, 82, 83, 84, 85, 86, 87, 88, 89, 90, 91, 92, 93, 94, 95] (by decide +kernel) (by decide +kernel)
set_option maxRecDepth 20000 in
theorem gX9_retract_X4_remember : GoodIn wsX9_retract (wsV RX9 293 RX4 yX4_remember wsX4_remember) := goodIn_app (goodIn_of _ (by decide +kernel)) ggX9_retract_X4_remember
set_option maxRecDepth 20000 in
theorem ggX9_retract_X7_picksOf : GoodIn wsX9_retract wsX7_picksOf := goodIn_r _ [62, 36, 48, 79, 80, 81, 82, 83, 84, 85, 86, 87, 88, 89, 90, 91, 92, 93, 94, 95] (by decide +kernel) (by decide +kernel)
set_option maxRecDepth 20000 in
theorem gX9_retract_X7_picksOf : GoodIn wsX9_retract (wsV RX9 209 RX7 yX7_picksOf wsX7_picksOf) := goodIn_app (goodIn_of _ (by decide +kernel)) ggX9_retract_X7_picksOf
set_option maxRecDepth 20000 in
theorem ggX9_retract_X7_withdraw : GoodIn wsX9_retract wsX7_withdraw := goodIn_r _ [66, 51, 36, 48, 79, 80, 81, 82, 83, 84, 85, 86, 87, 88, 89, 90, 91, 92, 93, 94, 95] (by decide +kernel) (by decide +kernel)
set_option maxRecDepth 20000 in
theorem gX9_retract_X7_withdraw : GoodIn wsX9_retract (wsV RX9 301 RX7 yX7_withdraw wsX7_withdraw) := goodIn_app (goodIn_of _ (by decide +kernel)) ggX9_retract_X7_withdraw
theorem dX9_retract_0 : decode cX9_retract 0 = .ok (.aload_n 0, 1) := by decide +kernel
theorem dX9_retract_1 : decode cX9_retract 1 = .ok (.iload_n 1, 1) := by decide +kernel
theorem dX9_retract_2 : decode cX9_retract 2 = .ok (.invokevirtual 203, 3) := by decide +kernel
theorem dX9_retract_5 : decode cX9_retract 5 = .ok (.aload_n 0, 1) := by decide +kernel
theorem dX9_retract_6 : decode cX9_retract 6 = .ok (.iload_n 1, 1) := by decide +kernel
theorem dX9_retract_7 : decode cX9_retract 7 = .ok (.invokevirtual 223, 3) := by decide +kernel
theorem dX9_retract_10 : decode cX9_retract 10 = .ok (.aload_n 0, 1) := by decide +kernel
theorem dX9_retract_11 : decode cX9_retract 11 = .ok (.getfield 50, 3) := by decide +kernel
theorem dX9_retract_14 : decode cX9_retract 14 = .ok (.aload_n 0, 1) := by decide +kernel
theorem dX9_retract_15 : decode cX9_retract 15 = .ok (.getfield 40, 3) := by decide +kernel
theorem dX9_retract_18 : decode cX9_retract 18 = .ok (.invokevirtual 293, 3) := by decide +kernel
theorem dX9_retract_21 : decode cX9_retract 21 = .ok (.aload_n 0, 1) := by decide +kernel
theorem dX9_retract_22 : decode cX9_retract 22 = .ok (.getfield 40, 3) := by decide +kernel
theorem dX9_retract_25 : decode cX9_retract 25 = .ok (.iload_n 1, 1) := by decide +kernel
theorem dX9_retract_26 : decode cX9_retract 26 = .ok (.invokevirtual 209, 3) := by decide +kernel
theorem dX9_retract_29 : decode cX9_retract 29 = .ok (.istore_n 2, 1) := by decide +kernel
theorem dX9_retract_30 : decode cX9_retract 30 = .ok (.aload_n 0, 1) := by decide +kernel
theorem dX9_retract_31 : decode cX9_retract 31 = .ok (.getfield 40, 3) := by decide +kernel
theorem dX9_retract_34 : decode cX9_retract 34 = .ok (.iload_n 1, 1) := by decide +kernel
theorem dX9_retract_35 : decode cX9_retract 35 = .ok (.invokevirtual 301, 3) := by decide +kernel
theorem dX9_retract_38 : decode cX9_retract 38 = .ok (.iload_n 2, 1) := by decide +kernel
theorem dX9_retract_39 : decode cX9_retract 39 = .ok (.ireturn, 1) := by decide +kernel
theorem dX9_appendWord_0 : decode cX9_appendWord 0 = .ok (.bipush 24, 2) := by decide +kernel
theorem dX9_appendWord_2 : decode cX9_appendWord 2 = .ok (.istore_n 2, 1) := by decide +kernel
theorem dX9_appendWord_3 : decode cX9_appendWord 3 = .ok (.iload_n 2, 1) := by decide +kernel
theorem dX9_appendWord_4 : decode cX9_appendWord 4 = .ok (.ifCond .lt 47, 3) := by decide +kernel
theorem dX9_appendWord_7 : decode cX9_appendWord 7 = .ok (.aload_n 0, 1) := by decide +kernel
theorem dX9_appendWord_8 : decode cX9_appendWord 8 = .ok (.getfield 13, 3) := by decide +kernel
theorem dX9_appendWord_11 : decode cX9_appendWord 11 = .ok (.aload_n 0, 1) := by decide +kernel
theorem dX9_appendWord_12 : decode cX9_appendWord 12 = .ok (.getfield 9, 3) := by decide +kernel
theorem dX9_appendWord_15 : decode cX9_appendWord 15 = .ok (.arraylength, 1) := by decide +kernel
theorem dX9_appendWord_16 : decode cX9_appendWord 16 = .ok (.if_icmp .ge 29, 3) := by decide +kernel
theorem dX9_appendWord_19 : decode cX9_appendWord 19 = .ok (.aload_n 0, 1) := by decide +kernel
theorem dX9_appendWord_20 : decode cX9_appendWord 20 = .ok (.getfield 9, 3) := by decide +kernel
theorem dX9_appendWord_23 : decode cX9_appendWord 23 = .ok (.aload_n 0, 1) := by decide +kernel
theorem dX9_appendWord_24 : decode cX9_appendWord 24 = .ok (.getfield 13, 3) := by decide +kernel
theorem dX9_appendWord_27 : decode cX9_appendWord 27 = .ok (.iload_n 1, 1) := by decide +kernel
theorem dX9_appendWord_28 : decode cX9_appendWord 28 = .ok (.iload_n 2, 1) := by decide +kernel
theorem dX9_appendWord_29 : decode cX9_appendWord 29 = .ok (.ishr, 1) := by decide +kernel
theorem dX9_appendWord_30 : decode cX9_appendWord 30 = .ok (.sipush 255, 3) := by decide +kernel
theorem dX9_appendWord_33 : decode cX9_appendWord 33 = .ok (.iand, 1) := by decide +kernel
theorem dX9_appendWord_34 : decode cX9_appendWord 34 = .ok (.iastore, 1) := by decide +kernel
theorem dX9_appendWord_35 : decode cX9_appendWord 35 = .ok (.aload_n 0, 1) := by decide +kernel
theorem dX9_appendWord_36 : decode cX9_appendWord 36 = .ok (.dup, 1) := by decide +kernel
theorem dX9_appendWord_37 : decode cX9_appendWord 37 = .ok (.getfield 13, 3) := by decide +kernel
theorem dX9_appendWord_40 : decode cX9_appendWord 40 = .ok (.iconst 1, 1) := by decide +kernel
theorem dX9_appendWord_41 : decode cX9_appendWord 41 = .ok (.iadd, 1) := by decide +kernel
theorem dX9_appendWord_42 : decode cX9_appendWord 42 = .ok (.putfield 13, 3) := by decide +kernel
theorem dX9_appendWord_45 : decode cX9_appendWord 45 = .ok (.iinc 2 (-8), 3) := by decide +kernel
theorem dX9_appendWord_48 : decode cX9_appendWord 48 = .ok (.goto (-45), 3) := by decide +kernel
theorem dX9_appendWord_51 : decode cX9_appendWord 51 = .ok (.return_, 1) := by decide +kernel
set_option maxRecDepth 20000 in
theorem ggX9_adoptSpare_X7_clear : GoodIn wsX9_adoptSpare wsX7_clear := goodIn_r _ [9, 10, 11, 12, 13, 14, 15, 16, 17, 18, 19, 20, 21, 22, 23, 43, 44, 45, 46, 47, 48, 49, 50, 51, 52, 53, 54, 55, 56, 57, 58, 59] (by decide +kernel) (by decide +kernel)
set_option maxRecDepth 20000 in
theorem gX9_adoptSpare_X7_clear : GoodIn wsX9_adoptSpare (wsV RX9 325 RX7 yX7_clear wsX7_clear) := goodIn_app (goodIn_of _ (by decide +kernel)) ggX9_adoptSpare_X7_clear
set_option maxRecDepth 20000 in
theorem ggX9_adoptSpare_X4_forget : GoodIn wsX9_adoptSpare wsX4_forget := goodIn_r _ [28, 29, 30, 60, 61, 62, 63, 64] (by decide +kernel) (by decide +kernel)
set_option maxRecDepth 20000 in
theorem gX9_adoptSpare_X4_forget : GoodIn wsX9_adoptSpare (wsV RX9 328 RX4 yX4_forget wsX4_forget) := goodIn_app (goodIn_of _ (by decide +kernel)) ggX9_adoptSpare_X4_forget
theorem dX9_adoptSpare_0 : decode cX9_adoptSpare 0 = .ok (.aload_n 0, 1) := by decide +kernel
theorem dX9_adoptSpare_1 : decode cX9_adoptSpare 1 = .ok (.getfield 34, 3) := by decide +kernel
theorem dX9_adoptSpare_4 : decode cX9_adoptSpare 4 = .ok (.astore_n 1, 1) := by decide +kernel
theorem dX9_adoptSpare_5 : decode cX9_adoptSpare 5 = .ok (.aload_n 0, 1) := by decide +kernel
theorem dX9_adoptSpare_6 : decode cX9_adoptSpare 6 = .ok (.aload_n 0, 1) := by decide +kernel
theorem dX9_adoptSpare_7 : decode cX9_adoptSpare 7 = .ok (.getfield 30, 3) := by decide +kernel
theorem dX9_adoptSpare_10 : decode cX9_adoptSpare 10 = .ok (.putfield 34, 3) := by decide +kernel
theorem dX9_adoptSpare_13 : decode cX9_adoptSpare 13 = .ok (.aload_n 0, 1) := by decide +kernel
theorem dX9_adoptSpare_14 : decode cX9_adoptSpare 14 = .ok (.aload_n 1, 1) := by decide +kernel
theorem dX9_adoptSpare_15 : decode cX9_adoptSpare 15 = .ok (.putfield 30, 3) := by decide +kernel
theorem dX9_adoptSpare_18 : decode cX9_adoptSpare 18 = .ok (.aload_n 0, 1) := by decide +kernel
theorem dX9_adoptSpare_19 : decode cX9_adoptSpare 19 = .ok (.getfield 40, 3) := by decide +kernel
theorem dX9_adoptSpare_22 : decode cX9_adoptSpare 22 = .ok (.invokevirtual 325, 3) := by decide +kernel
theorem dX9_adoptSpare_25 : decode cX9_adoptSpare 25 = .ok (.aload_n 0, 1) := by decide +kernel
theorem dX9_adoptSpare_26 : decode cX9_adoptSpare 26 = .ok (.getfield 50, 3) := by decide +kernel
theorem dX9_adoptSpare_29 : decode cX9_adoptSpare 29 = .ok (.invokevirtual 328, 3) := by decide +kernel
theorem dX9_adoptSpare_32 : decode cX9_adoptSpare 32 = .ok (.return_, 1) := by decide +kernel
set_option maxRecDepth 20000 in
theorem ggX9_located_X3_locate : GoodIn wsX9_located wsX3_locate := goodIn_r _ [11, 12, 13, 14, 15, 16, 10, 17, 18, 19, 20, 21, 22, 23, 24, 25, 26, 27, 28, 29, 30, 31, 32, 33, 34, 35, 36, 37, 38, 39, 40, 41, 42, 43, 44, 45, 46, 47, 48, 49, 50, 51, 52, 53, 54, 55, 56, 57, 58, 59, 97, 98, 99, 100, 101, 102, 103, 104, 105, 106, 107, 108, 109, 110, 111, 112, 113, 114, 115, 116, 117, 118, 119, 120, 121, 122, 123, 124, 125, 126, 127, 128, 129, 130, 131, 132, 133, 134, 135, 136, 137, 138, 139] (by decide +kernel) (by decide +kernel)
set_option maxRecDepth 20000 in
theorem gX9_located_X3_locate : GoodIn wsX9_located (wsV RX9 331 RX3 yX3_locate wsX3_locate) := goodIn_app (goodIn_of _ (by decide +kernel)) ggX9_located_X3_locate
set_option maxRecDepth 20000 in
theorem ggX9_located_X3_magnitude : GoodIn wsX9_located wsX3_magnitude := goodIn_r _ [63, 18, 21, 64, 65, 66, 67, 10, 68, 26, 37, 69, 70, 71, 72, 44, 45, 41, 46, 47, 73, 74, 75, 76, 77, 78, 79, 80, 81, 82, 83, 84, 97, 98, 99, 100, 101, 102, 118, 119, 120, 121, 122, 123, 124, 125, 126, 127, 128, 129, 130, 131, 132, 133, 134, 103, 104, 105, 106, 107, 108, 109, 110, 111, 112, 113, 114, 115, 116, 117, 140, 141, 142] (by decide +kernel) (by decide +kernel)
set_option maxRecDepth 20000 in
theorem gX9_located_X3_magnitude : GoodIn wsX9_located (wsV RX9 340 RX3 yX3_magnitude wsX3_magnitude) := goodIn_app (goodIn_of _ (by decide +kernel)) ggX9_located_X3_magnitude
theorem dX9_located_0 : decode cX9_located 0 = .ok (.aload_n 0, 1) := by decide +kernel
theorem dX9_located_1 : decode cX9_located 1 = .ok (.getfield 64, 3) := by decide +kernel
theorem dX9_located_4 : decode cX9_located 4 = .ok (.aload_n 0, 1) := by decide +kernel
theorem dX9_located_5 : decode cX9_located 5 = .ok (.getfield 30, 3) := by decide +kernel
theorem dX9_located_8 : decode cX9_located 8 = .ok (.aload_n 0, 1) := by decide +kernel
theorem dX9_located_9 : decode cX9_located 9 = .ok (.getfield 40, 3) := by decide +kernel
theorem dX9_located_12 : decode cX9_located 12 = .ok (.iload_n 1, 1) := by decide +kernel
theorem dX9_located_13 : decode cX9_located 13 = .ok (.invokevirtual 331, 3) := by decide +kernel
theorem dX9_located_16 : decode cX9_located 16 = .ok (.iload_n 2, 1) := by decide +kernel
theorem dX9_located_17 : decode cX9_located 17 = .ok (.tableswitch 51 3 5 #[27, 35, 43], 27) := by decide +kernel
theorem dX9_located_44 : decode cX9_located 44 = .ok (.aload_n 0, 1) := by decide +kernel
theorem dX9_located_45 : decode cX9_located 45 = .ok (.getfield 64, 3) := by decide +kernel
theorem dX9_located_48 : decode cX9_located 48 = .ok (.getfield 334, 3) := by decide +kernel
theorem dX9_located_51 : decode cX9_located 51 = .ok (.ireturn, 1) := by decide +kernel
theorem dX9_located_52 : decode cX9_located 52 = .ok (.aload_n 0, 1) := by decide +kernel
theorem dX9_located_53 : decode cX9_located 53 = .ok (.getfield 64, 3) := by decide +kernel
theorem dX9_located_56 : decode cX9_located 56 = .ok (.getfield 337, 3) := by decide +kernel
theorem dX9_located_59 : decode cX9_located 59 = .ok (.ireturn, 1) := by decide +kernel
theorem dX9_located_60 : decode cX9_located 60 = .ok (.aload_n 0, 1) := by decide +kernel
theorem dX9_located_61 : decode cX9_located 61 = .ok (.getfield 64, 3) := by decide +kernel
theorem dX9_located_64 : decode cX9_located 64 = .ok (.getfield 234, 3) := by decide +kernel
theorem dX9_located_67 : decode cX9_located 67 = .ok (.ireturn, 1) := by decide +kernel
theorem dX9_located_68 : decode cX9_located 68 = .ok (.aload_n 0, 1) := by decide +kernel
theorem dX9_located_69 : decode cX9_located 69 = .ok (.getfield 64, 3) := by decide +kernel
theorem dX9_located_72 : decode cX9_located 72 = .ok (.aload_n 0, 1) := by decide +kernel
theorem dX9_located_73 : decode cX9_located 73 = .ok (.getfield 30, 3) := by decide +kernel
theorem dX9_located_76 : decode cX9_located 76 = .ok (.aload_n 0, 1) := by decide +kernel
theorem dX9_located_77 : decode cX9_located 77 = .ok (.getfield 40, 3) := by decide +kernel
theorem dX9_located_80 : decode cX9_located 80 = .ok (.invokevirtual 340, 3) := by decide +kernel
theorem dX9_located_83 : decode cX9_located 83 = .ok (.ireturn, 1) := by decide +kernel
theorem dX9_needStation_0 : decode cX9_needStation 0 = .ok (.iload_n 1, 1) := by decide +kernel
theorem dX9_needStation_1 : decode cX9_needStation 1 = .ok (.ifCond .lt 14, 3) := by decide +kernel
theorem dX9_needStation_4 : decode cX9_needStation 4 = .ok (.iload_n 1, 1) := by decide +kernel
theorem dX9_needStation_5 : decode cX9_needStation 5 = .ok (.aload_n 0, 1) := by decide +kernel
theorem dX9_needStation_6 : decode cX9_needStation 6 = .ok (.getfield 30, 3) := by decide +kernel
theorem dX9_needStation_9 : decode cX9_needStation 9 = .ok (.getfield 94, 3) := by decide +kernel
theorem dX9_needStation_12 : decode cX9_needStation 12 = .ok (.if_icmp .lt 14, 3) := by decide +kernel
theorem dX9_needStation_15 : decode cX9_needStation 15 = .ok (.new 362, 3) := by decide +kernel
theorem dX9_needStation_18 : decode cX9_needStation 18 = .ok (.dup, 1) := by decide +kernel
theorem dX9_needStation_19 : decode cX9_needStation 19 = .ok (.ldc_w 364, 3) := by decide +kernel
theorem dX9_needStation_22 : decode cX9_needStation 22 = .ok (.invokespecial 366, 3) := by decide +kernel
theorem dX9_needStation_25 : decode cX9_needStation 25 = .ok (.athrow, 1) := by decide +kernel
theorem dX9_needStation_26 : decode cX9_needStation 26 = .ok (.return_, 1) := by decide +kernel
set_option maxRecDepth 20000 in
theorem ggX9_needNode_X2_nodeCount : GoodIn wsX9_needNode wsX2_nodeCount := goodIn_r _ [9, 10, 11, 39, 40, 41, 42, 43] (by decide +kernel) (by decide +kernel)
set_option maxRecDepth 20000 in
theorem gX9_needNode_X2_nodeCount : GoodIn wsX9_needNode (wsV RX9 101 RX2 yX2_nodeCount wsX2_nodeCount) := goodIn_app (goodIn_of _ (by decide +kernel)) ggX9_needNode_X2_nodeCount
theorem dX9_needNode_0 : decode cX9_needNode 0 = .ok (.iload_n 1, 1) := by decide +kernel
theorem dX9_needNode_1 : decode cX9_needNode 1 = .ok (.ifCond .lt 17, 3) := by decide +kernel
theorem dX9_needNode_4 : decode cX9_needNode 4 = .ok (.iload_n 1, 1) := by decide +kernel
theorem dX9_needNode_5 : decode cX9_needNode 5 = .ok (.aload_n 0, 1) := by decide +kernel
theorem dX9_needNode_6 : decode cX9_needNode 6 = .ok (.getfield 30, 3) := by decide +kernel
theorem dX9_needNode_9 : decode cX9_needNode 9 = .ok (.getfield 97, 3) := by decide +kernel
theorem dX9_needNode_12 : decode cX9_needNode 12 = .ok (.invokevirtual 101, 3) := by decide +kernel
theorem dX9_needNode_15 : decode cX9_needNode 15 = .ok (.if_icmp .lt 14, 3) := by decide +kernel
theorem dX9_needNode_18 : decode cX9_needNode 18 = .ok (.new 362, 3) := by decide +kernel
theorem dX9_needNode_21 : decode cX9_needNode 21 = .ok (.dup, 1) := by decide +kernel
theorem dX9_needNode_22 : decode cX9_needNode 22 = .ok (.ldc_w 367, 3) := by decide +kernel
theorem dX9_needNode_25 : decode cX9_needNode 25 = .ok (.invokespecial 366, 3) := by decide +kernel
theorem dX9_needNode_28 : decode cX9_needNode 28 = .ok (.athrow, 1) := by decide +kernel
theorem dX9_needNode_29 : decode cX9_needNode 29 = .ok (.return_, 1) := by decide +kernel
theorem dX9_needPick_0 : decode cX9_needPick 0 = .ok (.iload_n 1, 1) := by decide +kernel
theorem dX9_needPick_1 : decode cX9_needPick 1 = .ok (.ifCond .lt 14, 3) := by decide +kernel
theorem dX9_needPick_4 : decode cX9_needPick 4 = .ok (.iload_n 1, 1) := by decide +kernel
theorem dX9_needPick_5 : decode cX9_needPick 5 = .ok (.aload_n 0, 1) := by decide +kernel
theorem dX9_needPick_6 : decode cX9_needPick 6 = .ok (.getfield 40, 3) := by decide +kernel
theorem dX9_needPick_9 : decode cX9_needPick 9 = .ok (.getfield 116, 3) := by decide +kernel
theorem dX9_needPick_12 : decode cX9_needPick 12 = .ok (.if_icmp .lt 14, 3) := by decide +kernel
theorem dX9_needPick_15 : decode cX9_needPick 15 = .ok (.new 362, 3) := by decide +kernel
theorem dX9_needPick_18 : decode cX9_needPick 18 = .ok (.dup, 1) := by decide +kernel
theorem dX9_needPick_19 : decode cX9_needPick 19 = .ok (.ldc_w 369, 3) := by decide +kernel
theorem dX9_needPick_22 : decode cX9_needPick 22 = .ok (.invokespecial 366, 3) := by decide +kernel
theorem dX9_needPick_25 : decode cX9_needPick 25 = .ok (.athrow, 1) := by decide +kernel
theorem dX9_needPick_26 : decode cX9_needPick 26 = .ok (.return_, 1) := by decide +kernel
theorem dX9_needEvent_0 : decode cX9_needEvent 0 = .ok (.iload_n 1, 1) := by decide +kernel
theorem dX9_needEvent_1 : decode cX9_needEvent 1 = .ok (.ifCond .lt 14, 3) := by decide +kernel
theorem dX9_needEvent_4 : decode cX9_needEvent 4 = .ok (.iload_n 1, 1) := by decide +kernel
theorem dX9_needEvent_5 : decode cX9_needEvent 5 = .ok (.aload_n 0, 1) := by decide +kernel
theorem dX9_needEvent_6 : decode cX9_needEvent 6 = .ok (.getfield 40, 3) := by decide +kernel
theorem dX9_needEvent_9 : decode cX9_needEvent 9 = .ok (.getfield 119, 3) := by decide +kernel
theorem dX9_needEvent_12 : decode cX9_needEvent 12 = .ok (.if_icmp .lt 14, 3) := by decide +kernel
theorem dX9_needEvent_15 : decode cX9_needEvent 15 = .ok (.new 362, 3) := by decide +kernel
theorem dX9_needEvent_18 : decode cX9_needEvent 18 = .ok (.dup, 1) := by decide +kernel
theorem dX9_needEvent_19 : decode cX9_needEvent 19 = .ok (.ldc_w 371, 3) := by decide +kernel
theorem dX9_needEvent_22 : decode cX9_needEvent 22 = .ok (.invokespecial 366, 3) := by decide +kernel
theorem dX9_needEvent_25 : decode cX9_needEvent 25 = .ok (.athrow, 1) := by decide +kernel
theorem dX9_needEvent_26 : decode cX9_needEvent 26 = .ok (.return_, 1) := by decide +kernel
theorem dX9_needLevel_0 : decode cX9_needLevel 0 = .ok (.iload_n 1, 1) := by decide +kernel
theorem dX9_needLevel_1 : decode cX9_needLevel 1 = .ok (.ifCond .lt 10, 3) := by decide +kernel
theorem dX9_needLevel_4 : decode cX9_needLevel 4 = .ok (.iload_n 1, 1) := by decide +kernel
theorem dX9_needLevel_5 : decode cX9_needLevel 5 = .ok (.sipush 9999, 3) := by decide +kernel
theorem dX9_needLevel_8 : decode cX9_needLevel 8 = .ok (.if_icmp .le 14, 3) := by decide +kernel
theorem dX9_needLevel_11 : decode cX9_needLevel 11 = .ok (.new 79, 3) := by decide +kernel
theorem dX9_needLevel_14 : decode cX9_needLevel 14 = .ok (.dup, 1) := by decide +kernel
theorem dX9_needLevel_15 : decode cX9_needLevel 15 = .ok (.ldc_w 375, 3) := by decide +kernel
theorem dX9_needLevel_18 : decode cX9_needLevel 18 = .ok (.invokespecial 83, 3) := by decide +kernel
theorem dX9_needLevel_21 : decode cX9_needLevel 21 = .ok (.athrow, 1) := by decide +kernel
theorem dX9_needLevel_22 : decode cX9_needLevel 22 = .ok (.return_, 1) := by decide +kernel
theorem dX9_needTicks_0 : decode cX9_needTicks 0 = .ok (.iload_n 2, 1) := by decide +kernel
theorem dX9_needTicks_1 : decode cX9_needTicks 1 = .ok (.iload_n 1, 1) := by decide +kernel
theorem dX9_needTicks_2 : decode cX9_needTicks 2 = .ok (.if_icmp .lt 10, 3) := by decide +kernel
theorem dX9_needTicks_5 : decode cX9_needTicks 5 = .ok (.iload_n 2, 1) := by decide +kernel
theorem dX9_needTicks_6 : decode cX9_needTicks 6 = .ok (.sipush 200, 3) := by decide +kernel
theorem dX9_needTicks_9 : decode cX9_needTicks 9 = .ok (.if_icmp .le 14, 3) := by decide +kernel
theorem dX9_needTicks_12 : decode cX9_needTicks 12 = .ok (.new 79, 3) := by decide +kernel
theorem dX9_needTicks_15 : decode cX9_needTicks 15 = .ok (.dup, 1) := by decide +kernel
theorem dX9_needTicks_16 : decode cX9_needTicks 16 = .ok (.ldc_w 377, 3) := by decide +kernel
theorem dX9_needTicks_19 : decode cX9_needTicks 19 = .ok (.invokespecial 83, 3) := by decide +kernel
theorem dX9_needTicks_22 : decode cX9_needTicks 22 = .ok (.athrow, 1) := by decide +kernel
theorem dX9_needTicks_23 : decode cX9_needTicks 23 = .ok (.return_, 1) := by decide +kernel
theorem dX9_needMuted_0 : decode cX9_needMuted 0 = .ok (.aload_n 0, 1) := by decide +kernel
theorem dX9_needMuted_1 : decode cX9_needMuted 1 = .ok (.getfield 40, 3) := by decide +kernel
theorem dX9_needMuted_4 : decode cX9_needMuted 4 = .ok (.getfield 171, 3) := by decide +kernel
theorem dX9_needMuted_7 : decode cX9_needMuted 7 = .ok (.iload_n 1, 1) := by decide +kernel
theorem dX9_needMuted_8 : decode cX9_needMuted 8 = .ok (.iaload, 1) := by decide +kernel
theorem dX9_needMuted_9 : decode cX9_needMuted 9 = .ok (.iload_n 2, 1) := by decide +kernel
theorem dX9_needMuted_10 : decode cX9_needMuted 10 = .ok (.if_icmp .eq 14, 3) := by decide +kernel
theorem dX9_needMuted_13 : decode cX9_needMuted 13 = .ok (.new 296, 3) := by decide +kernel
theorem dX9_needMuted_16 : decode cX9_needMuted 16 = .ok (.dup, 1) := by decide +kernel
theorem dX9_needMuted_17 : decode cX9_needMuted 17 = .ok (.ldc_w 379, 3) := by decide +kernel
theorem dX9_needMuted_20 : decode cX9_needMuted 20 = .ok (.invokespecial 300, 3) := by decide +kernel
theorem dX9_needMuted_23 : decode cX9_needMuted 23 = .ok (.athrow, 1) := by decide +kernel
theorem dX9_needMuted_24 : decode cX9_needMuted 24 = .ok (.return_, 1) := by decide +kernel
theorem dX9_needStanding_0 : decode cX9_needStanding 0 = .ok (.aload_n 0, 1) := by decide +kernel
theorem dX9_needStanding_1 : decode cX9_needStanding 1 = .ok (.getfield 40, 3) := by decide +kernel
theorem dX9_needStanding_4 : decode cX9_needStanding 4 = .ok (.getfield 206, 3) := by decide +kernel
theorem dX9_needStanding_7 : decode cX9_needStanding 7 = .ok (.iload_n 1, 1) := by decide +kernel
theorem dX9_needStanding_8 : decode cX9_needStanding 8 = .ok (.iaload, 1) := by decide +kernel
theorem dX9_needStanding_9 : decode cX9_needStanding 9 = .ok (.iconst 1, 1) := by decide +kernel
theorem dX9_needStanding_10 : decode cX9_needStanding 10 = .ok (.if_icmp .ne 14, 3) := by decide +kernel
theorem dX9_needStanding_13 : decode cX9_needStanding 13 = .ok (.new 296, 3) := by decide +kernel
theorem dX9_needStanding_16 : decode cX9_needStanding 16 = .ok (.dup, 1) := by decide +kernel
theorem dX9_needStanding_17 : decode cX9_needStanding 17 = .ok (.ldc_w 381, 3) := by decide +kernel
theorem dX9_needStanding_20 : decode cX9_needStanding 20 = .ok (.invokespecial 300, 3) := by decide +kernel
theorem dX9_needStanding_23 : decode cX9_needStanding 23 = .ok (.athrow, 1) := by decide +kernel
theorem dX9_needStanding_24 : decode cX9_needStanding 24 = .ok (.return_, 1) := by decide +kernel
theorem dX9_root_0 : decode cX9_root 0 = .ok (.iconst 0, 1) := by decide +kernel
theorem dX9_root_1 : decode cX9_root 1 = .ok (.istore_n 1, 1) := by decide +kernel
theorem dX9_root_2 : decode cX9_root 2 = .ok (.bipush 11, 2) := by decide +kernel
theorem dX9_root_4 : decode cX9_root 4 = .ok (.istore_n 2, 1) := by decide +kernel
theorem dX9_root_5 : decode cX9_root 5 = .ok (.iload_n 2, 1) := by decide +kernel
theorem dX9_root_6 : decode cX9_root 6 = .ok (.ifCond .lt 24, 3) := by decide +kernel
theorem dX9_root_9 : decode cX9_root 9 = .ok (.iload_n 1, 1) := by decide +kernel
theorem dX9_root_10 : decode cX9_root 10 = .ok (.iconst 1, 1) := by decide +kernel
theorem dX9_root_11 : decode cX9_root 11 = .ok (.iload_n 2, 1) := by decide +kernel
theorem dX9_root_12 : decode cX9_root 12 = .ok (.ishl, 1) := by decide +kernel
theorem dX9_root_13 : decode cX9_root 13 = .ok (.iadd, 1) := by decide +kernel
theorem dX9_root_14 : decode cX9_root 14 = .ok (.istore_n 3, 1) := by decide +kernel
theorem dX9_root_15 : decode cX9_root 15 = .ok (.iload_n 3, 1) := by decide +kernel
theorem dX9_root_16 : decode cX9_root 16 = .ok (.iload_n 3, 1) := by decide +kernel
theorem dX9_root_17 : decode cX9_root 17 = .ok (.imul, 1) := by decide +kernel
theorem dX9_root_18 : decode cX9_root 18 = .ok (.iload_n 0, 1) := by decide +kernel
theorem dX9_root_19 : decode cX9_root 19 = .ok (.if_icmp .gt 5, 3) := by decide +kernel
theorem dX9_root_22 : decode cX9_root 22 = .ok (.iload_n 3, 1) := by decide +kernel
theorem dX9_root_23 : decode cX9_root 23 = .ok (.istore_n 1, 1) := by decide +kernel
theorem dX9_root_24 : decode cX9_root 24 = .ok (.iinc 2 (-1), 3) := by decide +kernel
theorem dX9_root_27 : decode cX9_root 27 = .ok (.goto (-22), 3) := by decide +kernel
theorem dX9_root_30 : decode cX9_root 30 = .ok (.iload_n 1, 1) := by decide +kernel
theorem dX9_root_31 : decode cX9_root 31 = .ok (.ireturn, 1) := by decide +kernel
set_option maxRecDepth 20000 in
theorem ggX9_distance_X9_root : GoodIn wsX9_distance wsX9_root := goodIn_r _ [4] (by decide +kernel) (by decide +kernel)
set_option maxRecDepth 20000 in
theorem gX9_distance_X9_root : GoodIn wsX9_distance (va_wsS RX9 383 yX9_root wsX9_root) := goodIn_app (goodIn_of _ (by decide +kernel)) ggX9_distance_X9_root
theorem dX9_distance_0 : decode cX9_distance 0 = .ok (.iload_n 0, 1) := by decide +kernel
theorem dX9_distance_1 : decode cX9_distance 1 = .ok (.iload_n 0, 1) := by decide +kernel
theorem dX9_distance_2 : decode cX9_distance 2 = .ok (.imul, 1) := by decide +kernel
theorem dX9_distance_3 : decode cX9_distance 3 = .ok (.iload_n 1, 1) := by decide +kernel
theorem dX9_distance_4 : decode cX9_distance 4 = .ok (.iload_n 1, 1) := by decide +kernel
theorem dX9_distance_5 : decode cX9_distance 5 = .ok (.imul, 1) := by decide +kernel
theorem dX9_distance_6 : decode cX9_distance 6 = .ok (.iadd, 1) := by decide +kernel
theorem dX9_distance_7 : decode cX9_distance 7 = .ok (.invokestatic 383, 3) := by decide +kernel
theorem dX9_distance_10 : decode cX9_distance 10 = .ok (.ireturn, 1) := by decide +kernel
theorem dX9_copyRow_0 : decode cX9_copyRow 0 = .ok (.aload_n 0, 1) := by decide +kernel
theorem dX9_copyRow_1 : decode cX9_copyRow 1 = .ok (.iconst 0, 1) := by decide +kernel
theorem dX9_copyRow_2 : decode cX9_copyRow 2 = .ok (.aload_n 1, 1) := by decide +kernel
theorem dX9_copyRow_3 : decode cX9_copyRow 3 = .ok (.iconst 0, 1) := by decide +kernel
theorem dX9_copyRow_4 : decode cX9_copyRow 4 = .ok (.aload_n 0, 1) := by decide +kernel
theorem dX9_copyRow_5 : decode cX9_copyRow 5 = .ok (.arraylength, 1) := by decide +kernel
theorem dX9_copyRow_6 : decode cX9_copyRow 6 = .ok (.aload_n 1, 1) := by decide +kernel
theorem dX9_copyRow_7 : decode cX9_copyRow 7 = .ok (.arraylength, 1) := by decide +kernel
theorem dX9_copyRow_8 : decode cX9_copyRow 8 = .ok (.invokestatic 386, 3) := by decide +kernel
theorem dX9_copyRow_11 : decode cX9_copyRow 11 = .ok (.invokestatic 391, 3) := by decide +kernel
theorem dX9_copyRow_14 : decode cX9_copyRow 14 = .ok (.return_, 1) := by decide +kernel
theorem dX10_init_0 : decode cX10_init 0 = .ok (.aload_n 0, 1) := by decide +kernel
theorem dX10_init_1 : decode cX10_init 1 = .ok (.invokespecial 1, 3) := by decide +kernel
theorem dX10_init_4 : decode cX10_init 4 = .ok (.aload_n 0, 1) := by decide +kernel
theorem dX10_init_5 : decode cX10_init 5 = .ok (.bipush 8, 2) := by decide +kernel
theorem dX10_init_7 : decode cX10_init 7 = .ok (.anewarray 7, 3) := by decide +kernel
theorem dX10_init_10 : decode cX10_init 10 = .ok (.putfield 9, 3) := by decide +kernel
theorem dX10_init_13 : decode cX10_init 13 = .ok (.aload_n 0, 1) := by decide +kernel
theorem dX10_init_14 : decode cX10_init 14 = .ok (.bipush 60, 2) := by decide +kernel
theorem dX10_init_16 : decode cX10_init 16 = .ok (.anewarray 15, 3) := by decide +kernel
theorem dX10_init_19 : decode cX10_init 19 = .ok (.putfield 17, 3) := by decide +kernel
theorem dX10_init_22 : decode cX10_init 22 = .ok (.aload_n 0, 1) := by decide +kernel
theorem dX10_init_23 : decode cX10_init 23 = .ok (.bipush 20, 2) := by decide +kernel
theorem dX10_init_25 : decode cX10_init 25 = .ok (.newarray .boolean, 2) := by decide +kernel
theorem dX10_init_27 : decode cX10_init 27 = .ok (.putfield 21, 3) := by decide +kernel
theorem dX10_init_30 : decode cX10_init 30 = .ok (.aload_n 0, 1) := by decide +kernel
theorem dX10_init_31 : decode cX10_init 31 = .ok (.bipush 20, 2) := by decide +kernel
theorem dX10_init_33 : decode cX10_init 33 = .ok (.newarray .int, 2) := by decide +kernel
theorem dX10_init_35 : decode cX10_init 35 = .ok (.putfield 25, 3) := by decide +kernel
theorem dX10_init_38 : decode cX10_init 38 = .ok (.aload_n 0, 1) := by decide +kernel
theorem dX10_init_39 : decode cX10_init 39 = .ok (.bipush 8, 2) := by decide +kernel
theorem dX10_init_41 : decode cX10_init 41 = .ok (.newarray .int, 2) := by decide +kernel
theorem dX10_init_43 : decode cX10_init 43 = .ok (.putfield 29, 3) := by decide +kernel
theorem dX10_init_46 : decode cX10_init 46 = .ok (.aload_n 0, 1) := by decide +kernel
theorem dX10_init_47 : decode cX10_init 47 = .ok (.bipush 8, 2) := by decide +kernel
theorem dX10_init_49 : decode cX10_init 49 = .ok (.newarray .int, 2) := by decide +kernel
theorem dX10_init_51 : decode cX10_init 51 = .ok (.putfield 32, 3) := by decide +kernel
theorem dX10_init_54 : decode cX10_init 54 = .ok (.return_, 1) := by decide +kernel
theorem dX10_root_0 : decode cX10_root 0 = .ok (.iconst 0, 1) := by decide +kernel
theorem dX10_root_1 : decode cX10_root 1 = .ok (.istore_n 1, 1) := by decide +kernel
theorem dX10_root_2 : decode cX10_root 2 = .ok (.sipush 4000, 3) := by decide +kernel
theorem dX10_root_5 : decode cX10_root 5 = .ok (.istore_n 2, 1) := by decide +kernel
theorem dX10_root_6 : decode cX10_root 6 = .ok (.iload_n 1, 1) := by decide +kernel
theorem dX10_root_7 : decode cX10_root 7 = .ok (.iload_n 2, 1) := by decide +kernel
theorem dX10_root_8 : decode cX10_root 8 = .ok (.if_icmp .ge 30, 3) := by decide +kernel
theorem dX10_root_11 : decode cX10_root 11 = .ok (.iload_n 1, 1) := by decide +kernel
theorem dX10_root_12 : decode cX10_root 12 = .ok (.iload_n 2, 1) := by decide +kernel
theorem dX10_root_13 : decode cX10_root 13 = .ok (.iadd, 1) := by decide +kernel
theorem dX10_root_14 : decode cX10_root 14 = .ok (.iconst 1, 1) := by decide +kernel
theorem dX10_root_15 : decode cX10_root 15 = .ok (.iadd, 1) := by decide +kernel
theorem dX10_root_16 : decode cX10_root 16 = .ok (.iconst 2, 1) := by decide +kernel
theorem dX10_root_17 : decode cX10_root 17 = .ok (.idiv, 1) := by decide +kernel
theorem dX10_root_18 : decode cX10_root 18 = .ok (.istore_n 3, 1) := by decide +kernel
theorem dX10_root_19 : decode cX10_root 19 = .ok (.iload_n 3, 1) := by decide +kernel
theorem dX10_root_20 : decode cX10_root 20 = .ok (.iload_n 3, 1) := by decide +kernel
theorem dX10_root_21 : decode cX10_root 21 = .ok (.imul, 1) := by decide +kernel
theorem dX10_root_22 : decode cX10_root 22 = .ok (.iload_n 0, 1) := by decide +kernel
theorem dX10_root_23 : decode cX10_root 23 = .ok (.if_icmp .gt 8, 3) := by decide +kernel
theorem dX10_root_26 : decode cX10_root 26 = .ok (.iload_n 3, 1) := by decide +kernel
theorem dX10_root_27 : decode cX10_root 27 = .ok (.istore_n 1, 1) := by decide +kernel
theorem dX10_root_28 : decode cX10_root 28 = .ok (.goto 7, 3) := by decide +kernel
theorem dX10_root_31 : decode cX10_root 31 = .ok (.iload_n 3, 1) := by decide +kernel
theorem dX10_root_32 : decode cX10_root 32 = .ok (.iconst 1, 1) := by decide +kernel
theorem dX10_root_33 : decode cX10_root 33 = .ok (.isub, 1) := by decide +kernel
theorem dX10_root_34 : decode cX10_root 34 = .ok (.istore_n 2, 1) := by decide +kernel
theorem dX10_root_35 : decode cX10_root 35 = .ok (.goto (-29), 3) := by decide +kernel
theorem dX10_root_38 : decode cX10_root 38 = .ok (.iload_n 1, 1) := by decide +kernel
theorem dX10_root_39 : decode cX10_root 39 = .ok (.ireturn, 1) := by decide +kernel
set_option maxRecDepth 20000 in
theorem ggX10_time_X10_far : GoodIn wsX10_time wsX10_far := goodIn_r _ [5, 6, 7, 4, 8, 33, 34, 35, 36, 37, 38, 39] (by decide +kernel) (by decide +kernel)
set_option maxRecDepth 20000 in
theorem gX10_time_X10_far : GoodIn wsX10_time (va_wsS RX10 35 yX10_far wsX10_far) := goodIn_app (goodIn_of _ (by decide +kernel)) ggX10_time_X10_far
theorem dX10_time_0 : decode cX10_time 0 = .ok (.iload_n 1, 1) := by decide +kernel
theorem dX10_time_1 : decode cX10_time 1 = .ok (.iload_n 2, 1) := by decide +kernel
theorem dX10_time_2 : decode cX10_time 2 = .ok (.aload_n 3, 1) := by decide +kernel
theorem dX10_time_3 : decode cX10_time 3 = .ok (.invokestatic 35, 3) := by decide +kernel
theorem dX10_time_6 : decode cX10_time 6 = .ok (.bipush 10, 2) := by decide +kernel
theorem dX10_time_8 : decode cX10_time 8 = .ok (.imul, 1) := by decide +kernel
theorem dX10_time_9 : decode cX10_time 9 = .ok (.aload_n 0, 1) := by decide +kernel
theorem dX10_time_10 : decode cX10_time 10 = .ok (.getfield 39, 3) := by decide +kernel
theorem dX10_time_13 : decode cX10_time 13 = .ok (.idiv, 1) := by decide +kernel
theorem dX10_time_14 : decode cX10_time 14 = .ok (.ireturn, 1) := by decide +kernel
set_option maxRecDepth 20000 in
theorem ggX10_far_X10_root : GoodIn wsX10_far wsX10_root := goodIn_r _ [4] (by decide +kernel) (by decide +kernel)
set_option maxRecDepth 20000 in
theorem gX10_far_X10_root : GoodIn wsX10_far (va_wsS RX10 49 yX10_root wsX10_root) := goodIn_app (goodIn_of _ (by decide +kernel)) ggX10_far_X10_root
theorem dX10_far_0 : decode cX10_far 0 = .ok (.iload_n 0, 1) := by decide +kernel
theorem dX10_far_1 : decode cX10_far 1 = .ok (.aload_n 2, 1) := by decide +kernel
theorem dX10_far_2 : decode cX10_far 2 = .ok (.getfield 43, 3) := by decide +kernel
theorem dX10_far_5 : decode cX10_far 5 = .ok (.isub, 1) := by decide +kernel
theorem dX10_far_6 : decode cX10_far 6 = .ok (.iload_n 0, 1) := by decide +kernel
theorem dX10_far_7 : decode cX10_far 7 = .ok (.aload_n 2, 1) := by decide +kernel
theorem dX10_far_8 : decode cX10_far 8 = .ok (.getfield 43, 3) := by decide +kernel
theorem dX10_far_11 : decode cX10_far 11 = .ok (.isub, 1) := by decide +kernel
theorem dX10_far_12 : decode cX10_far 12 = .ok (.imul, 1) := by decide +kernel
theorem dX10_far_13 : decode cX10_far 13 = .ok (.iload_n 1, 1) := by decide +kernel
theorem dX10_far_14 : decode cX10_far 14 = .ok (.aload_n 2, 1) := by decide +kernel
theorem dX10_far_15 : decode cX10_far 15 = .ok (.getfield 46, 3) := by decide +kernel
theorem dX10_far_18 : decode cX10_far 18 = .ok (.isub, 1) := by decide +kernel
theorem dX10_far_19 : decode cX10_far 19 = .ok (.iload_n 1, 1) := by decide +kernel
theorem dX10_far_20 : decode cX10_far 20 = .ok (.aload_n 2, 1) := by decide +kernel
theorem dX10_far_21 : decode cX10_far 21 = .ok (.getfield 46, 3) := by decide +kernel
theorem dX10_far_24 : decode cX10_far 24 = .ok (.isub, 1) := by decide +kernel
theorem dX10_far_25 : decode cX10_far 25 = .ok (.imul, 1) := by decide +kernel
theorem dX10_far_26 : decode cX10_far 26 = .ok (.iadd, 1) := by decide +kernel
theorem dX10_far_27 : decode cX10_far 27 = .ok (.invokestatic 49, 3) := by decide +kernel
theorem dX10_far_30 : decode cX10_far 30 = .ok (.ireturn, 1) := by decide +kernel
theorem dX10_sum_0 : decode cX10_sum 0 = .ok (.iconst 0, 1) := by decide +kernel
theorem dX10_sum_1 : decode cX10_sum 1 = .ok (.istore_n 3, 1) := by decide +kernel
theorem dX10_sum_2 : decode cX10_sum 2 = .ok (.iconst 1, 1) := by decide +kernel
theorem dX10_sum_3 : decode cX10_sum 3 = .ok (.aload_n 0, 1) := by decide +kernel
theorem dX10_sum_4 : decode cX10_sum 4 = .ok (.getfield 53, 3) := by decide +kernel
theorem dX10_sum_7 : decode cX10_sum 7 = .ok (.iload_n 2, 1) := by decide +kernel
theorem dX10_sum_8 : decode cX10_sum 8 = .ok (.isub, 1) := by decide +kernel
theorem dX10_sum_9 : decode cX10_sum 9 = .ok (.iconst 1, 1) := by decide +kernel
theorem dX10_sum_10 : decode cX10_sum 10 = .ok (.iadd, 1) := by decide +kernel
theorem dX10_sum_11 : decode cX10_sum 11 = .ok (.invokestatic 56, 3) := by decide +kernel
theorem dX10_sum_14 : decode cX10_sum 14 = .ok (.istore 4, 2) := by decide +kernel
theorem dX10_sum_16 : decode cX10_sum 16 = .ok (.iload 4, 2) := by decide +kernel
theorem dX10_sum_18 : decode cX10_sum 18 = .ok (.aload_n 0, 1) := by decide +kernel
theorem dX10_sum_19 : decode cX10_sum 19 = .ok (.getfield 53, 3) := by decide +kernel
theorem dX10_sum_22 : decode cX10_sum 22 = .ok (.if_icmp .gt 19, 3) := by decide +kernel
theorem dX10_sum_25 : decode cX10_sum 25 = .ok (.iload_n 3, 1) := by decide +kernel
theorem dX10_sum_26 : decode cX10_sum 26 = .ok (.aload_n 1, 1) := by decide +kernel
theorem dX10_sum_27 : decode cX10_sum 27 = .ok (.getfield 62, 3) := by decide +kernel
theorem dX10_sum_30 : decode cX10_sum 30 = .ok (.iload 4, 2) := by decide +kernel
theorem dX10_sum_32 : decode cX10_sum 32 = .ok (.iaload, 1) := by decide +kernel
theorem dX10_sum_33 : decode cX10_sum 33 = .ok (.iadd, 1) := by decide +kernel
theorem dX10_sum_34 : decode cX10_sum 34 = .ok (.istore_n 3, 1) := by decide +kernel
theorem dX10_sum_35 : decode cX10_sum 35 = .ok (.iinc 4 1, 3) := by decide +kernel
theorem dX10_sum_38 : decode cX10_sum 38 = .ok (.goto (-22), 3) := by decide +kernel
theorem dX10_sum_41 : decode cX10_sum 41 = .ok (.iload_n 3, 1) := by decide +kernel
theorem dX10_sum_42 : decode cX10_sum 42 = .ok (.ireturn, 1) := by decide +kernel
set_option maxRecDepth 20000 in
theorem ggX10_ratio_X10_sum : GoodIn wsX10_ratio wsX10_sum := goodIn_r _ [8, 9, 10, 11, 12, 13, 14, 15, 16, 17, 18, 19, 20, 21, 22, 23, 24, 25, 26, 27, 28, 29, 30, 31, 32, 33, 34, 35, 36, 37, 38, 39, 40, 41, 42, 43, 44] (by decide +kernel) (by decide +kernel)
set_option maxRecDepth 20000 in
theorem gX10_ratio_X10_sum : GoodIn wsX10_ratio (wsV RX10 68 RX10 yX10_sum wsX10_sum) := goodIn_app (goodIn_of _ (by decide +kernel)) ggX10_ratio_X10_sum
theorem dX10_ratio_0 : decode cX10_ratio 0 = .ok (.aload_n 0, 1) := by decide +kernel
theorem dX10_ratio_1 : decode cX10_ratio 1 = .ok (.aload_n 1, 1) := by decide +kernel
theorem dX10_ratio_2 : decode cX10_ratio 2 = .ok (.aload_n 0, 1) := by decide +kernel
theorem dX10_ratio_3 : decode cX10_ratio 3 = .ok (.getfield 65, 3) := by decide +kernel
theorem dX10_ratio_6 : decode cX10_ratio 6 = .ok (.invokevirtual 68, 3) := by decide +kernel
theorem dX10_ratio_9 : decode cX10_ratio 9 = .ok (.i2l, 1) := by decide +kernel
theorem dX10_ratio_10 : decode cX10_ratio 10 = .ok (.lstore_n 2, 1) := by decide +kernel
theorem dX10_ratio_11 : decode cX10_ratio 11 = .ok (.lload_n 2, 1) := by decide +kernel
theorem dX10_ratio_12 : decode cX10_ratio 12 = .ok (.lconst 0, 1) := by decide +kernel
theorem dX10_ratio_13 : decode cX10_ratio 13 = .ok (.lcmp, 1) := by decide +kernel
theorem dX10_ratio_14 : decode cX10_ratio 14 = .ok (.ifCond .ne 7, 3) := by decide +kernel
theorem dX10_ratio_17 : decode cX10_ratio 17 = .ok (.iconst 0, 1) := by decide +kernel
theorem dX10_ratio_18 : decode cX10_ratio 18 = .ok (.goto 32, 3) := by decide +kernel
theorem dX10_ratio_21 : decode cX10_ratio 21 = .ok (.aload_n 0, 1) := by decide +kernel
theorem dX10_ratio_22 : decode cX10_ratio 22 = .ok (.aload_n 1, 1) := by decide +kernel
theorem dX10_ratio_23 : decode cX10_ratio 23 = .ok (.aload_n 0, 1) := by decide +kernel
theorem dX10_ratio_24 : decode cX10_ratio 24 = .ok (.getfield 72, 3) := by decide +kernel
theorem dX10_ratio_27 : decode cX10_ratio 27 = .ok (.invokevirtual 68, 3) := by decide +kernel
theorem dX10_ratio_30 : decode cX10_ratio 30 = .ok (.i2l, 1) := by decide +kernel
theorem dX10_ratio_31 : decode cX10_ratio 31 = .ok (.aload_n 0, 1) := by decide +kernel
theorem dX10_ratio_32 : decode cX10_ratio 32 = .ok (.getfield 65, 3) := by decide +kernel
theorem dX10_ratio_35 : decode cX10_ratio 35 = .ok (.i2l, 1) := by decide +kernel
theorem dX10_ratio_36 : decode cX10_ratio 36 = .ok (.lmul, 1) := by decide +kernel
theorem dX10_ratio_37 : decode cX10_ratio 37 = .ok (.ldc2_w 75, 3) := by decide +kernel
theorem dX10_ratio_40 : decode cX10_ratio 40 = .ok (.lmul, 1) := by decide +kernel
theorem dX10_ratio_41 : decode cX10_ratio 41 = .ok (.lload_n 2, 1) := by decide +kernel
theorem dX10_ratio_42 : decode cX10_ratio 42 = .ok (.aload_n 0, 1) := by decide +kernel
theorem dX10_ratio_43 : decode cX10_ratio 43 = .ok (.getfield 72, 3) := by decide +kernel
theorem dX10_ratio_46 : decode cX10_ratio 46 = .ok (.i2l, 1) := by decide +kernel
theorem dX10_ratio_47 : decode cX10_ratio 47 = .ok (.lmul, 1) := by decide +kernel
theorem dX10_ratio_48 : decode cX10_ratio 48 = .ok (.ldiv, 1) := by decide +kernel
theorem dX10_ratio_49 : decode cX10_ratio 49 = .ok (.l2i, 1) := by decide +kernel
theorem dX10_ratio_50 : decode cX10_ratio 50 = .ok (.ireturn, 1) := by decide +kernel
set_option maxRecDepth 20000 in
theorem ggX10_fit_X10_time : GoodIn wsX10_fit wsX10_time := goodIn_r _ [11, 12, 13, 14, 10, 15, 16, 17, 18, 24, 25, 26, 27, 28, 29, 30, 31, 32, 33, 34, 35, 36, 37, 38, 39, 40, 41, 42, 43, 44, 45, 46, 47, 48, 49, 50, 51, 52, 53, 54] (by decide +kernel) (by decide +kernel)
set_option maxRecDepth 20000 in
theorem gX10_fit_X10_time : GoodIn wsX10_fit (wsV RX10 90 RX10 yX10_time wsX10_time) := goodIn_app (goodIn_of _ (by decide +kernel)) ggX10_fit_X10_time
theorem dX10_fit_0 : decode cX10_fit 0 = .ok (.aload_n 1, 1) := by decide +kernel
theorem dX10_fit_1 : decode cX10_fit 1 = .ok (.getfield 77, 3) := by decide +kernel
theorem dX10_fit_4 : decode cX10_fit 4 = .ok (.aload_n 2, 1) := by decide +kernel
theorem dX10_fit_5 : decode cX10_fit 5 = .ok (.getfield 77, 3) := by decide +kernel
theorem dX10_fit_8 : decode cX10_fit 8 = .ok (.if_icmp .eq 17, 3) := by decide +kernel
theorem dX10_fit_11 : decode cX10_fit 11 = .ok (.aload_n 1, 1) := by decide +kernel
theorem dX10_fit_12 : decode cX10_fit 12 = .ok (.getfield 80, 3) := by decide +kernel
theorem dX10_fit_15 : decode cX10_fit 15 = .ok (.ifCond .ne 10, 3) := by decide +kernel
theorem dX10_fit_18 : decode cX10_fit 18 = .ok (.aload_n 2, 1) := by decide +kernel
theorem dX10_fit_19 : decode cX10_fit 19 = .ok (.getfield 80, 3) := by decide +kernel
theorem dX10_fit_22 : decode cX10_fit 22 = .ok (.ifCond .eq 5, 3) := by decide +kernel
theorem dX10_fit_25 : decode cX10_fit 25 = .ok (.iconst 0, 1) := by decide +kernel
theorem dX10_fit_26 : decode cX10_fit 26 = .ok (.ireturn, 1) := by decide +kernel
theorem dX10_fit_27 : decode cX10_fit 27 = .ok (.aload_n 1, 1) := by decide +kernel
theorem dX10_fit_28 : decode cX10_fit 28 = .ok (.getfield 84, 3) := by decide +kernel
theorem dX10_fit_31 : decode cX10_fit 31 = .ok (.aload_n 2, 1) := by decide +kernel
theorem dX10_fit_32 : decode cX10_fit 32 = .ok (.getfield 84, 3) := by decide +kernel
theorem dX10_fit_35 : decode cX10_fit 35 = .ok (.isub, 1) := by decide +kernel
theorem dX10_fit_36 : decode cX10_fit 36 = .ok (.invokestatic 87, 3) := by decide +kernel
theorem dX10_fit_39 : decode cX10_fit 39 = .ok (.aload_n 0, 1) := by decide +kernel
theorem dX10_fit_40 : decode cX10_fit 40 = .ok (.aload_n 0, 1) := by decide +kernel
theorem dX10_fit_41 : decode cX10_fit 41 = .ok (.getfield 9, 3) := by decide +kernel
theorem dX10_fit_44 : decode cX10_fit 44 = .ok (.aload_n 1, 1) := by decide +kernel
theorem dX10_fit_45 : decode cX10_fit 45 = .ok (.getfield 77, 3) := by decide +kernel
theorem dX10_fit_48 : decode cX10_fit 48 = .ok (.aaload, 1) := by decide +kernel
theorem dX10_fit_49 : decode cX10_fit 49 = .ok (.getfield 43, 3) := by decide +kernel
theorem dX10_fit_52 : decode cX10_fit 52 = .ok (.aload_n 0, 1) := by decide +kernel
theorem dX10_fit_53 : decode cX10_fit 53 = .ok (.getfield 9, 3) := by decide +kernel
theorem dX10_fit_56 : decode cX10_fit 56 = .ok (.aload_n 1, 1) := by decide +kernel
theorem dX10_fit_57 : decode cX10_fit 57 = .ok (.getfield 77, 3) := by decide +kernel
theorem dX10_fit_60 : decode cX10_fit 60 = .ok (.aaload, 1) := by decide +kernel
theorem dX10_fit_61 : decode cX10_fit 61 = .ok (.getfield 46, 3) := by decide +kernel
theorem dX10_fit_64 : decode cX10_fit 64 = .ok (.aload_n 0, 1) := by decide +kernel
theorem dX10_fit_65 : decode cX10_fit 65 = .ok (.getfield 9, 3) := by decide +kernel
theorem dX10_fit_68 : decode cX10_fit 68 = .ok (.aload_n 2, 1) := by decide +kernel
theorem dX10_fit_69 : decode cX10_fit 69 = .ok (.getfield 77, 3) := by decide +kernel
theorem dX10_fit_72 : decode cX10_fit 72 = .ok (.aaload, 1) := by decide +kernel
theorem dX10_fit_73 : decode cX10_fit 73 = .ok (.invokevirtual 90, 3) := by decide +kernel
theorem dX10_fit_76 : decode cX10_fit 76 = .ok (.aload_n 0, 1) := by decide +kernel
theorem dX10_fit_77 : decode cX10_fit 77 = .ok (.getfield 92, 3) := by decide +kernel
theorem dX10_fit_80 : decode cX10_fit 80 = .ok (.iadd, 1) := by decide +kernel
theorem dX10_fit_81 : decode cX10_fit 81 = .ok (.if_icmp .gt 7, 3) := by decide +kernel
theorem dX10_fit_84 : decode cX10_fit 84 = .ok (.iconst 1, 1) := by decide +kernel
theorem dX10_fit_85 : decode cX10_fit 85 = .ok (.goto 4, 3) := by decide +kernel
theorem dX10_fit_88 : decode cX10_fit 88 = .ok (.iconst 0, 1) := by decide +kernel
theorem dX10_fit_89 : decode cX10_fit 89 = .ok (.ireturn, 1) := by decide +kernel
set_option maxRecDepth 20000 in
theorem ggX10_pass_X10_ratio : GoodIn wsX10_pass wsX10_ratio := goodIn_r _ [20, 10, 21, 22, 23, 24, 25, 19, 26, 1, 5, 6, 7, 8, 60, 61, 62, 63, 64, 65, 66, 67, 68, 69, 70, 71, 72, 73, 74, 75, 76, 77, 78, 79, 80, 81, 82, 83, 84, 85, 86, 87, 88, 89, 90] (by decide +kernel) (by decide +kernel)
set_option maxRecDepth 20000 in
theorem gX10_pass_X10_ratio : GoodIn wsX10_pass (wsV RX10 110 RX10 yX10_ratio wsX10_ratio) := goodIn_app (goodIn_of _ (by decide +kernel)) ggX10_pass_X10_ratio
set_option maxRecDepth 20000 in
theorem ggX10_pass_X11_init : GoodIn wsX10_pass wsX11_init := goodIn_r _ [28, 29, 30, 31, 32, 91, 92, 93, 94, 95] (by decide +kernel) (by decide +kernel)
set_option maxRecDepth 20000 in
theorem gX10_pass_X11_init_n125 : GoodIn wsX10_pass (wsX11_init) := ggX10_pass_X11_init
set_option maxRecDepth 20000 in
theorem ggX10_pass_X10_vote : GoodIn wsX10_pass wsX10_vote := goodIn_r _ [36, 37, 38, 12, 4, 13, 39, 40, 1, 41, 42, 43, 19, 44, 45, 46, 7, 47, 3, 48, 49, 50, 51, 52, 53, 54, 55, 56, 57, 58, 59, 60, 61, 62, 63, 64, 65, 66, 67, 68, 69, 70, 71, 72, 73, 74, 75, 76, 77, 78, 79, 80, 81, 82, 83, 91, 92, 93, 94, 95, 84, 85, 86, 87, 88, 89, 90] (by decide +kernel) (by decide +kernel)
set_option maxRecDepth 20000 in
theorem gX10_pass_X10_vote : GoodIn wsX10_pass (wsV RX10 126 RX10 yX10_vote wsX10_vote) := goodIn_app (goodIn_of _ (by decide +kernel)) ggX10_pass_X10_vote
theorem dX10_pass_0 : decode cX10_pass 0 = .ok (.aload_n 0, 1) := by decide +kernel
theorem dX10_pass_1 : decode cX10_pass 1 = .ok (.dup, 1) := by decide +kernel
theorem dX10_pass_2 : decode cX10_pass 2 = .ok (.getfield 53, 3) := by decide +kernel
theorem dX10_pass_5 : decode cX10_pass 5 = .ok (.iconst 1, 1) := by decide +kernel
theorem dX10_pass_6 : decode cX10_pass 6 = .ok (.iadd, 1) := by decide +kernel
theorem dX10_pass_7 : decode cX10_pass 7 = .ok (.putfield 53, 3) := by decide +kernel
theorem dX10_pass_10 : decode cX10_pass 10 = .ok (.iconst 0, 1) := by decide +kernel
theorem dX10_pass_11 : decode cX10_pass 11 = .ok (.istore_n 1, 1) := by decide +kernel
theorem dX10_pass_12 : decode cX10_pass 12 = .ok (.iload_n 1, 1) := by decide +kernel
theorem dX10_pass_13 : decode cX10_pass 13 = .ok (.aload_n 0, 1) := by decide +kernel
theorem dX10_pass_14 : decode cX10_pass 14 = .ok (.getfield 95, 3) := by decide +kernel
theorem dX10_pass_17 : decode cX10_pass 17 = .ok (.if_icmp .ge 32, 3) := by decide +kernel
theorem dX10_pass_20 : decode cX10_pass 20 = .ok (.aload_n 0, 1) := by decide +kernel
theorem dX10_pass_21 : decode cX10_pass 21 = .ok (.getfield 9, 3) := by decide +kernel
theorem dX10_pass_24 : decode cX10_pass 24 = .ok (.iload_n 1, 1) := by decide +kernel
theorem dX10_pass_25 : decode cX10_pass 25 = .ok (.aaload, 1) := by decide +kernel
theorem dX10_pass_26 : decode cX10_pass 26 = .ok (.getfield 62, 3) := by decide +kernel
theorem dX10_pass_29 : decode cX10_pass 29 = .ok (.aload_n 0, 1) := by decide +kernel
theorem dX10_pass_30 : decode cX10_pass 30 = .ok (.getfield 53, 3) := by decide +kernel
theorem dX10_pass_33 : decode cX10_pass 33 = .ok (.aload_n 0, 1) := by decide +kernel
theorem dX10_pass_34 : decode cX10_pass 34 = .ok (.getfield 9, 3) := by decide +kernel
theorem dX10_pass_37 : decode cX10_pass 37 = .ok (.iload_n 1, 1) := by decide +kernel
theorem dX10_pass_38 : decode cX10_pass 38 = .ok (.aaload, 1) := by decide +kernel
theorem dX10_pass_39 : decode cX10_pass 39 = .ok (.getfield 98, 3) := by decide +kernel
theorem dX10_pass_42 : decode cX10_pass 42 = .ok (.iastore, 1) := by decide +kernel
theorem dX10_pass_43 : decode cX10_pass 43 = .ok (.iinc 1 1, 3) := by decide +kernel
theorem dX10_pass_46 : decode cX10_pass 46 = .ok (.goto (-34), 3) := by decide +kernel
theorem dX10_pass_49 : decode cX10_pass 49 = .ok (.iconst 0, 1) := by decide +kernel
theorem dX10_pass_50 : decode cX10_pass 50 = .ok (.istore_n 1, 1) := by decide +kernel
theorem dX10_pass_51 : decode cX10_pass 51 = .ok (.iload_n 1, 1) := by decide +kernel
theorem dX10_pass_52 : decode cX10_pass 52 = .ok (.aload_n 0, 1) := by decide +kernel
theorem dX10_pass_53 : decode cX10_pass 53 = .ok (.getfield 95, 3) := by decide +kernel
theorem dX10_pass_56 : decode cX10_pass 56 = .ok (.if_icmp .ge 181, 3) := by decide +kernel
theorem dX10_pass_59 : decode cX10_pass 59 = .ok (.aload_n 0, 1) := by decide +kernel
theorem dX10_pass_60 : decode cX10_pass 60 = .ok (.getfield 9, 3) := by decide +kernel
theorem dX10_pass_63 : decode cX10_pass 63 = .ok (.iload_n 1, 1) := by decide +kernel
theorem dX10_pass_64 : decode cX10_pass 64 = .ok (.aaload, 1) := by decide +kernel
theorem dX10_pass_65 : decode cX10_pass 65 = .ok (.astore_n 2, 1) := by decide +kernel
theorem dX10_pass_66 : decode cX10_pass 66 = .ok (.aload_n 2, 1) := by decide +kernel
theorem dX10_pass_67 : decode cX10_pass 67 = .ok (.getfield 101, 3) := by decide +kernel
theorem dX10_pass_70 : decode cX10_pass 70 = .ok (.ifCond .eq 58, 3) := by decide +kernel
theorem dX10_pass_73 : decode cX10_pass 73 = .ok (.aload_n 0, 1) := by decide +kernel
theorem dX10_pass_74 : decode cX10_pass 74 = .ok (.getfield 17, 3) := by decide +kernel
theorem dX10_pass_77 : decode cX10_pass 77 = .ok (.aload_n 2, 1) := by decide +kernel
theorem dX10_pass_78 : decode cX10_pass 78 = .ok (.getfield 104, 3) := by decide +kernel
theorem dX10_pass_81 : decode cX10_pass 81 = .ok (.aaload, 1) := by decide +kernel
theorem dX10_pass_82 : decode cX10_pass 82 = .ok (.aload_n 0, 1) := by decide +kernel
theorem dX10_pass_83 : decode cX10_pass 83 = .ok (.getfield 17, 3) := by decide +kernel
theorem dX10_pass_86 : decode cX10_pass 86 = .ok (.aload_n 2, 1) := by decide +kernel
theorem dX10_pass_87 : decode cX10_pass 87 = .ok (.getfield 104, 3) := by decide +kernel
theorem dX10_pass_90 : decode cX10_pass 90 = .ok (.aaload, 1) := by decide +kernel
theorem dX10_pass_91 : decode cX10_pass 91 = .ok (.getfield 107, 3) := by decide +kernel
theorem dX10_pass_94 : decode cX10_pass 94 = .ok (.aload_n 2, 1) := by decide +kernel
theorem dX10_pass_95 : decode cX10_pass 95 = .ok (.getfield 98, 3) := by decide +kernel
theorem dX10_pass_98 : decode cX10_pass 98 = .ok (.invokestatic 56, 3) := by decide +kernel
theorem dX10_pass_101 : decode cX10_pass 101 = .ok (.putfield 107, 3) := by decide +kernel
theorem dX10_pass_104 : decode cX10_pass 104 = .ok (.aload_n 2, 1) := by decide +kernel
theorem dX10_pass_105 : decode cX10_pass 105 = .ok (.aload_n 0, 1) := by decide +kernel
theorem dX10_pass_106 : decode cX10_pass 106 = .ok (.aload_n 2, 1) := by decide +kernel
theorem dX10_pass_107 : decode cX10_pass 107 = .ok (.invokevirtual 110, 3) := by decide +kernel
theorem dX10_pass_110 : decode cX10_pass 110 = .ok (.aload_n 0, 1) := by decide +kernel
theorem dX10_pass_111 : decode cX10_pass 111 = .ok (.getfield 114, 3) := by decide +kernel
theorem dX10_pass_114 : decode cX10_pass 114 = .ok (.if_icmp .lt 7, 3) := by decide +kernel
theorem dX10_pass_117 : decode cX10_pass 117 = .ok (.iconst 1, 1) := by decide +kernel
theorem dX10_pass_118 : decode cX10_pass 118 = .ok (.goto 4, 3) := by decide +kernel
theorem dX10_pass_121 : decode cX10_pass 121 = .ok (.iconst 0, 1) := by decide +kernel
theorem dX10_pass_122 : decode cX10_pass 122 = .ok (.putfield 101, 3) := by decide +kernel
theorem dX10_pass_125 : decode cX10_pass 125 = .ok (.goto 106, 3) := by decide +kernel
theorem dX10_pass_128 : decode cX10_pass 128 = .ok (.aload_n 0, 1) := by decide +kernel
theorem dX10_pass_129 : decode cX10_pass 129 = .ok (.getfield 53, 3) := by decide +kernel
theorem dX10_pass_132 : decode cX10_pass 132 = .ok (.aload_n 0, 1) := by decide +kernel
theorem dX10_pass_133 : decode cX10_pass 133 = .ok (.getfield 65, 3) := by decide +kernel
theorem dX10_pass_136 : decode cX10_pass 136 = .ok (.if_icmp .lt 95, 3) := by decide +kernel
theorem dX10_pass_139 : decode cX10_pass 139 = .ok (.aload_n 2, 1) := by decide +kernel
theorem dX10_pass_140 : decode cX10_pass 140 = .ok (.getfield 117, 3) := by decide +kernel
theorem dX10_pass_143 : decode cX10_pass 143 = .ok (.ifCond .ne 88, 3) := by decide +kernel
theorem dX10_pass_146 : decode cX10_pass 146 = .ok (.aload_n 0, 1) := by decide +kernel
theorem dX10_pass_147 : decode cX10_pass 147 = .ok (.aload_n 2, 1) := by decide +kernel
theorem dX10_pass_148 : decode cX10_pass 148 = .ok (.invokevirtual 110, 3) := by decide +kernel
theorem dX10_pass_151 : decode cX10_pass 151 = .ok (.aload_n 0, 1) := by decide +kernel
theorem dX10_pass_152 : decode cX10_pass 152 = .ok (.getfield 120, 3) := by decide +kernel
theorem dX10_pass_155 : decode cX10_pass 155 = .ok (.if_icmp .lt 76, 3) := by decide +kernel
theorem dX10_pass_158 : decode cX10_pass 158 = .ok (.aload_n 0, 1) := by decide +kernel
theorem dX10_pass_159 : decode cX10_pass 159 = .ok (.getfield 122, 3) := by decide +kernel
theorem dX10_pass_162 : decode cX10_pass 162 = .ok (.bipush 60, 2) := by decide +kernel
theorem dX10_pass_164 : decode cX10_pass 164 = .ok (.if_icmp .ge 67, 3) := by decide +kernel
theorem dX10_pass_167 : decode cX10_pass 167 = .ok (.aload_n 2, 1) := by decide +kernel
theorem dX10_pass_168 : decode cX10_pass 168 = .ok (.iconst 1, 1) := by decide +kernel
theorem dX10_pass_169 : decode cX10_pass 169 = .ok (.putfield 101, 3) := by decide +kernel
theorem dX10_pass_172 : decode cX10_pass 172 = .ok (.aload_n 2, 1) := by decide +kernel
theorem dX10_pass_173 : decode cX10_pass 173 = .ok (.aload_n 0, 1) := by decide +kernel
theorem dX10_pass_174 : decode cX10_pass 174 = .ok (.getfield 122, 3) := by decide +kernel
theorem dX10_pass_177 : decode cX10_pass 177 = .ok (.putfield 104, 3) := by decide +kernel
theorem dX10_pass_180 : decode cX10_pass 180 = .ok (.new 15, 3) := by decide +kernel
theorem dX10_pass_183 : decode cX10_pass 183 = .ok (.dup, 1) := by decide +kernel
theorem dX10_pass_184 : decode cX10_pass 184 = .ok (.invokespecial 125, 3) := by decide +kernel
theorem dX10_pass_187 : decode cX10_pass 187 = .ok (.astore_n 3, 1) := by decide +kernel
theorem dX10_pass_188 : decode cX10_pass 188 = .ok (.aload_n 3, 1) := by decide +kernel
theorem dX10_pass_189 : decode cX10_pass 189 = .ok (.iload_n 1, 1) := by decide +kernel
theorem dX10_pass_190 : decode cX10_pass 190 = .ok (.putfield 77, 3) := by decide +kernel
theorem dX10_pass_193 : decode cX10_pass 193 = .ok (.aload_n 3, 1) := by decide +kernel
theorem dX10_pass_194 : decode cX10_pass 194 = .ok (.aload_n 0, 1) := by decide +kernel
theorem dX10_pass_195 : decode cX10_pass 195 = .ok (.getfield 53, 3) := by decide +kernel
theorem dX10_pass_198 : decode cX10_pass 198 = .ok (.putfield 84, 3) := by decide +kernel
theorem dX10_pass_201 : decode cX10_pass 201 = .ok (.aload_n 3, 1) := by decide +kernel
theorem dX10_pass_202 : decode cX10_pass 202 = .ok (.aload_n 2, 1) := by decide +kernel
theorem dX10_pass_203 : decode cX10_pass 203 = .ok (.getfield 98, 3) := by decide +kernel
theorem dX10_pass_206 : decode cX10_pass 206 = .ok (.putfield 107, 3) := by decide +kernel
theorem dX10_pass_209 : decode cX10_pass 209 = .ok (.aload_n 0, 1) := by decide +kernel
theorem dX10_pass_210 : decode cX10_pass 210 = .ok (.getfield 17, 3) := by decide +kernel
theorem dX10_pass_213 : decode cX10_pass 213 = .ok (.aload_n 0, 1) := by decide +kernel
theorem dX10_pass_214 : decode cX10_pass 214 = .ok (.dup, 1) := by decide +kernel
theorem dX10_pass_215 : decode cX10_pass 215 = .ok (.getfield 122, 3) := by decide +kernel
theorem dX10_pass_218 : decode cX10_pass 218 = .ok (.dup_x1, 1) := by decide +kernel
theorem dX10_pass_219 : decode cX10_pass 219 = .ok (.iconst 1, 1) := by decide +kernel
theorem dX10_pass_220 : decode cX10_pass 220 = .ok (.iadd, 1) := by decide +kernel
theorem dX10_pass_221 : decode cX10_pass 221 = .ok (.putfield 122, 3) := by decide +kernel
theorem dX10_pass_224 : decode cX10_pass 224 = .ok (.aload_n 3, 1) := by decide +kernel
theorem dX10_pass_225 : decode cX10_pass 225 = .ok (.aastore, 1) := by decide +kernel
theorem dX10_pass_226 : decode cX10_pass 226 = .ok (.aload_n 0, 1) := by decide +kernel
theorem dX10_pass_227 : decode cX10_pass 227 = .ok (.aload_n 3, 1) := by decide +kernel
theorem dX10_pass_228 : decode cX10_pass 228 = .ok (.invokevirtual 126, 3) := by decide +kernel
theorem dX10_pass_231 : decode cX10_pass 231 = .ok (.iinc 1 1, 3) := by decide +kernel
theorem dX10_pass_234 : decode cX10_pass 234 = .ok (.goto (-183), 3) := by decide +kernel
theorem dX10_pass_237 : decode cX10_pass 237 = .ok (.return_, 1) := by decide +kernel
set_option maxRecDepth 20000 in
theorem ggX10_vote_X10_fit : GoodIn wsX10_vote wsX10_fit := goodIn_r _ [13, 14, 15, 16, 17, 18, 19, 20, 21, 22, 12, 23, 24, 25, 26, 27, 28, 29, 30, 55, 56, 57, 58, 59, 31, 32, 33, 34, 35, 36, 37, 38, 39, 40, 41, 42, 43, 44, 45, 46, 47, 48, 49, 50, 51, 52, 53, 54, 60, 61, 62, 63, 64, 65, 66] (by decide +kernel) (by decide +kernel)
set_option maxRecDepth 20000 in
theorem gX10_vote_X10_fit : GoodIn wsX10_vote (wsV RX10 136 RX10 yX10_fit wsX10_fit) := goodIn_app (goodIn_of _ (by decide +kernel)) ggX10_vote_X10_fit
theorem dX10_vote_0 : decode cX10_vote 0 = .ok (.iconst 0, 1) := by decide +kernel
theorem dX10_vote_1 : decode cX10_vote 1 = .ok (.istore_n 2, 1) := by decide +kernel
theorem dX10_vote_2 : decode cX10_vote 2 = .ok (.iload_n 2, 1) := by decide +kernel
theorem dX10_vote_3 : decode cX10_vote 3 = .ok (.aload_n 0, 1) := by decide +kernel
theorem dX10_vote_4 : decode cX10_vote 4 = .ok (.getfield 130, 3) := by decide +kernel
theorem dX10_vote_7 : decode cX10_vote 7 = .ok (.if_icmp .ge 86, 3) := by decide +kernel
theorem dX10_vote_10 : decode cX10_vote 10 = .ok (.aload_n 0, 1) := by decide +kernel
theorem dX10_vote_11 : decode cX10_vote 11 = .ok (.getfield 21, 3) := by decide +kernel
theorem dX10_vote_14 : decode cX10_vote 14 = .ok (.iload_n 2, 1) := by decide +kernel
theorem dX10_vote_15 : decode cX10_vote 15 = .ok (.baload, 1) := by decide +kernel
theorem dX10_vote_16 : decode cX10_vote 16 = .ok (.ifCond .ne 7, 3) := by decide +kernel
theorem dX10_vote_19 : decode cX10_vote 19 = .ok (.iconst 1, 1) := by decide +kernel
theorem dX10_vote_20 : decode cX10_vote 20 = .ok (.goto 4, 3) := by decide +kernel
theorem dX10_vote_23 : decode cX10_vote 23 = .ok (.iconst 0, 1) := by decide +kernel
theorem dX10_vote_24 : decode cX10_vote 24 = .ok (.istore_n 3, 1) := by decide +kernel
theorem dX10_vote_25 : decode cX10_vote 25 = .ok (.iconst 0, 1) := by decide +kernel
theorem dX10_vote_26 : decode cX10_vote 26 = .ok (.istore 4, 2) := by decide +kernel
theorem dX10_vote_28 : decode cX10_vote 28 = .ok (.iload 4, 2) := by decide +kernel
theorem dX10_vote_30 : decode cX10_vote 30 = .ok (.aload_n 0, 1) := by decide +kernel
theorem dX10_vote_31 : decode cX10_vote 31 = .ok (.getfield 122, 3) := by decide +kernel
theorem dX10_vote_34 : decode cX10_vote 34 = .ok (.if_icmp .ge 40, 3) := by decide +kernel
theorem dX10_vote_37 : decode cX10_vote 37 = .ok (.aload_n 0, 1) := by decide +kernel
theorem dX10_vote_38 : decode cX10_vote 38 = .ok (.getfield 17, 3) := by decide +kernel
theorem dX10_vote_41 : decode cX10_vote 41 = .ok (.iload 4, 2) := by decide +kernel
theorem dX10_vote_43 : decode cX10_vote 43 = .ok (.aaload, 1) := by decide +kernel
theorem dX10_vote_44 : decode cX10_vote 44 = .ok (.getfield 133, 3) := by decide +kernel
theorem dX10_vote_47 : decode cX10_vote 47 = .ok (.iload_n 2, 1) := by decide +kernel
theorem dX10_vote_48 : decode cX10_vote 48 = .ok (.if_icmp .ne 20, 3) := by decide +kernel
theorem dX10_vote_51 : decode cX10_vote 51 = .ok (.aload_n 0, 1) := by decide +kernel
theorem dX10_vote_52 : decode cX10_vote 52 = .ok (.aload_n 1, 1) := by decide +kernel
theorem dX10_vote_53 : decode cX10_vote 53 = .ok (.aload_n 0, 1) := by decide +kernel
theorem dX10_vote_54 : decode cX10_vote 54 = .ok (.getfield 17, 3) := by decide +kernel
theorem dX10_vote_57 : decode cX10_vote 57 = .ok (.iload 4, 2) := by decide +kernel
theorem dX10_vote_59 : decode cX10_vote 59 = .ok (.aaload, 1) := by decide +kernel
theorem dX10_vote_60 : decode cX10_vote 60 = .ok (.invokevirtual 136, 3) := by decide +kernel
theorem dX10_vote_63 : decode cX10_vote 63 = .ok (.ifCond .ne 5, 3) := by decide +kernel
theorem dX10_vote_66 : decode cX10_vote 66 = .ok (.iconst 0, 1) := by decide +kernel
theorem dX10_vote_67 : decode cX10_vote 67 = .ok (.istore_n 3, 1) := by decide +kernel
theorem dX10_vote_68 : decode cX10_vote 68 = .ok (.iinc 4 1, 3) := by decide +kernel
theorem dX10_vote_71 : decode cX10_vote 71 = .ok (.goto (-43), 3) := by decide +kernel
theorem dX10_vote_74 : decode cX10_vote 74 = .ok (.iload_n 3, 1) := by decide +kernel
theorem dX10_vote_75 : decode cX10_vote 75 = .ok (.ifCond .ne 6, 3) := by decide +kernel
theorem dX10_vote_78 : decode cX10_vote 78 = .ok (.goto 9, 3) := by decide +kernel
theorem dX10_vote_81 : decode cX10_vote 81 = .ok (.aload_n 1, 1) := by decide +kernel
theorem dX10_vote_82 : decode cX10_vote 82 = .ok (.iload_n 2, 1) := by decide +kernel
theorem dX10_vote_83 : decode cX10_vote 83 = .ok (.putfield 133, 3) := by decide +kernel
theorem dX10_vote_86 : decode cX10_vote 86 = .ok (.return_, 1) := by decide +kernel
theorem dX10_vote_87 : decode cX10_vote 87 = .ok (.iinc 2 1, 3) := by decide +kernel
theorem dX10_vote_90 : decode cX10_vote 90 = .ok (.goto (-88), 3) := by decide +kernel
theorem dX10_vote_93 : decode cX10_vote 93 = .ok (.bipush 60, 2) := by decide +kernel
theorem dX10_vote_95 : decode cX10_vote 95 = .ok (.anewarray 15, 3) := by decide +kernel
theorem dX10_vote_98 : decode cX10_vote 98 = .ok (.astore_n 2, 1) := by decide +kernel
theorem dX10_vote_99 : decode cX10_vote 99 = .ok (.aload_n 2, 1) := by decide +kernel
theorem dX10_vote_100 : decode cX10_vote 100 = .ok (.iconst 0, 1) := by decide +kernel
theorem dX10_vote_101 : decode cX10_vote 101 = .ok (.aload_n 1, 1) := by decide +kernel
theorem dX10_vote_102 : decode cX10_vote 102 = .ok (.aastore, 1) := by decide +kernel
theorem dX10_vote_103 : decode cX10_vote 103 = .ok (.iconst 1, 1) := by decide +kernel
theorem dX10_vote_104 : decode cX10_vote 104 = .ok (.istore_n 3, 1) := by decide +kernel
theorem dX10_vote_105 : decode cX10_vote 105 = .ok (.iconst 0, 1) := by decide +kernel
theorem dX10_vote_106 : decode cX10_vote 106 = .ok (.istore 4, 2) := by decide +kernel
theorem dX10_vote_108 : decode cX10_vote 108 = .ok (.iload 4, 2) := by decide +kernel
theorem dX10_vote_110 : decode cX10_vote 110 = .ok (.aload_n 0, 1) := by decide +kernel
theorem dX10_vote_111 : decode cX10_vote 111 = .ok (.getfield 122, 3) := by decide +kernel
theorem dX10_vote_114 : decode cX10_vote 114 = .ok (.iconst 1, 1) := by decide +kernel
theorem dX10_vote_115 : decode cX10_vote 115 = .ok (.isub, 1) := by decide +kernel
theorem dX10_vote_116 : decode cX10_vote 116 = .ok (.if_icmp .ge 97, 3) := by decide +kernel
theorem dX10_vote_119 : decode cX10_vote 119 = .ok (.aload_n 0, 1) := by decide +kernel
theorem dX10_vote_120 : decode cX10_vote 120 = .ok (.getfield 17, 3) := by decide +kernel
theorem dX10_vote_123 : decode cX10_vote 123 = .ok (.iload 4, 2) := by decide +kernel
theorem dX10_vote_125 : decode cX10_vote 125 = .ok (.aaload, 1) := by decide +kernel
theorem dX10_vote_126 : decode cX10_vote 126 = .ok (.getfield 133, 3) := by decide +kernel
theorem dX10_vote_129 : decode cX10_vote 129 = .ok (.ifCond .ge 20, 3) := by decide +kernel
theorem dX10_vote_132 : decode cX10_vote 132 = .ok (.aload_n 0, 1) := by decide +kernel
theorem dX10_vote_133 : decode cX10_vote 133 = .ok (.getfield 17, 3) := by decide +kernel
theorem dX10_vote_136 : decode cX10_vote 136 = .ok (.iload 4, 2) := by decide +kernel
theorem dX10_vote_138 : decode cX10_vote 138 = .ok (.aaload, 1) := by decide +kernel
theorem dX10_vote_139 : decode cX10_vote 139 = .ok (.getfield 80, 3) := by decide +kernel
theorem dX10_vote_142 : decode cX10_vote 142 = .ok (.ifCond .ne 7, 3) := by decide +kernel
theorem dX10_vote_145 : decode cX10_vote 145 = .ok (.iconst 1, 1) := by decide +kernel
theorem dX10_vote_146 : decode cX10_vote 146 = .ok (.goto 4, 3) := by decide +kernel
theorem dX10_vote_149 : decode cX10_vote 149 = .ok (.iconst 0, 1) := by decide +kernel
theorem dX10_vote_150 : decode cX10_vote 150 = .ok (.istore 5, 2) := by decide +kernel
theorem dX10_vote_152 : decode cX10_vote 152 = .ok (.iconst 0, 1) := by decide +kernel
theorem dX10_vote_153 : decode cX10_vote 153 = .ok (.istore 6, 2) := by decide +kernel
theorem dX10_vote_155 : decode cX10_vote 155 = .ok (.iload 6, 2) := by decide +kernel
theorem dX10_vote_157 : decode cX10_vote 157 = .ok (.iload_n 3, 1) := by decide +kernel
theorem dX10_vote_158 : decode cX10_vote 158 = .ok (.if_icmp .ge 31, 3) := by decide +kernel
theorem dX10_vote_161 : decode cX10_vote 161 = .ok (.iload 5, 2) := by decide +kernel
theorem dX10_vote_163 : decode cX10_vote 163 = .ok (.ifCond .eq 26, 3) := by decide +kernel
theorem dX10_vote_166 : decode cX10_vote 166 = .ok (.aload_n 0, 1) := by decide +kernel
theorem dX10_vote_167 : decode cX10_vote 167 = .ok (.aload_n 2, 1) := by decide +kernel
theorem dX10_vote_168 : decode cX10_vote 168 = .ok (.iload 6, 2) := by decide +kernel
theorem dX10_vote_170 : decode cX10_vote 170 = .ok (.aaload, 1) := by decide +kernel
theorem dX10_vote_171 : decode cX10_vote 171 = .ok (.aload_n 0, 1) := by decide +kernel
theorem dX10_vote_172 : decode cX10_vote 172 = .ok (.getfield 17, 3) := by decide +kernel
theorem dX10_vote_175 : decode cX10_vote 175 = .ok (.iload 4, 2) := by decide +kernel
theorem dX10_vote_177 : decode cX10_vote 177 = .ok (.aaload, 1) := by decide +kernel
theorem dX10_vote_178 : decode cX10_vote 178 = .ok (.invokevirtual 136, 3) := by decide +kernel
theorem dX10_vote_181 : decode cX10_vote 181 = .ok (.istore 5, 2) := by decide +kernel
theorem dX10_vote_183 : decode cX10_vote 183 = .ok (.iinc 6 1, 3) := by decide +kernel
theorem dX10_vote_186 : decode cX10_vote 186 = .ok (.goto (-31), 3) := by decide +kernel
theorem dX10_vote_189 : decode cX10_vote 189 = .ok (.iload 5, 2) := by decide +kernel
theorem dX10_vote_191 : decode cX10_vote 191 = .ok (.ifCond .eq 16, 3) := by decide +kernel
theorem dX10_vote_194 : decode cX10_vote 194 = .ok (.aload_n 2, 1) := by decide +kernel
theorem dX10_vote_195 : decode cX10_vote 195 = .ok (.iload_n 3, 1) := by decide +kernel
theorem dX10_vote_196 : decode cX10_vote 196 = .ok (.iinc 3 1, 3) := by decide +kernel
theorem dX10_vote_199 : decode cX10_vote 199 = .ok (.aload_n 0, 1) := by decide +kernel
theorem dX10_vote_200 : decode cX10_vote 200 = .ok (.getfield 17, 3) := by decide +kernel
theorem dX10_vote_203 : decode cX10_vote 203 = .ok (.iload 4, 2) := by decide +kernel
theorem dX10_vote_205 : decode cX10_vote 205 = .ok (.aaload, 1) := by decide +kernel
theorem dX10_vote_206 : decode cX10_vote 206 = .ok (.aastore, 1) := by decide +kernel
theorem dX10_vote_207 : decode cX10_vote 207 = .ok (.iinc 4 1, 3) := by decide +kernel
theorem dX10_vote_210 : decode cX10_vote 210 = .ok (.goto (-102), 3) := by decide +kernel
theorem dX10_vote_213 : decode cX10_vote 213 = .ok (.iload_n 3, 1) := by decide +kernel
theorem dX10_vote_214 : decode cX10_vote 214 = .ok (.aload_n 0, 1) := by decide +kernel
theorem dX10_vote_215 : decode cX10_vote 215 = .ok (.getfield 140, 3) := by decide +kernel
theorem dX10_vote_218 : decode cX10_vote 218 = .ok (.if_icmp .lt 12, 3) := by decide +kernel
theorem dX10_vote_221 : decode cX10_vote 221 = .ok (.aload_n 0, 1) := by decide +kernel
theorem dX10_vote_222 : decode cX10_vote 222 = .ok (.getfield 130, 3) := by decide +kernel
theorem dX10_vote_225 : decode cX10_vote 225 = .ok (.bipush 20, 2) := by decide +kernel
theorem dX10_vote_227 : decode cX10_vote 227 = .ok (.if_icmp .ne 4, 3) := by decide +kernel
theorem dX10_vote_230 : decode cX10_vote 230 = .ok (.return_, 1) := by decide +kernel
theorem dX10_vote_231 : decode cX10_vote 231 = .ok (.iconst 0, 1) := by decide +kernel
theorem dX10_vote_232 : decode cX10_vote 232 = .ok (.istore 4, 2) := by decide +kernel
theorem dX10_vote_234 : decode cX10_vote 234 = .ok (.iload 4, 2) := by decide +kernel
theorem dX10_vote_236 : decode cX10_vote 236 = .ok (.iload_n 3, 1) := by decide +kernel
theorem dX10_vote_237 : decode cX10_vote 237 = .ok (.if_icmp .ge 20, 3) := by decide +kernel
theorem dX10_vote_240 : decode cX10_vote 240 = .ok (.aload_n 2, 1) := by decide +kernel
theorem dX10_vote_241 : decode cX10_vote 241 = .ok (.iload 4, 2) := by decide +kernel
theorem dX10_vote_243 : decode cX10_vote 243 = .ok (.aaload, 1) := by decide +kernel
theorem dX10_vote_244 : decode cX10_vote 244 = .ok (.aload_n 0, 1) := by decide +kernel
theorem dX10_vote_245 : decode cX10_vote 245 = .ok (.getfield 130, 3) := by decide +kernel
theorem dX10_vote_248 : decode cX10_vote 248 = .ok (.putfield 133, 3) := by decide +kernel
theorem dX10_vote_251 : decode cX10_vote 251 = .ok (.iinc 4 1, 3) := by decide +kernel
theorem dX10_vote_254 : decode cX10_vote 254 = .ok (.goto (-20), 3) := by decide +kernel
theorem dX10_vote_257 : decode cX10_vote 257 = .ok (.aload_n 0, 1) := by decide +kernel
theorem dX10_vote_258 : decode cX10_vote 258 = .ok (.getfield 25, 3) := by decide +kernel
theorem dX10_vote_261 : decode cX10_vote 261 = .ok (.aload_n 0, 1) := by decide +kernel
theorem dX10_vote_262 : decode cX10_vote 262 = .ok (.dup, 1) := by decide +kernel
theorem dX10_vote_263 : decode cX10_vote 263 = .ok (.getfield 130, 3) := by decide +kernel
theorem dX10_vote_266 : decode cX10_vote 266 = .ok (.dup_x1, 1) := by decide +kernel
theorem dX10_vote_267 : decode cX10_vote 267 = .ok (.iconst 1, 1) := by decide +kernel
theorem dX10_vote_268 : decode cX10_vote 268 = .ok (.iadd, 1) := by decide +kernel
theorem dX10_vote_269 : decode cX10_vote 269 = .ok (.putfield 130, 3) := by decide +kernel
theorem dX10_vote_272 : decode cX10_vote 272 = .ok (.aload_n 0, 1) := by decide +kernel
theorem dX10_vote_273 : decode cX10_vote 273 = .ok (.getfield 53, 3) := by decide +kernel
theorem dX10_vote_276 : decode cX10_vote 276 = .ok (.iastore, 1) := by decide +kernel
theorem dX10_vote_277 : decode cX10_vote 277 = .ok (.return_, 1) := by decide +kernel
theorem dX10_size_0 : decode cX10_size 0 = .ok (.iconst 0, 1) := by decide +kernel
theorem dX10_size_1 : decode cX10_size 1 = .ok (.istore_n 2, 1) := by decide +kernel
theorem dX10_size_2 : decode cX10_size 2 = .ok (.iconst 0, 1) := by decide +kernel
theorem dX10_size_3 : decode cX10_size 3 = .ok (.istore_n 3, 1) := by decide +kernel
theorem dX10_size_4 : decode cX10_size 4 = .ok (.iload_n 3, 1) := by decide +kernel
theorem dX10_size_5 : decode cX10_size 5 = .ok (.aload_n 0, 1) := by decide +kernel
theorem dX10_size_6 : decode cX10_size 6 = .ok (.getfield 122, 3) := by decide +kernel
theorem dX10_size_9 : decode cX10_size 9 = .ok (.if_icmp .ge 25, 3) := by decide +kernel
theorem dX10_size_12 : decode cX10_size 12 = .ok (.aload_n 0, 1) := by decide +kernel
theorem dX10_size_13 : decode cX10_size 13 = .ok (.getfield 17, 3) := by decide +kernel
theorem dX10_size_16 : decode cX10_size 16 = .ok (.iload_n 3, 1) := by decide +kernel
theorem dX10_size_17 : decode cX10_size 17 = .ok (.aaload, 1) := by decide +kernel
theorem dX10_size_18 : decode cX10_size 18 = .ok (.getfield 133, 3) := by decide +kernel
theorem dX10_size_21 : decode cX10_size 21 = .ok (.iload_n 1, 1) := by decide +kernel
theorem dX10_size_22 : decode cX10_size 22 = .ok (.if_icmp .ne 6, 3) := by decide +kernel
theorem dX10_size_25 : decode cX10_size 25 = .ok (.iinc 2 1, 3) := by decide +kernel
theorem dX10_size_28 : decode cX10_size 28 = .ok (.iinc 3 1, 3) := by decide +kernel
theorem dX10_size_31 : decode cX10_size 31 = .ok (.goto (-27), 3) := by decide +kernel
theorem dX10_size_34 : decode cX10_size 34 = .ok (.iload_n 2, 1) := by decide +kernel
theorem dX10_size_35 : decode cX10_size 35 = .ok (.ireturn, 1) := by decide +kernel
theorem dX10_retract_0 : decode cX10_retract 0 = .ok (.aload_n 0, 1) := by decide +kernel
theorem dX10_retract_1 : decode cX10_retract 1 = .ok (.getfield 21, 3) := by decide +kernel
theorem dX10_retract_4 : decode cX10_retract 4 = .ok (.iload_n 1, 1) := by decide +kernel
theorem dX10_retract_5 : decode cX10_retract 5 = .ok (.iconst 1, 1) := by decide +kernel
theorem dX10_retract_6 : decode cX10_retract 6 = .ok (.bastore, 1) := by decide +kernel
theorem dX10_retract_7 : decode cX10_retract 7 = .ok (.iconst 0, 1) := by decide +kernel
theorem dX10_retract_8 : decode cX10_retract 8 = .ok (.istore_n 2, 1) := by decide +kernel
theorem dX10_retract_9 : decode cX10_retract 9 = .ok (.iload_n 2, 1) := by decide +kernel
theorem dX10_retract_10 : decode cX10_retract 10 = .ok (.aload_n 0, 1) := by decide +kernel
theorem dX10_retract_11 : decode cX10_retract 11 = .ok (.getfield 122, 3) := by decide +kernel
theorem dX10_retract_14 : decode cX10_retract 14 = .ok (.if_icmp .ge 32, 3) := by decide +kernel
theorem dX10_retract_17 : decode cX10_retract 17 = .ok (.aload_n 0, 1) := by decide +kernel
theorem dX10_retract_18 : decode cX10_retract 18 = .ok (.getfield 17, 3) := by decide +kernel
theorem dX10_retract_21 : decode cX10_retract 21 = .ok (.iload_n 2, 1) := by decide +kernel
theorem dX10_retract_22 : decode cX10_retract 22 = .ok (.aaload, 1) := by decide +kernel
theorem dX10_retract_23 : decode cX10_retract 23 = .ok (.getfield 133, 3) := by decide +kernel
theorem dX10_retract_26 : decode cX10_retract 26 = .ok (.iload_n 1, 1) := by decide +kernel
theorem dX10_retract_27 : decode cX10_retract 27 = .ok (.if_icmp .ne 13, 3) := by decide +kernel
theorem dX10_retract_30 : decode cX10_retract 30 = .ok (.aload_n 0, 1) := by decide +kernel
theorem dX10_retract_31 : decode cX10_retract 31 = .ok (.getfield 17, 3) := by decide +kernel
theorem dX10_retract_34 : decode cX10_retract 34 = .ok (.iload_n 2, 1) := by decide +kernel
theorem dX10_retract_35 : decode cX10_retract 35 = .ok (.aaload, 1) := by decide +kernel
theorem dX10_retract_36 : decode cX10_retract 36 = .ok (.iconst (-1), 1) := by decide +kernel
theorem dX10_retract_37 : decode cX10_retract 37 = .ok (.putfield 133, 3) := by decide +kernel
theorem dX10_retract_40 : decode cX10_retract 40 = .ok (.iinc 2 1, 3) := by decide +kernel
theorem dX10_retract_43 : decode cX10_retract 43 = .ok (.goto (-34), 3) := by decide +kernel
theorem dX10_retract_46 : decode cX10_retract 46 = .ok (.return_, 1) := by decide +kernel
set_option maxRecDepth 20000 in
theorem ggX10_mute_X10_size : GoodIn wsX10_mute wsX10_size := goodIn_r _ [11, 3, 4, 17, 18, 19, 20, 21, 22, 23, 24, 25, 26, 27, 28, 29, 30, 31, 32, 33, 34, 35, 36, 37, 38, 39, 40, 48, 49, 50, 51, 52] (by decide +kernel) (by decide +kernel)
set_option maxRecDepth 20000 in
theorem gX10_mute_X10_size : GoodIn wsX10_mute (wsV RX10 143 RX10 yX10_size wsX10_size) := goodIn_app (goodIn_of _ (by decide +kernel)) ggX10_mute_X10_size
set_option maxRecDepth 20000 in
theorem ggX10_mute_X10_retract : GoodIn wsX10_mute wsX10_retract := goodIn_r _ [15, 16, 3, 4, 17, 18, 19, 20, 21, 22, 23, 24, 25, 26, 27, 28, 29, 30, 31, 32, 33, 34, 35, 36, 37, 38, 39, 40, 48, 49, 50, 51, 52] (by decide +kernel) (by decide +kernel)
set_option maxRecDepth 20000 in
theorem gX10_mute_X10_retract : GoodIn wsX10_mute (wsV RX10 146 RX10 yX10_retract wsX10_retract) := goodIn_app (goodIn_of _ (by decide +kernel)) ggX10_mute_X10_retract
theorem dX10_mute_0 : decode cX10_mute 0 = .ok (.aload_n 0, 1) := by decide +kernel
theorem dX10_mute_1 : decode cX10_mute 1 = .ok (.getfield 9, 3) := by decide +kernel
theorem dX10_mute_4 : decode cX10_mute 4 = .ok (.iload_n 1, 1) := by decide +kernel
theorem dX10_mute_5 : decode cX10_mute 5 = .ok (.aaload, 1) := by decide +kernel
theorem dX10_mute_6 : decode cX10_mute 6 = .ok (.iconst 1, 1) := by decide +kernel
theorem dX10_mute_7 : decode cX10_mute 7 = .ok (.putfield 117, 3) := by decide +kernel
theorem dX10_mute_10 : decode cX10_mute 10 = .ok (.aload_n 0, 1) := by decide +kernel
theorem dX10_mute_11 : decode cX10_mute 11 = .ok (.getfield 9, 3) := by decide +kernel
theorem dX10_mute_14 : decode cX10_mute 14 = .ok (.iload_n 1, 1) := by decide +kernel
theorem dX10_mute_15 : decode cX10_mute 15 = .ok (.aaload, 1) := by decide +kernel
theorem dX10_mute_16 : decode cX10_mute 16 = .ok (.iconst 0, 1) := by decide +kernel
theorem dX10_mute_17 : decode cX10_mute 17 = .ok (.putfield 101, 3) := by decide +kernel
theorem dX10_mute_20 : decode cX10_mute 20 = .ok (.bipush 20, 2) := by decide +kernel
theorem dX10_mute_22 : decode cX10_mute 22 = .ok (.newarray .boolean, 2) := by decide +kernel
theorem dX10_mute_24 : decode cX10_mute 24 = .ok (.astore_n 2, 1) := by decide +kernel
theorem dX10_mute_25 : decode cX10_mute 25 = .ok (.iconst 0, 1) := by decide +kernel
theorem dX10_mute_26 : decode cX10_mute 26 = .ok (.istore_n 3, 1) := by decide +kernel
theorem dX10_mute_27 : decode cX10_mute 27 = .ok (.iload_n 3, 1) := by decide +kernel
theorem dX10_mute_28 : decode cX10_mute 28 = .ok (.aload_n 0, 1) := by decide +kernel
theorem dX10_mute_29 : decode cX10_mute 29 = .ok (.getfield 122, 3) := by decide +kernel
theorem dX10_mute_32 : decode cX10_mute 32 = .ok (.if_icmp .ge 69, 3) := by decide +kernel
theorem dX10_mute_35 : decode cX10_mute 35 = .ok (.aload_n 0, 1) := by decide +kernel
theorem dX10_mute_36 : decode cX10_mute 36 = .ok (.getfield 17, 3) := by decide +kernel
theorem dX10_mute_39 : decode cX10_mute 39 = .ok (.iload_n 3, 1) := by decide +kernel
theorem dX10_mute_40 : decode cX10_mute 40 = .ok (.aaload, 1) := by decide +kernel
theorem dX10_mute_41 : decode cX10_mute 41 = .ok (.getfield 77, 3) := by decide +kernel
theorem dX10_mute_44 : decode cX10_mute 44 = .ok (.iload_n 1, 1) := by decide +kernel
theorem dX10_mute_45 : decode cX10_mute 45 = .ok (.if_icmp .eq 6, 3) := by decide +kernel
theorem dX10_mute_48 : decode cX10_mute 48 = .ok (.goto 47, 3) := by decide +kernel
theorem dX10_mute_51 : decode cX10_mute 51 = .ok (.aload_n 0, 1) := by decide +kernel
theorem dX10_mute_52 : decode cX10_mute 52 = .ok (.getfield 17, 3) := by decide +kernel
theorem dX10_mute_55 : decode cX10_mute 55 = .ok (.iload_n 3, 1) := by decide +kernel
theorem dX10_mute_56 : decode cX10_mute 56 = .ok (.aaload, 1) := by decide +kernel
theorem dX10_mute_57 : decode cX10_mute 57 = .ok (.getfield 133, 3) := by decide +kernel
theorem dX10_mute_60 : decode cX10_mute 60 = .ok (.ifCond .lt 15, 3) := by decide +kernel
theorem dX10_mute_63 : decode cX10_mute 63 = .ok (.aload_n 2, 1) := by decide +kernel
theorem dX10_mute_64 : decode cX10_mute 64 = .ok (.aload_n 0, 1) := by decide +kernel
theorem dX10_mute_65 : decode cX10_mute 65 = .ok (.getfield 17, 3) := by decide +kernel
theorem dX10_mute_68 : decode cX10_mute 68 = .ok (.iload_n 3, 1) := by decide +kernel
theorem dX10_mute_69 : decode cX10_mute 69 = .ok (.aaload, 1) := by decide +kernel
theorem dX10_mute_70 : decode cX10_mute 70 = .ok (.getfield 133, 3) := by decide +kernel
theorem dX10_mute_73 : decode cX10_mute 73 = .ok (.iconst 1, 1) := by decide +kernel
theorem dX10_mute_74 : decode cX10_mute 74 = .ok (.bastore, 1) := by decide +kernel
theorem dX10_mute_75 : decode cX10_mute 75 = .ok (.aload_n 0, 1) := by decide +kernel
theorem dX10_mute_76 : decode cX10_mute 76 = .ok (.getfield 17, 3) := by decide +kernel
theorem dX10_mute_79 : decode cX10_mute 79 = .ok (.iload_n 3, 1) := by decide +kernel
theorem dX10_mute_80 : decode cX10_mute 80 = .ok (.aaload, 1) := by decide +kernel
theorem dX10_mute_81 : decode cX10_mute 81 = .ok (.iconst (-1), 1) := by decide +kernel
theorem dX10_mute_82 : decode cX10_mute 82 = .ok (.putfield 133, 3) := by decide +kernel
theorem dX10_mute_85 : decode cX10_mute 85 = .ok (.aload_n 0, 1) := by decide +kernel
theorem dX10_mute_86 : decode cX10_mute 86 = .ok (.getfield 17, 3) := by decide +kernel
theorem dX10_mute_89 : decode cX10_mute 89 = .ok (.iload_n 3, 1) := by decide +kernel
theorem dX10_mute_90 : decode cX10_mute 90 = .ok (.aaload, 1) := by decide +kernel
theorem dX10_mute_91 : decode cX10_mute 91 = .ok (.iconst 1, 1) := by decide +kernel
theorem dX10_mute_92 : decode cX10_mute 92 = .ok (.putfield 80, 3) := by decide +kernel
theorem dX10_mute_95 : decode cX10_mute 95 = .ok (.iinc 3 1, 3) := by decide +kernel
theorem dX10_mute_98 : decode cX10_mute 98 = .ok (.goto (-71), 3) := by decide +kernel
theorem dX10_mute_101 : decode cX10_mute 101 = .ok (.iconst 0, 1) := by decide +kernel
theorem dX10_mute_102 : decode cX10_mute 102 = .ok (.istore_n 3, 1) := by decide +kernel
theorem dX10_mute_103 : decode cX10_mute 103 = .ok (.iconst 0, 1) := by decide +kernel
theorem dX10_mute_104 : decode cX10_mute 104 = .ok (.istore 4, 2) := by decide +kernel
theorem dX10_mute_106 : decode cX10_mute 106 = .ok (.iload 4, 2) := by decide +kernel
theorem dX10_mute_108 : decode cX10_mute 108 = .ok (.aload_n 0, 1) := by decide +kernel
theorem dX10_mute_109 : decode cX10_mute 109 = .ok (.getfield 130, 3) := by decide +kernel
theorem dX10_mute_112 : decode cX10_mute 112 = .ok (.if_icmp .ge 41, 3) := by decide +kernel
theorem dX10_mute_115 : decode cX10_mute 115 = .ok (.aload_n 2, 1) := by decide +kernel
theorem dX10_mute_116 : decode cX10_mute 116 = .ok (.iload 4, 2) := by decide +kernel
theorem dX10_mute_118 : decode cX10_mute 118 = .ok (.baload, 1) := by decide +kernel
theorem dX10_mute_119 : decode cX10_mute 119 = .ok (.ifCond .eq 28, 3) := by decide +kernel
theorem dX10_mute_122 : decode cX10_mute 122 = .ok (.aload_n 0, 1) := by decide +kernel
theorem dX10_mute_123 : decode cX10_mute 123 = .ok (.iload 4, 2) := by decide +kernel
theorem dX10_mute_125 : decode cX10_mute 125 = .ok (.invokevirtual 143, 3) := by decide +kernel
theorem dX10_mute_128 : decode cX10_mute 128 = .ok (.aload_n 0, 1) := by decide +kernel
theorem dX10_mute_129 : decode cX10_mute 129 = .ok (.getfield 140, 3) := by decide +kernel
theorem dX10_mute_132 : decode cX10_mute 132 = .ok (.if_icmp .lt 6, 3) := by decide +kernel
theorem dX10_mute_135 : decode cX10_mute 135 = .ok (.goto 12, 3) := by decide +kernel
theorem dX10_mute_138 : decode cX10_mute 138 = .ok (.aload_n 0, 1) := by decide +kernel
theorem dX10_mute_139 : decode cX10_mute 139 = .ok (.iload 4, 2) := by decide +kernel
theorem dX10_mute_141 : decode cX10_mute 141 = .ok (.invokevirtual 146, 3) := by decide +kernel
theorem dX10_mute_144 : decode cX10_mute 144 = .ok (.iinc 3 1, 3) := by decide +kernel
theorem dX10_mute_147 : decode cX10_mute 147 = .ok (.iinc 4 1, 3) := by decide +kernel
theorem dX10_mute_150 : decode cX10_mute 150 = .ok (.goto (-44), 3) := by decide +kernel
theorem dX10_mute_153 : decode cX10_mute 153 = .ok (.iload_n 3, 1) := by decide +kernel
theorem dX10_mute_154 : decode cX10_mute 154 = .ok (.ireturn, 1) := by decide +kernel
set_option maxRecDepth 20000 in
theorem ggX10_fitAt_X10_time : GoodIn wsX10_fitAt wsX10_time := goodIn_r _ [17, 18, 19, 20, 16, 21, 22, 23, 24, 29, 30, 31, 32, 33, 34, 35, 36, 37, 38, 39, 40, 41, 42, 43, 44, 45, 46, 47, 48, 49, 50, 51, 52, 58, 59, 60, 61, 62, 63, 64] (by decide +kernel) (by decide +kernel)
set_option maxRecDepth 20000 in
theorem gX10_fitAt_X10_time : GoodIn wsX10_fitAt (wsV RX10 90 RX10 yX10_time wsX10_time) := goodIn_app (goodIn_of _ (by decide +kernel)) ggX10_fitAt_X10_time
set_option maxRecDepth 20000 in
theorem ggX10_fitAt_X10_size : GoodIn wsX10_fitAt wsX10_size := goodIn_r _ [28, 5, 6, 29, 30, 31, 32, 33, 34, 35, 36, 37, 38, 39, 40, 41, 42, 43, 44, 45, 46, 47, 48, 49, 50, 51, 52, 53, 54, 55, 56, 57] (by decide +kernel) (by decide +kernel)
set_option maxRecDepth 20000 in
theorem gX10_fitAt_X10_size : GoodIn wsX10_fitAt (wsV RX10 143 RX10 yX10_size wsX10_size) := goodIn_app (goodIn_of _ (by decide +kernel)) ggX10_fitAt_X10_size
theorem dX10_fitAt_0 : decode cX10_fitAt 0 = .ok (.aload_n 0, 1) := by decide +kernel
theorem dX10_fitAt_1 : decode cX10_fitAt 1 = .ok (.getfield 150, 3) := by decide +kernel
theorem dX10_fitAt_4 : decode cX10_fitAt 4 = .ok (.iload_n 1, 1) := by decide +kernel
theorem dX10_fitAt_5 : decode cX10_fitAt 5 = .ok (.aload_n 0, 1) := by decide +kernel
theorem dX10_fitAt_6 : decode cX10_fitAt 6 = .ok (.getfield 153, 3) := by decide +kernel
theorem dX10_fitAt_9 : decode cX10_fitAt 9 = .ok (.irem, 1) := by decide +kernel
theorem dX10_fitAt_10 : decode cX10_fitAt 10 = .ok (.aload_n 0, 1) := by decide +kernel
theorem dX10_fitAt_11 : decode cX10_fitAt 11 = .ok (.getfield 156, 3) := by decide +kernel
theorem dX10_fitAt_14 : decode cX10_fitAt 14 = .ok (.imul, 1) := by decide +kernel
theorem dX10_fitAt_15 : decode cX10_fitAt 15 = .ok (.iadd, 1) := by decide +kernel
theorem dX10_fitAt_16 : decode cX10_fitAt 16 = .ok (.istore_n 3, 1) := by decide +kernel
theorem dX10_fitAt_17 : decode cX10_fitAt 17 = .ok (.aload_n 0, 1) := by decide +kernel
theorem dX10_fitAt_18 : decode cX10_fitAt 18 = .ok (.getfield 159, 3) := by decide +kernel
theorem dX10_fitAt_21 : decode cX10_fitAt 21 = .ok (.iload_n 1, 1) := by decide +kernel
theorem dX10_fitAt_22 : decode cX10_fitAt 22 = .ok (.aload_n 0, 1) := by decide +kernel
theorem dX10_fitAt_23 : decode cX10_fitAt 23 = .ok (.getfield 153, 3) := by decide +kernel
theorem dX10_fitAt_26 : decode cX10_fitAt 26 = .ok (.idiv, 1) := by decide +kernel
theorem dX10_fitAt_27 : decode cX10_fitAt 27 = .ok (.aload_n 0, 1) := by decide +kernel
theorem dX10_fitAt_28 : decode cX10_fitAt 28 = .ok (.getfield 156, 3) := by decide +kernel
theorem dX10_fitAt_31 : decode cX10_fitAt 31 = .ok (.imul, 1) := by decide +kernel
theorem dX10_fitAt_32 : decode cX10_fitAt 32 = .ok (.iadd, 1) := by decide +kernel
theorem dX10_fitAt_33 : decode cX10_fitAt 33 = .ok (.istore 4, 2) := by decide +kernel
theorem dX10_fitAt_35 : decode cX10_fitAt 35 = .ok (.iconst 0, 1) := by decide +kernel
theorem dX10_fitAt_36 : decode cX10_fitAt 36 = .ok (.istore 5, 2) := by decide +kernel
theorem dX10_fitAt_38 : decode cX10_fitAt 38 = .ok (.iconst 0, 1) := by decide +kernel
theorem dX10_fitAt_39 : decode cX10_fitAt 39 = .ok (.istore 6, 2) := by decide +kernel
theorem dX10_fitAt_41 : decode cX10_fitAt 41 = .ok (.iload 6, 2) := by decide +kernel
theorem dX10_fitAt_43 : decode cX10_fitAt 43 = .ok (.aload_n 0, 1) := by decide +kernel
theorem dX10_fitAt_44 : decode cX10_fitAt 44 = .ok (.getfield 122, 3) := by decide +kernel
theorem dX10_fitAt_47 : decode cX10_fitAt 47 = .ok (.if_icmp .ge 61, 3) := by decide +kernel
theorem dX10_fitAt_50 : decode cX10_fitAt 50 = .ok (.aload_n 0, 1) := by decide +kernel
theorem dX10_fitAt_51 : decode cX10_fitAt 51 = .ok (.getfield 17, 3) := by decide +kernel
theorem dX10_fitAt_54 : decode cX10_fitAt 54 = .ok (.iload 6, 2) := by decide +kernel
theorem dX10_fitAt_56 : decode cX10_fitAt 56 = .ok (.aaload, 1) := by decide +kernel
theorem dX10_fitAt_57 : decode cX10_fitAt 57 = .ok (.getfield 133, 3) := by decide +kernel
theorem dX10_fitAt_60 : decode cX10_fitAt 60 = .ok (.iload_n 2, 1) := by decide +kernel
theorem dX10_fitAt_61 : decode cX10_fitAt 61 = .ok (.if_icmp .ne 41, 3) := by decide +kernel
theorem dX10_fitAt_64 : decode cX10_fitAt 64 = .ok (.iload 5, 2) := by decide +kernel
theorem dX10_fitAt_66 : decode cX10_fitAt 66 = .ok (.aload_n 0, 1) := by decide +kernel
theorem dX10_fitAt_67 : decode cX10_fitAt 67 = .ok (.getfield 17, 3) := by decide +kernel
theorem dX10_fitAt_70 : decode cX10_fitAt 70 = .ok (.iload 6, 2) := by decide +kernel
theorem dX10_fitAt_72 : decode cX10_fitAt 72 = .ok (.aaload, 1) := by decide +kernel
theorem dX10_fitAt_73 : decode cX10_fitAt 73 = .ok (.getfield 84, 3) := by decide +kernel
theorem dX10_fitAt_76 : decode cX10_fitAt 76 = .ok (.aload_n 0, 1) := by decide +kernel
theorem dX10_fitAt_77 : decode cX10_fitAt 77 = .ok (.iload_n 3, 1) := by decide +kernel
theorem dX10_fitAt_78 : decode cX10_fitAt 78 = .ok (.iload 4, 2) := by decide +kernel
theorem dX10_fitAt_80 : decode cX10_fitAt 80 = .ok (.aload_n 0, 1) := by decide +kernel
theorem dX10_fitAt_81 : decode cX10_fitAt 81 = .ok (.getfield 9, 3) := by decide +kernel
theorem dX10_fitAt_84 : decode cX10_fitAt 84 = .ok (.aload_n 0, 1) := by decide +kernel
theorem dX10_fitAt_85 : decode cX10_fitAt 85 = .ok (.getfield 17, 3) := by decide +kernel
theorem dX10_fitAt_88 : decode cX10_fitAt 88 = .ok (.iload 6, 2) := by decide +kernel
theorem dX10_fitAt_90 : decode cX10_fitAt 90 = .ok (.aaload, 1) := by decide +kernel
theorem dX10_fitAt_91 : decode cX10_fitAt 91 = .ok (.getfield 77, 3) := by decide +kernel
theorem dX10_fitAt_94 : decode cX10_fitAt 94 = .ok (.aaload, 1) := by decide +kernel
theorem dX10_fitAt_95 : decode cX10_fitAt 95 = .ok (.invokevirtual 90, 3) := by decide +kernel
theorem dX10_fitAt_98 : decode cX10_fitAt 98 = .ok (.isub, 1) := by decide +kernel
theorem dX10_fitAt_99 : decode cX10_fitAt 99 = .ok (.iadd, 1) := by decide +kernel
theorem dX10_fitAt_100 : decode cX10_fitAt 100 = .ok (.istore 5, 2) := by decide +kernel
theorem dX10_fitAt_102 : decode cX10_fitAt 102 = .ok (.iinc 6 1, 3) := by decide +kernel
theorem dX10_fitAt_105 : decode cX10_fitAt 105 = .ok (.goto (-64), 3) := by decide +kernel
theorem dX10_fitAt_108 : decode cX10_fitAt 108 = .ok (.iload 5, 2) := by decide +kernel
theorem dX10_fitAt_110 : decode cX10_fitAt 110 = .ok (.aload_n 0, 1) := by decide +kernel
theorem dX10_fitAt_111 : decode cX10_fitAt 111 = .ok (.iload_n 2, 1) := by decide +kernel
theorem dX10_fitAt_112 : decode cX10_fitAt 112 = .ok (.invokevirtual 143, 3) := by decide +kernel
theorem dX10_fitAt_115 : decode cX10_fitAt 115 = .ok (.idiv, 1) := by decide +kernel
theorem dX10_fitAt_116 : decode cX10_fitAt 116 = .ok (.istore 6, 2) := by decide +kernel
theorem dX10_fitAt_118 : decode cX10_fitAt 118 = .ok (.iconst 0, 1) := by decide +kernel
theorem dX10_fitAt_119 : decode cX10_fitAt 119 = .ok (.istore 7, 2) := by decide +kernel
theorem dX10_fitAt_121 : decode cX10_fitAt 121 = .ok (.iconst 0, 1) := by decide +kernel
theorem dX10_fitAt_122 : decode cX10_fitAt 122 = .ok (.istore 8, 2) := by decide +kernel
theorem dX10_fitAt_124 : decode cX10_fitAt 124 = .ok (.iload 8, 2) := by decide +kernel
theorem dX10_fitAt_126 : decode cX10_fitAt 126 = .ok (.aload_n 0, 1) := by decide +kernel
theorem dX10_fitAt_127 : decode cX10_fitAt 127 = .ok (.getfield 122, 3) := by decide +kernel
theorem dX10_fitAt_130 : decode cX10_fitAt 130 = .ok (.if_icmp .ge 67, 3) := by decide +kernel
theorem dX10_fitAt_133 : decode cX10_fitAt 133 = .ok (.aload_n 0, 1) := by decide +kernel
theorem dX10_fitAt_134 : decode cX10_fitAt 134 = .ok (.getfield 17, 3) := by decide +kernel
theorem dX10_fitAt_137 : decode cX10_fitAt 137 = .ok (.iload 8, 2) := by decide +kernel
theorem dX10_fitAt_139 : decode cX10_fitAt 139 = .ok (.aaload, 1) := by decide +kernel
theorem dX10_fitAt_140 : decode cX10_fitAt 140 = .ok (.getfield 133, 3) := by decide +kernel
theorem dX10_fitAt_143 : decode cX10_fitAt 143 = .ok (.iload_n 2, 1) := by decide +kernel
theorem dX10_fitAt_144 : decode cX10_fitAt 144 = .ok (.if_icmp .ne 47, 3) := by decide +kernel
theorem dX10_fitAt_147 : decode cX10_fitAt 147 = .ok (.iload 7, 2) := by decide +kernel
theorem dX10_fitAt_149 : decode cX10_fitAt 149 = .ok (.aload_n 0, 1) := by decide +kernel
theorem dX10_fitAt_150 : decode cX10_fitAt 150 = .ok (.getfield 17, 3) := by decide +kernel
theorem dX10_fitAt_153 : decode cX10_fitAt 153 = .ok (.iload 8, 2) := by decide +kernel
theorem dX10_fitAt_155 : decode cX10_fitAt 155 = .ok (.aaload, 1) := by decide +kernel
theorem dX10_fitAt_156 : decode cX10_fitAt 156 = .ok (.getfield 84, 3) := by decide +kernel
theorem dX10_fitAt_159 : decode cX10_fitAt 159 = .ok (.aload_n 0, 1) := by decide +kernel
theorem dX10_fitAt_160 : decode cX10_fitAt 160 = .ok (.iload_n 3, 1) := by decide +kernel
theorem dX10_fitAt_161 : decode cX10_fitAt 161 = .ok (.iload 4, 2) := by decide +kernel
theorem dX10_fitAt_163 : decode cX10_fitAt 163 = .ok (.aload_n 0, 1) := by decide +kernel
theorem dX10_fitAt_164 : decode cX10_fitAt 164 = .ok (.getfield 9, 3) := by decide +kernel
theorem dX10_fitAt_167 : decode cX10_fitAt 167 = .ok (.aload_n 0, 1) := by decide +kernel
theorem dX10_fitAt_168 : decode cX10_fitAt 168 = .ok (.getfield 17, 3) := by decide +kernel
theorem dX10_fitAt_171 : decode cX10_fitAt 171 = .ok (.iload 8, 2) := by decide +kernel
theorem dX10_fitAt_173 : decode cX10_fitAt 173 = .ok (.aaload, 1) := by decide +kernel
theorem dX10_fitAt_174 : decode cX10_fitAt 174 = .ok (.getfield 77, 3) := by decide +kernel
theorem dX10_fitAt_177 : decode cX10_fitAt 177 = .ok (.aaload, 1) := by decide +kernel
theorem dX10_fitAt_178 : decode cX10_fitAt 178 = .ok (.invokevirtual 90, 3) := by decide +kernel
theorem dX10_fitAt_181 : decode cX10_fitAt 181 = .ok (.isub, 1) := by decide +kernel
theorem dX10_fitAt_182 : decode cX10_fitAt 182 = .ok (.iload 6, 2) := by decide +kernel
theorem dX10_fitAt_184 : decode cX10_fitAt 184 = .ok (.isub, 1) := by decide +kernel
theorem dX10_fitAt_185 : decode cX10_fitAt 185 = .ok (.invokestatic 87, 3) := by decide +kernel
theorem dX10_fitAt_188 : decode cX10_fitAt 188 = .ok (.iadd, 1) := by decide +kernel
theorem dX10_fitAt_189 : decode cX10_fitAt 189 = .ok (.istore 7, 2) := by decide +kernel
theorem dX10_fitAt_191 : decode cX10_fitAt 191 = .ok (.iinc 8 1, 3) := by decide +kernel
theorem dX10_fitAt_194 : decode cX10_fitAt 194 = .ok (.goto (-70), 3) := by decide +kernel
theorem dX10_fitAt_197 : decode cX10_fitAt 197 = .ok (.iconst 2, 1) := by decide +kernel
theorem dX10_fitAt_198 : decode cX10_fitAt 198 = .ok (.newarray .int, 2) := by decide +kernel
theorem dX10_fitAt_200 : decode cX10_fitAt 200 = .ok (.dup, 1) := by decide +kernel
theorem dX10_fitAt_201 : decode cX10_fitAt 201 = .ok (.iconst 0, 1) := by decide +kernel
theorem dX10_fitAt_202 : decode cX10_fitAt 202 = .ok (.iload 6, 2) := by decide +kernel
theorem dX10_fitAt_204 : decode cX10_fitAt 204 = .ok (.iastore, 1) := by decide +kernel
theorem dX10_fitAt_205 : decode cX10_fitAt 205 = .ok (.dup, 1) := by decide +kernel
theorem dX10_fitAt_206 : decode cX10_fitAt 206 = .ok (.iconst 1, 1) := by decide +kernel
theorem dX10_fitAt_207 : decode cX10_fitAt 207 = .ok (.iload 7, 2) := by decide +kernel
theorem dX10_fitAt_209 : decode cX10_fitAt 209 = .ok (.iastore, 1) := by decide +kernel
theorem dX10_fitAt_210 : decode cX10_fitAt 210 = .ok (.areturn, 1) := by decide +kernel
set_option maxRecDepth 20000 in
theorem ggX10_node_X10_fitAt : GoodIn wsX10_node wsX10_fitAt := goodIn_r _ [7, 8, 1, 9, 10, 11, 12, 13, 14, 15, 16, 17, 18, 19, 20, 21, 6, 22, 23, 24, 25, 26, 27, 28, 29, 30, 31, 32, 33, 34, 35, 36, 37, 38, 39, 40, 41, 42, 43, 44, 45, 46, 47, 48, 49, 50, 51, 52, 53, 54, 55, 56, 57, 58, 59, 60, 61, 62, 63, 64, 65, 66, 67, 68, 69] (by decide +kernel) (by decide +kernel)
set_option maxRecDepth 20000 in
theorem gX10_node_X10_fitAt : GoodIn wsX10_node (wsV RX10 162 RX10 yX10_fitAt wsX10_fitAt) := goodIn_app (goodIn_of _ (by decide +kernel)) ggX10_node_X10_fitAt
theorem dX10_node_0 : decode cX10_node 0 = .ok (.iconst 0, 1) := by decide +kernel
theorem dX10_node_1 : decode cX10_node 1 = .ok (.istore_n 2, 1) := by decide +kernel
theorem dX10_node_2 : decode cX10_node 2 = .ok (.aload_n 0, 1) := by decide +kernel
theorem dX10_node_3 : decode cX10_node 3 = .ok (.iconst 0, 1) := by decide +kernel
theorem dX10_node_4 : decode cX10_node 4 = .ok (.iload_n 1, 1) := by decide +kernel
theorem dX10_node_5 : decode cX10_node 5 = .ok (.invokevirtual 162, 3) := by decide +kernel
theorem dX10_node_8 : decode cX10_node 8 = .ok (.iconst 1, 1) := by decide +kernel
theorem dX10_node_9 : decode cX10_node 9 = .ok (.iaload, 1) := by decide +kernel
theorem dX10_node_10 : decode cX10_node 10 = .ok (.istore_n 3, 1) := by decide +kernel
theorem dX10_node_11 : decode cX10_node 11 = .ok (.iconst 1, 1) := by decide +kernel
theorem dX10_node_12 : decode cX10_node 12 = .ok (.istore 4, 2) := by decide +kernel
theorem dX10_node_14 : decode cX10_node 14 = .ok (.iload 4, 2) := by decide +kernel
theorem dX10_node_16 : decode cX10_node 16 = .ok (.aload_n 0, 1) := by decide +kernel
theorem dX10_node_17 : decode cX10_node 17 = .ok (.getfield 153, 3) := by decide +kernel
theorem dX10_node_20 : decode cX10_node 20 = .ok (.aload_n 0, 1) := by decide +kernel
theorem dX10_node_21 : decode cX10_node 21 = .ok (.getfield 166, 3) := by decide +kernel
theorem dX10_node_24 : decode cX10_node 24 = .ok (.imul, 1) := by decide +kernel
theorem dX10_node_25 : decode cX10_node 25 = .ok (.if_icmp .ge 35, 3) := by decide +kernel
theorem dX10_node_28 : decode cX10_node 28 = .ok (.aload_n 0, 1) := by decide +kernel
theorem dX10_node_29 : decode cX10_node 29 = .ok (.iload 4, 2) := by decide +kernel
theorem dX10_node_31 : decode cX10_node 31 = .ok (.iload_n 1, 1) := by decide +kernel
theorem dX10_node_32 : decode cX10_node 32 = .ok (.invokevirtual 162, 3) := by decide +kernel
theorem dX10_node_35 : decode cX10_node 35 = .ok (.iconst 1, 1) := by decide +kernel
theorem dX10_node_36 : decode cX10_node 36 = .ok (.iaload, 1) := by decide +kernel
theorem dX10_node_37 : decode cX10_node 37 = .ok (.istore 5, 2) := by decide +kernel
theorem dX10_node_39 : decode cX10_node 39 = .ok (.iload 5, 2) := by decide +kernel
theorem dX10_node_41 : decode cX10_node 41 = .ok (.iload_n 3, 1) := by decide +kernel
theorem dX10_node_42 : decode cX10_node 42 = .ok (.if_icmp .lt 6, 3) := by decide +kernel
theorem dX10_node_45 : decode cX10_node 45 = .ok (.goto 9, 3) := by decide +kernel
theorem dX10_node_48 : decode cX10_node 48 = .ok (.iload 4, 2) := by decide +kernel
theorem dX10_node_50 : decode cX10_node 50 = .ok (.istore_n 2, 1) := by decide +kernel
theorem dX10_node_51 : decode cX10_node 51 = .ok (.iload 5, 2) := by decide +kernel
theorem dX10_node_53 : decode cX10_node 53 = .ok (.istore_n 3, 1) := by decide +kernel
theorem dX10_node_54 : decode cX10_node 54 = .ok (.iinc 4 1, 3) := by decide +kernel
theorem dX10_node_57 : decode cX10_node 57 = .ok (.goto (-43), 3) := by decide +kernel
theorem dX10_node_60 : decode cX10_node 60 = .ok (.iload_n 2, 1) := by decide +kernel
theorem dX10_node_61 : decode cX10_node 61 = .ok (.ireturn, 1) := by decide +kernel
theorem dX10_rung_0 : decode cX10_rung 0 = .ok (.iconst (-1), 1) := by decide +kernel
theorem dX10_rung_1 : decode cX10_rung 1 = .ok (.istore_n 2, 1) := by decide +kernel
theorem dX10_rung_2 : decode cX10_rung 2 = .ok (.iconst 0, 1) := by decide +kernel
theorem dX10_rung_3 : decode cX10_rung 3 = .ok (.istore_n 3, 1) := by decide +kernel
theorem dX10_rung_4 : decode cX10_rung 4 = .ok (.iload_n 3, 1) := by decide +kernel
theorem dX10_rung_5 : decode cX10_rung 5 = .ok (.aload_n 0, 1) := by decide +kernel
theorem dX10_rung_6 : decode cX10_rung 6 = .ok (.getfield 169, 3) := by decide +kernel
theorem dX10_rung_9 : decode cX10_rung 9 = .ok (.if_icmp .ge 26, 3) := by decide +kernel
theorem dX10_rung_12 : decode cX10_rung 12 = .ok (.iload_n 1, 1) := by decide +kernel
theorem dX10_rung_13 : decode cX10_rung 13 = .ok (.aload_n 0, 1) := by decide +kernel
theorem dX10_rung_14 : decode cX10_rung 14 = .ok (.getfield 29, 3) := by decide +kernel
theorem dX10_rung_17 : decode cX10_rung 17 = .ok (.iload_n 3, 1) := by decide +kernel
theorem dX10_rung_18 : decode cX10_rung 18 = .ok (.iaload, 1) := by decide +kernel
theorem dX10_rung_19 : decode cX10_rung 19 = .ok (.if_icmp .lt 10, 3) := by decide +kernel
theorem dX10_rung_22 : decode cX10_rung 22 = .ok (.aload_n 0, 1) := by decide +kernel
theorem dX10_rung_23 : decode cX10_rung 23 = .ok (.getfield 32, 3) := by decide +kernel
theorem dX10_rung_26 : decode cX10_rung 26 = .ok (.iload_n 3, 1) := by decide +kernel
theorem dX10_rung_27 : decode cX10_rung 27 = .ok (.iaload, 1) := by decide +kernel
theorem dX10_rung_28 : decode cX10_rung 28 = .ok (.istore_n 2, 1) := by decide +kernel
theorem dX10_rung_29 : decode cX10_rung 29 = .ok (.iinc 3 1, 3) := by decide +kernel
theorem dX10_rung_32 : decode cX10_rung 32 = .ok (.goto (-28), 3) := by decide +kernel
theorem dX10_rung_35 : decode cX10_rung 35 = .ok (.iload_n 2, 1) := by decide +kernel
theorem dX10_rung_36 : decode cX10_rung 36 = .ok (.ireturn, 1) := by decide +kernel
set_option maxRecDepth 20000 in
theorem ggX10_magnitude_X10_far : GoodIn wsX10_magnitude wsX10_far := goodIn_r _ [13, 14, 15, 12, 16, 53, 54, 55, 56, 57, 58, 59] (by decide +kernel) (by decide +kernel)
set_option maxRecDepth 20000 in
theorem gX10_magnitude_X10_far : GoodIn wsX10_magnitude (va_wsS RX10 35 yX10_far wsX10_far) := goodIn_app (goodIn_of _ (by decide +kernel)) ggX10_magnitude_X10_far
set_option maxRecDepth 20000 in
theorem ggX10_magnitude_X10_rung : GoodIn wsX10_magnitude wsX10_rung := goodIn_r _ [20, 21, 22, 23, 24, 25, 26, 27, 28, 29, 30, 31, 32, 33, 34, 35, 36, 37, 38, 39, 40, 41, 42, 43, 44, 45, 46, 47] (by decide +kernel) (by decide +kernel)
set_option maxRecDepth 20000 in
theorem gX10_magnitude_X10_rung : GoodIn wsX10_magnitude (wsV RX10 175 RX10 yX10_rung wsX10_rung) := goodIn_app (goodIn_of _ (by decide +kernel)) ggX10_magnitude_X10_rung
theorem dX10_magnitude_0 : decode cX10_magnitude 0 = .ok (.aload_n 0, 1) := by decide +kernel
theorem dX10_magnitude_1 : decode cX10_magnitude 1 = .ok (.getfield 150, 3) := by decide +kernel
theorem dX10_magnitude_4 : decode cX10_magnitude 4 = .ok (.iload_n 2, 1) := by decide +kernel
theorem dX10_magnitude_5 : decode cX10_magnitude 5 = .ok (.aload_n 0, 1) := by decide +kernel
theorem dX10_magnitude_6 : decode cX10_magnitude 6 = .ok (.getfield 153, 3) := by decide +kernel
theorem dX10_magnitude_9 : decode cX10_magnitude 9 = .ok (.irem, 1) := by decide +kernel
theorem dX10_magnitude_10 : decode cX10_magnitude 10 = .ok (.aload_n 0, 1) := by decide +kernel
theorem dX10_magnitude_11 : decode cX10_magnitude 11 = .ok (.getfield 156, 3) := by decide +kernel
theorem dX10_magnitude_14 : decode cX10_magnitude 14 = .ok (.imul, 1) := by decide +kernel
theorem dX10_magnitude_15 : decode cX10_magnitude 15 = .ok (.iadd, 1) := by decide +kernel
theorem dX10_magnitude_16 : decode cX10_magnitude 16 = .ok (.istore_n 3, 1) := by decide +kernel
theorem dX10_magnitude_17 : decode cX10_magnitude 17 = .ok (.aload_n 0, 1) := by decide +kernel
theorem dX10_magnitude_18 : decode cX10_magnitude 18 = .ok (.getfield 159, 3) := by decide +kernel
theorem dX10_magnitude_21 : decode cX10_magnitude 21 = .ok (.iload_n 2, 1) := by decide +kernel
theorem dX10_magnitude_22 : decode cX10_magnitude 22 = .ok (.aload_n 0, 1) := by decide +kernel
theorem dX10_magnitude_23 : decode cX10_magnitude 23 = .ok (.getfield 153, 3) := by decide +kernel
theorem dX10_magnitude_26 : decode cX10_magnitude 26 = .ok (.idiv, 1) := by decide +kernel
theorem dX10_magnitude_27 : decode cX10_magnitude 27 = .ok (.aload_n 0, 1) := by decide +kernel
theorem dX10_magnitude_28 : decode cX10_magnitude 28 = .ok (.getfield 156, 3) := by decide +kernel
theorem dX10_magnitude_31 : decode cX10_magnitude 31 = .ok (.imul, 1) := by decide +kernel
theorem dX10_magnitude_32 : decode cX10_magnitude 32 = .ok (.iadd, 1) := by decide +kernel
theorem dX10_magnitude_33 : decode cX10_magnitude 33 = .ok (.istore 4, 2) := by decide +kernel
theorem dX10_magnitude_35 : decode cX10_magnitude 35 = .ok (.bipush 60, 2) := by decide +kernel
theorem dX10_magnitude_37 : decode cX10_magnitude 37 = .ok (.newarray .int, 2) := by decide +kernel
theorem dX10_magnitude_39 : decode cX10_magnitude 39 = .ok (.astore 5, 2) := by decide +kernel
theorem dX10_magnitude_41 : decode cX10_magnitude 41 = .ok (.iconst 0, 1) := by decide +kernel
theorem dX10_magnitude_42 : decode cX10_magnitude 42 = .ok (.istore 6, 2) := by decide +kernel
theorem dX10_magnitude_44 : decode cX10_magnitude 44 = .ok (.iconst 0, 1) := by decide +kernel
theorem dX10_magnitude_45 : decode cX10_magnitude 45 = .ok (.istore 7, 2) := by decide +kernel
theorem dX10_magnitude_47 : decode cX10_magnitude 47 = .ok (.iload 7, 2) := by decide +kernel
theorem dX10_magnitude_49 : decode cX10_magnitude 49 = .ok (.aload_n 0, 1) := by decide +kernel
theorem dX10_magnitude_50 : decode cX10_magnitude 50 = .ok (.getfield 122, 3) := by decide +kernel
theorem dX10_magnitude_53 : decode cX10_magnitude 53 = .ok (.if_icmp .ge 118, 3) := by decide +kernel
theorem dX10_magnitude_56 : decode cX10_magnitude 56 = .ok (.aload_n 0, 1) := by decide +kernel
theorem dX10_magnitude_57 : decode cX10_magnitude 57 = .ok (.getfield 17, 3) := by decide +kernel
theorem dX10_magnitude_60 : decode cX10_magnitude 60 = .ok (.iload 7, 2) := by decide +kernel
theorem dX10_magnitude_62 : decode cX10_magnitude 62 = .ok (.aaload, 1) := by decide +kernel
theorem dX10_magnitude_63 : decode cX10_magnitude 63 = .ok (.getfield 133, 3) := by decide +kernel
theorem dX10_magnitude_66 : decode cX10_magnitude 66 = .ok (.iload_n 1, 1) := by decide +kernel
theorem dX10_magnitude_67 : decode cX10_magnitude 67 = .ok (.if_icmp .eq 6, 3) := by decide +kernel
theorem dX10_magnitude_70 : decode cX10_magnitude 70 = .ok (.goto 95, 3) := by decide +kernel
theorem dX10_magnitude_73 : decode cX10_magnitude 73 = .ok (.aload_n 0, 1) := by decide +kernel
theorem dX10_magnitude_74 : decode cX10_magnitude 74 = .ok (.aload_n 0, 1) := by decide +kernel
theorem dX10_magnitude_75 : decode cX10_magnitude 75 = .ok (.getfield 17, 3) := by decide +kernel
theorem dX10_magnitude_78 : decode cX10_magnitude 78 = .ok (.iload 7, 2) := by decide +kernel
theorem dX10_magnitude_80 : decode cX10_magnitude 80 = .ok (.aaload, 1) := by decide +kernel
theorem dX10_magnitude_81 : decode cX10_magnitude 81 = .ok (.getfield 107, 3) := by decide +kernel
theorem dX10_magnitude_84 : decode cX10_magnitude 84 = .ok (.aload_n 0, 1) := by decide +kernel
theorem dX10_magnitude_85 : decode cX10_magnitude 85 = .ok (.getfield 172, 3) := by decide +kernel
theorem dX10_magnitude_88 : decode cX10_magnitude 88 = .ok (.iload_n 3, 1) := by decide +kernel
theorem dX10_magnitude_89 : decode cX10_magnitude 89 = .ok (.iload 4, 2) := by decide +kernel
theorem dX10_magnitude_91 : decode cX10_magnitude 91 = .ok (.aload_n 0, 1) := by decide +kernel
theorem dX10_magnitude_92 : decode cX10_magnitude 92 = .ok (.getfield 9, 3) := by decide +kernel
theorem dX10_magnitude_95 : decode cX10_magnitude 95 = .ok (.aload_n 0, 1) := by decide +kernel
theorem dX10_magnitude_96 : decode cX10_magnitude 96 = .ok (.getfield 17, 3) := by decide +kernel
theorem dX10_magnitude_99 : decode cX10_magnitude 99 = .ok (.iload 7, 2) := by decide +kernel
theorem dX10_magnitude_101 : decode cX10_magnitude 101 = .ok (.aaload, 1) := by decide +kernel
theorem dX10_magnitude_102 : decode cX10_magnitude 102 = .ok (.getfield 77, 3) := by decide +kernel
theorem dX10_magnitude_105 : decode cX10_magnitude 105 = .ok (.aaload, 1) := by decide +kernel
theorem dX10_magnitude_106 : decode cX10_magnitude 106 = .ok (.invokestatic 35, 3) := by decide +kernel
theorem dX10_magnitude_109 : decode cX10_magnitude 109 = .ok (.imul, 1) := by decide +kernel
theorem dX10_magnitude_110 : decode cX10_magnitude 110 = .ok (.iadd, 1) := by decide +kernel
theorem dX10_magnitude_111 : decode cX10_magnitude 111 = .ok (.invokevirtual 175, 3) := by decide +kernel
theorem dX10_magnitude_114 : decode cX10_magnitude 114 = .ok (.istore 8, 2) := by decide +kernel
theorem dX10_magnitude_116 : decode cX10_magnitude 116 = .ok (.iload 6, 2) := by decide +kernel
theorem dX10_magnitude_118 : decode cX10_magnitude 118 = .ok (.iinc 6 1, 3) := by decide +kernel
theorem dX10_magnitude_121 : decode cX10_magnitude 121 = .ok (.istore 9, 2) := by decide +kernel
theorem dX10_magnitude_123 : decode cX10_magnitude 123 = .ok (.iload 9, 2) := by decide +kernel
theorem dX10_magnitude_125 : decode cX10_magnitude 125 = .ok (.ifCond .le 33, 3) := by decide +kernel
theorem dX10_magnitude_128 : decode cX10_magnitude 128 = .ok (.aload 5, 2) := by decide +kernel
theorem dX10_magnitude_130 : decode cX10_magnitude 130 = .ok (.iload 9, 2) := by decide +kernel
theorem dX10_magnitude_132 : decode cX10_magnitude 132 = .ok (.iconst 1, 1) := by decide +kernel
theorem dX10_magnitude_133 : decode cX10_magnitude 133 = .ok (.isub, 1) := by decide +kernel
theorem dX10_magnitude_134 : decode cX10_magnitude 134 = .ok (.iaload, 1) := by decide +kernel
theorem dX10_magnitude_135 : decode cX10_magnitude 135 = .ok (.iload 8, 2) := by decide +kernel
theorem dX10_magnitude_137 : decode cX10_magnitude 137 = .ok (.if_icmp .le 21, 3) := by decide +kernel
theorem dX10_magnitude_140 : decode cX10_magnitude 140 = .ok (.aload 5, 2) := by decide +kernel
theorem dX10_magnitude_142 : decode cX10_magnitude 142 = .ok (.iload 9, 2) := by decide +kernel
theorem dX10_magnitude_144 : decode cX10_magnitude 144 = .ok (.aload 5, 2) := by decide +kernel
theorem dX10_magnitude_146 : decode cX10_magnitude 146 = .ok (.iload 9, 2) := by decide +kernel
theorem dX10_magnitude_148 : decode cX10_magnitude 148 = .ok (.iconst 1, 1) := by decide +kernel
theorem dX10_magnitude_149 : decode cX10_magnitude 149 = .ok (.isub, 1) := by decide +kernel
theorem dX10_magnitude_150 : decode cX10_magnitude 150 = .ok (.iaload, 1) := by decide +kernel
theorem dX10_magnitude_151 : decode cX10_magnitude 151 = .ok (.iastore, 1) := by decide +kernel
theorem dX10_magnitude_152 : decode cX10_magnitude 152 = .ok (.iinc 9 (-1), 3) := by decide +kernel
theorem dX10_magnitude_155 : decode cX10_magnitude 155 = .ok (.goto (-32), 3) := by decide +kernel
theorem dX10_magnitude_158 : decode cX10_magnitude 158 = .ok (.aload 5, 2) := by decide +kernel
theorem dX10_magnitude_160 : decode cX10_magnitude 160 = .ok (.iload 9, 2) := by decide +kernel
theorem dX10_magnitude_162 : decode cX10_magnitude 162 = .ok (.iload 8, 2) := by decide +kernel
theorem dX10_magnitude_164 : decode cX10_magnitude 164 = .ok (.iastore, 1) := by decide +kernel
theorem dX10_magnitude_165 : decode cX10_magnitude 165 = .ok (.iinc 7 1, 3) := by decide +kernel
theorem dX10_magnitude_168 : decode cX10_magnitude 168 = .ok (.goto (-121), 3) := by decide +kernel
theorem dX10_magnitude_171 : decode cX10_magnitude 171 = .ok (.aload 5, 2) := by decide +kernel
theorem dX10_magnitude_173 : decode cX10_magnitude 173 = .ok (.iload 6, 2) := by decide +kernel
theorem dX10_magnitude_175 : decode cX10_magnitude 175 = .ok (.iconst 1, 1) := by decide +kernel
theorem dX10_magnitude_176 : decode cX10_magnitude 176 = .ok (.isub, 1) := by decide +kernel
theorem dX10_magnitude_177 : decode cX10_magnitude 177 = .ok (.iconst 2, 1) := by decide +kernel
theorem dX10_magnitude_178 : decode cX10_magnitude 178 = .ok (.idiv, 1) := by decide +kernel
theorem dX10_magnitude_179 : decode cX10_magnitude 179 = .ok (.iaload, 1) := by decide +kernel
theorem dX10_magnitude_180 : decode cX10_magnitude 180 = .ok (.ireturn, 1) := by decide +kernel
theorem dX11_init_0 : decode cX11_init 0 = .ok (.aload_n 0, 1) := by decide +kernel
theorem dX11_init_1 : decode cX11_init 1 = .ok (.invokespecial 1, 3) := by decide +kernel
theorem dX11_init_4 : decode cX11_init 4 = .ok (.aload_n 0, 1) := by decide +kernel
theorem dX11_init_5 : decode cX11_init 5 = .ok (.iconst (-1), 1) := by decide +kernel
theorem dX11_init_6 : decode cX11_init 6 = .ok (.putfield 7, 3) := by decide +kernel
theorem dX11_init_9 : decode cX11_init 9 = .ok (.return_, 1) := by decide +kernel
theorem dX12_init_0 : decode cX12_init 0 = .ok (.aload_n 0, 1) := by decide +kernel
theorem dX12_init_1 : decode cX12_init 1 = .ok (.invokespecial 1, 3) := by decide +kernel
theorem dX12_init_4 : decode cX12_init 4 = .ok (.aload_n 0, 1) := by decide +kernel
theorem dX12_init_5 : decode cX12_init 5 = .ok (.iconst (-1), 1) := by decide +kernel
theorem dX12_init_6 : decode cX12_init 6 = .ok (.putfield 7, 3) := by decide +kernel
theorem dX12_init_9 : decode cX12_init 9 = .ok (.aload_n 0, 1) := by decide +kernel
theorem dX12_init_10 : decode cX12_init 10 = .ok (.sipush 400, 3) := by decide +kernel
theorem dX12_init_13 : decode cX12_init 13 = .ok (.newarray .int, 2) := by decide +kernel
theorem dX12_init_15 : decode cX12_init 15 = .ok (.putfield 13, 3) := by decide +kernel
theorem dX12_init_18 : decode cX12_init 18 = .ok (.return_, 1) := by decide +kernel
