theorem dX8_split_47 : decode cX8_split 47 = .ok (.if_icmp .ne 7, 3) := by decide +kernel
theorem dX8_split_50 : decode cX8_split 50 = .ok (.iconst 1, 1) := by decide +kernel
theorem dX8_split_51 : decode cX8_split 51 = .ok (.goto 4, 3) := by decide +kernel
theorem dX8_split_54 : decode cX8_split 54 = .ok (.iconst 0, 1) := by decide +kernel
theorem dX8_split_55 : decode cX8_split 55 = .ok (.istore 6, 2) := by decide +kernel
theorem dX8_split_57 : decode cX8_split 57 = .ok (.iload 5, 2) := by decide +kernel
theorem dX8_split_59 : decode cX8_split 59 = .ok (.ifCond .eq 16, 3) := by decide +kernel
theorem dX8_split_62 : decode cX8_split 62 = .ok (.iload 6, 2) := by decide +kernel
theorem dX8_split_64 : decode cX8_split 64 = .ok (.ifCond .ne 11, 3) := by decide +kernel
theorem dX8_split_67 : decode cX8_split 67 = .ok (.aload_n 0, 1) := by decide +kernel
theorem dX8_split_68 : decode cX8_split 68 = .ok (.iload 5, 2) := by decide +kernel
theorem dX8_split_70 : decode cX8_split 70 = .ok (.iload 4, 2) := by decide +kernel
theorem dX8_split_72 : decode cX8_split 72 = .ok (.invokevirtual 32, 3) := by decide +kernel
theorem dX8_split_75 : decode cX8_split 75 = .ok (.iload 5, 2) := by decide +kernel
theorem dX8_split_77 : decode cX8_split 77 = .ok (.ifCond .eq 11, 3) := by decide +kernel
theorem dX8_split_80 : decode cX8_split 80 = .ok (.aload_n 0, 1) := by decide +kernel
theorem dX8_split_81 : decode cX8_split 81 = .ok (.aload_n 1, 1) := by decide +kernel
theorem dX8_split_82 : decode cX8_split 82 = .ok (.iload 4, 2) := by decide +kernel
theorem dX8_split_84 : decode cX8_split 84 = .ok (.iaload, 1) := by decide +kernel
theorem dX8_split_85 : decode cX8_split 85 = .ok (.invokevirtual 36, 3) := by decide +kernel
theorem dX8_split_88 : decode cX8_split 88 = .ok (.iload 5, 2) := by decide +kernel
theorem dX8_split_90 : decode cX8_split 90 = .ok (.istore_n 3, 1) := by decide +kernel
theorem dX8_split_91 : decode cX8_split 91 = .ok (.iinc 4 1, 3) := by decide +kernel
theorem dX8_split_94 : decode cX8_split 94 = .ok (.goto (-84), 3) := by decide +kernel
theorem dX8_split_97 : decode cX8_split 97 = .ok (.aload_n 0, 1) := by decide +kernel
theorem dX8_split_98 : decode cX8_split 98 = .ok (.invokevirtual 40, 3) := by decide +kernel
theorem dX8_split_101 : decode cX8_split 101 = .ok (.return_, 1) := by decide +kernel
theorem dX8_kindOf_0 : decode cX8_kindOf 0 = .ok (.iload_n 0, 1) := by decide +kernel
theorem dX8_kindOf_1 : decode cX8_kindOf 1 = .ok (.bipush 32, 2) := by decide +kernel
theorem dX8_kindOf_3 : decode cX8_kindOf 3 = .ok (.if_icmp .eq 9, 3) := by decide +kernel
theorem dX8_kindOf_6 : decode cX8_kindOf 6 = .ok (.iload_n 0, 1) := by decide +kernel
theorem dX8_kindOf_7 : decode cX8_kindOf 7 = .ok (.bipush 10, 2) := by decide +kernel
theorem dX8_kindOf_9 : decode cX8_kindOf 9 = .ok (.if_icmp .ne 5, 3) := by decide +kernel
theorem dX8_kindOf_12 : decode cX8_kindOf 12 = .ok (.iconst 0, 1) := by decide +kernel
theorem dX8_kindOf_13 : decode cX8_kindOf 13 = .ok (.ireturn, 1) := by decide +kernel
theorem dX8_kindOf_14 : decode cX8_kindOf 14 = .ok (.iload_n 0, 1) := by decide +kernel
theorem dX8_kindOf_15 : decode cX8_kindOf 15 = .ok (.bipush 97, 2) := by decide +kernel
theorem dX8_kindOf_17 : decode cX8_kindOf 17 = .ok (.if_icmp .lt 11, 3) := by decide +kernel
theorem dX8_kindOf_20 : decode cX8_kindOf 20 = .ok (.iload_n 0, 1) := by decide +kernel
theorem dX8_kindOf_21 : decode cX8_kindOf 21 = .ok (.bipush 122, 2) := by decide +kernel
theorem dX8_kindOf_23 : decode cX8_kindOf 23 = .ok (.if_icmp .gt 5, 3) := by decide +kernel
theorem dX8_kindOf_26 : decode cX8_kindOf 26 = .ok (.iconst 1, 1) := by decide +kernel
theorem dX8_kindOf_27 : decode cX8_kindOf 27 = .ok (.ireturn, 1) := by decide +kernel
theorem dX8_kindOf_28 : decode cX8_kindOf 28 = .ok (.iload_n 0, 1) := by decide +kernel
theorem dX8_kindOf_29 : decode cX8_kindOf 29 = .ok (.bipush 48, 2) := by decide +kernel
theorem dX8_kindOf_31 : decode cX8_kindOf 31 = .ok (.if_icmp .lt 11, 3) := by decide +kernel
theorem dX8_kindOf_34 : decode cX8_kindOf 34 = .ok (.iload_n 0, 1) := by decide +kernel
theorem dX8_kindOf_35 : decode cX8_kindOf 35 = .ok (.bipush 57, 2) := by decide +kernel
theorem dX8_kindOf_37 : decode cX8_kindOf 37 = .ok (.if_icmp .gt 5, 3) := by decide +kernel
theorem dX8_kindOf_40 : decode cX8_kindOf 40 = .ok (.iconst 2, 1) := by decide +kernel
theorem dX8_kindOf_41 : decode cX8_kindOf 41 = .ok (.ireturn, 1) := by decide +kernel
theorem dX8_kindOf_42 : decode cX8_kindOf 42 = .ok (.iload_n 0, 1) := by decide +kernel
theorem dX8_kindOf_43 : decode cX8_kindOf 43 = .ok (.bipush 59, 2) := by decide +kernel
theorem dX8_kindOf_45 : decode cX8_kindOf 45 = .ok (.if_icmp .ne 7, 3) := by decide +kernel
theorem dX8_kindOf_48 : decode cX8_kindOf 48 = .ok (.iconst 3, 1) := by decide +kernel
theorem dX8_kindOf_49 : decode cX8_kindOf 49 = .ok (.goto 4, 3) := by decide +kernel
theorem dX8_kindOf_52 : decode cX8_kindOf 52 = .ok (.iconst 4, 1) := by decide +kernel
theorem dX8_kindOf_53 : decode cX8_kindOf 53 = .ok (.ireturn, 1) := by decide +kernel
theorem dX8_open_0 : decode cX8_open 0 = .ok (.aload_n 0, 1) := by decide +kernel
theorem dX8_open_1 : decode cX8_open 1 = .ok (.getfield 24, 3) := by decide +kernel
theorem dX8_open_4 : decode cX8_open 4 = .ok (.sipush 500, 3) := by decide +kernel
theorem dX8_open_7 : decode cX8_open 7 = .ok (.if_icmp .ge 53, 3) := by decide +kernel
theorem dX8_open_10 : decode cX8_open 10 = .ok (.aload_n 0, 1) := by decide +kernel
theorem dX8_open_11 : decode cX8_open 11 = .ok (.getfield 9, 3) := by decide +kernel
theorem dX8_open_14 : decode cX8_open 14 = .ok (.aload_n 0, 1) := by decide +kernel
theorem dX8_open_15 : decode cX8_open 15 = .ok (.getfield 24, 3) := by decide +kernel
theorem dX8_open_18 : decode cX8_open 18 = .ok (.iload_n 1, 1) := by decide +kernel
theorem dX8_open_19 : decode cX8_open 19 = .ok (.iastore, 1) := by decide +kernel
theorem dX8_open_20 : decode cX8_open 20 = .ok (.aload_n 0, 1) := by decide +kernel
theorem dX8_open_21 : decode cX8_open 21 = .ok (.getfield 15, 3) := by decide +kernel
theorem dX8_open_24 : decode cX8_open 24 = .ok (.aload_n 0, 1) := by decide +kernel
theorem dX8_open_25 : decode cX8_open 25 = .ok (.getfield 24, 3) := by decide +kernel
theorem dX8_open_28 : decode cX8_open 28 = .ok (.iload_n 2, 1) := by decide +kernel
theorem dX8_open_29 : decode cX8_open 29 = .ok (.iastore, 1) := by decide +kernel
theorem dX8_open_30 : decode cX8_open 30 = .ok (.aload_n 0, 1) := by decide +kernel
theorem dX8_open_31 : decode cX8_open 31 = .ok (.getfield 18, 3) := by decide +kernel
theorem dX8_open_34 : decode cX8_open 34 = .ok (.aload_n 0, 1) := by decide +kernel
theorem dX8_open_35 : decode cX8_open 35 = .ok (.getfield 24, 3) := by decide +kernel
theorem dX8_open_38 : decode cX8_open 38 = .ok (.iconst 0, 1) := by decide +kernel
theorem dX8_open_39 : decode cX8_open 39 = .ok (.iastore, 1) := by decide +kernel
theorem dX8_open_40 : decode cX8_open 40 = .ok (.aload_n 0, 1) := by decide +kernel
theorem dX8_open_41 : decode cX8_open 41 = .ok (.getfield 21, 3) := by decide +kernel
theorem dX8_open_44 : decode cX8_open 44 = .ok (.aload_n 0, 1) := by decide +kernel
theorem dX8_open_45 : decode cX8_open 45 = .ok (.getfield 24, 3) := by decide +kernel
theorem dX8_open_48 : decode cX8_open 48 = .ok (.iconst 0, 1) := by decide +kernel
theorem dX8_open_49 : decode cX8_open 49 = .ok (.iastore, 1) := by decide +kernel
theorem dX8_open_50 : decode cX8_open 50 = .ok (.aload_n 0, 1) := by decide +kernel
theorem dX8_open_51 : decode cX8_open 51 = .ok (.dup, 1) := by decide +kernel
theorem dX8_open_52 : decode cX8_open 52 = .ok (.getfield 24, 3) := by decide +kernel
theorem dX8_open_55 : decode cX8_open 55 = .ok (.iconst 1, 1) := by decide +kernel
theorem dX8_open_56 : decode cX8_open 56 = .ok (.iadd, 1) := by decide +kernel
theorem dX8_open_57 : decode cX8_open 57 = .ok (.putfield 24, 3) := by decide +kernel
theorem dX8_open_60 : decode cX8_open 60 = .ok (.return_, 1) := by decide +kernel
theorem dX8_extend_0 : decode cX8_extend 0 = .ok (.aload_n 0, 1) := by decide +kernel
theorem dX8_extend_1 : decode cX8_extend 1 = .ok (.getfield 24, 3) := by decide +kernel
theorem dX8_extend_4 : decode cX8_extend 4 = .ok (.iconst 1, 1) := by decide +kernel
theorem dX8_extend_5 : decode cX8_extend 5 = .ok (.isub, 1) := by decide +kernel
theorem dX8_extend_6 : decode cX8_extend 6 = .ok (.istore_n 2, 1) := by decide +kernel
theorem dX8_extend_7 : decode cX8_extend 7 = .ok (.iload_n 2, 1) := by decide +kernel
theorem dX8_extend_8 : decode cX8_extend 8 = .ok (.ifCond .lt 40, 3) := by decide +kernel
theorem dX8_extend_11 : decode cX8_extend 11 = .ok (.iload_n 2, 1) := by decide +kernel
theorem dX8_extend_12 : decode cX8_extend 12 = .ok (.sipush 500, 3) := by decide +kernel
theorem dX8_extend_15 : decode cX8_extend 15 = .ok (.if_icmp .ge 33, 3) := by decide +kernel
theorem dX8_extend_18 : decode cX8_extend 18 = .ok (.aload_n 0, 1) := by decide +kernel
theorem dX8_extend_19 : decode cX8_extend 19 = .ok (.getfield 18, 3) := by decide +kernel
theorem dX8_extend_22 : decode cX8_extend 22 = .ok (.iload_n 2, 1) := by decide +kernel
theorem dX8_extend_23 : decode cX8_extend 23 = .ok (.dup2, 1) := by decide +kernel
theorem dX8_extend_24 : decode cX8_extend 24 = .ok (.iaload, 1) := by decide +kernel
theorem dX8_extend_25 : decode cX8_extend 25 = .ok (.iconst 1, 1) := by decide +kernel
theorem dX8_extend_26 : decode cX8_extend 26 = .ok (.iadd, 1) := by decide +kernel
theorem dX8_extend_27 : decode cX8_extend 27 = .ok (.iastore, 1) := by decide +kernel
theorem dX8_extend_28 : decode cX8_extend 28 = .ok (.aload_n 0, 1) := by decide +kernel
theorem dX8_extend_29 : decode cX8_extend 29 = .ok (.getfield 21, 3) := by decide +kernel
theorem dX8_extend_32 : decode cX8_extend 32 = .ok (.iload_n 2, 1) := by decide +kernel
theorem dX8_extend_33 : decode cX8_extend 33 = .ok (.aload_n 0, 1) := by decide +kernel
theorem dX8_extend_34 : decode cX8_extend 34 = .ok (.getfield 21, 3) := by decide +kernel
theorem dX8_extend_37 : decode cX8_extend 37 = .ok (.iload_n 2, 1) := by decide +kernel
theorem dX8_extend_38 : decode cX8_extend 38 = .ok (.iaload, 1) := by decide +kernel
theorem dX8_extend_39 : decode cX8_extend 39 = .ok (.bipush 10, 2) := by decide +kernel
theorem dX8_extend_41 : decode cX8_extend 41 = .ok (.imul, 1) := by decide +kernel
theorem dX8_extend_42 : decode cX8_extend 42 = .ok (.iload_n 1, 1) := by decide +kernel
theorem dX8_extend_43 : decode cX8_extend 43 = .ok (.iadd, 1) := by decide +kernel
theorem dX8_extend_44 : decode cX8_extend 44 = .ok (.bipush 48, 2) := by decide +kernel
theorem dX8_extend_46 : decode cX8_extend 46 = .ok (.isub, 1) := by decide +kernel
theorem dX8_extend_47 : decode cX8_extend 47 = .ok (.iastore, 1) := by decide +kernel
theorem dX8_extend_48 : decode cX8_extend 48 = .ok (.return_, 1) := by decide +kernel
theorem dX8_refuseLongOnes_0 : decode cX8_refuseLongOnes 0 = .ok (.iconst 0, 1) := by decide +kernel
theorem dX8_refuseLongOnes_1 : decode cX8_refuseLongOnes 1 = .ok (.istore_n 1, 1) := by decide +kernel
theorem dX8_refuseLongOnes_2 : decode cX8_refuseLongOnes 2 = .ok (.iload_n 1, 1) := by decide +kernel
theorem dX8_refuseLongOnes_3 : decode cX8_refuseLongOnes 3 = .ok (.aload_n 0, 1) := by decide +kernel
theorem dX8_refuseLongOnes_4 : decode cX8_refuseLongOnes 4 = .ok (.getfield 24, 3) := by decide +kernel
theorem dX8_refuseLongOnes_7 : decode cX8_refuseLongOnes 7 = .ok (.if_icmp .ge 84, 3) := by decide +kernel
theorem dX8_refuseLongOnes_10 : decode cX8_refuseLongOnes 10 = .ok (.iload_n 1, 1) := by decide +kernel
theorem dX8_refuseLongOnes_11 : decode cX8_refuseLongOnes 11 = .ok (.sipush 500, 3) := by decide +kernel
theorem dX8_refuseLongOnes_14 : decode cX8_refuseLongOnes 14 = .ok (.if_icmp .ge 77, 3) := by decide +kernel
theorem dX8_refuseLongOnes_17 : decode cX8_refuseLongOnes 17 = .ok (.aload_n 0, 1) := by decide +kernel
theorem dX8_refuseLongOnes_18 : decode cX8_refuseLongOnes 18 = .ok (.getfield 9, 3) := by decide +kernel
theorem dX8_refuseLongOnes_21 : decode cX8_refuseLongOnes 21 = .ok (.iload_n 1, 1) := by decide +kernel
theorem dX8_refuseLongOnes_22 : decode cX8_refuseLongOnes 22 = .ok (.iaload, 1) := by decide +kernel
theorem dX8_refuseLongOnes_23 : decode cX8_refuseLongOnes 23 = .ok (.iconst 1, 1) := by decide +kernel
theorem dX8_refuseLongOnes_24 : decode cX8_refuseLongOnes 24 = .ok (.if_icmp .ne 18, 3) := by decide +kernel
theorem dX8_refuseLongOnes_27 : decode cX8_refuseLongOnes 27 = .ok (.aload_n 0, 1) := by decide +kernel
theorem dX8_refuseLongOnes_28 : decode cX8_refuseLongOnes 28 = .ok (.getfield 18, 3) := by decide +kernel
theorem dX8_refuseLongOnes_31 : decode cX8_refuseLongOnes 31 = .ok (.iload_n 1, 1) := by decide +kernel
theorem dX8_refuseLongOnes_32 : decode cX8_refuseLongOnes 32 = .ok (.iaload, 1) := by decide +kernel
theorem dX8_refuseLongOnes_33 : decode cX8_refuseLongOnes 33 = .ok (.bipush 8, 2) := by decide +kernel
theorem dX8_refuseLongOnes_35 : decode cX8_refuseLongOnes 35 = .ok (.if_icmp .le 7, 3) := by decide +kernel
theorem dX8_refuseLongOnes_38 : decode cX8_refuseLongOnes 38 = .ok (.iconst 1, 1) := by decide +kernel
theorem dX8_refuseLongOnes_39 : decode cX8_refuseLongOnes 39 = .ok (.goto 4, 3) := by decide +kernel
theorem dX8_refuseLongOnes_42 : decode cX8_refuseLongOnes 42 = .ok (.iconst 0, 1) := by decide +kernel
theorem dX8_refuseLongOnes_43 : decode cX8_refuseLongOnes 43 = .ok (.istore_n 2, 1) := by decide +kernel
theorem dX8_refuseLongOnes_44 : decode cX8_refuseLongOnes 44 = .ok (.aload_n 0, 1) := by decide +kernel
theorem dX8_refuseLongOnes_45 : decode cX8_refuseLongOnes 45 = .ok (.getfield 9, 3) := by decide +kernel
theorem dX8_refuseLongOnes_48 : decode cX8_refuseLongOnes 48 = .ok (.iload_n 1, 1) := by decide +kernel
theorem dX8_refuseLongOnes_49 : decode cX8_refuseLongOnes 49 = .ok (.iaload, 1) := by decide +kernel
theorem dX8_refuseLongOnes_50 : decode cX8_refuseLongOnes 50 = .ok (.iconst 2, 1) := by decide +kernel
theorem dX8_refuseLongOnes_51 : decode cX8_refuseLongOnes 51 = .ok (.if_icmp .ne 17, 3) := by decide +kernel
theorem dX8_refuseLongOnes_54 : decode cX8_refuseLongOnes 54 = .ok (.aload_n 0, 1) := by decide +kernel
theorem dX8_refuseLongOnes_55 : decode cX8_refuseLongOnes 55 = .ok (.getfield 18, 3) := by decide +kernel
theorem dX8_refuseLongOnes_58 : decode cX8_refuseLongOnes 58 = .ok (.iload_n 1, 1) := by decide +kernel
theorem dX8_refuseLongOnes_59 : decode cX8_refuseLongOnes 59 = .ok (.iaload, 1) := by decide +kernel
theorem dX8_refuseLongOnes_60 : decode cX8_refuseLongOnes 60 = .ok (.iconst 4, 1) := by decide +kernel
theorem dX8_refuseLongOnes_61 : decode cX8_refuseLongOnes 61 = .ok (.if_icmp .le 7, 3) := by decide +kernel
theorem dX8_refuseLongOnes_64 : decode cX8_refuseLongOnes 64 = .ok (.iconst 1, 1) := by decide +kernel
theorem dX8_refuseLongOnes_65 : decode cX8_refuseLongOnes 65 = .ok (.goto 4, 3) := by decide +kernel
theorem dX8_refuseLongOnes_68 : decode cX8_refuseLongOnes 68 = .ok (.iconst 0, 1) := by decide +kernel
theorem dX8_refuseLongOnes_69 : decode cX8_refuseLongOnes 69 = .ok (.istore_n 3, 1) := by decide +kernel
theorem dX8_refuseLongOnes_70 : decode cX8_refuseLongOnes 70 = .ok (.iload_n 2, 1) := by decide +kernel
theorem dX8_refuseLongOnes_71 : decode cX8_refuseLongOnes 71 = .ok (.ifCond .ne 7, 3) := by decide +kernel
theorem dX8_refuseLongOnes_74 : decode cX8_refuseLongOnes 74 = .ok (.iload_n 3, 1) := by decide +kernel
theorem dX8_refuseLongOnes_75 : decode cX8_refuseLongOnes 75 = .ok (.ifCond .eq 10, 3) := by decide +kernel
theorem dX8_refuseLongOnes_78 : decode cX8_refuseLongOnes 78 = .ok (.aload_n 0, 1) := by decide +kernel
theorem dX8_refuseLongOnes_79 : decode cX8_refuseLongOnes 79 = .ok (.getfield 9, 3) := by decide +kernel
theorem dX8_refuseLongOnes_82 : decode cX8_refuseLongOnes 82 = .ok (.iload_n 1, 1) := by decide +kernel
theorem dX8_refuseLongOnes_83 : decode cX8_refuseLongOnes 83 = .ok (.iconst 4, 1) := by decide +kernel
theorem dX8_refuseLongOnes_84 : decode cX8_refuseLongOnes 84 = .ok (.iastore, 1) := by decide +kernel
theorem dX8_refuseLongOnes_85 : decode cX8_refuseLongOnes 85 = .ok (.iinc 1 1, 3) := by decide +kernel
theorem dX8_refuseLongOnes_88 : decode cX8_refuseLongOnes 88 = .ok (.goto (-86), 3) := by decide +kernel
theorem dX8_refuseLongOnes_91 : decode cX8_refuseLongOnes 91 = .ok (.return_, 1) := by decide +kernel
set_option maxRecDepth 20000 in
theorem ggX8_spells_J0_length_8abf5 : GoodIn wsX8_spells wsJ0_length_8abf5 := goodIn_r _ [8, 9, 10, 11, 12, 7, 13, 14, 15, 58, 59, 60, 61] (by decide +kernel) (by decide +kernel)
set_option maxRecDepth 20000 in
theorem gX8_spells_J0_length_8abf5 : GoodIn wsX8_spells (wsV RX8 43 RJ0 yJ0_length_8abf5 wsJ0_length_8abf5) := goodIn_app (goodIn_of _ (by decide +kernel)) ggX8_spells_J0_length_8abf5
set_option maxRecDepth 20000 in
theorem ggX8_spells_J0_charAt_5068e : GoodIn wsX8_spells wsJ0_charAt_5068e := goodIn_r _ [19, 9, 20, 21, 22, 7, 23, 14, 15, 24, 25, 26, 27, 28, 29, 30, 31, 32, 33, 34, 35, 36, 37, 38, 39, 40, 41, 42, 43, 44, 45, 46, 47, 48, 49, 50, 51, 52, 58, 59, 60, 61] (by decide +kernel) (by decide +kernel)
set_option maxRecDepth 20000 in
theorem gX8_spells_J0_charAt_5068e : GoodIn wsX8_spells (wsV RX8 49 RJ0 yJ0_charAt_5068e wsJ0_charAt_5068e) := goodIn_app (goodIn_of _ (by decide +kernel)) ggX8_spells_J0_charAt_5068e
theorem dX8_spells_0 : decode cX8_spells 0 = .ok (.iload_n 1, 1) := by decide +kernel
theorem dX8_spells_1 : decode cX8_spells 1 = .ok (.ifCond .lt 24, 3) := by decide +kernel
theorem dX8_spells_4 : decode cX8_spells 4 = .ok (.iload_n 1, 1) := by decide +kernel
theorem dX8_spells_5 : decode cX8_spells 5 = .ok (.aload_n 0, 1) := by decide +kernel
theorem dX8_spells_6 : decode cX8_spells 6 = .ok (.getfield 24, 3) := by decide +kernel
theorem dX8_spells_9 : decode cX8_spells 9 = .ok (.if_icmp .ge 16, 3) := by decide +kernel
theorem dX8_spells_12 : decode cX8_spells 12 = .ok (.aload_n 0, 1) := by decide +kernel
theorem dX8_spells_13 : decode cX8_spells 13 = .ok (.getfield 18, 3) := by decide +kernel
theorem dX8_spells_16 : decode cX8_spells 16 = .ok (.iload_n 1, 1) := by decide +kernel
theorem dX8_spells_17 : decode cX8_spells 17 = .ok (.iaload, 1) := by decide +kernel
theorem dX8_spells_18 : decode cX8_spells 18 = .ok (.aload_n 3, 1) := by decide +kernel
theorem dX8_spells_19 : decode cX8_spells 19 = .ok (.invokevirtual 43, 3) := by decide +kernel
theorem dX8_spells_22 : decode cX8_spells 22 = .ok (.if_icmp .eq 5, 3) := by decide +kernel
theorem dX8_spells_25 : decode cX8_spells 25 = .ok (.iconst 0, 1) := by decide +kernel
theorem dX8_spells_26 : decode cX8_spells 26 = .ok (.ireturn, 1) := by decide +kernel
theorem dX8_spells_27 : decode cX8_spells 27 = .ok (.iconst 0, 1) := by decide +kernel
theorem dX8_spells_28 : decode cX8_spells 28 = .ok (.istore 4, 2) := by decide +kernel
theorem dX8_spells_30 : decode cX8_spells 30 = .ok (.iload 4, 2) := by decide +kernel
theorem dX8_spells_32 : decode cX8_spells 32 = .ok (.aload_n 3, 1) := by decide +kernel
theorem dX8_spells_33 : decode cX8_spells 33 = .ok (.invokevirtual 43, 3) := by decide +kernel
theorem dX8_spells_36 : decode cX8_spells 36 = .ok (.if_icmp .ge 47, 3) := by decide +kernel
theorem dX8_spells_39 : decode cX8_spells 39 = .ok (.aload_n 0, 1) := by decide +kernel
theorem dX8_spells_40 : decode cX8_spells 40 = .ok (.getfield 15, 3) := by decide +kernel
theorem dX8_spells_43 : decode cX8_spells 43 = .ok (.iload_n 1, 1) := by decide +kernel
theorem dX8_spells_44 : decode cX8_spells 44 = .ok (.iaload, 1) := by decide +kernel
theorem dX8_spells_45 : decode cX8_spells 45 = .ok (.iload 4, 2) := by decide +kernel
theorem dX8_spells_47 : decode cX8_spells 47 = .ok (.iadd, 1) := by decide +kernel
theorem dX8_spells_48 : decode cX8_spells 48 = .ok (.istore 5, 2) := by decide +kernel
theorem dX8_spells_50 : decode cX8_spells 50 = .ok (.iload 5, 2) := by decide +kernel
theorem dX8_spells_52 : decode cX8_spells 52 = .ok (.ifCond .lt 23, 3) := by decide +kernel
theorem dX8_spells_55 : decode cX8_spells 55 = .ok (.iload 5, 2) := by decide +kernel
theorem dX8_spells_57 : decode cX8_spells 57 = .ok (.aload_n 2, 1) := by decide +kernel
theorem dX8_spells_58 : decode cX8_spells 58 = .ok (.arraylength, 1) := by decide +kernel
theorem dX8_spells_59 : decode cX8_spells 59 = .ok (.if_icmp .ge 16, 3) := by decide +kernel
theorem dX8_spells_62 : decode cX8_spells 62 = .ok (.aload_n 2, 1) := by decide +kernel
theorem dX8_spells_63 : decode cX8_spells 63 = .ok (.iload 5, 2) := by decide +kernel
theorem dX8_spells_65 : decode cX8_spells 65 = .ok (.iaload, 1) := by decide +kernel
theorem dX8_spells_66 : decode cX8_spells 66 = .ok (.aload_n 3, 1) := by decide +kernel
theorem dX8_spells_67 : decode cX8_spells 67 = .ok (.iload 4, 2) := by decide +kernel
theorem dX8_spells_69 : decode cX8_spells 69 = .ok (.invokevirtual 49, 3) := by decide +kernel
theorem dX8_spells_72 : decode cX8_spells 72 = .ok (.if_icmp .eq 5, 3) := by decide +kernel
theorem dX8_spells_75 : decode cX8_spells 75 = .ok (.iconst 0, 1) := by decide +kernel
theorem dX8_spells_76 : decode cX8_spells 76 = .ok (.ireturn, 1) := by decide +kernel
theorem dX8_spells_77 : decode cX8_spells 77 = .ok (.iinc 4 1, 3) := by decide +kernel
theorem dX8_spells_80 : decode cX8_spells 80 = .ok (.goto (-50), 3) := by decide +kernel
theorem dX8_spells_83 : decode cX8_spells 83 = .ok (.iconst 1, 1) := by decide +kernel
theorem dX8_spells_84 : decode cX8_spells 84 = .ok (.ireturn, 1) := by decide +kernel
set_option maxRecDepth 20000 in
theorem ggX9_init_X1_init : GoodIn wsX9_init wsX1_init := goodIn_r _ [39, 40, 2, 3, 41, 42, 43, 44, 45, 4, 46, 47, 48, 49, 50, 51, 52, 53, 54, 171, 172, 173, 174, 175, 176, 226, 227, 228, 229, 230] (by decide +kernel) (by decide +kernel)
set_option maxRecDepth 20000 in
theorem gX9_init_X1_init_n22 : GoodIn wsX9_init (wsX1_init) := ggX9_init_X1_init
set_option maxRecDepth 20000 in
theorem ggX9_init_X5_init : GoodIn wsX9_init wsX5_init := goodIn_r _ [57, 58, 2, 3, 59, 60, 61, 62, 63, 64, 65, 66, 4, 67, 68, 69, 70, 71, 72, 73, 74, 75, 76, 77, 78, 79, 80, 81, 14, 82, 83, 84, 85, 86, 87, 88, 89, 90, 91, 92, 93, 94, 95, 96, 97, 98, 99, 100, 101, 231, 232, 233, 234, 235, 177, 178, 179, 180, 181, 182, 183, 184, 185, 186, 187, 188, 189, 190, 191, 236, 237, 238] (by decide +kernel) (by decide +kernel)
set_option maxRecDepth 20000 in
theorem gX9_init_X5_init : GoodIn wsX9_init (wsX5_init) := ggX9_init_X5_init
set_option maxRecDepth 20000 in
theorem ggX9_init_X7_init : GoodIn wsX9_init wsX7_init := goodIn_r _ [103, 104, 2, 3, 4, 105, 106, 107, 108, 109, 110, 111, 112, 113, 114, 115, 116, 117, 118, 192, 193, 194, 195, 196, 197, 198, 199, 200, 201, 202, 203, 204, 205, 206, 207, 208] (by decide +kernel) (by decide +kernel)
set_option maxRecDepth 20000 in
theorem gX9_init_X7_init_n39 : GoodIn wsX9_init (wsX7_init) := ggX9_init_X7_init
set_option maxRecDepth 20000 in
theorem ggX9_init_X4_init : GoodIn wsX9_init wsX4_init := goodIn_r _ [121, 122, 2, 3, 123, 124, 125, 126, 127, 128, 129, 18, 19, 102, 103, 104, 4, 105, 106, 107, 108, 109, 110, 111, 112, 113, 114, 115, 116, 117, 118, 209, 210, 211, 212, 213, 192, 193, 194, 195, 196, 197, 198, 199, 200, 201, 202, 203, 204, 205, 206, 207, 208] (by decide +kernel) (by decide +kernel)
set_option maxRecDepth 20000 in
theorem gX9_init_X4_init : GoodIn wsX9_init (wsX4_init) := ggX9_init_X4_init
set_option maxRecDepth 20000 in
theorem ggX9_init_X0_init : GoodIn wsX9_init wsX0_init := goodIn_r _ [131, 132, 2, 3, 4, 133, 214, 215] (by decide +kernel) (by decide +kernel)
set_option maxRecDepth 20000 in
theorem gX9_init_X0_init_n56 : GoodIn wsX9_init (wsX0_init) := ggX9_init_X0_init
set_option maxRecDepth 20000 in
theorem ggX9_init_X3_init : GoodIn wsX9_init wsX3_init := goodIn_r _ [135, 136, 2, 3, 4, 137, 138, 216, 217, 218, 219, 220, 221] (by decide +kernel) (by decide +kernel)
set_option maxRecDepth 20000 in
theorem gX9_init_X3_init_n63 : GoodIn wsX9_init (wsX3_init) := ggX9_init_X3_init
set_option maxRecDepth 20000 in
theorem ggX9_init_J4_init_da8c8 : GoodIn wsX9_init wsJ4_init_da8c8 := goodIn_r _ [141, 142, 143, 144, 145, 146, 2, 3, 147, 148, 149, 150, 151, 152, 153, 154, 155, 156, 157, 158, 222, 223, 224, 225] (by decide +kernel) (by decide +kernel)
set_option maxRecDepth 20000 in
theorem gX9_init_J4_init_da8c8 : GoodIn wsX9_init (wsJ4_init_da8c8) := ggX9_init_J4_init_da8c8
theorem dX9_init_0 : decode cX9_init 0 = .ok (.aload_n 0, 1) := by decide +kernel
theorem dX9_init_1 : decode cX9_init 1 = .ok (.invokespecial 1, 3) := by decide +kernel
theorem dX9_init_4 : decode cX9_init 4 = .ok (.aload_n 0, 1) := by decide +kernel
theorem dX9_init_5 : decode cX9_init 5 = .ok (.sipush 500, 3) := by decide +kernel
theorem dX9_init_8 : decode cX9_init 8 = .ok (.newarray .int, 2) := by decide +kernel
theorem dX9_init_10 : decode cX9_init 10 = .ok (.putfield 9, 3) := by decide +kernel
theorem dX9_init_13 : decode cX9_init 13 = .ok (.aload_n 0, 1) := by decide +kernel
theorem dX9_init_14 : decode cX9_init 14 = .ok (.iconst 0, 1) := by decide +kernel
theorem dX9_init_15 : decode cX9_init 15 = .ok (.putfield 13, 3) := by decide +kernel
theorem dX9_init_18 : decode cX9_init 18 = .ok (.aload_n 0, 1) := by decide +kernel
theorem dX9_init_19 : decode cX9_init 19 = .ok (.iconst (-1), 1) := by decide +kernel
theorem dX9_init_20 : decode cX9_init 20 = .ok (.putfield 17, 3) := by decide +kernel
theorem dX9_init_23 : decode cX9_init 23 = .ok (.aload_n 0, 1) := by decide +kernel
theorem dX9_init_24 : decode cX9_init 24 = .ok (.new 20, 3) := by decide +kernel
theorem dX9_init_27 : decode cX9_init 27 = .ok (.dup, 1) := by decide +kernel
theorem dX9_init_28 : decode cX9_init 28 = .ok (.invokespecial 22, 3) := by decide +kernel
theorem dX9_init_31 : decode cX9_init 31 = .ok (.putfield 23, 3) := by decide +kernel
theorem dX9_init_34 : decode cX9_init 34 = .ok (.aload_n 0, 1) := by decide +kernel
theorem dX9_init_35 : decode cX9_init 35 = .ok (.new 27, 3) := by decide +kernel
theorem dX9_init_38 : decode cX9_init 38 = .ok (.dup, 1) := by decide +kernel
theorem dX9_init_39 : decode cX9_init 39 = .ok (.invokespecial 29, 3) := by decide +kernel
theorem dX9_init_42 : decode cX9_init 42 = .ok (.putfield 30, 3) := by decide +kernel
theorem dX9_init_45 : decode cX9_init 45 = .ok (.aload_n 0, 1) := by decide +kernel
theorem dX9_init_46 : decode cX9_init 46 = .ok (.new 27, 3) := by decide +kernel
theorem dX9_init_49 : decode cX9_init 49 = .ok (.dup, 1) := by decide +kernel
theorem dX9_init_50 : decode cX9_init 50 = .ok (.invokespecial 29, 3) := by decide +kernel
theorem dX9_init_53 : decode cX9_init 53 = .ok (.putfield 34, 3) := by decide +kernel
theorem dX9_init_56 : decode cX9_init 56 = .ok (.aload_n 0, 1) := by decide +kernel
theorem dX9_init_57 : decode cX9_init 57 = .ok (.new 37, 3) := by decide +kernel
theorem dX9_init_60 : decode cX9_init 60 = .ok (.dup, 1) := by decide +kernel
theorem dX9_init_61 : decode cX9_init 61 = .ok (.invokespecial 39, 3) := by decide +kernel
theorem dX9_init_64 : decode cX9_init 64 = .ok (.putfield 40, 3) := by decide +kernel
theorem dX9_init_67 : decode cX9_init 67 = .ok (.aload_n 0, 1) := by decide +kernel
theorem dX9_init_68 : decode cX9_init 68 = .ok (.new 37, 3) := by decide +kernel
theorem dX9_init_71 : decode cX9_init 71 = .ok (.dup, 1) := by decide +kernel
theorem dX9_init_72 : decode cX9_init 72 = .ok (.invokespecial 39, 3) := by decide +kernel
theorem dX9_init_75 : decode cX9_init 75 = .ok (.putfield 44, 3) := by decide +kernel
theorem dX9_init_78 : decode cX9_init 78 = .ok (.aload_n 0, 1) := by decide +kernel
theorem dX9_init_79 : decode cX9_init 79 = .ok (.new 47, 3) := by decide +kernel
theorem dX9_init_82 : decode cX9_init 82 = .ok (.dup, 1) := by decide +kernel
theorem dX9_init_83 : decode cX9_init 83 = .ok (.invokespecial 49, 3) := by decide +kernel
theorem dX9_init_86 : decode cX9_init 86 = .ok (.putfield 50, 3) := by decide +kernel
theorem dX9_init_89 : decode cX9_init 89 = .ok (.aload_n 0, 1) := by decide +kernel
theorem dX9_init_90 : decode cX9_init 90 = .ok (.new 54, 3) := by decide +kernel
theorem dX9_init_93 : decode cX9_init 93 = .ok (.dup, 1) := by decide +kernel
theorem dX9_init_94 : decode cX9_init 94 = .ok (.invokespecial 56, 3) := by decide +kernel
theorem dX9_init_97 : decode cX9_init 97 = .ok (.putfield 57, 3) := by decide +kernel
theorem dX9_init_100 : decode cX9_init 100 = .ok (.aload_n 0, 1) := by decide +kernel
theorem dX9_init_101 : decode cX9_init 101 = .ok (.new 61, 3) := by decide +kernel
theorem dX9_init_104 : decode cX9_init 104 = .ok (.dup, 1) := by decide +kernel
theorem dX9_init_105 : decode cX9_init 105 = .ok (.invokespecial 63, 3) := by decide +kernel
theorem dX9_init_108 : decode cX9_init 108 = .ok (.putfield 64, 3) := by decide +kernel
theorem dX9_init_111 : decode cX9_init 111 = .ok (.aload_n 0, 1) := by decide +kernel
theorem dX9_init_112 : decode cX9_init 112 = .ok (.new 68, 3) := by decide +kernel
theorem dX9_init_115 : decode cX9_init 115 = .ok (.dup, 1) := by decide +kernel
theorem dX9_init_116 : decode cX9_init 116 = .ok (.invokespecial 70, 3) := by decide +kernel
theorem dX9_init_119 : decode cX9_init 119 = .ok (.putfield 71, 3) := by decide +kernel
theorem dX9_init_122 : decode cX9_init 122 = .ok (.return_, 1) := by decide +kernel
set_option maxRecDepth 20000 in
theorem ggX9_append_X9_appendWord : GoodIn wsX9_append wsX9_appendWord := goodIn_ca (goodIn_r _ [6, 1, 7, 8, 9, 10, 11, 12, 13, 14, 15, 16, 17, 18, 19] (by decide +kernel) (by decide +kernel)) (goodIn_sub (fun _ h => List.mem_cons_of_mem _ (List.mem_append_right _ h)) (by decide +kernel))
set_option maxRecDepth 20000 in
theorem gX9_append_X9_appendWord : GoodIn wsX9_append (wsV RX9 75 RX9 yX9_appendWord wsX9_appendWord) := goodIn_app (goodIn_of _ (by decide +kernel)) ggX9_append_X9_appendWord
theorem dX9_append_0 : decode cX9_append 0 = .ok (.aload_n 0, 1) := by decide +kernel
theorem dX9_append_1 : decode cX9_append 1 = .ok (.getfield 13, 3) := by decide +kernel
theorem dX9_append_4 : decode cX9_append 4 = .ok (.bipush 20, 2) := by decide +kernel
theorem dX9_append_6 : decode cX9_append 6 = .ok (.iadd, 1) := by decide +kernel
theorem dX9_append_7 : decode cX9_append 7 = .ok (.sipush 500, 3) := by decide +kernel
theorem dX9_append_10 : decode cX9_append 10 = .ok (.if_icmp .le 5, 3) := by decide +kernel
theorem dX9_append_13 : decode cX9_append 13 = .ok (.iconst (-1), 1) := by decide +kernel
theorem dX9_append_14 : decode cX9_append 14 = .ok (.ireturn, 1) := by decide +kernel
theorem dX9_append_15 : decode cX9_append 15 = .ok (.aload_n 0, 1) := by decide +kernel
theorem dX9_append_16 : decode cX9_append 16 = .ok (.iload_n 1, 1) := by decide +kernel
theorem dX9_append_17 : decode cX9_append 17 = .ok (.invokevirtual 75, 3) := by decide +kernel
theorem dX9_append_20 : decode cX9_append 20 = .ok (.aload_n 0, 1) := by decide +kernel
theorem dX9_append_21 : decode cX9_append 21 = .ok (.iload_n 2, 1) := by decide +kernel
theorem dX9_append_22 : decode cX9_append 22 = .ok (.invokevirtual 75, 3) := by decide +kernel
theorem dX9_append_25 : decode cX9_append 25 = .ok (.aload_n 0, 1) := by decide +kernel
theorem dX9_append_26 : decode cX9_append 26 = .ok (.iload_n 3, 1) := by decide +kernel
theorem dX9_append_27 : decode cX9_append 27 = .ok (.invokevirtual 75, 3) := by decide +kernel
theorem dX9_append_30 : decode cX9_append 30 = .ok (.aload_n 0, 1) := by decide +kernel
theorem dX9_append_31 : decode cX9_append 31 = .ok (.iload 4, 2) := by decide +kernel
theorem dX9_append_33 : decode cX9_append 33 = .ok (.invokevirtual 75, 3) := by decide +kernel
theorem dX9_append_36 : decode cX9_append 36 = .ok (.aload_n 0, 1) := by decide +kernel
theorem dX9_append_37 : decode cX9_append 37 = .ok (.iload 5, 2) := by decide +kernel
theorem dX9_append_39 : decode cX9_append 39 = .ok (.invokevirtual 75, 3) := by decide +kernel
theorem dX9_append_42 : decode cX9_append 42 = .ok (.aload_n 0, 1) := by decide +kernel
theorem dX9_append_43 : decode cX9_append 43 = .ok (.getfield 13, 3) := by decide +kernel
theorem dX9_append_46 : decode cX9_append 46 = .ok (.ireturn, 1) := by decide +kernel
set_option maxRecDepth 20000 in
theorem ggX9_parse_X1_read : GoodIn wsX9_parse wsX1_read := goodIn_ca (goodIn_r _ [13, 14, 15, 16, 17, 18, 19, 20, 21, 22, 23, 24, 25, 26, 27, 28, 29, 30, 31, 32, 33, 34, 35, 36, 37, 38, 39, 40, 41, 42, 43, 44, 45, 46, 47, 48, 49, 50, 51, 52, 53, 54, 55, 56, 57, 58, 59, 60, 61, 62, 63, 64, 65, 66, 67, 68, 69, 70, 71, 72, 73, 74, 75, 76, 77, 78, 12, 79, 80, 81, 82, 83, 84, 85, 86, 87, 88, 89, 90, 91, 92, 93, 94, 95, 96, 97, 98, 99, 100, 101, 102, 103, 104, 105, 106, 107, 108, 109, 110, 111, 112, 113, 114, 115, 116, 117, 118, 119, 120, 121, 122, 123, 124, 125, 126, 127, 128, 129, 130, 131, 132, 133, 134, 135, 136, 137, 138, 139, 140, 141, 142, 143, 144, 145, 146, 147, 148, 149, 150, 151, 152, 153, 154, 155, 156, 157, 158, 159, 160, 161, 162, 163, 164, 165, 166, 167, 168, 169, 170, 171, 172, 173, 174, 175, 176, 177, 178, 179, 180, 181, 182, 183, 184, 185, 186, 187, 188, 189, 190, 191, 192, 193, 194, 195, 196, 197, 198, 199, 200, 201, 202, 203, 204, 205, 206, 207, 208, 209, 210, 211, 212, 213, 214, 215, 216, 217, 218, 219, 220, 221, 222, 223, 224, 225, 226, 227, 228, 271, 272, 273, 274, 275, 276, 277, 278, 279, 280, 281, 282, 283, 284, 285, 286, 287, 288, 289, 290, 291, 292, 293, 294, 295, 296, 297, 298, 299, 300, 301, 302, 303, 304, 305, 306, 307, 308] (by decide +kernel) (by decide +kernel)) (goodIn_sub (fun _ h => List.mem_cons_of_mem _ (List.mem_append_right _ h)) (by decide +kernel))
set_option maxRecDepth 20000 in
theorem gX9_parse_X1_read : GoodIn wsX9_parse (wsV RX9 86 RX1 yX1_read wsX1_read) := goodIn_app (goodIn_of _ (by decide +kernel)) ggX9_parse_X1_read
set_option maxRecDepth 20000 in
theorem ggX9_parse_X9_adoptSpare : GoodIn wsX9_parse wsX9_adoptSpare := goodIn_ca (goodIn_r _ [232, 6, 233, 234, 235, 236, 237, 238, 239, 240, 241, 242, 243, 244, 245, 246, 247, 248, 249, 250, 251, 48, 49, 50, 252, 253, 254, 255, 256, 257, 258, 259, 260, 261, 262, 263, 264, 265, 266, 267, 268, 269, 270, 309, 310, 311, 312, 313, 314, 315, 316, 317, 318, 319, 320, 321, 322, 323, 324, 325, 326, 327, 328, 329, 330] (by decide +kernel) (by decide +kernel)) (goodIn_sub (fun _ h => List.mem_cons_of_mem _ (List.mem_append_right _ h)) (by decide +kernel))
set_option maxRecDepth 20000 in
theorem gX9_parse_X9_adoptSpare : GoodIn wsX9_parse (wsV RX9 91 RX9 yX9_adoptSpare wsX9_adoptSpare) := goodIn_app (goodIn_of _ (by decide +kernel)) ggX9_parse_X9_adoptSpare
theorem dX9_parse_0 : decode cX9_parse 0 = .ok (.iload_n 1, 1) := by decide +kernel
theorem dX9_parse_1 : decode cX9_parse 1 = .ok (.ifCond .lt 11, 3) := by decide +kernel
theorem dX9_parse_4 : decode cX9_parse 4 = .ok (.iload_n 1, 1) := by decide +kernel
theorem dX9_parse_5 : decode cX9_parse 5 = .ok (.aload_n 0, 1) := by decide +kernel
theorem dX9_parse_6 : decode cX9_parse 6 = .ok (.getfield 13, 3) := by decide +kernel
theorem dX9_parse_9 : decode cX9_parse 9 = .ok (.if_icmp .le 13, 3) := by decide +kernel
theorem dX9_parse_12 : decode cX9_parse 12 = .ok (.new 79, 3) := by decide +kernel
theorem dX9_parse_15 : decode cX9_parse 15 = .ok (.dup, 1) := by decide +kernel
theorem dX9_parse_16 : decode cX9_parse 16 = .ok (.ldc 81, 2) := by decide +kernel
theorem dX9_parse_18 : decode cX9_parse 18 = .ok (.invokespecial 83, 3) := by decide +kernel
theorem dX9_parse_21 : decode cX9_parse 21 = .ok (.athrow, 1) := by decide +kernel
theorem dX9_parse_22 : decode cX9_parse 22 = .ok (.aload_n 0, 1) := by decide +kernel
theorem dX9_parse_23 : decode cX9_parse 23 = .ok (.iconst 0, 1) := by decide +kernel
theorem dX9_parse_24 : decode cX9_parse 24 = .ok (.putfield 13, 3) := by decide +kernel
theorem dX9_parse_27 : decode cX9_parse 27 = .ok (.aload_n 0, 1) := by decide +kernel
theorem dX9_parse_28 : decode cX9_parse 28 = .ok (.getfield 23, 3) := by decide +kernel
theorem dX9_parse_31 : decode cX9_parse 31 = .ok (.aload_n 0, 1) := by decide +kernel
theorem dX9_parse_32 : decode cX9_parse 32 = .ok (.getfield 9, 3) := by decide +kernel
theorem dX9_parse_35 : decode cX9_parse 35 = .ok (.iload_n 1, 1) := by decide +kernel
theorem dX9_parse_36 : decode cX9_parse 36 = .ok (.aload_n 0, 1) := by decide +kernel
theorem dX9_parse_37 : decode cX9_parse 37 = .ok (.getfield 34, 3) := by decide +kernel
theorem dX9_parse_40 : decode cX9_parse 40 = .ok (.invokevirtual 86, 3) := by decide +kernel
theorem dX9_parse_43 : decode cX9_parse 43 = .ok (.istore_n 2, 1) := by decide +kernel
theorem dX9_parse_44 : decode cX9_parse 44 = .ok (.aload_n 0, 1) := by decide +kernel
theorem dX9_parse_45 : decode cX9_parse 45 = .ok (.aload_n 0, 1) := by decide +kernel
theorem dX9_parse_46 : decode cX9_parse 46 = .ok (.getfield 23, 3) := by decide +kernel
theorem dX9_parse_49 : decode cX9_parse 49 = .ok (.getfield 90, 3) := by decide +kernel
theorem dX9_parse_52 : decode cX9_parse 52 = .ok (.putfield 17, 3) := by decide +kernel
theorem dX9_parse_55 : decode cX9_parse 55 = .ok (.iload_n 2, 1) := by decide +kernel
theorem dX9_parse_56 : decode cX9_parse 56 = .ok (.ifCond .ne 7, 3) := by decide +kernel
theorem dX9_parse_59 : decode cX9_parse 59 = .ok (.aload_n 0, 1) := by decide +kernel
theorem dX9_parse_60 : decode cX9_parse 60 = .ok (.invokevirtual 91, 3) := by decide +kernel
theorem dX9_parse_63 : decode cX9_parse 63 = .ok (.iload_n 2, 1) := by decide +kernel
theorem dX9_parse_64 : decode cX9_parse 64 = .ok (.ireturn, 1) := by decide +kernel
theorem dX9_errorPosition_0 : decode cX9_errorPosition 0 = .ok (.aload_n 0, 1) := by decide +kernel
theorem dX9_errorPosition_1 : decode cX9_errorPosition 1 = .ok (.getfield 17, 3) := by decide +kernel
theorem dX9_errorPosition_4 : decode cX9_errorPosition 4 = .ok (.ireturn, 1) := by decide +kernel
set_option maxRecDepth 20000 in
theorem ggX9_size_X2_nodeCount : GoodIn wsX9_size wsX2_nodeCount := goodIn_r _ [15, 16, 17, 72, 73, 74, 75, 76] (by decide +kernel) (by decide +kernel)
set_option maxRecDepth 20000 in
theorem gX9_size_X2_nodeCount : GoodIn wsX9_size (wsV RX9 101 RX2 yX2_nodeCount wsX2_nodeCount) := goodIn_app (goodIn_of _ (by decide +kernel)) ggX9_size_X2_nodeCount
set_option maxRecDepth 20000 in
theorem ggX9_size_X7_standingEvents : GoodIn wsX9_size wsX7_standingEvents := goodIn_ca (goodIn_r _ [22, 23, 24, 55, 56, 57, 58, 59, 60, 61, 62, 63, 64, 65, 66, 67, 68, 69, 70, 71] (by decide +kernel) (by decide +kernel)) (goodIn_sub (fun _ h => List.mem_cons_of_mem _ (List.mem_append_right _ h)) (by decide +kernel))
set_option maxRecDepth 20000 in
theorem gX9_size_X7_standingEvents : GoodIn wsX9_size (wsV RX9 122 RX7 yX7_standingEvents wsX7_standingEvents) := goodIn_app (goodIn_of _ (by decide +kernel)) ggX9_size_X7_standingEvents
theorem dX9_size_0 : decode cX9_size 0 = .ok (.iload_n 1, 1) := by decide +kernel
theorem dX9_size_1 : decode cX9_size 1 = .ok (.tableswitch 93 0 5 #[39, 47, 58, 69, 77, 85], 39) := by decide +kernel
theorem dX9_size_40 : decode cX9_size 40 = .ok (.aload_n 0, 1) := by decide +kernel
theorem dX9_size_41 : decode cX9_size 41 = .ok (.getfield 30, 3) := by decide +kernel
theorem dX9_size_44 : decode cX9_size 44 = .ok (.getfield 94, 3) := by decide +kernel
theorem dX9_size_47 : decode cX9_size 47 = .ok (.ireturn, 1) := by decide +kernel
theorem dX9_size_48 : decode cX9_size 48 = .ok (.aload_n 0, 1) := by decide +kernel
theorem dX9_size_49 : decode cX9_size 49 = .ok (.getfield 30, 3) := by decide +kernel
theorem dX9_size_52 : decode cX9_size 52 = .ok (.getfield 97, 3) := by decide +kernel
theorem dX9_size_55 : decode cX9_size 55 = .ok (.invokevirtual 101, 3) := by decide +kernel
theorem dX9_size_58 : decode cX9_size 58 = .ok (.ireturn, 1) := by decide +kernel
theorem dX9_size_59 : decode cX9_size 59 = .ok (.aload_n 0, 1) := by decide +kernel
theorem dX9_size_60 : decode cX9_size 60 = .ok (.getfield 30, 3) := by decide +kernel
theorem dX9_size_63 : decode cX9_size 63 = .ok (.getfield 107, 3) := by decide +kernel
theorem dX9_size_66 : decode cX9_size 66 = .ok (.getfield 111, 3) := by decide +kernel
theorem dX9_size_69 : decode cX9_size 69 = .ok (.ireturn, 1) := by decide +kernel
theorem dX9_size_70 : decode cX9_size 70 = .ok (.aload_n 0, 1) := by decide +kernel
theorem dX9_size_71 : decode cX9_size 71 = .ok (.getfield 40, 3) := by decide +kernel
theorem dX9_size_74 : decode cX9_size 74 = .ok (.getfield 116, 3) := by decide +kernel
theorem dX9_size_77 : decode cX9_size 77 = .ok (.ireturn, 1) := by decide +kernel
theorem dX9_size_78 : decode cX9_size 78 = .ok (.aload_n 0, 1) := by decide +kernel
theorem dX9_size_79 : decode cX9_size 79 = .ok (.getfield 40, 3) := by decide +kernel
theorem dX9_size_82 : decode cX9_size 82 = .ok (.getfield 119, 3) := by decide +kernel
theorem dX9_size_85 : decode cX9_size 85 = .ok (.ireturn, 1) := by decide +kernel
theorem dX9_size_86 : decode cX9_size 86 = .ok (.aload_n 0, 1) := by decide +kernel
theorem dX9_size_87 : decode cX9_size 87 = .ok (.getfield 40, 3) := by decide +kernel
theorem dX9_size_90 : decode cX9_size 90 = .ok (.invokevirtual 122, 3) := by decide +kernel
theorem dX9_size_93 : decode cX9_size 93 = .ok (.ireturn, 1) := by decide +kernel
theorem dX9_size_94 : decode cX9_size 94 = .ok (.new 79, 3) := by decide +kernel
theorem dX9_size_97 : decode cX9_size 97 = .ok (.dup, 1) := by decide +kernel
theorem dX9_size_98 : decode cX9_size 98 = .ok (.ldc 125, 2) := by decide +kernel
theorem dX9_size_100 : decode cX9_size 100 = .ok (.invokespecial 83, 3) := by decide +kernel
theorem dX9_size_103 : decode cX9_size 103 = .ok (.athrow, 1) := by decide +kernel
theorem dX9_tick_0 : decode cX9_tick 0 = .ok (.aload_n 0, 1) := by decide +kernel
theorem dX9_tick_1 : decode cX9_tick 1 = .ok (.getfield 40, 3) := by decide +kernel
theorem dX9_tick_4 : decode cX9_tick 4 = .ok (.getfield 127, 3) := by decide +kernel
theorem dX9_tick_7 : decode cX9_tick 7 = .ok (.ireturn, 1) := by decide +kernel
set_option maxRecDepth 20000 in
theorem ggX9_between_X9_needStation : GoodIn wsX9_between wsX9_needStation := goodIn_ca (goodIn_r _ [6, 7, 8, 1, 9, 16, 17, 18, 19, 20, 21, 22, 23, 24, 25, 26, 27, 28, 29, 30, 31, 32, 33, 34, 35, 36, 37, 38, 39, 40, 41, 42] (by decide +kernel) (by decide +kernel)) (goodIn_sub (fun _ h => List.mem_cons_of_mem _ (List.mem_append_left _ (List.mem_append_right _ h))) (by decide +kernel))
set_option maxRecDepth 20000 in
theorem gX9_between_X9_needStation : GoodIn wsX9_between (wsV RX9 130 RX9 yX9_needStation wsX9_needStation) := goodIn_app (goodIn_of _ (by decide +kernel)) ggX9_between_X9_needStation
set_option maxRecDepth 20000 in
theorem ggX9_between_X5_travelOfStations : GoodIn wsX9_between wsX5_travelOfStations := goodIn_ca (goodIn_r _ [14, 15, 28, 29, 30, 31, 32, 33, 34, 35, 36, 37, 38, 39, 40, 41, 42] (by decide +kernel) (by decide +kernel)) (goodIn_sub (fun _ h => List.mem_cons_of_mem _ (List.mem_append_right _ h)) (by decide +kernel))
set_option maxRecDepth 20000 in
theorem gX9_between_X5_travelOfStations : GoodIn wsX9_between (wsV RX9 133 RX5 yX5_travelOfStations wsX5_travelOfStations) := goodIn_app (goodIn_of _ (by decide +kernel)) ggX9_between_X5_travelOfStations
theorem dX9_between_0 : decode cX9_between 0 = .ok (.aload_n 0, 1) := by decide +kernel
theorem dX9_between_1 : decode cX9_between 1 = .ok (.iload_n 1, 1) := by decide +kernel
theorem dX9_between_2 : decode cX9_between 2 = .ok (.invokevirtual 130, 3) := by decide +kernel
theorem dX9_between_5 : decode cX9_between 5 = .ok (.aload_n 0, 1) := by decide +kernel
theorem dX9_between_6 : decode cX9_between 6 = .ok (.iload_n 2, 1) := by decide +kernel
theorem dX9_between_7 : decode cX9_between 7 = .ok (.invokevirtual 130, 3) := by decide +kernel
theorem dX9_between_10 : decode cX9_between 10 = .ok (.aload_n 0, 1) := by decide +kernel
theorem dX9_between_11 : decode cX9_between 11 = .ok (.getfield 30, 3) := by decide +kernel
theorem dX9_between_14 : decode cX9_between 14 = .ok (.iload_n 1, 1) := by decide +kernel
theorem dX9_between_15 : decode cX9_between 15 = .ok (.iload_n 2, 1) := by decide +kernel
theorem dX9_between_16 : decode cX9_between 16 = .ok (.invokevirtual 133, 3) := by decide +kernel
theorem dX9_between_19 : decode cX9_between 19 = .ok (.ireturn, 1) := by decide +kernel
set_option maxRecDepth 20000 in
theorem ggX9_travel_X9_needNode : GoodIn wsX9_travel wsX9_needNode := goodIn_ca (goodIn_r _ [6, 7, 8, 1, 9, 10, 11, 12, 13, 14, 15, 16, 37, 38, 39, 40, 41, 42, 43, 44, 45, 46, 47, 48, 49, 50, 51, 52, 53, 54, 55, 56, 57, 58, 59, 60, 61, 62, 63, 64, 65, 66, 67, 68] (by decide +kernel) (by decide +kernel)) (goodIn_sub (fun _ h => List.mem_cons_of_mem _ (List.mem_append_left _ (List.mem_append_right _ h))) (by decide +kernel))
set_option maxRecDepth 20000 in
theorem gX9_travel_X9_needNode : GoodIn wsX9_travel (wsV RX9 137 RX9 yX9_needNode wsX9_needNode) := goodIn_app (goodIn_of _ (by decide +kernel)) ggX9_travel_X9_needNode
set_option maxRecDepth 20000 in
theorem ggX9_travel_X9_needStation : GoodIn wsX9_travel wsX9_needStation := goodIn_ca (goodIn_r _ [20, 7, 8, 1, 21, 37, 38, 39, 40, 41, 42, 43, 44, 45, 46, 47, 48, 49, 50, 51, 52, 53, 54, 55, 56, 57, 58, 59, 60, 61, 62, 63] (by decide +kernel) (by decide +kernel)) (goodIn_sub (fun _ h => List.mem_cons_of_mem _ (List.mem_append_left _ (List.mem_append_right _ h))) (by decide +kernel))
set_option maxRecDepth 20000 in
theorem gX9_travel_X9_needStation : GoodIn wsX9_travel (wsV RX9 130 RX9 yX9_needStation wsX9_needStation) := goodIn_app (goodIn_of _ (by decide +kernel)) ggX9_travel_X9_needStation
set_option maxRecDepth 20000 in
theorem ggX9_travel_X5_travelFromNode : GoodIn wsX9_travel wsX5_travelFromNode := goodIn_ca (goodIn_r _ [26, 27, 28, 29, 25, 30, 31, 32, 33, 34, 35, 36, 49, 50, 51, 52, 53, 54, 55, 56, 57, 58, 59, 60, 61, 62, 63] (by decide +kernel) (by decide +kernel)) (goodIn_sub (fun _ h => List.mem_cons_of_mem _ (List.mem_append_right _ h)) (by decide +kernel))
set_option maxRecDepth 20000 in
theorem gX9_travel_X5_travelFromNode : GoodIn wsX9_travel (wsV RX9 140 RX5 yX5_travelFromNode wsX5_travelFromNode) := goodIn_app (goodIn_of _ (by decide +kernel)) ggX9_travel_X5_travelFromNode
theorem dX9_travel_0 : decode cX9_travel 0 = .ok (.aload_n 0, 1) := by decide +kernel
theorem dX9_travel_1 : decode cX9_travel 1 = .ok (.iload_n 1, 1) := by decide +kernel
theorem dX9_travel_2 : decode cX9_travel 2 = .ok (.invokevirtual 137, 3) := by decide +kernel
theorem dX9_travel_5 : decode cX9_travel 5 = .ok (.aload_n 0, 1) := by decide +kernel
theorem dX9_travel_6 : decode cX9_travel 6 = .ok (.iload_n 2, 1) := by decide +kernel
theorem dX9_travel_7 : decode cX9_travel 7 = .ok (.invokevirtual 130, 3) := by decide +kernel
theorem dX9_travel_10 : decode cX9_travel 10 = .ok (.aload_n 0, 1) := by decide +kernel
theorem dX9_travel_11 : decode cX9_travel 11 = .ok (.getfield 30, 3) := by decide +kernel
theorem dX9_travel_14 : decode cX9_travel 14 = .ok (.iload_n 1, 1) := by decide +kernel
theorem dX9_travel_15 : decode cX9_travel 15 = .ok (.iload_n 2, 1) := by decide +kernel
theorem dX9_travel_16 : decode cX9_travel 16 = .ok (.invokevirtual 140, 3) := by decide +kernel
theorem dX9_travel_19 : decode cX9_travel 19 = .ok (.ireturn, 1) := by decide +kernel
set_option maxRecDepth 20000 in
theorem ggX9_ladder_X6_magnitudeOf : GoodIn wsX9_ladder wsX6_magnitudeOf := goodIn_ca (goodIn_r _ [10, 11, 12, 13, 41, 42, 43] (by decide +kernel) (by decide +kernel)) (goodIn_sub (fun _ h => List.mem_cons_of_mem _ (List.mem_append_right _ h)) (by decide +kernel))
set_option maxRecDepth 20000 in
theorem gX9_ladder_X6_magnitudeOf : GoodIn wsX9_ladder (wsV RX9 146 RX6 yX6_magnitudeOf wsX6_magnitudeOf) := goodIn_app (goodIn_of _ (by decide +kernel)) ggX9_ladder_X6_magnitudeOf
theorem dX9_ladder_0 : decode cX9_ladder 0 = .ok (.iload_n 1, 1) := by decide +kernel
theorem dX9_ladder_1 : decode cX9_ladder 1 = .ok (.ifCond .lt 9, 3) := by decide +kernel
theorem dX9_ladder_4 : decode cX9_ladder 4 = .ok (.iload_n 1, 1) := by decide +kernel
theorem dX9_ladder_5 : decode cX9_ladder 5 = .ok (.ldc 143, 2) := by decide +kernel
theorem dX9_ladder_7 : decode cX9_ladder 7 = .ok (.if_icmp .le 13, 3) := by decide +kernel
theorem dX9_ladder_10 : decode cX9_ladder 10 = .ok (.new 79, 3) := by decide +kernel
theorem dX9_ladder_13 : decode cX9_ladder 13 = .ok (.dup, 1) := by decide +kernel
theorem dX9_ladder_14 : decode cX9_ladder 14 = .ok (.ldc 144, 2) := by decide +kernel
theorem dX9_ladder_16 : decode cX9_ladder 16 = .ok (.invokespecial 83, 3) := by decide +kernel
theorem dX9_ladder_19 : decode cX9_ladder 19 = .ok (.athrow, 1) := by decide +kernel
theorem dX9_ladder_20 : decode cX9_ladder 20 = .ok (.aload_n 0, 1) := by decide +kernel
theorem dX9_ladder_21 : decode cX9_ladder 21 = .ok (.getfield 30, 3) := by decide +kernel
theorem dX9_ladder_24 : decode cX9_ladder 24 = .ok (.getfield 107, 3) := by decide +kernel
theorem dX9_ladder_27 : decode cX9_ladder 27 = .ok (.iload_n 1, 1) := by decide +kernel
theorem dX9_ladder_28 : decode cX9_ladder 28 = .ok (.invokevirtual 146, 3) := by decide +kernel
theorem dX9_ladder_31 : decode cX9_ladder 31 = .ok (.ireturn, 1) := by decide +kernel
set_option maxRecDepth 20000 in
theorem ggX9_station_X9_needStation : GoodIn wsX9_station wsX9_needStation := goodIn_ca (goodIn_r _ [16, 17, 18, 3, 19, 28, 29, 30, 31, 32, 33, 34, 35, 36, 37, 38, 39, 40, 41, 42, 43, 44, 45, 46, 47, 48, 49, 50, 51, 52, 53, 54] (by decide +kernel) (by decide +kernel)) (goodIn_sub (fun _ h => List.mem_cons_of_mem _ (List.mem_append_right _ h)) (by decide +kernel))
set_option maxRecDepth 20000 in
theorem gX9_station_X9_needStation : GoodIn wsX9_station (wsV RX9 130 RX9 yX9_needStation wsX9_needStation) := goodIn_app (goodIn_of _ (by decide +kernel)) ggX9_station_X9_needStation
set_option maxRecDepth 20000 in
theorem ggX9_station_X5_ratioOf : GoodIn wsX9_station wsX5_ratioOf := goodIn_r _ [24, 25, 26, 27, 40, 41, 42, 43, 44, 45, 46, 47, 48, 49, 50, 51, 52, 53, 54] (by decide +kernel) (by decide +kernel)
set_option maxRecDepth 20000 in
theorem gX9_station_X5_ratioOf : GoodIn wsX9_station (wsV RX9 165 RX5 yX5_ratioOf wsX5_ratioOf) := goodIn_app (goodIn_of _ (by decide +kernel)) ggX9_station_X5_ratioOf
theorem dX9_station_0 : decode cX9_station 0 = .ok (.aload_n 0, 1) := by decide +kernel
theorem dX9_station_1 : decode cX9_station 1 = .ok (.iload_n 1, 1) := by decide +kernel
theorem dX9_station_2 : decode cX9_station 2 = .ok (.invokevirtual 130, 3) := by decide +kernel
theorem dX9_station_5 : decode cX9_station 5 = .ok (.iload_n 2, 1) := by decide +kernel
theorem dX9_station_6 : decode cX9_station 6 = .ok (.tableswitch 142 0 7 #[46, 56, 66, 76, 86, 96, 122, 132], 46) := by decide +kernel
theorem dX9_station_52 : decode cX9_station 52 = .ok (.aload_n 0, 1) := by decide +kernel
theorem dX9_station_53 : decode cX9_station 53 = .ok (.getfield 30, 3) := by decide +kernel
theorem dX9_station_56 : decode cX9_station 56 = .ok (.getfield 150, 3) := by decide +kernel
theorem dX9_station_59 : decode cX9_station 59 = .ok (.iload_n 1, 1) := by decide +kernel
theorem dX9_station_60 : decode cX9_station 60 = .ok (.iaload, 1) := by decide +kernel
theorem dX9_station_61 : decode cX9_station 61 = .ok (.ireturn, 1) := by decide +kernel
theorem dX9_station_62 : decode cX9_station 62 = .ok (.aload_n 0, 1) := by decide +kernel
theorem dX9_station_63 : decode cX9_station 63 = .ok (.getfield 30, 3) := by decide +kernel
theorem dX9_station_66 : decode cX9_station 66 = .ok (.getfield 153, 3) := by decide +kernel
theorem dX9_station_69 : decode cX9_station 69 = .ok (.iload_n 1, 1) := by decide +kernel
theorem dX9_station_70 : decode cX9_station 70 = .ok (.iaload, 1) := by decide +kernel
theorem dX9_station_71 : decode cX9_station 71 = .ok (.ireturn, 1) := by decide +kernel
theorem dX9_station_72 : decode cX9_station 72 = .ok (.aload_n 0, 1) := by decide +kernel
theorem dX9_station_73 : decode cX9_station 73 = .ok (.getfield 40, 3) := by decide +kernel
theorem dX9_station_76 : decode cX9_station 76 = .ok (.getfield 156, 3) := by decide +kernel
theorem dX9_station_79 : decode cX9_station 79 = .ok (.iload_n 1, 1) := by decide +kernel
theorem dX9_station_80 : decode cX9_station 80 = .ok (.iaload, 1) := by decide +kernel
theorem dX9_station_81 : decode cX9_station 81 = .ok (.ireturn, 1) := by decide +kernel
theorem dX9_station_82 : decode cX9_station 82 = .ok (.aload_n 0, 1) := by decide +kernel
theorem dX9_station_83 : decode cX9_station 83 = .ok (.getfield 40, 3) := by decide +kernel
theorem dX9_station_86 : decode cX9_station 86 = .ok (.getfield 159, 3) := by decide +kernel
theorem dX9_station_89 : decode cX9_station 89 = .ok (.iload_n 1, 1) := by decide +kernel
theorem dX9_station_90 : decode cX9_station 90 = .ok (.iaload, 1) := by decide +kernel
theorem dX9_station_91 : decode cX9_station 91 = .ok (.ireturn, 1) := by decide +kernel
theorem dX9_station_92 : decode cX9_station 92 = .ok (.aload_n 0, 1) := by decide +kernel
theorem dX9_station_93 : decode cX9_station 93 = .ok (.getfield 40, 3) := by decide +kernel
theorem dX9_station_96 : decode cX9_station 96 = .ok (.getfield 162, 3) := by decide +kernel
theorem dX9_station_99 : decode cX9_station 99 = .ok (.iload_n 1, 1) := by decide +kernel
theorem dX9_station_100 : decode cX9_station 100 = .ok (.iaload, 1) := by decide +kernel
theorem dX9_station_101 : decode cX9_station 101 = .ok (.ireturn, 1) := by decide +kernel
theorem dX9_station_102 : decode cX9_station 102 = .ok (.aload_n 0, 1) := by decide +kernel
theorem dX9_station_103 : decode cX9_station 103 = .ok (.getfield 30, 3) := by decide +kernel
theorem dX9_station_106 : decode cX9_station 106 = .ok (.aload_n 0, 1) := by decide +kernel
theorem dX9_station_107 : decode cX9_station 107 = .ok (.getfield 40, 3) := by decide +kernel
theorem dX9_station_110 : decode cX9_station 110 = .ok (.getfield 159, 3) := by decide +kernel
theorem dX9_station_113 : decode cX9_station 113 = .ok (.iload_n 1, 1) := by decide +kernel
theorem dX9_station_114 : decode cX9_station 114 = .ok (.iaload, 1) := by decide +kernel
theorem dX9_station_115 : decode cX9_station 115 = .ok (.aload_n 0, 1) := by decide +kernel
theorem dX9_station_116 : decode cX9_station 116 = .ok (.getfield 40, 3) := by decide +kernel
theorem dX9_station_119 : decode cX9_station 119 = .ok (.getfield 162, 3) := by decide +kernel
theorem dX9_station_122 : decode cX9_station 122 = .ok (.iload_n 1, 1) := by decide +kernel
theorem dX9_station_123 : decode cX9_station 123 = .ok (.iaload, 1) := by decide +kernel
theorem dX9_station_124 : decode cX9_station 124 = .ok (.invokevirtual 165, 3) := by decide +kernel
theorem dX9_station_127 : decode cX9_station 127 = .ok (.ireturn, 1) := by decide +kernel
theorem dX9_station_128 : decode cX9_station 128 = .ok (.aload_n 0, 1) := by decide +kernel
theorem dX9_station_129 : decode cX9_station 129 = .ok (.getfield 40, 3) := by decide +kernel
theorem dX9_station_132 : decode cX9_station 132 = .ok (.getfield 168, 3) := by decide +kernel
theorem dX9_station_135 : decode cX9_station 135 = .ok (.iload_n 1, 1) := by decide +kernel
theorem dX9_station_136 : decode cX9_station 136 = .ok (.iaload, 1) := by decide +kernel
theorem dX9_station_137 : decode cX9_station 137 = .ok (.ireturn, 1) := by decide +kernel
theorem dX9_station_138 : decode cX9_station 138 = .ok (.aload_n 0, 1) := by decide +kernel
theorem dX9_station_139 : decode cX9_station 139 = .ok (.getfield 40, 3) := by decide +kernel
theorem dX9_station_142 : decode cX9_station 142 = .ok (.getfield 171, 3) := by decide +kernel
theorem dX9_station_145 : decode cX9_station 145 = .ok (.iload_n 1, 1) := by decide +kernel
theorem dX9_station_146 : decode cX9_station 146 = .ok (.iaload, 1) := by decide +kernel
theorem dX9_station_147 : decode cX9_station 147 = .ok (.ireturn, 1) := by decide +kernel
theorem dX9_station_148 : decode cX9_station 148 = .ok (.new 79, 3) := by decide +kernel
theorem dX9_station_151 : decode cX9_station 151 = .ok (.dup, 1) := by decide +kernel
theorem dX9_station_152 : decode cX9_station 152 = .ok (.ldc 174, 2) := by decide +kernel
theorem dX9_station_154 : decode cX9_station 154 = .ok (.invokespecial 83, 3) := by decide +kernel
theorem dX9_station_157 : decode cX9_station 157 = .ok (.athrow, 1) := by decide +kernel
set_option maxRecDepth 20000 in
theorem ggX9_triggered_X7_triggeredStations : GoodIn wsX9_triggered wsX7_triggeredStations := goodIn_ca (goodIn_r _ [6, 7, 20, 21, 22, 23, 24, 25, 26, 27, 28, 29, 30, 31, 32, 33, 34, 35, 36] (by decide +kernel) (by decide +kernel)) (goodIn_sub (fun _ h => List.mem_cons_of_mem _ (List.mem_append_right _ h)) (by decide +kernel))
set_option maxRecDepth 20000 in
theorem gX9_triggered_X7_triggeredStations : GoodIn wsX9_triggered (wsV RX9 176 RX7 yX7_triggeredStations wsX7_triggeredStations) := goodIn_app (goodIn_of _ (by decide +kernel)) ggX9_triggered_X7_triggeredStations
theorem dX9_triggered_0 : decode cX9_triggered 0 = .ok (.aload_n 0, 1) := by decide +kernel
theorem dX9_triggered_1 : decode cX9_triggered 1 = .ok (.getfield 40, 3) := by decide +kernel
theorem dX9_triggered_4 : decode cX9_triggered 4 = .ok (.invokevirtual 176, 3) := by decide +kernel
theorem dX9_triggered_7 : decode cX9_triggered 7 = .ok (.ireturn, 1) := by decide +kernel
set_option maxRecDepth 20000 in
theorem ggX9_pick_X9_needPick : GoodIn wsX9_pick wsX9_needPick := goodIn_ca (goodIn_r _ [13, 14, 15, 3, 16, 17, 18, 19, 20, 21, 22, 23, 24, 25, 26, 27, 28, 29, 30, 31, 32, 33, 34, 35, 36, 37, 38, 39, 40, 41, 42, 43, 44, 45] (by decide +kernel) (by decide +kernel)) (goodIn_sub (fun _ h => List.mem_cons_of_mem _ (List.mem_append_right _ h)) (by decide +kernel))
set_option maxRecDepth 20000 in
theorem gX9_pick_X9_needPick : GoodIn wsX9_pick (wsV RX9 179 RX9 yX9_needPick wsX9_needPick) := goodIn_app (goodIn_of _ (by decide +kernel)) ggX9_pick_X9_needPick
theorem dX9_pick_0 : decode cX9_pick 0 = .ok (.aload_n 0, 1) := by decide +kernel
theorem dX9_pick_1 : decode cX9_pick 1 = .ok (.iload_n 1, 1) := by decide +kernel
theorem dX9_pick_2 : decode cX9_pick 2 = .ok (.invokevirtual 179, 3) := by decide +kernel
theorem dX9_pick_5 : decode cX9_pick 5 = .ok (.iload_n 2, 1) := by decide +kernel
theorem dX9_pick_6 : decode cX9_pick 6 = .ok (.tableswitch 84 0 4 #[34, 44, 54, 64, 74], 34) := by decide +kernel
theorem dX9_pick_40 : decode cX9_pick 40 = .ok (.aload_n 0, 1) := by decide +kernel
theorem dX9_pick_41 : decode cX9_pick 41 = .ok (.getfield 40, 3) := by decide +kernel
theorem dX9_pick_44 : decode cX9_pick 44 = .ok (.getfield 182, 3) := by decide +kernel
theorem dX9_pick_47 : decode cX9_pick 47 = .ok (.iload_n 1, 1) := by decide +kernel
theorem dX9_pick_48 : decode cX9_pick 48 = .ok (.iaload, 1) := by decide +kernel
theorem dX9_pick_49 : decode cX9_pick 49 = .ok (.ireturn, 1) := by decide +kernel
theorem dX9_pick_50 : decode cX9_pick 50 = .ok (.aload_n 0, 1) := by decide +kernel
theorem dX9_pick_51 : decode cX9_pick 51 = .ok (.getfield 40, 3) := by decide +kernel
theorem dX9_pick_54 : decode cX9_pick 54 = .ok (.getfield 185, 3) := by decide +kernel
theorem dX9_pick_57 : decode cX9_pick 57 = .ok (.iload_n 1, 1) := by decide +kernel
theorem dX9_pick_58 : decode cX9_pick 58 = .ok (.iaload, 1) := by decide +kernel
theorem dX9_pick_59 : decode cX9_pick 59 = .ok (.ireturn, 1) := by decide +kernel
theorem dX9_pick_60 : decode cX9_pick 60 = .ok (.aload_n 0, 1) := by decide +kernel
theorem dX9_pick_61 : decode cX9_pick 61 = .ok (.getfield 40, 3) := by decide +kernel
theorem dX9_pick_64 : decode cX9_pick 64 = .ok (.getfield 188, 3) := by decide +kernel
theorem dX9_pick_67 : decode cX9_pick 67 = .ok (.iload_n 1, 1) := by decide +kernel
theorem dX9_pick_68 : decode cX9_pick 68 = .ok (.iaload, 1) := by decide +kernel
theorem dX9_pick_69 : decode cX9_pick 69 = .ok (.ireturn, 1) := by decide +kernel
theorem dX9_pick_70 : decode cX9_pick 70 = .ok (.aload_n 0, 1) := by decide +kernel
theorem dX9_pick_71 : decode cX9_pick 71 = .ok (.getfield 40, 3) := by decide +kernel
theorem dX9_pick_74 : decode cX9_pick 74 = .ok (.getfield 191, 3) := by decide +kernel
theorem dX9_pick_77 : decode cX9_pick 77 = .ok (.iload_n 1, 1) := by decide +kernel
theorem dX9_pick_78 : decode cX9_pick 78 = .ok (.iaload, 1) := by decide +kernel
theorem dX9_pick_79 : decode cX9_pick 79 = .ok (.ireturn, 1) := by decide +kernel
theorem dX9_pick_80 : decode cX9_pick 80 = .ok (.aload_n 0, 1) := by decide +kernel
theorem dX9_pick_81 : decode cX9_pick 81 = .ok (.getfield 40, 3) := by decide +kernel
theorem dX9_pick_84 : decode cX9_pick 84 = .ok (.getfield 194, 3) := by decide +kernel
theorem dX9_pick_87 : decode cX9_pick 87 = .ok (.iload_n 1, 1) := by decide +kernel
theorem dX9_pick_88 : decode cX9_pick 88 = .ok (.iaload, 1) := by decide +kernel
theorem dX9_pick_89 : decode cX9_pick 89 = .ok (.ireturn, 1) := by decide +kernel
theorem dX9_pick_90 : decode cX9_pick 90 = .ok (.new 79, 3) := by decide +kernel
theorem dX9_pick_93 : decode cX9_pick 93 = .ok (.dup, 1) := by decide +kernel
theorem dX9_pick_94 : decode cX9_pick 94 = .ok (.ldc 197, 2) := by decide +kernel
theorem dX9_pick_96 : decode cX9_pick 96 = .ok (.invokespecial 83, 3) := by decide +kernel
theorem dX9_pick_99 : decode cX9_pick 99 = .ok (.athrow, 1) := by decide +kernel
set_option maxRecDepth 20000 in
theorem ggX9_fits_X9_needPick : GoodIn wsX9_fits wsX9_needPick := goodIn_ca (goodIn_r _ [7, 8, 9, 1, 10, 30, 31, 32, 33, 34, 35, 36, 37, 38, 39, 40, 41, 42, 43, 44, 45, 46, 47, 48, 49, 50, 51, 52, 53, 54, 55, 56, 57, 58] (by decide +kernel) (by decide +kernel)) (goodIn_sub (fun _ h => List.mem_cons_of_mem _ (List.mem_append_left _ (List.mem_append_right _ h))) (by decide +kernel))
set_option maxRecDepth 20000 in
theorem gX9_fits_X9_needPick : GoodIn wsX9_fits (wsV RX9 179 RX9 yX9_needPick wsX9_needPick) := goodIn_app (goodIn_of _ (by decide +kernel)) ggX9_fits_X9_needPick
set_option maxRecDepth 20000 in
theorem ggX9_fits_X7_picksFit : GoodIn wsX9_fits wsX7_picksFit := goodIn_ca (goodIn_r _ [15, 16, 17, 18, 19, 20, 21, 22, 23, 24, 25, 26, 27, 28, 29, 42, 43, 44, 45, 46, 47, 48, 49, 50, 51, 52, 53, 54, 55, 56, 57, 58, 59, 60, 61, 62, 63, 64, 65, 66, 67, 68, 69, 70, 71, 72, 73] (by decide +kernel) (by decide +kernel)) (goodIn_sub (fun _ h => List.mem_cons_of_mem _ (List.mem_append_right _ h)) (by decide +kernel))
set_option maxRecDepth 20000 in
theorem gX9_fits_X7_picksFit : GoodIn wsX9_fits (wsV RX9 199 RX7 yX7_picksFit wsX7_picksFit) := goodIn_app (goodIn_of _ (by decide +kernel)) ggX9_fits_X7_picksFit
theorem dX9_fits_0 : decode cX9_fits 0 = .ok (.aload_n 0, 1) := by decide +kernel
theorem dX9_fits_1 : decode cX9_fits 1 = .ok (.iload_n 1, 1) := by decide +kernel
theorem dX9_fits_2 : decode cX9_fits 2 = .ok (.invokevirtual 179, 3) := by decide +kernel
theorem dX9_fits_5 : decode cX9_fits 5 = .ok (.aload_n 0, 1) := by decide +kernel
theorem dX9_fits_6 : decode cX9_fits 6 = .ok (.iload_n 2, 1) := by decide +kernel
theorem dX9_fits_7 : decode cX9_fits 7 = .ok (.invokevirtual 179, 3) := by decide +kernel
theorem dX9_fits_10 : decode cX9_fits 10 = .ok (.aload_n 0, 1) := by decide +kernel
theorem dX9_fits_11 : decode cX9_fits 11 = .ok (.getfield 40, 3) := by decide +kernel
theorem dX9_fits_14 : decode cX9_fits 14 = .ok (.aload_n 0, 1) := by decide +kernel
theorem dX9_fits_15 : decode cX9_fits 15 = .ok (.getfield 30, 3) := by decide +kernel
theorem dX9_fits_18 : decode cX9_fits 18 = .ok (.iload_n 1, 1) := by decide +kernel
theorem dX9_fits_19 : decode cX9_fits 19 = .ok (.iload_n 2, 1) := by decide +kernel
theorem dX9_fits_20 : decode cX9_fits 20 = .ok (.invokevirtual 199, 3) := by decide +kernel
theorem dX9_fits_23 : decode cX9_fits 23 = .ok (.ireturn, 1) := by decide +kernel
set_option maxRecDepth 20000 in
theorem ggX9_event_X9_needEvent : GoodIn wsX9_event wsX9_needEvent := goodIn_ca (goodIn_r _ [10, 11, 12, 3, 13, 108, 109, 110, 111, 112, 113, 114, 115, 116, 117, 118, 119, 120, 121, 122, 123, 124, 125, 126, 127, 128, 129, 130, 131, 132, 133, 134, 135, 136] (by decide +kernel) (by decide +kernel)) (goodIn_sub (fun _ h => List.mem_cons_of_mem _ (List.mem_append_right _ h)) (by decide +kernel))
set_option maxRecDepth 20000 in
theorem gX9_event_X9_needEvent : GoodIn wsX9_event (wsV RX9 203 RX9 yX9_needEvent wsX9_needEvent) := goodIn_app (goodIn_of _ (by decide +kernel)) ggX9_event_X9_needEvent
set_option maxRecDepth 20000 in
theorem ggX9_event_X7_picksOf : GoodIn wsX9_event wsX7_picksOf := goodIn_ca (goodIn_r _ [18, 19, 20, 120, 121, 122, 123, 124, 125, 126, 127, 128, 129, 130, 131, 132, 133, 134, 135, 136] (by decide +kernel) (by decide +kernel)) (goodIn_sub (fun _ h => List.mem_cons_of_mem _ (List.mem_append_left _ (List.mem_append_left _ (List.mem_append_right _ h)))) (by decide +kernel))
set_option maxRecDepth 20000 in
theorem gX9_event_X7_picksOf : GoodIn wsX9_event (wsV RX9 209 RX7 yX7_picksOf wsX7_picksOf) := goodIn_app (goodIn_of _ (by decide +kernel)) ggX9_event_X7_picksOf
set_option maxRecDepth 20000 in
theorem ggX9_event_X9_located : GoodIn wsX9_event wsX9_located := goodIn_ca (goodIn_r _ [24, 25, 26, 3, 27, 28, 29, 30, 31, 32, 33, 34, 35, 36, 37, 38, 39, 40, 41, 42, 43, 44, 45, 46, 47, 48, 49, 50, 51, 52, 53, 54, 55, 56, 57, 58, 59, 60, 61, 62, 63, 64, 65, 66, 67, 68, 69, 70, 71, 72, 73, 74, 75, 76, 77, 78, 79, 80, 81, 82, 83, 84, 85, 86, 87, 88, 89, 90, 91, 92, 93, 94, 95, 96, 97, 98, 99, 100, 101, 102, 103, 104, 105, 106, 107, 108, 109, 110, 111, 112, 113, 114, 115, 116, 117, 118, 119, 137, 138, 139, 140, 141, 142, 143, 144, 145, 146, 147, 148, 149, 150, 151, 152, 153, 154, 155, 156, 157, 120, 121, 122, 123, 124, 125, 126, 127, 128, 129, 130, 131, 132, 133, 134, 135, 136, 158, 159, 160, 161, 162, 163, 164, 165] (by decide +kernel) (by decide +kernel)) (goodIn_sub (fun _ h => List.mem_cons_of_mem _ (List.mem_append_left _ (List.mem_append_left _ (List.mem_append_right _ h)))) (by decide +kernel))
set_option maxRecDepth 20000 in
theorem gX9_event_X9_located : GoodIn wsX9_event (wsV RX9 215 RX9 yX9_located wsX9_located) := goodIn_app (goodIn_of _ (by decide +kernel)) ggX9_event_X9_located
theorem dX9_event_0 : decode cX9_event 0 = .ok (.aload_n 0, 1) := by decide +kernel
theorem dX9_event_1 : decode cX9_event 1 = .ok (.iload_n 1, 1) := by decide +kernel
theorem dX9_event_2 : decode cX9_event 2 = .ok (.invokevirtual 203, 3) := by decide +kernel
theorem dX9_event_5 : decode cX9_event 5 = .ok (.iload_n 2, 1) := by decide +kernel
theorem dX9_event_6 : decode cX9_event 6 = .ok (.tableswitch 95 0 6 #[42, 52, 61, 71, 71, 71, 71], 42) := by decide +kernel
theorem dX9_event_48 : decode cX9_event 48 = .ok (.aload_n 0, 1) := by decide +kernel
theorem dX9_event_49 : decode cX9_event 49 = .ok (.getfield 40, 3) := by decide +kernel
theorem dX9_event_52 : decode cX9_event 52 = .ok (.getfield 206, 3) := by decide +kernel
theorem dX9_event_55 : decode cX9_event 55 = .ok (.iload_n 1, 1) := by decide +kernel
theorem dX9_event_56 : decode cX9_event 56 = .ok (.iaload, 1) := by decide +kernel
theorem dX9_event_57 : decode cX9_event 57 = .ok (.ireturn, 1) := by decide +kernel
theorem dX9_event_58 : decode cX9_event 58 = .ok (.aload_n 0, 1) := by decide +kernel
theorem dX9_event_59 : decode cX9_event 59 = .ok (.getfield 40, 3) := by decide +kernel
theorem dX9_event_62 : decode cX9_event 62 = .ok (.iload_n 1, 1) := by decide +kernel
theorem dX9_event_63 : decode cX9_event 63 = .ok (.invokevirtual 209, 3) := by decide +kernel
theorem dX9_event_66 : decode cX9_event 66 = .ok (.ireturn, 1) := by decide +kernel
theorem dX9_event_67 : decode cX9_event 67 = .ok (.aload_n 0, 1) := by decide +kernel
theorem dX9_event_68 : decode cX9_event 68 = .ok (.getfield 40, 3) := by decide +kernel
theorem dX9_event_71 : decode cX9_event 71 = .ok (.getfield 212, 3) := by decide +kernel
theorem dX9_event_74 : decode cX9_event 74 = .ok (.iload_n 1, 1) := by decide +kernel
theorem dX9_event_75 : decode cX9_event 75 = .ok (.iaload, 1) := by decide +kernel
theorem dX9_event_76 : decode cX9_event 76 = .ok (.ireturn, 1) := by decide +kernel
theorem dX9_event_77 : decode cX9_event 77 = .ok (.aload_n 0, 1) := by decide +kernel
theorem dX9_event_78 : decode cX9_event 78 = .ok (.getfield 40, 3) := by decide +kernel
theorem dX9_event_81 : decode cX9_event 81 = .ok (.getfield 206, 3) := by decide +kernel
theorem dX9_event_84 : decode cX9_event 84 = .ok (.iload_n 1, 1) := by decide +kernel
theorem dX9_event_85 : decode cX9_event 85 = .ok (.iaload, 1) := by decide +kernel
theorem dX9_event_86 : decode cX9_event 86 = .ok (.iconst 1, 1) := by decide +kernel
theorem dX9_event_87 : decode cX9_event 87 = .ok (.if_icmp .ne 7, 3) := by decide +kernel
theorem dX9_event_90 : decode cX9_event 90 = .ok (.iconst (-1), 1) := by decide +kernel
theorem dX9_event_91 : decode cX9_event 91 = .ok (.goto 9, 3) := by decide +kernel
theorem dX9_event_94 : decode cX9_event 94 = .ok (.aload_n 0, 1) := by decide +kernel
theorem dX9_event_95 : decode cX9_event 95 = .ok (.iload_n 1, 1) := by decide +kernel
theorem dX9_event_96 : decode cX9_event 96 = .ok (.iload_n 2, 1) := by decide +kernel
theorem dX9_event_97 : decode cX9_event 97 = .ok (.invokevirtual 215, 3) := by decide +kernel
theorem dX9_event_100 : decode cX9_event 100 = .ok (.ireturn, 1) := by decide +kernel
theorem dX9_event_101 : decode cX9_event 101 = .ok (.new 79, 3) := by decide +kernel
theorem dX9_event_104 : decode cX9_event 104 = .ok (.dup, 1) := by decide +kernel
theorem dX9_event_105 : decode cX9_event 105 = .ok (.ldc 218, 2) := by decide +kernel
theorem dX9_event_107 : decode cX9_event 107 = .ok (.invokespecial 83, 3) := by decide +kernel
theorem dX9_event_110 : decode cX9_event 110 = .ok (.athrow, 1) := by decide +kernel
set_option maxRecDepth 20000 in
theorem ggX9_eventPick_X9_needEvent : GoodIn wsX9_eventPick wsX9_needEvent := goodIn_ca (goodIn_r _ [6, 7, 8, 1, 9, 17, 18, 19, 20, 21, 22, 23, 24, 25, 26, 27, 28, 29, 30, 31, 32, 33, 34, 35, 36, 37, 38, 39, 40, 41, 42, 43, 44, 45] (by decide +kernel) (by decide +kernel)) (goodIn_sub (fun _ h => List.mem_cons_of_mem _ (List.mem_append_left _ (List.mem_append_right _ h))) (by decide +kernel))
set_option maxRecDepth 20000 in
theorem gX9_eventPick_X9_needEvent : GoodIn wsX9_eventPick (wsV RX9 203 RX9 yX9_needEvent wsX9_needEvent) := goodIn_app (goodIn_of _ (by decide +kernel)) ggX9_eventPick_X9_needEvent
set_option maxRecDepth 20000 in
theorem ggX9_eventPick_X7_pickOf : GoodIn wsX9_eventPick wsX7_pickOf := goodIn_ca (goodIn_r _ [14, 15, 16, 29, 30, 31, 32, 33, 34, 35, 36, 37, 38, 39, 40, 41, 42, 43, 44, 45] (by decide +kernel) (by decide +kernel)) (goodIn_sub (fun _ h => List.mem_cons_of_mem _ (List.mem_append_right _ h)) (by decide +kernel))
set_option maxRecDepth 20000 in
theorem gX9_eventPick_X7_pickOf : GoodIn wsX9_eventPick (wsV RX9 220 RX7 yX7_pickOf wsX7_pickOf) := goodIn_app (goodIn_of _ (by decide +kernel)) ggX9_eventPick_X7_pickOf
theorem dX9_eventPick_0 : decode cX9_eventPick 0 = .ok (.aload_n 0, 1) := by decide +kernel
theorem dX9_eventPick_1 : decode cX9_eventPick 1 = .ok (.iload_n 1, 1) := by decide +kernel
theorem dX9_eventPick_2 : decode cX9_eventPick 2 = .ok (.invokevirtual 203, 3) := by decide +kernel
theorem dX9_eventPick_5 : decode cX9_eventPick 5 = .ok (.aload_n 0, 1) := by decide +kernel
theorem dX9_eventPick_6 : decode cX9_eventPick 6 = .ok (.getfield 40, 3) := by decide +kernel
theorem dX9_eventPick_9 : decode cX9_eventPick 9 = .ok (.iload_n 1, 1) := by decide +kernel
theorem dX9_eventPick_10 : decode cX9_eventPick 10 = .ok (.iload_n 2, 1) := by decide +kernel
theorem dX9_eventPick_11 : decode cX9_eventPick 11 = .ok (.invokevirtual 220, 3) := by decide +kernel
theorem dX9_eventPick_14 : decode cX9_eventPick 14 = .ok (.ireturn, 1) := by decide +kernel
set_option maxRecDepth 20000 in
theorem ggX9_misfit_X9_needNode : GoodIn wsX9_misfit wsX9_needNode := goodIn_ca (goodIn_r _ [9, 10, 11, 3, 12, 13, 14, 15, 16, 17, 18, 19, 73, 74, 75, 76, 77, 78, 79, 80, 81, 82, 83, 84, 91, 92, 93, 94, 95, 96, 97, 98, 99, 100, 101, 102, 103, 104, 105, 106, 107, 108, 109, 110] (by decide +kernel) (by decide +kernel)) (goodIn_sub (fun _ h => List.mem_cons_of_mem _ (List.mem_append_left _ (List.mem_append_left _ (List.mem_append_right _ h)))) (by decide +kernel))
set_option maxRecDepth 20000 in
theorem gX9_misfit_X9_needNode : GoodIn wsX9_misfit (wsV RX9 137 RX9 yX9_needNode wsX9_needNode) := goodIn_app (goodIn_of _ (by decide +kernel)) ggX9_misfit_X9_needNode
set_option maxRecDepth 20000 in
theorem ggX9_misfit_X9_needEvent : GoodIn wsX9_misfit wsX9_needEvent := goodIn_ca (goodIn_r _ [23, 10, 11, 2, 24, 73, 74, 75, 76, 77, 78, 79, 80, 81, 82, 83, 84, 111, 112, 113, 114, 115, 116, 117, 118, 119, 120, 121, 122, 123, 124, 125, 126, 127] (by decide +kernel) (by decide +kernel)) (goodIn_sub (fun _ h => List.mem_cons_of_mem _ (List.mem_append_left _ (List.mem_append_left _ (List.mem_append_right _ h)))) (by decide +kernel))
set_option maxRecDepth 20000 in
theorem gX9_misfit_X9_needEvent : GoodIn wsX9_misfit (wsV RX9 203 RX9 yX9_needEvent wsX9_needEvent) := goodIn_app (goodIn_of _ (by decide +kernel)) ggX9_misfit_X9_needEvent
set_option maxRecDepth 20000 in
theorem ggX9_misfit_X9_needStanding : GoodIn wsX9_misfit wsX9_needStanding := goodIn_ca (goodIn_ca (goodIn_r _ [28, 29, 30, 2, 31, 73, 74, 75, 76, 77, 78, 79, 80, 81, 82, 83, 84, 111, 112, 113, 114, 115, 116, 117, 118, 119, 120, 121, 122, 123, 124, 125, 126, 127] (by decide +kernel) (by decide +kernel)) (goodIn_sub (fun _ h => List.mem_cons_of_mem _ (List.mem_append_left _ (List.mem_append_right _ h))) (by decide +kernel))) (goodIn_sub (fun _ h => List.mem_cons_of_mem _ (List.mem_append_right _ h)) (by decide +kernel))
set_option maxRecDepth 20000 in
theorem gX9_misfit_X9_needStanding : GoodIn wsX9_misfit (wsV RX9 223 RX9 yX9_needStanding wsX9_needStanding) := goodIn_app (goodIn_of _ (by decide +kernel)) ggX9_misfit_X9_needStanding
set_option maxRecDepth 20000 in
theorem ggX9_misfit_X3_gather : GoodIn wsX9_misfit wsX3_gather := goodIn_ca (goodIn_r _ [36, 37, 38, 39, 40, 85, 86, 87, 88, 89, 90, 111, 112, 113, 114, 115, 116, 117, 118, 119, 120, 121, 122, 123, 124, 125, 126, 127] (by decide +kernel) (by decide +kernel)) (goodIn_sub (fun _ h => List.mem_cons_of_mem _ (List.mem_append_left _ (List.mem_append_right _ h))) (by decide +kernel))
set_option maxRecDepth 20000 in
theorem gX9_misfit_X3_gather : GoodIn wsX9_misfit (wsV RX9 226 RX3 yX3_gather wsX3_gather) := goodIn_app (goodIn_of _ (by decide +kernel)) ggX9_misfit_X3_gather
set_option maxRecDepth 20000 in
theorem ggX9_misfit_X3_weigh : GoodIn wsX9_misfit wsX3_weigh := goodIn_ca (goodIn_r _ [44, 45, 37, 40, 46, 47, 48, 49, 50, 51, 52, 53, 54, 35, 55, 56, 57, 58, 59, 60, 61, 62, 63, 64, 65, 66, 67, 68, 69, 70, 71, 72, 85, 86, 87, 88, 89, 90, 111, 112, 113, 114, 115, 116, 117, 118, 119, 120, 121, 122, 123, 124, 125, 126, 127, 91, 92, 93, 94, 95, 96, 97, 98, 99, 100, 101, 102, 103, 104, 105] (by decide +kernel) (by decide +kernel)) (goodIn_sub (fun _ h => List.mem_cons_of_mem _ (List.mem_append_left _ (List.mem_append_right _ h))) (by decide +kernel))
set_option maxRecDepth 20000 in
theorem gX9_misfit_X3_weigh : GoodIn wsX9_misfit (wsV RX9 230 RX3 yX3_weigh wsX3_weigh) := goodIn_app (goodIn_of _ (by decide +kernel)) ggX9_misfit_X3_weigh
theorem dX9_misfit_0 : decode cX9_misfit 0 = .ok (.aload_n 0, 1) := by decide +kernel
theorem dX9_misfit_1 : decode cX9_misfit 1 = .ok (.iload_n 1, 1) := by decide +kernel
theorem dX9_misfit_2 : decode cX9_misfit 2 = .ok (.invokevirtual 137, 3) := by decide +kernel
theorem dX9_misfit_5 : decode cX9_misfit 5 = .ok (.aload_n 0, 1) := by decide +kernel
theorem dX9_misfit_6 : decode cX9_misfit 6 = .ok (.iload_n 2, 1) := by decide +kernel
theorem dX9_misfit_7 : decode cX9_misfit 7 = .ok (.invokevirtual 203, 3) := by decide +kernel
theorem dX9_misfit_10 : decode cX9_misfit 10 = .ok (.aload_n 0, 1) := by decide +kernel
theorem dX9_misfit_11 : decode cX9_misfit 11 = .ok (.iload_n 2, 1) := by decide +kernel
theorem dX9_misfit_12 : decode cX9_misfit 12 = .ok (.invokevirtual 223, 3) := by decide +kernel
theorem dX9_misfit_15 : decode cX9_misfit 15 = .ok (.aload_n 0, 1) := by decide +kernel
theorem dX9_misfit_16 : decode cX9_misfit 16 = .ok (.getfield 64, 3) := by decide +kernel
theorem dX9_misfit_19 : decode cX9_misfit 19 = .ok (.aload_n 0, 1) := by decide +kernel
theorem dX9_misfit_20 : decode cX9_misfit 20 = .ok (.getfield 40, 3) := by decide +kernel
theorem dX9_misfit_23 : decode cX9_misfit 23 = .ok (.iload_n 2, 1) := by decide +kernel
theorem dX9_misfit_24 : decode cX9_misfit 24 = .ok (.invokevirtual 226, 3) := by decide +kernel
theorem dX9_misfit_27 : decode cX9_misfit 27 = .ok (.aload_n 0, 1) := by decide +kernel
theorem dX9_misfit_28 : decode cX9_misfit 28 = .ok (.getfield 64, 3) := by decide +kernel
theorem dX9_misfit_31 : decode cX9_misfit 31 = .ok (.aload_n 0, 1) := by decide +kernel
theorem dX9_misfit_32 : decode cX9_misfit 32 = .ok (.getfield 30, 3) := by decide +kernel
theorem dX9_misfit_35 : decode cX9_misfit 35 = .ok (.aload_n 0, 1) := by decide +kernel
theorem dX9_misfit_36 : decode cX9_misfit 36 = .ok (.getfield 40, 3) := by decide +kernel
theorem dX9_misfit_39 : decode cX9_misfit 39 = .ok (.iload_n 1, 1) := by decide +kernel
theorem dX9_misfit_40 : decode cX9_misfit 40 = .ok (.invokevirtual 230, 3) := by decide +kernel
theorem dX9_misfit_43 : decode cX9_misfit 43 = .ok (.aload_n 0, 1) := by decide +kernel
theorem dX9_misfit_44 : decode cX9_misfit 44 = .ok (.getfield 64, 3) := by decide +kernel
theorem dX9_misfit_47 : decode cX9_misfit 47 = .ok (.getfield 234, 3) := by decide +kernel
theorem dX9_misfit_50 : decode cX9_misfit 50 = .ok (.ireturn, 1) := by decide +kernel
set_option maxRecDepth 20000 in
theorem ggX9_describe_X9_needEvent : GoodIn wsX9_describe wsX9_needEvent := goodIn_ca (goodIn_r _ [8, 9, 10, 2, 11, 342, 343, 344, 345, 346, 347, 348, 349, 350, 351, 352, 353, 354, 355, 356, 357, 358, 359, 360, 361, 362, 363, 364, 365, 366, 367, 368, 369, 370] (by decide +kernel) (by decide +kernel)) (goodIn_sub (fun _ h => List.mem_cons_of_mem _ (List.mem_append_right _ h)) (by decide +kernel))
set_option maxRecDepth 20000 in
theorem gX9_describe_X9_needEvent : GoodIn wsX9_describe (wsV RX9 203 RX9 yX9_needEvent wsX9_needEvent) := goodIn_app (goodIn_of _ (by decide +kernel)) ggX9_describe_X9_needEvent
set_option maxRecDepth 20000 in
theorem ggX9_describe_J4_setLength_d00df : GoodIn wsX9_describe wsJ4_setLength_d00df := goodIn_r _ [16, 17, 18, 19, 20, 21, 22, 23, 24, 25, 26, 27, 28, 29, 30, 31, 32, 33, 34, 35, 36, 37, 38, 39, 40, 41, 42, 43, 44, 45, 46, 47, 48, 49, 50, 51, 52, 53, 54, 55, 56, 57, 58, 59, 60, 61, 62, 63, 64, 65, 66, 67, 68, 69, 70, 71, 72, 73, 74, 75, 76, 77, 78, 79, 80, 81, 82, 83, 84, 85, 86, 87, 88, 15, 89, 90, 91, 92, 93, 94, 95, 96, 371, 372, 373, 374, 375, 376, 377, 378, 379, 380, 381, 382, 383, 384, 385, 386] (by decide +kernel) (by decide +kernel)
set_option maxRecDepth 20000 in
theorem gX9_describe_J4_setLength_d00df : GoodIn wsX9_describe (wsV RX9 237 RJ4 yJ4_setLength_d00df wsJ4_setLength_d00df) := goodIn_app (goodIn_of _ (by decide +kernel)) ggX9_describe_J4_setLength_d00df
set_option maxRecDepth 20000 in
theorem ggX9_describe_J4_append_15ec4 : GoodIn wsX9_describe wsJ4_append_15ec4 := goodIn_r _ [100, 101, 102, 19, 103, 21, 104, 26, 105, 106, 107, 108, 109, 27, 29, 30, 31, 32, 33, 34, 35, 36, 37, 38, 39, 40, 41, 42, 43, 44, 45, 46, 47, 48, 49, 50, 51, 52, 53, 54, 55, 56, 57, 58, 59, 60, 61, 62, 63, 64, 65, 66, 67, 68, 69, 70, 71, 72, 73, 74, 75, 76, 110, 111, 94, 112, 113, 114, 115, 116, 117, 118, 119, 120, 121, 122, 123, 124, 125, 126, 127, 128, 129, 130, 131, 132, 133, 134, 135, 136, 137, 138, 139, 140, 141, 142, 143, 144, 145, 146, 147, 148, 149, 150, 151, 152, 153, 154, 155, 156, 157, 158, 159, 160, 161, 162, 163, 164, 165, 166, 167, 168, 169, 79, 170, 171, 172, 173, 174, 175, 176, 177, 178, 179, 180, 181, 182, 183, 184, 185, 186, 187, 188, 377, 378, 379, 380, 387, 388, 389, 390] (by decide +kernel) (by decide +kernel)
set_option maxRecDepth 20000 in
theorem gX9_describe_J4_append_15ec4 : GoodIn wsX9_describe (wsV RX9 242 RJ4 yJ4_append_15ec4 wsJ4_append_15ec4) := goodIn_app (goodIn_of _ (by decide +kernel)) ggX9_describe_J4_append_15ec4
set_option maxRecDepth 20000 in
theorem ggX9_describe_J4_append_bf812 : GoodIn wsX9_describe wsJ4_append_bf812 := goodIn_r _ [192, 193, 194, 19, 195, 21, 196, 26, 27, 197, 198, 199, 200, 29, 30, 31, 32, 33, 34, 35, 36, 37, 38, 39, 40, 41, 42, 43, 44, 45, 46, 47, 48, 49, 50, 51, 52, 53, 54, 55, 56, 57, 58, 59, 60, 61, 62, 63, 64, 65, 66, 67, 68, 69, 70, 71, 72, 73, 74, 75, 76, 201, 202, 203, 204, 205, 206, 207, 94, 208, 113, 114, 115, 116, 117, 118, 119, 120, 121, 122, 123, 124, 125, 126, 127, 128, 209, 210, 211, 212, 213, 129, 130, 131, 132, 133, 377, 378, 379, 380] (by decide +kernel) (by decide +kernel)
set_option maxRecDepth 20000 in
theorem gX9_describe_J4_append_bf812 : GoodIn wsX9_describe (wsV RX9 246 RJ4 yJ4_append_bf812 wsJ4_append_bf812) := goodIn_app (goodIn_of _ (by decide +kernel)) ggX9_describe_J4_append_bf812
set_option maxRecDepth 20000 in
theorem ggX9_describe_X9_describeStanding : GoodIn wsX9_describe wsX9_describeStanding := goodIn_ca (goodIn_r _ [217, 218, 219, 2, 1, 220, 221, 222, 223, 224, 225, 226, 227, 228, 229, 230, 231, 232, 233, 234, 235, 236, 237, 238, 239, 240, 241, 242, 243, 244, 245, 47, 246, 247, 248, 249, 250, 251, 252, 253, 254, 255, 256, 257, 258, 259, 260, 261, 262, 263, 264, 265, 266, 267, 268, 269, 270, 271, 272, 273, 274, 275, 276, 277, 278, 279, 280, 281, 282, 283, 284, 285, 286, 287, 288, 289, 290, 291, 292, 293, 294, 295, 296, 297, 298, 299, 97, 98, 99, 15, 100, 101, 102, 19, 103, 21, 104, 26, 105, 106, 107, 108, 109, 27, 29, 30, 31, 32, 33, 34, 35, 36, 37, 38, 39, 40, 41, 42, 43, 44, 45, 46, 48, 49, 50, 51, 52, 53, 54, 55, 56, 57, 58, 59, 60, 61, 62, 63, 64, 65, 66, 67, 68, 69, 70, 71, 72, 73, 74, 75, 76, 110, 111, 94, 112, 113, 114, 115, 116, 117, 118, 119, 120, 121, 122, 123, 124, 125, 126, 127, 128, 129, 130, 131, 132, 133, 134, 135, 136, 137, 138, 139, 140, 141, 142, 143, 144, 145, 146, 147, 148, 149, 150, 151, 152, 153, 154, 155, 156, 157, 158, 159, 160, 161, 162, 163, 164, 165, 166, 167, 168, 169, 79, 170, 171, 172, 173, 174, 175, 176, 177, 178, 179, 180, 181, 182, 183, 184, 185, 186, 187, 188, 300, 301, 302, 303, 304, 305, 189, 190, 191, 192, 193, 194, 195, 196, 197, 198, 199, 200, 201, 202, 203, 204, 205, 206, 207, 208, 209, 210, 211, 212, 213, 306, 307, 308, 309, 310, 311, 312, 313, 314, 315, 316, 317, 318, 319, 320, 321, 322, 323, 324, 325, 326, 327, 328, 329, 330, 331, 332, 333, 342, 343, 344, 345, 346, 347, 348, 349, 350, 351, 352, 353, 391, 392, 393, 394, 395, 396, 397, 398, 399, 400, 401, 402, 403, 404, 405, 406, 407, 408, 409, 410, 411, 354, 355, 356, 357, 358, 359, 360, 361, 362, 363, 364, 365, 366, 367, 368, 369, 370, 412, 413, 414, 415, 416, 417, 418, 419, 377, 378, 379, 380, 387, 388, 389, 390] (by decide +kernel) (by decide +kernel)) (goodIn_sub (fun _ h => List.mem_cons_of_mem _ (List.mem_append_left _ (List.mem_append_right _ h))) (by decide +kernel))
set_option maxRecDepth 20000 in
theorem gX9_describe_X9_describeStanding : GoodIn wsX9_describe (wsV RX9 251 RX9 yX9_describeStanding wsX9_describeStanding) := goodIn_app (goodIn_of _ (by decide +kernel)) ggX9_describe_X9_describeStanding
set_option maxRecDepth 20000 in
theorem ggX9_describe_J4_length_8abf5 : GoodIn wsX9_describe wsJ4_length_8abf5 := goodIn_r _ [337, 338, 339, 19, 340, 21, 341, 26, 377, 378, 379, 380] (by decide +kernel) (by decide +kernel)
set_option maxRecDepth 20000 in
theorem gX9_describe_J4_length_8abf5 : GoodIn wsX9_describe (wsV RX9 254 RJ4 yJ4_length_8abf5 wsJ4_length_8abf5) := goodIn_app (goodIn_of _ (by decide +kernel)) ggX9_describe_J4_length_8abf5
theorem dX9_describe_0 : decode cX9_describe 0 = .ok (.aload_n 0, 1) := by decide +kernel
theorem dX9_describe_1 : decode cX9_describe 1 = .ok (.iload_n 1, 1) := by decide +kernel
theorem dX9_describe_2 : decode cX9_describe 2 = .ok (.invokevirtual 203, 3) := by decide +kernel
theorem dX9_describe_5 : decode cX9_describe 5 = .ok (.aload_n 0, 1) := by decide +kernel
theorem dX9_describe_6 : decode cX9_describe 6 = .ok (.getfield 71, 3) := by decide +kernel
theorem dX9_describe_9 : decode cX9_describe 9 = .ok (.iconst 0, 1) := by decide +kernel
theorem dX9_describe_10 : decode cX9_describe 10 = .ok (.invokevirtual 237, 3) := by decide +kernel
theorem dX9_describe_13 : decode cX9_describe 13 = .ok (.aload_n 0, 1) := by decide +kernel
theorem dX9_describe_14 : decode cX9_describe 14 = .ok (.getfield 71, 3) := by decide +kernel
theorem dX9_describe_17 : decode cX9_describe 17 = .ok (.ldc 240, 2) := by decide +kernel
theorem dX9_describe_19 : decode cX9_describe 19 = .ok (.invokevirtual 242, 3) := by decide +kernel
theorem dX9_describe_22 : decode cX9_describe 22 = .ok (.iload_n 1, 1) := by decide +kernel
theorem dX9_describe_23 : decode cX9_describe 23 = .ok (.invokevirtual 246, 3) := by decide +kernel
theorem dX9_describe_26 : decode cX9_describe 26 = .ok (.pop, 1) := by decide +kernel
theorem dX9_describe_27 : decode cX9_describe 27 = .ok (.aload_n 0, 1) := by decide +kernel
theorem dX9_describe_28 : decode cX9_describe 28 = .ok (.getfield 40, 3) := by decide +kernel
theorem dX9_describe_31 : decode cX9_describe 31 = .ok (.getfield 206, 3) := by decide +kernel
theorem dX9_describe_34 : decode cX9_describe 34 = .ok (.iload_n 1, 1) := by decide +kernel
theorem dX9_describe_35 : decode cX9_describe 35 = .ok (.iaload, 1) := by decide +kernel
theorem dX9_describe_36 : decode cX9_describe 36 = .ok (.iconst 1, 1) := by decide +kernel
theorem dX9_describe_37 : decode cX9_describe 37 = .ok (.if_icmp .ne 16, 3) := by decide +kernel
theorem dX9_describe_40 : decode cX9_describe 40 = .ok (.aload_n 0, 1) := by decide +kernel
theorem dX9_describe_41 : decode cX9_describe 41 = .ok (.getfield 71, 3) := by decide +kernel
theorem dX9_describe_44 : decode cX9_describe 44 = .ok (.ldc 249, 2) := by decide +kernel
theorem dX9_describe_46 : decode cX9_describe 46 = .ok (.invokevirtual 242, 3) := by decide +kernel
theorem dX9_describe_49 : decode cX9_describe 49 = .ok (.pop, 1) := by decide +kernel
theorem dX9_describe_50 : decode cX9_describe 50 = .ok (.goto 8, 3) := by decide +kernel
theorem dX9_describe_53 : decode cX9_describe 53 = .ok (.aload_n 0, 1) := by decide +kernel
theorem dX9_describe_54 : decode cX9_describe 54 = .ok (.iload_n 1, 1) := by decide +kernel
theorem dX9_describe_55 : decode cX9_describe 55 = .ok (.invokevirtual 251, 3) := by decide +kernel
theorem dX9_describe_58 : decode cX9_describe 58 = .ok (.aload_n 0, 1) := by decide +kernel
theorem dX9_describe_59 : decode cX9_describe 59 = .ok (.getfield 71, 3) := by decide +kernel
theorem dX9_describe_62 : decode cX9_describe 62 = .ok (.invokevirtual 254, 3) := by decide +kernel
theorem dX9_describe_65 : decode cX9_describe 65 = .ok (.ireturn, 1) := by decide +kernel
set_option maxRecDepth 20000 in
theorem ggX9_describedByte_J4_length_8abf5 : GoodIn wsX9_describedByte wsJ4_length_8abf5 := goodIn_r _ [6, 7, 8, 9, 10, 11, 12, 13, 59, 60, 61, 62] (by decide +kernel) (by decide +kernel)
set_option maxRecDepth 20000 in
theorem gX9_describedByte_J4_length_8abf5 : GoodIn wsX9_describedByte (wsV RX9 254 RJ4 yJ4_length_8abf5 wsJ4_length_8abf5) := goodIn_app (goodIn_of _ (by decide +kernel)) ggX9_describedByte_J4_length_8abf5
set_option maxRecDepth 20000 in
theorem ggX9_describedByte_J4_charAt_5068e : GoodIn wsX9_describedByte wsJ4_charAt_5068e := goodIn_r _ [17, 18, 19, 9, 20, 11, 21, 22, 23, 13, 24, 25, 26, 27, 28, 29, 30, 31, 32, 33, 34, 35, 36, 37, 38, 39, 40, 41, 42, 43, 44, 45, 46, 59, 60, 61, 62] (by decide +kernel) (by decide +kernel)
set_option maxRecDepth 20000 in
theorem gX9_describedByte_J4_charAt_5068e : GoodIn wsX9_describedByte (wsV RX9 257 RJ4 yJ4_charAt_5068e wsJ4_charAt_5068e) := goodIn_app (goodIn_of _ (by decide +kernel)) ggX9_describedByte_J4_charAt_5068e
theorem dX9_describedByte_0 : decode cX9_describedByte 0 = .ok (.iload_n 1, 1) := by decide +kernel
theorem dX9_describedByte_1 : decode cX9_describedByte 1 = .ok (.ifCond .lt 14, 3) := by decide +kernel
theorem dX9_describedByte_4 : decode cX9_describedByte 4 = .ok (.iload_n 1, 1) := by decide +kernel
theorem dX9_describedByte_5 : decode cX9_describedByte 5 = .ok (.aload_n 0, 1) := by decide +kernel
theorem dX9_describedByte_6 : decode cX9_describedByte 6 = .ok (.getfield 71, 3) := by decide +kernel
theorem dX9_describedByte_9 : decode cX9_describedByte 9 = .ok (.invokevirtual 254, 3) := by decide +kernel
theorem dX9_describedByte_12 : decode cX9_describedByte 12 = .ok (.if_icmp .lt 5, 3) := by decide +kernel
theorem dX9_describedByte_15 : decode cX9_describedByte 15 = .ok (.iconst (-1), 1) := by decide +kernel
theorem dX9_describedByte_16 : decode cX9_describedByte 16 = .ok (.ireturn, 1) := by decide +kernel
theorem dX9_describedByte_17 : decode cX9_describedByte 17 = .ok (.aload_n 0, 1) := by decide +kernel
theorem dX9_describedByte_18 : decode cX9_describedByte 18 = .ok (.getfield 71, 3) := by decide +kernel
theorem dX9_describedByte_21 : decode cX9_describedByte 21 = .ok (.iload_n 1, 1) := by decide +kernel
theorem dX9_describedByte_22 : decode cX9_describedByte 22 = .ok (.invokevirtual 257, 3) := by decide +kernel
theorem dX9_describedByte_25 : decode cX9_describedByte 25 = .ok (.ireturn, 1) := by decide +kernel
set_option maxRecDepth 20000 in
theorem ggX9_ratioAfter_X9_needStation : GoodIn wsX9_ratioAfter wsX9_needStation := goodIn_ca (goodIn_r _ [9, 10, 11, 2, 12, 42, 43, 44, 45, 46, 47, 48, 49, 50, 51, 52, 53, 54, 55, 56, 57, 58, 59, 60, 61, 62, 63, 64, 65, 66, 67, 68] (by decide +kernel) (by decide +kernel)) (goodIn_sub (fun _ h => List.mem_cons_of_mem _ (List.mem_append_left _ (List.mem_append_left _ (List.mem_append_right _ h)))) (by decide +kernel))
set_option maxRecDepth 20000 in
theorem gX9_ratioAfter_X9_needStation : GoodIn wsX9_ratioAfter (wsV RX9 130 RX9 yX9_needStation wsX9_needStation) := goodIn_app (goodIn_of _ (by decide +kernel)) ggX9_ratioAfter_X9_needStation
set_option maxRecDepth 20000 in
theorem ggX9_ratioAfter_X9_needLevel : GoodIn wsX9_ratioAfter wsX9_needLevel := goodIn_ca (goodIn_r _ [16, 17, 18] (by decide +kernel) (by decide +kernel)) (goodIn_sub (fun _ h => List.mem_cons_of_mem _ (List.mem_append_left _ (List.mem_append_right _ h))) (by decide +kernel))
set_option maxRecDepth 20000 in
theorem gX9_ratioAfter_X9_needLevel : GoodIn wsX9_ratioAfter (wsV RX9 261 RX9 yX9_needLevel wsX9_needLevel) := goodIn_app (goodIn_of _ (by decide +kernel)) ggX9_ratioAfter_X9_needLevel
set_option maxRecDepth 20000 in
theorem ggX9_ratioAfter_X9_needTicks : GoodIn wsX9_ratioAfter wsX9_needTicks := goodIn_ca (goodIn_r _ [22, 17, 18] (by decide +kernel) (by decide +kernel)) (goodIn_sub (fun _ h => List.mem_cons_of_mem _ (List.mem_append_left _ (List.mem_append_right _ h))) (by decide +kernel))
set_option maxRecDepth 20000 in
theorem gX9_ratioAfter_X9_needTicks : GoodIn wsX9_ratioAfter (wsV RX9 264 RX9 yX9_needTicks wsX9_needTicks) := goodIn_app (goodIn_of _ (by decide +kernel)) ggX9_ratioAfter_X9_needTicks
set_option maxRecDepth 20000 in
theorem ggX9_ratioAfter_X7_sumAfter : GoodIn wsX9_ratioAfter wsX7_sumAfter := goodIn_ca (goodIn_r _ [27, 28, 29, 30, 31, 26, 32, 33, 69, 70, 71, 72, 73, 74, 75, 76, 77, 78, 79, 80, 81, 82, 83, 84, 85] (by decide +kernel) (by decide +kernel)) (goodIn_sub (fun _ h => List.mem_cons_of_mem _ (List.mem_append_right _ h)) (by decide +kernel))
set_option maxRecDepth 20000 in
theorem gX9_ratioAfter_X7_sumAfter : GoodIn wsX9_ratioAfter (wsV RX9 271 RX7 yX7_sumAfter wsX7_sumAfter) := goodIn_app (goodIn_of _ (by decide +kernel)) ggX9_ratioAfter_X7_sumAfter
set_option maxRecDepth 20000 in
theorem ggX9_ratioAfter_X5_ratioOf : GoodIn wsX9_ratioAfter wsX5_ratioOf := goodIn_r _ [38, 39, 40, 41, 54, 55, 56, 57, 58, 59, 60, 61, 62, 63, 64, 65, 66, 67, 68] (by decide +kernel) (by decide +kernel)
set_option maxRecDepth 20000 in
theorem gX9_ratioAfter_X5_ratioOf : GoodIn wsX9_ratioAfter (wsV RX9 165 RX5 yX5_ratioOf wsX5_ratioOf) := goodIn_app (goodIn_of _ (by decide +kernel)) ggX9_ratioAfter_X5_ratioOf
theorem dX9_ratioAfter_0 : decode cX9_ratioAfter 0 = .ok (.aload_n 0, 1) := by decide +kernel
theorem dX9_ratioAfter_1 : decode cX9_ratioAfter 1 = .ok (.iload_n 1, 1) := by decide +kernel
theorem dX9_ratioAfter_2 : decode cX9_ratioAfter 2 = .ok (.invokevirtual 130, 3) := by decide +kernel
theorem dX9_ratioAfter_5 : decode cX9_ratioAfter 5 = .ok (.aload_n 0, 1) := by decide +kernel
theorem dX9_ratioAfter_6 : decode cX9_ratioAfter 6 = .ok (.iload_n 2, 1) := by decide +kernel
theorem dX9_ratioAfter_7 : decode cX9_ratioAfter 7 = .ok (.invokevirtual 261, 3) := by decide +kernel
theorem dX9_ratioAfter_10 : decode cX9_ratioAfter 10 = .ok (.aload_n 0, 1) := by decide +kernel
theorem dX9_ratioAfter_11 : decode cX9_ratioAfter 11 = .ok (.iconst 0, 1) := by decide +kernel
theorem dX9_ratioAfter_12 : decode cX9_ratioAfter 12 = .ok (.iload_n 3, 1) := by decide +kernel
theorem dX9_ratioAfter_13 : decode cX9_ratioAfter 13 = .ok (.invokevirtual 264, 3) := by decide +kernel
theorem dX9_ratioAfter_16 : decode cX9_ratioAfter 16 = .ok (.aload_n 0, 1) := by decide +kernel
theorem dX9_ratioAfter_17 : decode cX9_ratioAfter 17 = .ok (.getfield 40, 3) := by decide +kernel
theorem dX9_ratioAfter_20 : decode cX9_ratioAfter 20 = .ok (.iload_n 1, 1) := by decide +kernel
theorem dX9_ratioAfter_21 : decode cX9_ratioAfter 21 = .ok (.aload_n 0, 1) := by decide +kernel
theorem dX9_ratioAfter_22 : decode cX9_ratioAfter 22 = .ok (.getfield 30, 3) := by decide +kernel
theorem dX9_ratioAfter_25 : decode cX9_ratioAfter 25 = .ok (.getfield 268, 3) := by decide +kernel
theorem dX9_ratioAfter_28 : decode cX9_ratioAfter 28 = .ok (.iload_n 2, 1) := by decide +kernel
theorem dX9_ratioAfter_29 : decode cX9_ratioAfter 29 = .ok (.iload_n 3, 1) := by decide +kernel
theorem dX9_ratioAfter_30 : decode cX9_ratioAfter 30 = .ok (.invokevirtual 271, 3) := by decide +kernel
theorem dX9_ratioAfter_33 : decode cX9_ratioAfter 33 = .ok (.istore 4, 2) := by decide +kernel
theorem dX9_ratioAfter_35 : decode cX9_ratioAfter 35 = .ok (.aload_n 0, 1) := by decide +kernel
theorem dX9_ratioAfter_36 : decode cX9_ratioAfter 36 = .ok (.getfield 40, 3) := by decide +kernel
theorem dX9_ratioAfter_39 : decode cX9_ratioAfter 39 = .ok (.iload_n 1, 1) := by decide +kernel
theorem dX9_ratioAfter_40 : decode cX9_ratioAfter 40 = .ok (.aload_n 0, 1) := by decide +kernel
theorem dX9_ratioAfter_41 : decode cX9_ratioAfter 41 = .ok (.getfield 30, 3) := by decide +kernel
theorem dX9_ratioAfter_44 : decode cX9_ratioAfter 44 = .ok (.getfield 275, 3) := by decide +kernel
theorem dX9_ratioAfter_47 : decode cX9_ratioAfter 47 = .ok (.iload_n 2, 1) := by decide +kernel
theorem dX9_ratioAfter_48 : decode cX9_ratioAfter 48 = .ok (.iload_n 3, 1) := by decide +kernel
theorem dX9_ratioAfter_49 : decode cX9_ratioAfter 49 = .ok (.invokevirtual 271, 3) := by decide +kernel
theorem dX9_ratioAfter_52 : decode cX9_ratioAfter 52 = .ok (.istore 5, 2) := by decide +kernel
theorem dX9_ratioAfter_54 : decode cX9_ratioAfter 54 = .ok (.aload_n 0, 1) := by decide +kernel
theorem dX9_ratioAfter_55 : decode cX9_ratioAfter 55 = .ok (.getfield 30, 3) := by decide +kernel
theorem dX9_ratioAfter_58 : decode cX9_ratioAfter 58 = .ok (.iload 4, 2) := by decide +kernel
theorem dX9_ratioAfter_60 : decode cX9_ratioAfter 60 = .ok (.iload 5, 2) := by decide +kernel
theorem dX9_ratioAfter_62 : decode cX9_ratioAfter 62 = .ok (.invokevirtual 165, 3) := by decide +kernel
theorem dX9_ratioAfter_65 : decode cX9_ratioAfter 65 = .ok (.ireturn, 1) := by decide +kernel
set_option maxRecDepth 20000 in
theorem ggX9_eventsWithout_X9_needStation : GoodIn wsX9_eventsWithout wsX9_needStation := goodIn_ca (goodIn_r _ [9, 10, 11, 3, 12, 164, 165, 166, 167, 168, 169, 170, 171, 172, 173, 174, 175, 176, 177, 178, 179, 180, 181, 182, 183, 184, 185, 186, 187, 188, 189, 190] (by decide +kernel) (by decide +kernel)) (goodIn_sub (fun _ h => List.mem_cons_of_mem _ (List.mem_append_left _ (List.mem_append_left _ (List.mem_append_left _ (List.mem_append_right _ h))))) (by decide +kernel))
set_option maxRecDepth 20000 in
theorem gX9_eventsWithout_X9_needStation : GoodIn wsX9_eventsWithout (wsV RX9 130 RX9 yX9_needStation wsX9_needStation) := goodIn_app (goodIn_of _ (by decide +kernel)) ggX9_eventsWithout_X9_needStation
set_option maxRecDepth 20000 in
theorem ggX9_eventsWithout_X9_needTicks : GoodIn wsX9_eventsWithout wsX9_needTicks := goodIn_ca (goodIn_r _ [16, 17, 18] (by decide +kernel) (by decide +kernel)) (goodIn_sub (fun _ h => List.mem_cons_of_mem _ (List.mem_append_left _ (List.mem_append_left _ (List.mem_append_right _ h)))) (by decide +kernel))
set_option maxRecDepth 20000 in
theorem gX9_eventsWithout_X9_needTicks : GoodIn wsX9_eventsWithout (wsV RX9 264 RX9 yX9_needTicks wsX9_needTicks) := goodIn_app (goodIn_of _ (by decide +kernel)) ggX9_eventsWithout_X9_needTicks
set_option maxRecDepth 20000 in
theorem ggX9_eventsWithout_X9_needMuted : GoodIn wsX9_eventsWithout wsX9_needMuted := goodIn_ca (goodIn_ca (goodIn_r _ [22, 23, 24, 2, 25, 164, 165, 166, 167, 168, 169, 170, 171, 172, 173, 174, 175, 191, 192, 193, 194, 195, 196, 197, 198, 199, 200, 201, 202, 203, 204, 205, 206, 207] (by decide +kernel) (by decide +kernel)) (goodIn_sub (fun _ h => List.mem_cons_of_mem _ (List.mem_append_left _ (List.mem_append_right _ h))) (by decide +kernel))) (goodIn_sub (fun _ h => List.mem_cons_of_mem _ (List.mem_append_right _ h)) (by decide +kernel))
set_option maxRecDepth 20000 in
theorem gX9_eventsWithout_X9_needMuted : GoodIn wsX9_eventsWithout (wsV RX9 278 RX9 yX9_needMuted wsX9_needMuted) := goodIn_app (goodIn_of _ (by decide +kernel)) ggX9_eventsWithout_X9_needMuted
set_option maxRecDepth 20000 in
theorem ggX9_eventsWithout_X7_copyFrom : GoodIn wsX9_eventsWithout wsX7_copyFrom := goodIn_r _ [30, 31, 32, 33, 34, 35, 36, 37, 38, 39, 40, 41, 42, 43, 44, 45, 46, 47, 48, 8, 49, 50, 51, 52, 53, 54, 55, 56, 57, 191, 192, 193, 194, 195, 196, 197, 198, 199, 200, 201, 202, 203, 204, 205, 206, 207] (by decide +kernel) (by decide +kernel)
set_option maxRecDepth 20000 in
theorem gX9_eventsWithout_X7_copyFrom : GoodIn wsX9_eventsWithout (wsV RX9 281 RX7 yX7_copyFrom wsX7_copyFrom) := goodIn_app (goodIn_of _ (by decide +kernel)) ggX9_eventsWithout_X7_copyFrom
set_option maxRecDepth 20000 in
theorem ggX9_eventsWithout_X7_silence : GoodIn wsX9_eventsWithout wsX7_silence := goodIn_ca (goodIn_r _ [61, 39, 38, 32, 41, 45, 44, 33, 47, 62, 63, 64, 65, 29, 66, 67, 68, 69, 70, 191, 192, 193, 194, 195, 196, 197, 198, 199, 200, 201, 202, 203, 204, 205, 206, 207, 176, 177, 178, 179, 180, 181, 182, 183, 184, 185, 186, 187, 188, 189, 190] (by decide +kernel) (by decide +kernel)) (goodIn_sub (fun _ h => List.mem_cons_of_mem _ (List.mem_append_left _ (List.mem_append_right _ h))) (by decide +kernel))
set_option maxRecDepth 20000 in
theorem gX9_eventsWithout_X7_silence : GoodIn wsX9_eventsWithout (wsV RX9 285 RX7 yX7_silence wsX7_silence) := goodIn_app (goodIn_of _ (by decide +kernel)) ggX9_eventsWithout_X7_silence
set_option maxRecDepth 20000 in
theorem ggX9_eventsWithout_X0_doTick : GoodIn wsX9_eventsWithout wsX0_doTick := goodIn_ca (goodIn_r _ [75, 76, 77, 78, 79, 80, 81, 29, 82, 31, 35, 34, 36, 83, 37, 84, 85, 86, 87, 88, 89, 90, 74, 91, 92, 93, 94, 95, 96, 97, 98, 99, 100, 101, 102, 103, 104, 105, 106, 107, 108, 109, 110, 111, 112, 113, 114, 52, 115, 116, 117, 118, 119, 32, 41, 42, 43, 44, 45, 40, 120, 121, 122, 123, 124, 125, 126, 127, 128, 129, 130, 131, 132, 133, 134, 135, 136, 137, 138, 139, 140, 141, 142, 143, 144, 145, 146, 147, 148, 149, 150, 151, 152, 153, 154, 155, 156, 157, 158, 159, 191, 192, 193, 194, 195, 196, 197, 198, 199, 200, 201, 202, 203, 204, 205, 206, 207, 176, 177, 178, 179, 180, 181, 182, 183, 184, 185, 186, 187, 188, 189, 190, 208, 209] (by decide +kernel) (by decide +kernel)) (goodIn_sub (fun _ h => List.mem_cons_of_mem _ (List.mem_append_left _ (List.mem_append_right _ h))) (by decide +kernel))
set_option maxRecDepth 20000 in
theorem gX9_eventsWithout_X0_doTick : GoodIn wsX9_eventsWithout (wsV RX9 289 RX0 yX0_doTick wsX0_doTick) := goodIn_app (goodIn_of _ (by decide +kernel)) ggX9_eventsWithout_X0_doTick
set_option maxRecDepth 20000 in
theorem ggX9_eventsWithout_X7_standingEvents : GoodIn wsX9_eventsWithout wsX7_standingEvents := goodIn_ca (goodIn_r _ [163, 33, 47, 191, 192, 193, 194, 195, 196, 197, 198, 199, 200, 201, 202, 203, 204, 205, 206, 207] (by decide +kernel) (by decide +kernel)) (goodIn_sub (fun _ h => List.mem_cons_of_mem _ (List.mem_append_left _ (List.mem_append_right _ h))) (by decide +kernel))
set_option maxRecDepth 20000 in
theorem gX9_eventsWithout_X7_standingEvents : GoodIn wsX9_eventsWithout (wsV RX9 122 RX7 yX7_standingEvents wsX7_standingEvents) := goodIn_app (goodIn_of _ (by decide +kernel)) ggX9_eventsWithout_X7_standingEvents
theorem dX9_eventsWithout_0 : decode cX9_eventsWithout 0 = .ok (.aload_n 0, 1) := by decide +kernel
theorem dX9_eventsWithout_1 : decode cX9_eventsWithout 1 = .ok (.iload_n 1, 1) := by decide +kernel
theorem dX9_eventsWithout_2 : decode cX9_eventsWithout 2 = .ok (.invokevirtual 130, 3) := by decide +kernel
theorem dX9_eventsWithout_5 : decode cX9_eventsWithout 5 = .ok (.aload_n 0, 1) := by decide +kernel
theorem dX9_eventsWithout_6 : decode cX9_eventsWithout 6 = .ok (.iconst 0, 1) := by decide +kernel
theorem dX9_eventsWithout_7 : decode cX9_eventsWithout 7 = .ok (.iload_n 2, 1) := by decide +kernel
theorem dX9_eventsWithout_8 : decode cX9_eventsWithout 8 = .ok (.invokevirtual 264, 3) := by decide +kernel
theorem dX9_eventsWithout_11 : decode cX9_eventsWithout 11 = .ok (.aload_n 0, 1) := by decide +kernel
theorem dX9_eventsWithout_12 : decode cX9_eventsWithout 12 = .ok (.iload_n 1, 1) := by decide +kernel
theorem dX9_eventsWithout_13 : decode cX9_eventsWithout 13 = .ok (.iconst 0, 1) := by decide +kernel
theorem dX9_eventsWithout_14 : decode cX9_eventsWithout 14 = .ok (.invokevirtual 278, 3) := by decide +kernel
theorem dX9_eventsWithout_17 : decode cX9_eventsWithout 17 = .ok (.aload_n 0, 1) := by decide +kernel
theorem dX9_eventsWithout_18 : decode cX9_eventsWithout 18 = .ok (.getfield 44, 3) := by decide +kernel
theorem dX9_eventsWithout_21 : decode cX9_eventsWithout 21 = .ok (.aload_n 0, 1) := by decide +kernel
theorem dX9_eventsWithout_22 : decode cX9_eventsWithout 22 = .ok (.getfield 40, 3) := by decide +kernel
theorem dX9_eventsWithout_25 : decode cX9_eventsWithout 25 = .ok (.invokevirtual 281, 3) := by decide +kernel
theorem dX9_eventsWithout_28 : decode cX9_eventsWithout 28 = .ok (.aload_n 0, 1) := by decide +kernel
theorem dX9_eventsWithout_29 : decode cX9_eventsWithout 29 = .ok (.getfield 44, 3) := by decide +kernel
theorem dX9_eventsWithout_32 : decode cX9_eventsWithout 32 = .ok (.aload_n 0, 1) := by decide +kernel
theorem dX9_eventsWithout_33 : decode cX9_eventsWithout 33 = .ok (.getfield 30, 3) := by decide +kernel
theorem dX9_eventsWithout_36 : decode cX9_eventsWithout 36 = .ok (.iload_n 1, 1) := by decide +kernel
theorem dX9_eventsWithout_37 : decode cX9_eventsWithout 37 = .ok (.invokevirtual 285, 3) := by decide +kernel
theorem dX9_eventsWithout_40 : decode cX9_eventsWithout 40 = .ok (.pop, 1) := by decide +kernel
theorem dX9_eventsWithout_41 : decode cX9_eventsWithout 41 = .ok (.iconst 0, 1) := by decide +kernel
theorem dX9_eventsWithout_42 : decode cX9_eventsWithout 42 = .ok (.istore_n 3, 1) := by decide +kernel
theorem dX9_eventsWithout_43 : decode cX9_eventsWithout 43 = .ok (.iload_n 3, 1) := by decide +kernel
theorem dX9_eventsWithout_44 : decode cX9_eventsWithout 44 = .ok (.iload_n 2, 1) := by decide +kernel
theorem dX9_eventsWithout_45 : decode cX9_eventsWithout 45 = .ok (.if_icmp .ge 24, 3) := by decide +kernel
theorem dX9_eventsWithout_48 : decode cX9_eventsWithout 48 = .ok (.aload_n 0, 1) := by decide +kernel
theorem dX9_eventsWithout_49 : decode cX9_eventsWithout 49 = .ok (.getfield 57, 3) := by decide +kernel
theorem dX9_eventsWithout_52 : decode cX9_eventsWithout 52 = .ok (.aload_n 0, 1) := by decide +kernel
theorem dX9_eventsWithout_53 : decode cX9_eventsWithout 53 = .ok (.getfield 30, 3) := by decide +kernel
theorem dX9_eventsWithout_56 : decode cX9_eventsWithout 56 = .ok (.aload_n 0, 1) := by decide +kernel
theorem dX9_eventsWithout_57 : decode cX9_eventsWithout 57 = .ok (.getfield 44, 3) := by decide +kernel
theorem dX9_eventsWithout_60 : decode cX9_eventsWithout 60 = .ok (.invokevirtual 289, 3) := by decide +kernel
theorem dX9_eventsWithout_63 : decode cX9_eventsWithout 63 = .ok (.iinc 3 1, 3) := by decide +kernel
theorem dX9_eventsWithout_66 : decode cX9_eventsWithout 66 = .ok (.goto (-23), 3) := by decide +kernel
theorem dX9_eventsWithout_69 : decode cX9_eventsWithout 69 = .ok (.aload_n 0, 1) := by decide +kernel
theorem dX9_eventsWithout_70 : decode cX9_eventsWithout 70 = .ok (.getfield 44, 3) := by decide +kernel
theorem dX9_eventsWithout_73 : decode cX9_eventsWithout 73 = .ok (.invokevirtual 122, 3) := by decide +kernel
theorem dX9_eventsWithout_76 : decode cX9_eventsWithout 76 = .ok (.ireturn, 1) := by decide +kernel
set_option maxRecDepth 20000 in
theorem ggX9_ticksToEvent_X7_copyFrom : GoodIn wsX9_ticksToEvent wsX7_copyFrom := goodIn_r _ [10, 11, 12, 13, 14, 15, 16, 17, 18, 19, 20, 21, 22, 23, 24, 25, 26, 27, 28, 29, 30, 31, 32, 33, 34, 35, 36, 37, 38, 140, 141, 142, 143, 144, 145, 146, 147, 148, 149, 150, 151, 152, 153, 154, 155, 156] (by decide +kernel) (by decide +kernel)
set_option maxRecDepth 20000 in
theorem gX9_ticksToEvent_X7_copyFrom : GoodIn wsX9_ticksToEvent (wsV RX9 281 RX7 yX7_copyFrom wsX7_copyFrom) := goodIn_app (goodIn_of _ (by decide +kernel)) ggX9_ticksToEvent_X7_copyFrom
set_option maxRecDepth 20000 in
theorem ggX9_ticksToEvent_X0_doTick : GoodIn wsX9_ticksToEvent wsX0_doTick := goodIn_ca (goodIn_r _ [43, 44, 45, 46, 47, 48, 49, 9, 50, 11, 15, 14, 16, 51, 17, 52, 53, 54, 55, 56, 57, 58, 42, 59, 60, 61, 62, 63, 64, 65, 66, 67, 68, 69, 70, 71, 72, 73, 74, 75, 76, 77, 78, 79, 80, 81, 82, 33, 83, 84, 85, 86, 87, 12, 21, 22, 23, 24, 25, 20, 88, 89, 90, 91, 92, 93, 94, 95, 96, 97, 98, 99, 100, 101, 102, 103, 104, 105, 106, 107, 108, 109, 110, 111, 112, 113, 114, 115, 116, 117, 118, 119, 120, 121, 122, 123, 124, 125, 126, 127, 140, 141, 142, 143, 144, 145, 146, 147, 148, 149, 150, 151, 152, 153, 154, 155, 156, 157, 158, 159, 160, 161, 162, 163, 164, 165, 166, 167, 168, 169, 170, 171, 172, 173] (by decide +kernel) (by decide +kernel)) (goodIn_sub (fun _ h => List.mem_cons_of_mem _ (List.mem_append_right _ h)) (by decide +kernel))
set_option maxRecDepth 20000 in
theorem gX9_ticksToEvent_X0_doTick : GoodIn wsX9_ticksToEvent (wsV RX9 289 RX0 yX0_doTick wsX0_doTick) := goodIn_app (goodIn_of _ (by decide +kernel)) ggX9_ticksToEvent_X0_doTick
theorem dX9_ticksToEvent_0 : decode cX9_ticksToEvent 0 = .ok (.aload_n 0, 1) := by decide +kernel
theorem dX9_ticksToEvent_1 : decode cX9_ticksToEvent 1 = .ok (.getfield 44, 3) := by decide +kernel
theorem dX9_ticksToEvent_4 : decode cX9_ticksToEvent 4 = .ok (.aload_n 0, 1) := by decide +kernel
theorem dX9_ticksToEvent_5 : decode cX9_ticksToEvent 5 = .ok (.getfield 40, 3) := by decide +kernel
theorem dX9_ticksToEvent_8 : decode cX9_ticksToEvent 8 = .ok (.invokevirtual 281, 3) := by decide +kernel
theorem dX9_ticksToEvent_11 : decode cX9_ticksToEvent 11 = .ok (.iconst 1, 1) := by decide +kernel
theorem dX9_ticksToEvent_12 : decode cX9_ticksToEvent 12 = .ok (.istore_n 1, 1) := by decide +kernel
theorem dX9_ticksToEvent_13 : decode cX9_ticksToEvent 13 = .ok (.iload_n 1, 1) := by decide +kernel
theorem dX9_ticksToEvent_14 : decode cX9_ticksToEvent 14 = .ok (.sipush 200, 3) := by decide +kernel
theorem dX9_ticksToEvent_17 : decode cX9_ticksToEvent 17 = .ok (.if_icmp .gt 43, 3) := by decide +kernel
theorem dX9_ticksToEvent_20 : decode cX9_ticksToEvent 20 = .ok (.aload_n 0, 1) := by decide +kernel
theorem dX9_ticksToEvent_21 : decode cX9_ticksToEvent 21 = .ok (.getfield 57, 3) := by decide +kernel
theorem dX9_ticksToEvent_24 : decode cX9_ticksToEvent 24 = .ok (.aload_n 0, 1) := by decide +kernel
theorem dX9_ticksToEvent_25 : decode cX9_ticksToEvent 25 = .ok (.getfield 30, 3) := by decide +kernel
theorem dX9_ticksToEvent_28 : decode cX9_ticksToEvent 28 = .ok (.aload_n 0, 1) := by decide +kernel
theorem dX9_ticksToEvent_29 : decode cX9_ticksToEvent 29 = .ok (.getfield 44, 3) := by decide +kernel
theorem dX9_ticksToEvent_32 : decode cX9_ticksToEvent 32 = .ok (.invokevirtual 289, 3) := by decide +kernel
theorem dX9_ticksToEvent_35 : decode cX9_ticksToEvent 35 = .ok (.aload_n 0, 1) := by decide +kernel
theorem dX9_ticksToEvent_36 : decode cX9_ticksToEvent 36 = .ok (.getfield 44, 3) := by decide +kernel
theorem dX9_ticksToEvent_39 : decode cX9_ticksToEvent 39 = .ok (.getfield 119, 3) := by decide +kernel
theorem dX9_ticksToEvent_42 : decode cX9_ticksToEvent 42 = .ok (.aload_n 0, 1) := by decide +kernel
theorem dX9_ticksToEvent_43 : decode cX9_ticksToEvent 43 = .ok (.getfield 40, 3) := by decide +kernel
theorem dX9_ticksToEvent_46 : decode cX9_ticksToEvent 46 = .ok (.getfield 119, 3) := by decide +kernel
theorem dX9_ticksToEvent_49 : decode cX9_ticksToEvent 49 = .ok (.if_icmp .le 5, 3) := by decide +kernel
theorem dX9_ticksToEvent_52 : decode cX9_ticksToEvent 52 = .ok (.iload_n 1, 1) := by decide +kernel
theorem dX9_ticksToEvent_53 : decode cX9_ticksToEvent 53 = .ok (.ireturn, 1) := by decide +kernel
theorem dX9_ticksToEvent_54 : decode cX9_ticksToEvent 54 = .ok (.iinc 1 1, 3) := by decide +kernel
theorem dX9_ticksToEvent_57 : decode cX9_ticksToEvent 57 = .ok (.goto (-44), 3) := by decide +kernel
theorem dX9_ticksToEvent_60 : decode cX9_ticksToEvent 60 = .ok (.iconst (-1), 1) := by decide +kernel
theorem dX9_ticksToEvent_61 : decode cX9_ticksToEvent 61 = .ok (.ireturn, 1) := by decide +kernel
set_option maxRecDepth 20000 in
theorem ggX9_setLevel_X9_needStation : GoodIn wsX9_setLevel wsX9_needStation := goodIn_ca (goodIn_r _ [8, 9, 10, 11, 12, 60, 61, 62, 63, 64, 65, 66, 67, 68, 69, 70, 71, 89, 90, 91, 92, 93, 94, 95, 96, 97, 98, 99, 100, 101, 102, 103] (by decide +kernel) (by decide +kernel)) (goodIn_sub (fun _ h => List.mem_cons_of_mem _ (List.mem_append_left _ (List.mem_append_right _ h))) (by decide +kernel))
set_option maxRecDepth 20000 in
theorem gX9_setLevel_X9_needStation : GoodIn wsX9_setLevel (wsV RX9 130 RX9 yX9_needStation wsX9_needStation) := goodIn_app (goodIn_of _ (by decide +kernel)) ggX9_setLevel_X9_needStation
set_option maxRecDepth 20000 in
theorem ggX9_setLevel_X9_needLevel : GoodIn wsX9_setLevel wsX9_needLevel := goodIn_ca (goodIn_r _ [16, 17, 18] (by decide +kernel) (by decide +kernel)) (goodIn_sub (fun _ h => List.mem_cons_of_mem _ (List.mem_append_right _ h)) (by decide +kernel))
set_option maxRecDepth 20000 in
theorem gX9_setLevel_X9_needLevel : GoodIn wsX9_setLevel (wsV RX9 261 RX9 yX9_needLevel wsX9_needLevel) := goodIn_app (goodIn_of _ (by decide +kernel)) ggX9_setLevel_X9_needLevel
set_option maxRecDepth 20000 in
theorem ggX9_setLevel_X4_remember : GoodIn wsX9_setLevel wsX4_remember := goodIn_r _ [23, 24, 25, 26, 27, 28, 29, 30, 31, 32, 33, 34, 35, 36, 37, 38, 39, 40, 41, 42, 43, 44, 45, 46, 47, 48, 49, 50, 51, 52, 53, 7, 54, 55, 56, 57, 58, 59, 104, 105, 106, 107, 108, 72, 73, 74, 75, 76, 77, 78, 79, 80, 81, 82, 83, 84, 85, 86, 87, 88] (by decide +kernel) (by decide +kernel)
set_option maxRecDepth 20000 in
theorem gX9_setLevel_X4_remember : GoodIn wsX9_setLevel (wsV RX9 293 RX4 yX4_remember wsX4_remember) := goodIn_app (goodIn_of _ (by decide +kernel)) ggX9_setLevel_X4_remember
theorem dX9_setLevel_0 : decode cX9_setLevel 0 = .ok (.aload_n 0, 1) := by decide +kernel
theorem dX9_setLevel_1 : decode cX9_setLevel 1 = .ok (.iload_n 1, 1) := by decide +kernel
theorem dX9_setLevel_2 : decode cX9_setLevel 2 = .ok (.invokevirtual 130, 3) := by decide +kernel
theorem dX9_setLevel_5 : decode cX9_setLevel 5 = .ok (.aload_n 0, 1) := by decide +kernel
theorem dX9_setLevel_6 : decode cX9_setLevel 6 = .ok (.iload_n 2, 1) := by decide +kernel
theorem dX9_setLevel_7 : decode cX9_setLevel 7 = .ok (.invokevirtual 261, 3) := by decide +kernel
theorem dX9_setLevel_10 : decode cX9_setLevel 10 = .ok (.aload_n 0, 1) := by decide +kernel
theorem dX9_setLevel_11 : decode cX9_setLevel 11 = .ok (.getfield 50, 3) := by decide +kernel
theorem dX9_setLevel_14 : decode cX9_setLevel 14 = .ok (.aload_n 0, 1) := by decide +kernel
theorem dX9_setLevel_15 : decode cX9_setLevel 15 = .ok (.getfield 40, 3) := by decide +kernel
theorem dX9_setLevel_18 : decode cX9_setLevel 18 = .ok (.invokevirtual 293, 3) := by decide +kernel
theorem dX9_setLevel_21 : decode cX9_setLevel 21 = .ok (.aload_n 0, 1) := by decide +kernel
theorem dX9_setLevel_22 : decode cX9_setLevel 22 = .ok (.getfield 40, 3) := by decide +kernel
theorem dX9_setLevel_25 : decode cX9_setLevel 25 = .ok (.getfield 156, 3) := by decide +kernel
theorem dX9_setLevel_28 : decode cX9_setLevel 28 = .ok (.iload_n 1, 1) := by decide +kernel
theorem dX9_setLevel_29 : decode cX9_setLevel 29 = .ok (.iaload, 1) := by decide +kernel
theorem dX9_setLevel_30 : decode cX9_setLevel 30 = .ok (.istore_n 3, 1) := by decide +kernel
theorem dX9_setLevel_31 : decode cX9_setLevel 31 = .ok (.aload_n 0, 1) := by decide +kernel
theorem dX9_setLevel_32 : decode cX9_setLevel 32 = .ok (.getfield 40, 3) := by decide +kernel
theorem dX9_setLevel_35 : decode cX9_setLevel 35 = .ok (.getfield 156, 3) := by decide +kernel
theorem dX9_setLevel_38 : decode cX9_setLevel 38 = .ok (.iload_n 1, 1) := by decide +kernel
theorem dX9_setLevel_39 : decode cX9_setLevel 39 = .ok (.iload_n 2, 1) := by decide +kernel
theorem dX9_setLevel_40 : decode cX9_setLevel 40 = .ok (.iastore, 1) := by decide +kernel
theorem dX9_setLevel_41 : decode cX9_setLevel 41 = .ok (.iload_n 3, 1) := by decide +kernel
theorem dX9_setLevel_42 : decode cX9_setLevel 42 = .ok (.ireturn, 1) := by decide +kernel
set_option maxRecDepth 20000 in
theorem ggX9_pass_X9_needTicks : GoodIn wsX9_pass wsX9_needTicks := goodIn_ca (goodIn_r _ [13, 14, 15] (by decide +kernel) (by decide +kernel)) (goodIn_sub (fun _ h => List.mem_cons_of_mem _ (List.mem_append_left _ (List.mem_append_right _ h))) (by decide +kernel))
set_option maxRecDepth 20000 in
theorem gX9_pass_X9_needTicks : GoodIn wsX9_pass (wsV RX9 264 RX9 yX9_needTicks wsX9_needTicks) := goodIn_app (goodIn_of _ (by decide +kernel)) ggX9_pass_X9_needTicks
set_option maxRecDepth 20000 in
theorem ggX9_pass_X4_remember : GoodIn wsX9_pass wsX4_remember := goodIn_r _ [20, 21, 22, 23, 24, 25, 26, 27, 28, 29, 30, 31, 32, 33, 34, 35, 36, 37, 38, 39, 40, 41, 42, 43, 44, 45, 46, 47, 48, 49, 50, 12, 51, 52, 53, 54, 55, 56, 175, 176, 177, 178, 179, 158, 159, 160, 161, 162, 163, 164, 165, 166, 167, 168, 169, 170, 171, 172, 173, 174] (by decide +kernel) (by decide +kernel)
set_option maxRecDepth 20000 in
theorem gX9_pass_X4_remember : GoodIn wsX9_pass (wsV RX9 293 RX4 yX4_remember wsX4_remember) := goodIn_app (goodIn_of _ (by decide +kernel)) ggX9_pass_X4_remember
set_option maxRecDepth 20000 in
theorem ggX9_pass_X0_doTick : GoodIn wsX9_pass wsX0_doTick := goodIn_ca (goodIn_r _ [61, 62, 63, 64, 65, 66, 67, 31, 68, 33, 37, 36, 38, 69, 39, 70, 71, 72, 73, 74, 75, 76, 60, 77, 78, 79, 80, 81, 82, 83, 84, 85, 86, 87, 88, 89, 90, 91, 92, 93, 94, 95, 96, 97, 98, 99, 100, 26, 101, 102, 103, 104, 105, 34, 43, 44, 45, 46, 47, 42, 106, 107, 108, 109, 110, 111, 112, 113, 114, 115, 116, 117, 118, 119, 120, 121, 122, 123, 124, 125, 126, 127, 128, 129, 130, 131, 132, 133, 134, 135, 136, 137, 138, 139, 140, 141, 142, 143, 144, 145, 158, 159, 160, 161, 162, 163, 164, 165, 166, 167, 168, 169, 170, 171, 172, 173, 174, 180, 181, 182, 183, 184, 185, 186, 187, 188, 189, 190, 191, 192, 193, 194, 195, 196] (by decide +kernel) (by decide +kernel)) (goodIn_sub (fun _ h => List.mem_cons_of_mem _ (List.mem_append_right _ h)) (by decide +kernel))
set_option maxRecDepth 20000 in
theorem gX9_pass_X0_doTick : GoodIn wsX9_pass (wsV RX9 289 RX0 yX0_doTick wsX0_doTick) := goodIn_app (goodIn_of _ (by decide +kernel)) ggX9_pass_X0_doTick
theorem dX9_pass_0 : decode cX9_pass 0 = .ok (.aload_n 0, 1) := by decide +kernel
theorem dX9_pass_1 : decode cX9_pass 1 = .ok (.iconst 1, 1) := by decide +kernel
theorem dX9_pass_2 : decode cX9_pass 2 = .ok (.iload_n 1, 1) := by decide +kernel
theorem dX9_pass_3 : decode cX9_pass 3 = .ok (.invokevirtual 264, 3) := by decide +kernel
theorem dX9_pass_6 : decode cX9_pass 6 = .ok (.aload_n 0, 1) := by decide +kernel
theorem dX9_pass_7 : decode cX9_pass 7 = .ok (.getfield 40, 3) := by decide +kernel
theorem dX9_pass_10 : decode cX9_pass 10 = .ok (.getfield 127, 3) := by decide +kernel
theorem dX9_pass_13 : decode cX9_pass 13 = .ok (.iload_n 1, 1) := by decide +kernel
theorem dX9_pass_14 : decode cX9_pass 14 = .ok (.iadd, 1) := by decide +kernel
theorem dX9_pass_15 : decode cX9_pass 15 = .ok (.sipush 9999, 3) := by decide +kernel
theorem dX9_pass_18 : decode cX9_pass 18 = .ok (.if_icmp .le 14, 3) := by decide +kernel
theorem dX9_pass_21 : decode cX9_pass 21 = .ok (.new 296, 3) := by decide +kernel
theorem dX9_pass_24 : decode cX9_pass 24 = .ok (.dup, 1) := by decide +kernel
theorem dX9_pass_25 : decode cX9_pass 25 = .ok (.ldc_w 298, 3) := by decide +kernel
theorem dX9_pass_28 : decode cX9_pass 28 = .ok (.invokespecial 300, 3) := by decide +kernel
theorem dX9_pass_31 : decode cX9_pass 31 = .ok (.athrow, 1) := by decide +kernel
theorem dX9_pass_32 : decode cX9_pass 32 = .ok (.aload_n 0, 1) := by decide +kernel
theorem dX9_pass_33 : decode cX9_pass 33 = .ok (.getfield 50, 3) := by decide +kernel
theorem dX9_pass_36 : decode cX9_pass 36 = .ok (.aload_n 0, 1) := by decide +kernel
theorem dX9_pass_37 : decode cX9_pass 37 = .ok (.getfield 40, 3) := by decide +kernel
theorem dX9_pass_40 : decode cX9_pass 40 = .ok (.invokevirtual 293, 3) := by decide +kernel
theorem dX9_pass_43 : decode cX9_pass 43 = .ok (.aload_n 0, 1) := by decide +kernel
theorem dX9_pass_44 : decode cX9_pass 44 = .ok (.getfield 40, 3) := by decide +kernel
theorem dX9_pass_47 : decode cX9_pass 47 = .ok (.getfield 116, 3) := by decide +kernel
theorem dX9_pass_50 : decode cX9_pass 50 = .ok (.istore_n 2, 1) := by decide +kernel
theorem dX9_pass_51 : decode cX9_pass 51 = .ok (.iconst 0, 1) := by decide +kernel
theorem dX9_pass_52 : decode cX9_pass 52 = .ok (.istore_n 3, 1) := by decide +kernel
theorem dX9_pass_53 : decode cX9_pass 53 = .ok (.iload_n 3, 1) := by decide +kernel
theorem dX9_pass_54 : decode cX9_pass 54 = .ok (.iload_n 1, 1) := by decide +kernel
theorem dX9_pass_55 : decode cX9_pass 55 = .ok (.if_icmp .ge 24, 3) := by decide +kernel
theorem dX9_pass_58 : decode cX9_pass 58 = .ok (.aload_n 0, 1) := by decide +kernel
theorem dX9_pass_59 : decode cX9_pass 59 = .ok (.getfield 57, 3) := by decide +kernel
theorem dX9_pass_62 : decode cX9_pass 62 = .ok (.aload_n 0, 1) := by decide +kernel
theorem dX9_pass_63 : decode cX9_pass 63 = .ok (.getfield 30, 3) := by decide +kernel
theorem dX9_pass_66 : decode cX9_pass 66 = .ok (.aload_n 0, 1) := by decide +kernel
theorem dX9_pass_67 : decode cX9_pass 67 = .ok (.getfield 40, 3) := by decide +kernel
theorem dX9_pass_70 : decode cX9_pass 70 = .ok (.invokevirtual 289, 3) := by decide +kernel
theorem dX9_pass_73 : decode cX9_pass 73 = .ok (.iinc 3 1, 3) := by decide +kernel
theorem dX9_pass_76 : decode cX9_pass 76 = .ok (.goto (-23), 3) := by decide +kernel
theorem dX9_pass_79 : decode cX9_pass 79 = .ok (.aload_n 0, 1) := by decide +kernel
theorem dX9_pass_80 : decode cX9_pass 80 = .ok (.getfield 40, 3) := by decide +kernel
theorem dX9_pass_83 : decode cX9_pass 83 = .ok (.getfield 116, 3) := by decide +kernel
theorem dX9_pass_86 : decode cX9_pass 86 = .ok (.iload_n 2, 1) := by decide +kernel
theorem dX9_pass_87 : decode cX9_pass 87 = .ok (.isub, 1) := by decide +kernel
theorem dX9_pass_88 : decode cX9_pass 88 = .ok (.ireturn, 1) := by decide +kernel
set_option maxRecDepth 20000 in
theorem ggX9_mute_X9_needStation : GoodIn wsX9_mute wsX9_needStation := goodIn_ca (goodIn_r _ [8, 9, 10, 3, 11, 73, 74, 75, 76, 77, 78, 79, 80, 81, 82, 83, 84, 85, 86, 87, 88, 89, 90, 91, 92, 93, 94, 95, 96, 97, 98, 99] (by decide +kernel) (by decide +kernel)) (goodIn_sub (fun _ h => List.mem_cons_of_mem _ (List.mem_append_left _ (List.mem_append_left _ (List.mem_append_right _ h)))) (by decide +kernel))
set_option maxRecDepth 20000 in
theorem gX9_mute_X9_needStation : GoodIn wsX9_mute (wsV RX9 130 RX9 yX9_needStation wsX9_needStation) := goodIn_app (goodIn_of _ (by decide +kernel)) ggX9_mute_X9_needStation
set_option maxRecDepth 20000 in
theorem ggX9_mute_X9_needMuted : GoodIn wsX9_mute wsX9_needMuted := goodIn_ca (goodIn_ca (goodIn_r _ [15, 16, 17, 2, 18, 73, 74, 75, 76, 77, 78, 79, 80, 81, 82, 83, 84, 100, 101, 102, 103, 104, 105, 106, 107, 108, 109, 110, 111, 112, 113, 114, 115, 116] (by decide +kernel) (by decide +kernel)) (goodIn_sub (fun _ h => List.mem_cons_of_mem _ (List.mem_append_left _ (List.mem_append_right _ h))) (by decide +kernel))) (goodIn_sub (fun _ h => List.mem_cons_of_mem _ (List.mem_append_right _ h)) (by decide +kernel))
set_option maxRecDepth 20000 in
theorem gX9_mute_X9_needMuted : GoodIn wsX9_mute (wsV RX9 278 RX9 yX9_needMuted wsX9_needMuted) := goodIn_app (goodIn_of _ (by decide +kernel)) ggX9_mute_X9_needMuted
set_option maxRecDepth 20000 in
theorem ggX9_mute_X4_remember : GoodIn wsX9_mute wsX4_remember := goodIn_r _ [23, 24, 25, 26, 27, 28, 29, 30, 31, 32, 33, 34, 35, 36, 37, 38, 39, 40, 41, 42, 43, 44, 45, 46, 47, 48, 49, 50, 51, 52, 53, 7, 54, 55, 56, 57, 58, 59, 117, 118, 119, 120, 121, 100, 101, 102, 103, 104, 105, 106, 107, 108, 109, 110, 111, 112, 113, 114, 115, 116] (by decide +kernel) (by decide +kernel)
set_option maxRecDepth 20000 in
theorem gX9_mute_X4_remember : GoodIn wsX9_mute (wsV RX9 293 RX4 yX4_remember wsX4_remember) := goodIn_app (goodIn_of _ (by decide +kernel)) ggX9_mute_X4_remember
set_option maxRecDepth 20000 in
theorem ggX9_mute_X7_silence : GoodIn wsX9_mute wsX7_silence := goodIn_ca (goodIn_r _ [63, 44, 43, 37, 46, 50, 49, 38, 52, 64, 65, 66, 67, 34, 68, 69, 70, 71, 72, 100, 101, 102, 103, 104, 105, 106, 107, 108, 109, 110, 111, 112, 113, 114, 115, 116, 85, 86, 87, 88, 89, 90, 91, 92, 93, 94, 95, 96, 97, 98, 99] (by decide +kernel) (by decide +kernel)) (goodIn_sub (fun _ h => List.mem_cons_of_mem _ (List.mem_append_left _ (List.mem_append_right _ h))) (by decide +kernel))
set_option maxRecDepth 20000 in
theorem gX9_mute_X7_silence : GoodIn wsX9_mute (wsV RX9 285 RX7 yX7_silence wsX7_silence) := goodIn_app (goodIn_of _ (by decide +kernel)) ggX9_mute_X7_silence
theorem dX9_mute_0 : decode cX9_mute 0 = .ok (.aload_n 0, 1) := by decide +kernel
theorem dX9_mute_1 : decode cX9_mute 1 = .ok (.iload_n 1, 1) := by decide +kernel
theorem dX9_mute_2 : decode cX9_mute 2 = .ok (.invokevirtual 130, 3) := by decide +kernel
theorem dX9_mute_5 : decode cX9_mute 5 = .ok (.aload_n 0, 1) := by decide +kernel
theorem dX9_mute_6 : decode cX9_mute 6 = .ok (.iload_n 1, 1) := by decide +kernel
theorem dX9_mute_7 : decode cX9_mute 7 = .ok (.iconst 0, 1) := by decide +kernel
theorem dX9_mute_8 : decode cX9_mute 8 = .ok (.invokevirtual 278, 3) := by decide +kernel
theorem dX9_mute_11 : decode cX9_mute 11 = .ok (.aload_n 0, 1) := by decide +kernel
theorem dX9_mute_12 : decode cX9_mute 12 = .ok (.getfield 50, 3) := by decide +kernel
theorem dX9_mute_15 : decode cX9_mute 15 = .ok (.aload_n 0, 1) := by decide +kernel
theorem dX9_mute_16 : decode cX9_mute 16 = .ok (.getfield 40, 3) := by decide +kernel
theorem dX9_mute_19 : decode cX9_mute 19 = .ok (.invokevirtual 293, 3) := by decide +kernel
theorem dX9_mute_22 : decode cX9_mute 22 = .ok (.aload_n 0, 1) := by decide +kernel
theorem dX9_mute_23 : decode cX9_mute 23 = .ok (.getfield 40, 3) := by decide +kernel
theorem dX9_mute_26 : decode cX9_mute 26 = .ok (.aload_n 0, 1) := by decide +kernel
theorem dX9_mute_27 : decode cX9_mute 27 = .ok (.getfield 30, 3) := by decide +kernel
theorem dX9_mute_30 : decode cX9_mute 30 = .ok (.iload_n 1, 1) := by decide +kernel
theorem dX9_mute_31 : decode cX9_mute 31 = .ok (.invokevirtual 285, 3) := by decide +kernel
theorem dX9_mute_34 : decode cX9_mute 34 = .ok (.ireturn, 1) := by decide +kernel
set_option maxRecDepth 20000 in
theorem ggX9_unmute_X9_needStation : GoodIn wsX9_unmute wsX9_needStation := goodIn_ca (goodIn_r _ [11, 12, 13, 4, 14, 70, 71, 72, 73, 74, 75, 76, 77, 78, 79, 80, 81, 99, 100, 101, 102, 103, 104, 105, 106, 107, 108, 109, 110, 111, 112, 113] (by decide +kernel) (by decide +kernel)) (goodIn_sub (fun _ h => List.mem_cons_of_mem _ (List.mem_append_left _ (List.mem_append_right _ h))) (by decide +kernel))
set_option maxRecDepth 20000 in
theorem gX9_unmute_X9_needStation : GoodIn wsX9_unmute (wsV RX9 130 RX9 yX9_needStation wsX9_needStation) := goodIn_app (goodIn_of _ (by decide +kernel)) ggX9_unmute_X9_needStation
set_option maxRecDepth 20000 in
theorem ggX9_unmute_X9_needMuted : GoodIn wsX9_unmute wsX9_needMuted := goodIn_ca (goodIn_ca (goodIn_r _ [18, 19, 20, 2, 3, 70, 71, 72, 73, 74, 75, 76, 77, 78, 79, 80, 81, 82, 83, 84, 85, 86, 87, 88, 89, 90, 91, 92, 93, 94, 95, 96, 97, 98] (by decide +kernel) (by decide +kernel)) (goodIn_sub (fun _ h => List.mem_cons_of_mem _ (List.mem_append_left _ (List.mem_append_left _ (List.mem_append_right _ h)))) (by decide +kernel))) (goodIn_sub (fun _ h => List.mem_cons_of_mem _ (List.mem_append_right _ h)) (by decide +kernel))
set_option maxRecDepth 20000 in
theorem gX9_unmute_X9_needMuted : GoodIn wsX9_unmute (wsV RX9 278 RX9 yX9_needMuted wsX9_needMuted) := goodIn_app (goodIn_of _ (by decide +kernel)) ggX9_unmute_X9_needMuted
set_option maxRecDepth 20000 in
theorem ggX9_unmute_X4_remember : GoodIn wsX9_unmute wsX4_remember := goodIn_r _ [25, 26, 27, 28, 29, 30, 31, 32, 33, 34, 35, 36, 37, 38, 39, 40, 41, 42, 43, 44, 45, 46, 47, 48, 49, 50, 51, 52, 53, 54, 55, 10, 56, 57, 58, 59, 60, 61, 114, 115, 116, 117, 118, 82, 83, 84, 85, 86, 87, 88, 89, 90, 91, 92, 93, 94, 95, 96, 97, 98] (by decide +kernel) (by decide +kernel)
set_option maxRecDepth 20000 in
theorem gX9_unmute_X4_remember : GoodIn wsX9_unmute (wsV RX9 293 RX4 yX4_remember wsX4_remember) := goodIn_app (goodIn_of _ (by decide +kernel)) ggX9_unmute_X4_remember
set_option maxRecDepth 20000 in
theorem ggX9_unmute_X5_ratioOf : GoodIn wsX9_unmute wsX5_ratioOf := goodIn_r _ [66, 67, 68, 69, 99, 100, 101, 102, 103, 104, 105, 106, 107, 108, 109, 110, 111, 112, 113] (by decide +kernel) (by decide +kernel)
set_option maxRecDepth 20000 in
theorem gX9_unmute_X5_ratioOf : GoodIn wsX9_unmute (wsV RX9 165 RX5 yX5_ratioOf wsX5_ratioOf) := goodIn_app (goodIn_of _ (by decide +kernel)) ggX9_unmute_X5_ratioOf
theorem dX9_unmute_0 : decode cX9_unmute 0 = .ok (.aload_n 0, 1) := by decide +kernel
theorem dX9_unmute_1 : decode cX9_unmute 1 = .ok (.iload_n 1, 1) := by decide +kernel
theorem dX9_unmute_2 : decode cX9_unmute 2 = .ok (.invokevirtual 130, 3) := by decide +kernel
theorem dX9_unmute_5 : decode cX9_unmute 5 = .ok (.aload_n 0, 1) := by decide +kernel
theorem dX9_unmute_6 : decode cX9_unmute 6 = .ok (.iload_n 1, 1) := by decide +kernel
theorem dX9_unmute_7 : decode cX9_unmute 7 = .ok (.iconst 1, 1) := by decide +kernel
theorem dX9_unmute_8 : decode cX9_unmute 8 = .ok (.invokevirtual 278, 3) := by decide +kernel
theorem dX9_unmute_11 : decode cX9_unmute 11 = .ok (.aload_n 0, 1) := by decide +kernel
theorem dX9_unmute_12 : decode cX9_unmute 12 = .ok (.getfield 50, 3) := by decide +kernel
theorem dX9_unmute_15 : decode cX9_unmute 15 = .ok (.aload_n 0, 1) := by decide +kernel
theorem dX9_unmute_16 : decode cX9_unmute 16 = .ok (.getfield 40, 3) := by decide +kernel
theorem dX9_unmute_19 : decode cX9_unmute 19 = .ok (.invokevirtual 293, 3) := by decide +kernel
theorem dX9_unmute_22 : decode cX9_unmute 22 = .ok (.aload_n 0, 1) := by decide +kernel
theorem dX9_unmute_23 : decode cX9_unmute 23 = .ok (.getfield 40, 3) := by decide +kernel
theorem dX9_unmute_26 : decode cX9_unmute 26 = .ok (.getfield 171, 3) := by decide +kernel
theorem dX9_unmute_29 : decode cX9_unmute 29 = .ok (.iload_n 1, 1) := by decide +kernel
theorem dX9_unmute_30 : decode cX9_unmute 30 = .ok (.iconst 0, 1) := by decide +kernel
theorem dX9_unmute_31 : decode cX9_unmute 31 = .ok (.iastore, 1) := by decide +kernel
theorem dX9_unmute_32 : decode cX9_unmute 32 = .ok (.aload_n 0, 1) := by decide +kernel
theorem dX9_unmute_33 : decode cX9_unmute 33 = .ok (.getfield 30, 3) := by decide +kernel
theorem dX9_unmute_36 : decode cX9_unmute 36 = .ok (.aload_n 0, 1) := by decide +kernel
theorem dX9_unmute_37 : decode cX9_unmute 37 = .ok (.getfield 40, 3) := by decide +kernel
theorem dX9_unmute_40 : decode cX9_unmute 40 = .ok (.getfield 159, 3) := by decide +kernel
theorem dX9_unmute_43 : decode cX9_unmute 43 = .ok (.iload_n 1, 1) := by decide +kernel
theorem dX9_unmute_44 : decode cX9_unmute 44 = .ok (.iaload, 1) := by decide +kernel
theorem dX9_unmute_45 : decode cX9_unmute 45 = .ok (.aload_n 0, 1) := by decide +kernel
theorem dX9_unmute_46 : decode cX9_unmute 46 = .ok (.getfield 40, 3) := by decide +kernel
theorem dX9_unmute_49 : decode cX9_unmute 49 = .ok (.getfield 162, 3) := by decide +kernel
theorem dX9_unmute_52 : decode cX9_unmute 52 = .ok (.iload_n 1, 1) := by decide +kernel
theorem dX9_unmute_53 : decode cX9_unmute 53 = .ok (.iaload, 1) := by decide +kernel
theorem dX9_unmute_54 : decode cX9_unmute 54 = .ok (.invokevirtual 165, 3) := by decide +kernel
theorem dX9_unmute_57 : decode cX9_unmute 57 = .ok (.ireturn, 1) := by decide +kernel
set_option maxRecDepth 20000 in
theorem ggX9_retract_X9_needEvent : GoodIn wsX9_retract wsX9_needEvent := goodIn_ca (goodIn_r _ [7, 8, 9, 2, 10, 67, 68, 69, 70, 71, 72, 73, 74, 75, 76, 77, 78, 79, 80, 81, 82, 83, 84, 85, 86, 87, 88, 89, 90, 91, 92, 93, 94, 95] (by decide +kernel) (by decide +kernel)) (goodIn_sub (fun _ h => List.mem_cons_of_mem _ (List.mem_append_left _ (List.mem_append_left _ (List.mem_append_right _ h)))) (by decide +kernel))
set_option maxRecDepth 20000 in
theorem gX9_retract_X9_needEvent : GoodIn wsX9_retract (wsV RX9 203 RX9 yX9_needEvent wsX9_needEvent) := goodIn_app (goodIn_of _ (by decide +kernel)) ggX9_retract_X9_needEvent
set_option maxRecDepth 20000 in
theorem ggX9_retract_X9_needStanding : GoodIn wsX9_retract wsX9_needStanding := goodIn_ca (goodIn_ca (goodIn_r _ [14, 15, 16, 2, 17, 67, 68, 69, 70, 71, 72, 73, 74, 75, 76, 77, 78, 79, 80, 81, 82, 83, 84, 85, 86, 87, 88, 89, 90, 91, 92, 93, 94, 95] (by decide +kernel) (by decide +kernel)) (goodIn_sub (fun _ h => List.mem_cons_of_mem _ (List.mem_append_left _ (List.mem_append_right _ h))) (by decide +kernel))) (goodIn_sub (fun _ h => List.mem_cons_of_mem _ (List.mem_append_right _ h)) (by decide +kernel))
set_option maxRecDepth 20000 in
theorem gX9_retract_X9_needStanding : GoodIn wsX9_retract (wsV RX9 223 RX9 yX9_needStanding wsX9_needStanding) := goodIn_app (goodIn_of _ (by decide +kernel)) ggX9_retract_X9_needStanding
set_option maxRecDepth 20000 in
theorem ggX9_retract_X4_remember : GoodIn wsX9_retract wsX4_remember := goodIn_r _ [22, 23, 24, 25, 26, 27, 28, 29, 30, 31, 32, 33, 34, 35, 36, 37, 38, 39, 40, 41, 42, 43, 44, 45, 46, 47, 48, 49, 50, 51, 52, 6, 53, 54, 55, 56, 57, 58, 96, 97, 98, 99, 100, 79, 80, 81, 82, 83, 84, 85, 86, 87, 88, 89, 90, 91, 92, 93, 94, 95] (by decide +kernel) (by decide +kernel)
set_option maxRecDepth 20000 in
theorem gX9_retract_X4_remember : GoodIn wsX9_retract (wsV RX9 293 RX4 yX4_remember wsX4_remember) := goodIn_app (goodIn_of _ (by decide +kernel)) ggX9_retract_X4_remember
set_option maxRecDepth 20000 in
theorem ggX9_retract_X7_picksOf : GoodIn wsX9_retract wsX7_picksOf := goodIn_ca (goodIn_r _ [62, 36, 48, 79, 80, 81, 82, 83, 84, 85, 86, 87, 88, 89, 90, 91, 92, 93, 94, 95] (by decide +kernel) (by decide +kernel)) (goodIn_sub (fun _ h => List.mem_cons_of_mem _ (List.mem_append_left _ (List.mem_append_right _ h))) (by decide +kernel))
set_option maxRecDepth 20000 in
theorem gX9_retract_X7_picksOf : GoodIn wsX9_retract (wsV RX9 209 RX7 yX7_picksOf wsX7_picksOf) := goodIn_app (goodIn_of _ (by decide +kernel)) ggX9_retract_X7_picksOf
set_option maxRecDepth 20000 in
theorem ggX9_retract_X7_withdraw : GoodIn wsX9_retract wsX7_withdraw := goodIn_ca (goodIn_r _ [66, 51, 36, 48, 79, 80, 81, 82, 83, 84, 85, 86, 87, 88, 89, 90, 91, 92, 93, 94, 95] (by decide +kernel) (by decide +kernel)) (goodIn_sub (fun _ h => List.mem_cons_of_mem _ (List.mem_append_left _ (List.mem_append_right _ h))) (by decide +kernel))
set_option maxRecDepth 20000 in
theorem gX9_retract_X7_withdraw : GoodIn wsX9_retract (wsV RX9 301 RX7 yX7_withdraw wsX7_withdraw) := goodIn_app (goodIn_of _ (by decide +kernel)) ggX9_retract_X7_withdraw
theorem dX9_retract_0 : decode cX9_retract 0 = .ok (.aload_n 0, 1) := by decide +kernel
theorem dX9_retract_1 : decode cX9_retract 1 = .ok (.iload_n 1, 1) := by decide +kernel
theorem dX9_retract_2 : decode cX9_retract 2 = .ok (.invokevirtual 203, 3) := by decide +kernel
theorem dX9_retract_5 : decode cX9_retract 5 = .ok (.aload_n 0, 1) := by decide +kernel
theorem dX9_retract_6 : decode cX9_retract 6 = .ok (.iload_n 1, 1) := by decide +kernel
theorem dX9_retract_7 : decode cX9_retract 7 = .ok (.invokevirtual 223, 3) := by decide +kernel
theorem dX9_retract_10 : decode cX9_retract 10 = .ok (.aload_n 0, 1) := by decide +kernel
theorem dX9_retract_11 : decode cX9_retract 11 = .ok (.getfield 50, 3) := by decide +kernel
theorem dX9_retract_14 : decode cX9_retract 14 = .ok (.aload_n 0, 1) := by decide +kernel
theorem dX9_retract_15 : decode cX9_retract 15 = .ok (.getfield 40, 3) := by decide +kernel
theorem dX9_retract_18 : decode cX9_retract 18 = .ok (.invokevirtual 293, 3) := by decide +kernel
theorem dX9_retract_21 : decode cX9_retract 21 = .ok (.aload_n 0, 1) := by decide +kernel
theorem dX9_retract_22 : decode cX9_retract 22 = .ok (.getfield 40, 3) := by decide +kernel
theorem dX9_retract_25 : decode cX9_retract 25 = .ok (.iload_n 1, 1) := by decide +kernel
theorem dX9_retract_26 : decode cX9_retract 26 = .ok (.invokevirtual 209, 3) := by decide +kernel
theorem dX9_retract_29 : decode cX9_retract 29 = .ok (.istore_n 2, 1) := by decide +kernel
theorem dX9_retract_30 : decode cX9_retract 30 = .ok (.aload_n 0, 1) := by decide +kernel
theorem dX9_retract_31 : decode cX9_retract 31 = .ok (.getfield 40, 3) := by decide +kernel
theorem dX9_retract_34 : decode cX9_retract 34 = .ok (.iload_n 1, 1) := by decide +kernel
theorem dX9_retract_35 : decode cX9_retract 35 = .ok (.invokevirtual 301, 3) := by decide +kernel
theorem dX9_retract_38 : decode cX9_retract 38 = .ok (.iload_n 2, 1) := by decide +kernel
theorem dX9_retract_39 : decode cX9_retract 39 = .ok (.ireturn, 1) := by decide +kernel
set_option maxRecDepth 20000 in
theorem ggX9_undo_X4_takeBack : GoodIn wsX9_undo wsX4_takeBack := goodIn_r _ [7, 8, 9, 10, 11, 12, 13, 14, 15, 16, 17, 18, 19, 20, 21, 22, 23, 24, 25, 26, 27, 28, 29, 30, 31, 32, 33, 34, 35, 36, 37, 38, 39, 40, 41, 42, 43, 56, 57, 58, 59, 60, 61, 62, 63, 64, 65, 66, 67, 68, 69, 70, 71, 72, 73, 74, 75, 76, 77] (by decide +kernel) (by decide +kernel)
set_option maxRecDepth 20000 in
theorem gX9_undo_X4_takeBack : GoodIn wsX9_undo (wsV RX9 304 RX4 yX4_takeBack wsX4_takeBack) := goodIn_app (goodIn_of _ (by decide +kernel)) ggX9_undo_X4_takeBack
theorem dX9_undo_0 : decode cX9_undo 0 = .ok (.aload_n 0, 1) := by decide +kernel
theorem dX9_undo_1 : decode cX9_undo 1 = .ok (.getfield 50, 3) := by decide +kernel
theorem dX9_undo_4 : decode cX9_undo 4 = .ok (.aload_n 0, 1) := by decide +kernel
theorem dX9_undo_5 : decode cX9_undo 5 = .ok (.getfield 40, 3) := by decide +kernel
theorem dX9_undo_8 : decode cX9_undo 8 = .ok (.invokevirtual 304, 3) := by decide +kernel
theorem dX9_undo_11 : decode cX9_undo 11 = .ok (.ireturn, 1) := by decide +kernel
set_option maxRecDepth 20000 in
theorem ggX9_saveSnapshot_X9_needSlot : GoodIn wsX9_saveSnapshot wsX9_needSlot := goodIn_ca (goodIn_r _ [7, 8, 9] (by decide +kernel) (by decide +kernel)) (goodIn_sub (fun _ h => List.mem_cons_of_mem _ (List.mem_append_left _ (List.mem_append_right _ h))) (by decide +kernel))
set_option maxRecDepth 20000 in
theorem gX9_saveSnapshot_X9_needSlot : GoodIn wsX9_saveSnapshot (wsV RX9 308 RX9 yX9_needSlot wsX9_needSlot) := goodIn_app (goodIn_of _ (by decide +kernel)) ggX9_saveSnapshot_X9_needSlot
set_option maxRecDepth 20000 in
theorem ggX9_saveSnapshot_X4_store : GoodIn wsX9_saveSnapshot wsX4_store := goodIn_ca (goodIn_r _ [14, 15, 16, 17, 18, 19, 20, 21, 22, 23, 24, 25, 26, 27, 28, 29, 30, 31, 32, 33, 34, 35, 36, 37, 38, 39, 6, 40, 41, 42, 43, 44, 45, 46, 47, 48, 61, 62, 63, 64, 65, 66, 67, 68, 69, 70, 71, 72, 73, 74, 75, 76, 77, 78, 79, 80, 81, 82] (by decide +kernel) (by decide +kernel)) (goodIn_sub (fun _ h => List.mem_cons_of_mem _ (List.mem_append_right _ h)) (by decide +kernel))
set_option maxRecDepth 20000 in
theorem gX9_saveSnapshot_X4_store : GoodIn wsX9_saveSnapshot (wsV RX9 311 RX4 yX4_store wsX4_store) := goodIn_app (goodIn_of _ (by decide +kernel)) ggX9_saveSnapshot_X4_store
theorem dX9_saveSnapshot_0 : decode cX9_saveSnapshot 0 = .ok (.aload_n 0, 1) := by decide +kernel
theorem dX9_saveSnapshot_1 : decode cX9_saveSnapshot 1 = .ok (.iload_n 1, 1) := by decide +kernel
theorem dX9_saveSnapshot_2 : decode cX9_saveSnapshot 2 = .ok (.invokevirtual 308, 3) := by decide +kernel
theorem dX9_saveSnapshot_5 : decode cX9_saveSnapshot 5 = .ok (.aload_n 0, 1) := by decide +kernel
theorem dX9_saveSnapshot_6 : decode cX9_saveSnapshot 6 = .ok (.getfield 50, 3) := by decide +kernel
theorem dX9_saveSnapshot_9 : decode cX9_saveSnapshot 9 = .ok (.iload_n 1, 1) := by decide +kernel
theorem dX9_saveSnapshot_10 : decode cX9_saveSnapshot 10 = .ok (.aload_n 0, 1) := by decide +kernel
theorem dX9_saveSnapshot_11 : decode cX9_saveSnapshot 11 = .ok (.getfield 40, 3) := by decide +kernel
theorem dX9_saveSnapshot_14 : decode cX9_saveSnapshot 14 = .ok (.invokevirtual 311, 3) := by decide +kernel
theorem dX9_saveSnapshot_17 : decode cX9_saveSnapshot 17 = .ok (.ireturn, 1) := by decide +kernel
set_option maxRecDepth 20000 in
theorem ggX9_restoreSnapshot_X9_needSlot : GoodIn wsX9_restoreSnapshot wsX9_needSlot := goodIn_ca (goodIn_r _ [11, 12, 13] (by decide +kernel) (by decide +kernel)) (goodIn_sub (fun _ h => List.mem_cons_of_mem _ (List.mem_append_right _ h)) (by decide +kernel))
set_option maxRecDepth 20000 in
theorem gX9_restoreSnapshot_X9_needSlot : GoodIn wsX9_restoreSnapshot (wsV RX9 308 RX9 yX9_needSlot wsX9_needSlot) := goodIn_app (goodIn_of _ (by decide +kernel)) ggX9_restoreSnapshot_X9_needSlot
set_option maxRecDepth 20000 in
theorem ggX9_restoreSnapshot_X4_fetch : GoodIn wsX9_restoreSnapshot wsX4_fetch := goodIn_r _ [18, 19, 20, 21, 22, 23, 24, 25, 26, 27, 28, 29, 30, 31, 32, 33, 34, 35, 36, 37, 38, 39, 40, 41, 42, 43, 10, 44, 45, 46, 47, 48, 49, 50, 51, 52, 65, 66, 67, 68, 69, 70, 71, 72, 73, 74, 75, 76, 77, 78, 79, 80, 81, 82, 83, 84, 85, 86] (by decide +kernel) (by decide +kernel)
set_option maxRecDepth 20000 in
theorem gX9_restoreSnapshot_X4_fetch : GoodIn wsX9_restoreSnapshot (wsV RX9 321 RX4 yX4_fetch wsX4_fetch) := goodIn_app (goodIn_of _ (by decide +kernel)) ggX9_restoreSnapshot_X4_fetch
theorem dX9_restoreSnapshot_0 : decode cX9_restoreSnapshot 0 = .ok (.aload_n 0, 1) := by decide +kernel
theorem dX9_restoreSnapshot_1 : decode cX9_restoreSnapshot 1 = .ok (.iload_n 1, 1) := by decide +kernel
theorem dX9_restoreSnapshot_2 : decode cX9_restoreSnapshot 2 = .ok (.invokevirtual 308, 3) := by decide +kernel
theorem dX9_restoreSnapshot_5 : decode cX9_restoreSnapshot 5 = .ok (.aload_n 0, 1) := by decide +kernel
theorem dX9_restoreSnapshot_6 : decode cX9_restoreSnapshot 6 = .ok (.getfield 50, 3) := by decide +kernel
theorem dX9_restoreSnapshot_9 : decode cX9_restoreSnapshot 9 = .ok (.getfield 315, 3) := by decide +kernel
theorem dX9_restoreSnapshot_12 : decode cX9_restoreSnapshot 12 = .ok (.iload_n 1, 1) := by decide +kernel
theorem dX9_restoreSnapshot_13 : decode cX9_restoreSnapshot 13 = .ok (.baload, 1) := by decide +kernel
theorem dX9_restoreSnapshot_14 : decode cX9_restoreSnapshot 14 = .ok (.ifCond .ne 14, 3) := by decide +kernel
theorem dX9_restoreSnapshot_17 : decode cX9_restoreSnapshot 17 = .ok (.new 296, 3) := by decide +kernel
theorem dX9_restoreSnapshot_20 : decode cX9_restoreSnapshot 20 = .ok (.dup, 1) := by decide +kernel
theorem dX9_restoreSnapshot_21 : decode cX9_restoreSnapshot 21 = .ok (.ldc_w 319, 3) := by decide +kernel
theorem dX9_restoreSnapshot_24 : decode cX9_restoreSnapshot 24 = .ok (.invokespecial 300, 3) := by decide +kernel
theorem dX9_restoreSnapshot_27 : decode cX9_restoreSnapshot 27 = .ok (.athrow, 1) := by decide +kernel
theorem dX9_restoreSnapshot_28 : decode cX9_restoreSnapshot 28 = .ok (.aload_n 0, 1) := by decide +kernel
theorem dX9_restoreSnapshot_29 : decode cX9_restoreSnapshot 29 = .ok (.getfield 50, 3) := by decide +kernel
theorem dX9_restoreSnapshot_32 : decode cX9_restoreSnapshot 32 = .ok (.iload_n 1, 1) := by decide +kernel
theorem dX9_restoreSnapshot_33 : decode cX9_restoreSnapshot 33 = .ok (.aload_n 0, 1) := by decide +kernel
theorem dX9_restoreSnapshot_34 : decode cX9_restoreSnapshot 34 = .ok (.getfield 40, 3) := by decide +kernel
theorem dX9_restoreSnapshot_37 : decode cX9_restoreSnapshot 37 = .ok (.invokevirtual 321, 3) := by decide +kernel
theorem dX9_restoreSnapshot_40 : decode cX9_restoreSnapshot 40 = .ok (.aload_n 0, 1) := by decide +kernel
theorem dX9_restoreSnapshot_41 : decode cX9_restoreSnapshot 41 = .ok (.getfield 40, 3) := by decide +kernel
theorem dX9_restoreSnapshot_44 : decode cX9_restoreSnapshot 44 = .ok (.getfield 127, 3) := by decide +kernel
theorem dX9_restoreSnapshot_47 : decode cX9_restoreSnapshot 47 = .ok (.ireturn, 1) := by decide +kernel
theorem dX9_appendWord_0 : decode cX9_appendWord 0 = .ok (.bipush 24, 2) := by decide +kernel
theorem dX9_appendWord_2 : decode cX9_appendWord 2 = .ok (.istore_n 2, 1) := by decide +kernel
theorem dX9_appendWord_3 : decode cX9_appendWord 3 = .ok (.iload_n 2, 1) := by decide +kernel
theorem dX9_appendWord_4 : decode cX9_appendWord 4 = .ok (.ifCond .lt 47, 3) := by decide +kernel
theorem dX9_appendWord_7 : decode cX9_appendWord 7 = .ok (.aload_n 0, 1) := by decide +kernel
theorem dX9_appendWord_8 : decode cX9_appendWord 8 = .ok (.getfield 13, 3) := by decide +kernel
theorem dX9_appendWord_11 : decode cX9_appendWord 11 = .ok (.aload_n 0, 1) := by decide +kernel
theorem dX9_appendWord_12 : decode cX9_appendWord 12 = .ok (.getfield 9, 3) := by decide +kernel
theorem dX9_appendWord_15 : decode cX9_appendWord 15 = .ok (.arraylength, 1) := by decide +kernel
theorem dX9_appendWord_16 : decode cX9_appendWord 16 = .ok (.if_icmp .ge 29, 3) := by decide +kernel
theorem dX9_appendWord_19 : decode cX9_appendWord 19 = .ok (.aload_n 0, 1) := by decide +kernel
theorem dX9_appendWord_20 : decode cX9_appendWord 20 = .ok (.getfield 9, 3) := by decide +kernel
theorem dX9_appendWord_23 : decode cX9_appendWord 23 = .ok (.aload_n 0, 1) := by decide +kernel
theorem dX9_appendWord_24 : decode cX9_appendWord 24 = .ok (.getfield 13, 3) := by decide +kernel
theorem dX9_appendWord_27 : decode cX9_appendWord 27 = .ok (.iload_n 1, 1) := by decide +kernel
theorem dX9_appendWord_28 : decode cX9_appendWord 28 = .ok (.iload_n 2, 1) := by decide +kernel
theorem dX9_appendWord_29 : decode cX9_appendWord 29 = .ok (.ishr, 1) := by decide +kernel
theorem dX9_appendWord_30 : decode cX9_appendWord 30 = .ok (.sipush 255, 3) := by decide +kernel
theorem dX9_appendWord_33 : decode cX9_appendWord 33 = .ok (.iand, 1) := by decide +kernel
theorem dX9_appendWord_34 : decode cX9_appendWord 34 = .ok (.iastore, 1) := by decide +kernel
theorem dX9_appendWord_35 : decode cX9_appendWord 35 = .ok (.aload_n 0, 1) := by decide +kernel
theorem dX9_appendWord_36 : decode cX9_appendWord 36 = .ok (.dup, 1) := by decide +kernel
theorem dX9_appendWord_37 : decode cX9_appendWord 37 = .ok (.getfield 13, 3) := by decide +kernel
theorem dX9_appendWord_40 : decode cX9_appendWord 40 = .ok (.iconst 1, 1) := by decide +kernel
theorem dX9_appendWord_41 : decode cX9_appendWord 41 = .ok (.iadd, 1) := by decide +kernel
theorem dX9_appendWord_42 : decode cX9_appendWord 42 = .ok (.putfield 13, 3) := by decide +kernel
theorem dX9_appendWord_45 : decode cX9_appendWord 45 = .ok (.iinc 2 (-8), 3) := by decide +kernel
theorem dX9_appendWord_48 : decode cX9_appendWord 48 = .ok (.goto (-45), 3) := by decide +kernel
theorem dX9_appendWord_51 : decode cX9_appendWord 51 = .ok (.return_, 1) := by decide +kernel
set_option maxRecDepth 20000 in
theorem ggX9_adoptSpare_X7_clear : GoodIn wsX9_adoptSpare wsX7_clear := goodIn_r _ [9, 10, 11, 12, 13, 14, 15, 16, 17, 18, 19, 20, 21, 22, 23, 43, 44, 45, 46, 47, 48, 49, 50, 51, 52, 53, 54, 55, 56, 57, 58, 59] (by decide +kernel) (by decide +kernel)
set_option maxRecDepth 20000 in
theorem gX9_adoptSpare_X7_clear : GoodIn wsX9_adoptSpare (wsV RX9 325 RX7 yX7_clear wsX7_clear) := goodIn_app (goodIn_of _ (by decide +kernel)) ggX9_adoptSpare_X7_clear
set_option maxRecDepth 20000 in
theorem ggX9_adoptSpare_X4_forget : GoodIn wsX9_adoptSpare wsX4_forget := goodIn_ca (goodIn_r _ [28, 29, 30, 60, 61, 62, 63, 64] (by decide +kernel) (by decide +kernel)) (goodIn_sub (fun _ h => List.mem_cons_of_mem _ (List.mem_append_right _ h)) (by decide +kernel))
set_option maxRecDepth 20000 in
theorem gX9_adoptSpare_X4_forget : GoodIn wsX9_adoptSpare (wsV RX9 328 RX4 yX4_forget wsX4_forget) := goodIn_app (goodIn_of _ (by decide +kernel)) ggX9_adoptSpare_X4_forget
theorem dX9_adoptSpare_0 : decode cX9_adoptSpare 0 = .ok (.aload_n 0, 1) := by decide +kernel
theorem dX9_adoptSpare_1 : decode cX9_adoptSpare 1 = .ok (.getfield 34, 3) := by decide +kernel
theorem dX9_adoptSpare_4 : decode cX9_adoptSpare 4 = .ok (.astore_n 1, 1) := by decide +kernel
theorem dX9_adoptSpare_5 : decode cX9_adoptSpare 5 = .ok (.aload_n 0, 1) := by decide +kernel
theorem dX9_adoptSpare_6 : decode cX9_adoptSpare 6 = .ok (.aload_n 0, 1) := by decide +kernel
theorem dX9_adoptSpare_7 : decode cX9_adoptSpare 7 = .ok (.getfield 30, 3) := by decide +kernel
theorem dX9_adoptSpare_10 : decode cX9_adoptSpare 10 = .ok (.putfield 34, 3) := by decide +kernel
theorem dX9_adoptSpare_13 : decode cX9_adoptSpare 13 = .ok (.aload_n 0, 1) := by decide +kernel
theorem dX9_adoptSpare_14 : decode cX9_adoptSpare 14 = .ok (.aload_n 1, 1) := by decide +kernel
theorem dX9_adoptSpare_15 : decode cX9_adoptSpare 15 = .ok (.putfield 30, 3) := by decide +kernel
theorem dX9_adoptSpare_18 : decode cX9_adoptSpare 18 = .ok (.aload_n 0, 1) := by decide +kernel
theorem dX9_adoptSpare_19 : decode cX9_adoptSpare 19 = .ok (.getfield 40, 3) := by decide +kernel
theorem dX9_adoptSpare_22 : decode cX9_adoptSpare 22 = .ok (.invokevirtual 325, 3) := by decide +kernel
theorem dX9_adoptSpare_25 : decode cX9_adoptSpare 25 = .ok (.aload_n 0, 1) := by decide +kernel
theorem dX9_adoptSpare_26 : decode cX9_adoptSpare 26 = .ok (.getfield 50, 3) := by decide +kernel
theorem dX9_adoptSpare_29 : decode cX9_adoptSpare 29 = .ok (.invokevirtual 328, 3) := by decide +kernel
theorem dX9_adoptSpare_32 : decode cX9_adoptSpare 32 = .ok (.return_, 1) := by decide +kernel
set_option maxRecDepth 20000 in
theorem ggX9_located_X3_locate : GoodIn wsX9_located wsX3_locate := goodIn_ca (goodIn_r _ [11, 12, 13, 14, 15, 16, 10, 17, 18, 19, 20, 21, 22, 23, 24, 25, 26, 27, 28, 29, 30, 31, 32, 33, 34, 35, 36, 37, 38, 39, 40, 41, 42, 43, 44, 45, 46, 47, 48, 49, 50, 51, 52, 53, 54, 55, 56, 57, 58, 59, 97, 98, 99, 100, 101, 102, 103, 104, 105, 106, 107, 108, 109, 110, 111, 112, 113, 114, 115, 116, 117, 118, 119, 120, 121, 122, 123, 124, 125, 126, 127, 128, 129, 130, 131, 132, 133, 134, 135, 136, 137, 138, 139] (by decide +kernel) (by decide +kernel)) (goodIn_sub (fun _ h => List.mem_cons_of_mem _ (List.mem_append_right _ h)) (by decide +kernel))
set_option maxRecDepth 20000 in
theorem gX9_located_X3_locate : GoodIn wsX9_located (wsV RX9 331 RX3 yX3_locate wsX3_locate) := goodIn_app (goodIn_of _ (by decide +kernel)) ggX9_located_X3_locate
set_option maxRecDepth 20000 in
theorem ggX9_located_X3_magnitude : GoodIn wsX9_located wsX3_magnitude := goodIn_ca (goodIn_r _ [63, 18, 21, 64, 65, 66, 67, 10, 68, 26, 37, 69, 70, 71, 72, 44, 45, 41, 46, 47, 73, 74, 75, 76, 77, 78, 79, 80, 81, 82, 83, 84, 97, 98, 99, 100, 101, 102, 118, 119, 120, 121, 122, 123, 124, 125, 126, 127, 128, 129, 130, 131, 132, 133, 134, 103, 104, 105, 106, 107, 108, 109, 110, 111, 112, 113, 114, 115, 116, 117, 140, 141, 142] (by decide +kernel) (by decide +kernel)) (goodIn_sub (fun _ h => List.mem_cons_of_mem _ (List.mem_append_right _ h)) (by decide +kernel))
set_option maxRecDepth 20000 in
theorem gX9_located_X3_magnitude : GoodIn wsX9_located (wsV RX9 340 RX3 yX3_magnitude wsX3_magnitude) := goodIn_app (goodIn_of _ (by decide +kernel)) ggX9_located_X3_magnitude
theorem dX9_located_0 : decode cX9_located 0 = .ok (.aload_n 0, 1) := by decide +kernel
theorem dX9_located_1 : decode cX9_located 1 = .ok (.getfield 64, 3) := by decide +kernel
theorem dX9_located_4 : decode cX9_located 4 = .ok (.aload_n 0, 1) := by decide +kernel
theorem dX9_located_5 : decode cX9_located 5 = .ok (.getfield 30, 3) := by decide +kernel
theorem dX9_located_8 : decode cX9_located 8 = .ok (.aload_n 0, 1) := by decide +kernel
theorem dX9_located_9 : decode cX9_located 9 = .ok (.getfield 40, 3) := by decide +kernel
theorem dX9_located_12 : decode cX9_located 12 = .ok (.iload_n 1, 1) := by decide +kernel
theorem dX9_located_13 : decode cX9_located 13 = .ok (.invokevirtual 331, 3) := by decide +kernel
theorem dX9_located_16 : decode cX9_located 16 = .ok (.iload_n 2, 1) := by decide +kernel
theorem dX9_located_17 : decode cX9_located 17 = .ok (.tableswitch 51 3 5 #[27, 35, 43], 27) := by decide +kernel
theorem dX9_located_44 : decode cX9_located 44 = .ok (.aload_n 0, 1) := by decide +kernel
theorem dX9_located_45 : decode cX9_located 45 = .ok (.getfield 64, 3) := by decide +kernel
theorem dX9_located_48 : decode cX9_located 48 = .ok (.getfield 334, 3) := by decide +kernel
theorem dX9_located_51 : decode cX9_located 51 = .ok (.ireturn, 1) := by decide +kernel
theorem dX9_located_52 : decode cX9_located 52 = .ok (.aload_n 0, 1) := by decide +kernel
theorem dX9_located_53 : decode cX9_located 53 = .ok (.getfield 64, 3) := by decide +kernel
theorem dX9_located_56 : decode cX9_located 56 = .ok (.getfield 337, 3) := by decide +kernel
theorem dX9_located_59 : decode cX9_located 59 = .ok (.ireturn, 1) := by decide +kernel
theorem dX9_located_60 : decode cX9_located 60 = .ok (.aload_n 0, 1) := by decide +kernel
theorem dX9_located_61 : decode cX9_located 61 = .ok (.getfield 64, 3) := by decide +kernel
theorem dX9_located_64 : decode cX9_located 64 = .ok (.getfield 234, 3) := by decide +kernel
theorem dX9_located_67 : decode cX9_located 67 = .ok (.ireturn, 1) := by decide +kernel
theorem dX9_located_68 : decode cX9_located 68 = .ok (.aload_n 0, 1) := by decide +kernel
theorem dX9_located_69 : decode cX9_located 69 = .ok (.getfield 64, 3) := by decide +kernel
theorem dX9_located_72 : decode cX9_located 72 = .ok (.aload_n 0, 1) := by decide +kernel
theorem dX9_located_73 : decode cX9_located 73 = .ok (.getfield 30, 3) := by decide +kernel
theorem dX9_located_76 : decode cX9_located 76 = .ok (.aload_n 0, 1) := by decide +kernel
theorem dX9_located_77 : decode cX9_located 77 = .ok (.getfield 40, 3) := by decide +kernel
theorem dX9_located_80 : decode cX9_located 80 = .ok (.invokevirtual 340, 3) := by decide +kernel
theorem dX9_located_83 : decode cX9_located 83 = .ok (.ireturn, 1) := by decide +kernel
set_option maxRecDepth 20000 in
theorem ggX9_describeStanding_X3_locate : GoodIn wsX9_describeStanding wsX3_locate := goodIn_ca (goodIn_r _ [12, 13, 14, 15, 16, 17, 11, 18, 19, 20, 21, 22, 23, 24, 25, 26, 27, 28, 29, 30, 31, 32, 33, 34, 35, 36, 37, 38, 39, 40, 41, 42, 43, 44, 45, 46, 47, 48, 49, 50, 51, 52, 53, 54, 55, 56, 57, 58, 59, 60, 318, 319, 320, 321, 322, 323, 303, 304, 305, 306, 307, 308, 309, 310, 311, 312, 313, 314, 315, 316, 317, 324, 325, 326, 327, 328, 329, 330, 331, 332, 333, 334, 335, 336, 337, 338, 339, 340, 341, 342, 343, 344, 345] (by decide +kernel) (by decide +kernel)) (goodIn_sub (fun _ h => List.mem_cons_of_mem _ (List.mem_append_right _ h)) (by decide +kernel))
set_option maxRecDepth 20000 in
theorem gX9_describeStanding_X3_locate : GoodIn wsX9_describeStanding (wsV RX9 331 RX3 yX3_locate wsX3_locate) := goodIn_app (goodIn_of _ (by decide +kernel)) ggX9_describeStanding_X3_locate
set_option maxRecDepth 20000 in
theorem ggX9_describeStanding_X3_magnitude : GoodIn wsX9_describeStanding wsX3_magnitude := goodIn_ca (goodIn_r _ [64, 19, 22, 65, 66, 67, 68, 11, 69, 27, 38, 70, 71, 72, 73, 45, 46, 42, 47, 48, 74, 75, 76, 77, 78, 79, 80, 81, 82, 83, 84, 85, 318, 319, 320, 321, 322, 323, 324, 325, 326, 327, 328, 329, 330, 331, 332, 333, 334, 335, 336, 337, 338, 339, 340, 303, 304, 305, 306, 307, 308, 309, 310, 311, 312, 313, 314, 315, 316, 317, 346, 347, 348] (by decide +kernel) (by decide +kernel)) (goodIn_sub (fun _ h => List.mem_cons_of_mem _ (List.mem_append_right _ h)) (by decide +kernel))
set_option maxRecDepth 20000 in
theorem gX9_describeStanding_X3_magnitude : GoodIn wsX9_describeStanding (wsV RX9 340 RX3 yX3_magnitude wsX3_magnitude) := goodIn_app (goodIn_of _ (by decide +kernel)) ggX9_describeStanding_X3_magnitude
set_option maxRecDepth 20000 in
theorem ggX9_describeStanding_J4_append_15ec4 : GoodIn wsX9_describeStanding wsJ4_append_15ec4 := goodIn_r _ [90, 91, 92, 93, 94, 95, 96, 97, 98, 99, 100, 101, 102, 103, 104, 105, 106, 107, 108, 109, 110, 111, 112, 113, 114, 115, 116, 117, 118, 119, 120, 121, 31, 122, 123, 124, 125, 126, 127, 128, 129, 130, 131, 132, 133, 134, 135, 136, 137, 138, 139, 140, 141, 142, 143, 144, 145, 146, 147, 148, 149, 150, 151, 152, 153, 154, 155, 156, 157, 158, 159, 160, 161, 162, 163, 164, 165, 166, 167, 168, 169, 170, 171, 172, 173, 174, 175, 176, 177, 178, 179, 180, 181, 182, 183, 184, 185, 186, 187, 188, 189, 190, 191, 192, 193, 194, 195, 196, 197, 198, 199, 200, 201, 202, 203, 204, 205, 206, 207, 208, 209, 210, 211, 212, 213, 214, 215, 216, 217, 218, 219, 220, 221, 222, 223, 224, 225, 226, 227, 228, 229, 230, 231, 349, 350, 351, 352, 353, 354, 355, 356] (by decide +kernel) (by decide +kernel)
set_option maxRecDepth 20000 in
theorem gX9_describeStanding_J4_append_15ec4 : GoodIn wsX9_describeStanding (wsV RX9 242 RJ4 yJ4_append_15ec4 wsJ4_append_15ec4) := goodIn_app (goodIn_of _ (by decide +kernel)) ggX9_describeStanding_J4_append_15ec4
set_option maxRecDepth 20000 in
theorem ggX9_describeStanding_X2_nodeX : GoodIn wsX9_describeStanding wsX2_nodeX := goodIn_r _ [235, 236, 59, 237, 341, 342, 343, 344, 345] (by decide +kernel) (by decide +kernel)
set_option maxRecDepth 20000 in
theorem gX9_describeStanding_X2_nodeX : GoodIn wsX9_describeStanding (wsV RX9 346 RX2 yX2_nodeX wsX2_nodeX) := goodIn_app (goodIn_of _ (by decide +kernel)) ggX9_describeStanding_X2_nodeX
set_option maxRecDepth 20000 in
theorem ggX9_describeStanding_J4_append_bf812 : GoodIn wsX9_describeStanding wsJ4_append_bf812 := goodIn_r _ [241, 242, 243, 93, 244, 95, 245, 97, 103, 246, 247, 248, 249, 104, 105, 106, 107, 108, 109, 110, 111, 112, 113, 114, 115, 116, 117, 118, 119, 120, 121, 31, 122, 123, 124, 125, 126, 127, 128, 129, 130, 131, 132, 133, 134, 135, 136, 137, 138, 139, 140, 141, 142, 143, 144, 145, 146, 147, 148, 149, 150, 250, 251, 252, 253, 254, 255, 256, 153, 257, 155, 156, 157, 158, 159, 160, 161, 162, 163, 164, 165, 166, 167, 168, 169, 170, 258, 259, 260, 261, 262, 171, 172, 173, 174, 175, 349, 350, 351, 352] (by decide +kernel) (by decide +kernel)
set_option maxRecDepth 20000 in
theorem gX9_describeStanding_J4_append_bf812 : GoodIn wsX9_describeStanding (wsV RX9 246 RJ4 yJ4_append_bf812 wsJ4_append_bf812) := goodIn_app (goodIn_of _ (by decide +kernel)) ggX9_describeStanding_J4_append_bf812
set_option maxRecDepth 20000 in
theorem ggX9_describeStanding_J4_append_cf468 : GoodIn wsX9_describeStanding wsJ4_append_cf468 := goodIn_r _ [266, 267, 268, 93, 269, 95, 270, 97, 103, 104, 105, 106, 107, 108, 109, 110, 111, 112, 113, 114, 115, 116, 117, 118, 119, 120, 121, 31, 122, 123, 124, 125, 126, 127, 128, 129, 130, 131, 132, 133, 134, 135, 136, 137, 138, 139, 140, 141, 142, 143, 144, 145, 146, 147, 148, 149, 150, 271, 272, 212, 273, 198, 199, 200, 201, 202, 203, 204, 153, 205, 206, 207, 208, 209, 210, 211, 213, 214, 215, 216, 217, 218, 219, 159, 160, 161, 220, 221, 164, 222, 166, 223, 224, 169, 225, 171, 172, 173, 155, 174, 175, 274, 275, 276, 277, 278, 279, 280, 281, 282, 283, 284, 285, 349, 350, 351, 352] (by decide +kernel) (by decide +kernel)
set_option maxRecDepth 20000 in
theorem gX9_describeStanding_J4_append_cf468 : GoodIn wsX9_describeStanding (wsV RX9 349 RJ4 yJ4_append_cf468 wsJ4_append_cf468) := goodIn_app (goodIn_of _ (by decide +kernel)) ggX9_describeStanding_J4_append_cf468
set_option maxRecDepth 20000 in
theorem ggX9_describeStanding_X2_nodeY : GoodIn wsX9_describeStanding wsX2_nodeY := goodIn_r _ [289, 290, 59, 237, 341, 342, 343, 344, 345] (by decide +kernel) (by decide +kernel)
set_option maxRecDepth 20000 in
theorem gX9_describeStanding_X2_nodeY : GoodIn wsX9_describeStanding (wsV RX9 352 RX2 yX2_nodeY wsX2_nodeY) := goodIn_app (goodIn_of _ (by decide +kernel)) ggX9_describeStanding_X2_nodeY
theorem dX9_describeStanding_0 : decode cX9_describeStanding 0 = .ok (.aload_n 0, 1) := by decide +kernel
theorem dX9_describeStanding_1 : decode cX9_describeStanding 1 = .ok (.getfield 64, 3) := by decide +kernel
theorem dX9_describeStanding_4 : decode cX9_describeStanding 4 = .ok (.aload_n 0, 1) := by decide +kernel
theorem dX9_describeStanding_5 : decode cX9_describeStanding 5 = .ok (.getfield 30, 3) := by decide +kernel
theorem dX9_describeStanding_8 : decode cX9_describeStanding 8 = .ok (.aload_n 0, 1) := by decide +kernel
theorem dX9_describeStanding_9 : decode cX9_describeStanding 9 = .ok (.getfield 40, 3) := by decide +kernel
theorem dX9_describeStanding_12 : decode cX9_describeStanding 12 = .ok (.iload_n 1, 1) := by decide +kernel
theorem dX9_describeStanding_13 : decode cX9_describeStanding 13 = .ok (.invokevirtual 331, 3) := by decide +kernel
theorem dX9_describeStanding_16 : decode cX9_describeStanding 16 = .ok (.aload_n 0, 1) := by decide +kernel
theorem dX9_describeStanding_17 : decode cX9_describeStanding 17 = .ok (.getfield 64, 3) := by decide +kernel
theorem dX9_describeStanding_20 : decode cX9_describeStanding 20 = .ok (.aload_n 0, 1) := by decide +kernel
theorem dX9_describeStanding_21 : decode cX9_describeStanding 21 = .ok (.getfield 30, 3) := by decide +kernel
theorem dX9_describeStanding_24 : decode cX9_describeStanding 24 = .ok (.aload_n 0, 1) := by decide +kernel
theorem dX9_describeStanding_25 : decode cX9_describeStanding 25 = .ok (.getfield 40, 3) := by decide +kernel
theorem dX9_describeStanding_28 : decode cX9_describeStanding 28 = .ok (.invokevirtual 340, 3) := by decide +kernel
theorem dX9_describeStanding_31 : decode cX9_describeStanding 31 = .ok (.istore_n 2, 1) := by decide +kernel
theorem dX9_describeStanding_32 : decode cX9_describeStanding 32 = .ok (.aload_n 0, 1) := by decide +kernel
theorem dX9_describeStanding_33 : decode cX9_describeStanding 33 = .ok (.getfield 71, 3) := by decide +kernel
theorem dX9_describeStanding_36 : decode cX9_describeStanding 36 = .ok (.ldc_w 344, 3) := by decide +kernel
theorem dX9_describeStanding_39 : decode cX9_describeStanding 39 = .ok (.invokevirtual 242, 3) := by decide +kernel
theorem dX9_describeStanding_42 : decode cX9_describeStanding 42 = .ok (.aload_n 0, 1) := by decide +kernel
theorem dX9_describeStanding_43 : decode cX9_describeStanding 43 = .ok (.getfield 30, 3) := by decide +kernel
theorem dX9_describeStanding_46 : decode cX9_describeStanding 46 = .ok (.getfield 97, 3) := by decide +kernel
theorem dX9_describeStanding_49 : decode cX9_describeStanding 49 = .ok (.aload_n 0, 1) := by decide +kernel
theorem dX9_describeStanding_50 : decode cX9_describeStanding 50 = .ok (.getfield 64, 3) := by decide +kernel
theorem dX9_describeStanding_53 : decode cX9_describeStanding 53 = .ok (.getfield 334, 3) := by decide +kernel
theorem dX9_describeStanding_56 : decode cX9_describeStanding 56 = .ok (.invokevirtual 346, 3) := by decide +kernel
theorem dX9_describeStanding_59 : decode cX9_describeStanding 59 = .ok (.invokevirtual 246, 3) := by decide +kernel
theorem dX9_describeStanding_62 : decode cX9_describeStanding 62 = .ok (.pop, 1) := by decide +kernel
theorem dX9_describeStanding_63 : decode cX9_describeStanding 63 = .ok (.aload_n 0, 1) := by decide +kernel
theorem dX9_describeStanding_64 : decode cX9_describeStanding 64 = .ok (.getfield 71, 3) := by decide +kernel
theorem dX9_describeStanding_67 : decode cX9_describeStanding 67 = .ok (.bipush 44, 2) := by decide +kernel
theorem dX9_describeStanding_69 : decode cX9_describeStanding 69 = .ok (.invokevirtual 349, 3) := by decide +kernel
theorem dX9_describeStanding_72 : decode cX9_describeStanding 72 = .ok (.aload_n 0, 1) := by decide +kernel
theorem dX9_describeStanding_73 : decode cX9_describeStanding 73 = .ok (.getfield 30, 3) := by decide +kernel
theorem dX9_describeStanding_76 : decode cX9_describeStanding 76 = .ok (.getfield 97, 3) := by decide +kernel
theorem dX9_describeStanding_79 : decode cX9_describeStanding 79 = .ok (.aload_n 0, 1) := by decide +kernel
theorem dX9_describeStanding_80 : decode cX9_describeStanding 80 = .ok (.getfield 64, 3) := by decide +kernel
theorem dX9_describeStanding_83 : decode cX9_describeStanding 83 = .ok (.getfield 334, 3) := by decide +kernel
theorem dX9_describeStanding_86 : decode cX9_describeStanding 86 = .ok (.invokevirtual 352, 3) := by decide +kernel
theorem dX9_describeStanding_89 : decode cX9_describeStanding 89 = .ok (.invokevirtual 246, 3) := by decide +kernel
theorem dX9_describeStanding_92 : decode cX9_describeStanding 92 = .ok (.pop, 1) := by decide +kernel
theorem dX9_describeStanding_93 : decode cX9_describeStanding 93 = .ok (.aload_n 0, 1) := by decide +kernel
theorem dX9_describeStanding_94 : decode cX9_describeStanding 94 = .ok (.getfield 71, 3) := by decide +kernel
theorem dX9_describeStanding_97 : decode cX9_describeStanding 97 = .ok (.ldc_w 355, 3) := by decide +kernel
theorem dX9_describeStanding_100 : decode cX9_describeStanding 100 = .ok (.invokevirtual 242, 3) := by decide +kernel
theorem dX9_describeStanding_103 : decode cX9_describeStanding 103 = .ok (.aload_n 0, 1) := by decide +kernel
theorem dX9_describeStanding_104 : decode cX9_describeStanding 104 = .ok (.getfield 64, 3) := by decide +kernel
theorem dX9_describeStanding_107 : decode cX9_describeStanding 107 = .ok (.getfield 357, 3) := by decide +kernel
theorem dX9_describeStanding_110 : decode cX9_describeStanding 110 = .ok (.invokevirtual 246, 3) := by decide +kernel
theorem dX9_describeStanding_113 : decode cX9_describeStanding 113 = .ok (.ldc_w 358, 3) := by decide +kernel
theorem dX9_describeStanding_116 : decode cX9_describeStanding 116 = .ok (.invokevirtual 242, 3) := by decide +kernel
theorem dX9_describeStanding_119 : decode cX9_describeStanding 119 = .ok (.pop, 1) := by decide +kernel
theorem dX9_describeStanding_120 : decode cX9_describeStanding 120 = .ok (.iload_n 2, 1) := by decide +kernel
theorem dX9_describeStanding_121 : decode cX9_describeStanding 121 = .ok (.iconst (-1), 1) := by decide +kernel
theorem dX9_describeStanding_122 : decode cX9_describeStanding 122 = .ok (.if_icmp .eq 18, 3) := by decide +kernel
theorem dX9_describeStanding_125 : decode cX9_describeStanding 125 = .ok (.aload_n 0, 1) := by decide +kernel
theorem dX9_describeStanding_126 : decode cX9_describeStanding 126 = .ok (.getfield 71, 3) := by decide +kernel
theorem dX9_describeStanding_129 : decode cX9_describeStanding 129 = .ok (.ldc_w 360, 3) := by decide +kernel
theorem dX9_describeStanding_132 : decode cX9_describeStanding 132 = .ok (.invokevirtual 242, 3) := by decide +kernel
theorem dX9_describeStanding_135 : decode cX9_describeStanding 135 = .ok (.iload_n 2, 1) := by decide +kernel
theorem dX9_describeStanding_136 : decode cX9_describeStanding 136 = .ok (.invokevirtual 246, 3) := by decide +kernel
theorem dX9_describeStanding_139 : decode cX9_describeStanding 139 = .ok (.pop, 1) := by decide +kernel
theorem dX9_describeStanding_140 : decode cX9_describeStanding 140 = .ok (.return_, 1) := by decide +kernel
theorem dX9_needStation_0 : decode cX9_needStation 0 = .ok (.iload_n 1, 1) := by decide +kernel
theorem dX9_needStation_1 : decode cX9_needStation 1 = .ok (.ifCond .lt 14, 3) := by decide +kernel
theorem dX9_needStation_4 : decode cX9_needStation 4 = .ok (.iload_n 1, 1) := by decide +kernel
theorem dX9_needStation_5 : decode cX9_needStation 5 = .ok (.aload_n 0, 1) := by decide +kernel
theorem dX9_needStation_6 : decode cX9_needStation 6 = .ok (.getfield 30, 3) := by decide +kernel
theorem dX9_needStation_9 : decode cX9_needStation 9 = .ok (.getfield 94, 3) := by decide +kernel
theorem dX9_needStation_12 : decode cX9_needStation 12 = .ok (.if_icmp .lt 14, 3) := by decide +kernel
theorem dX9_needStation_15 : decode cX9_needStation 15 = .ok (.new 362, 3) := by decide +kernel
theorem dX9_needStation_18 : decode cX9_needStation 18 = .ok (.dup, 1) := by decide +kernel
theorem dX9_needStation_19 : decode cX9_needStation 19 = .ok (.ldc_w 364, 3) := by decide +kernel
theorem dX9_needStation_22 : decode cX9_needStation 22 = .ok (.invokespecial 366, 3) := by decide +kernel
theorem dX9_needStation_25 : decode cX9_needStation 25 = .ok (.athrow, 1) := by decide +kernel
theorem dX9_needStation_26 : decode cX9_needStation 26 = .ok (.return_, 1) := by decide +kernel
set_option maxRecDepth 20000 in
theorem ggX9_needNode_X2_nodeCount : GoodIn wsX9_needNode wsX2_nodeCount := goodIn_r _ [9, 10, 11, 39, 40, 41, 42, 43] (by decide +kernel) (by decide +kernel)
set_option maxRecDepth 20000 in
theorem gX9_needNode_X2_nodeCount : GoodIn wsX9_needNode (wsV RX9 101 RX2 yX2_nodeCount wsX2_nodeCount) := goodIn_app (goodIn_of _ (by decide +kernel)) ggX9_needNode_X2_nodeCount
theorem dX9_needNode_0 : decode cX9_needNode 0 = .ok (.iload_n 1, 1) := by decide +kernel
theorem dX9_needNode_1 : decode cX9_needNode 1 = .ok (.ifCond .lt 17, 3) := by decide +kernel
theorem dX9_needNode_4 : decode cX9_needNode 4 = .ok (.iload_n 1, 1) := by decide +kernel
theorem dX9_needNode_5 : decode cX9_needNode 5 = .ok (.aload_n 0, 1) := by decide +kernel
theorem dX9_needNode_6 : decode cX9_needNode 6 = .ok (.getfield 30, 3) := by decide +kernel
theorem dX9_needNode_9 : decode cX9_needNode 9 = .ok (.getfield 97, 3) := by decide +kernel
theorem dX9_needNode_12 : decode cX9_needNode 12 = .ok (.invokevirtual 101, 3) := by decide +kernel
theorem dX9_needNode_15 : decode cX9_needNode 15 = .ok (.if_icmp .lt 14, 3) := by decide +kernel
theorem dX9_needNode_18 : decode cX9_needNode 18 = .ok (.new 362, 3) := by decide +kernel
theorem dX9_needNode_21 : decode cX9_needNode 21 = .ok (.dup, 1) := by decide +kernel
theorem dX9_needNode_22 : decode cX9_needNode 22 = .ok (.ldc_w 367, 3) := by decide +kernel
theorem dX9_needNode_25 : decode cX9_needNode 25 = .ok (.invokespecial 366, 3) := by decide +kernel
theorem dX9_needNode_28 : decode cX9_needNode 28 = .ok (.athrow, 1) := by decide +kernel
theorem dX9_needNode_29 : decode cX9_needNode 29 = .ok (.return_, 1) := by decide +kernel
theorem dX9_needPick_0 : decode cX9_needPick 0 = .ok (.iload_n 1, 1) := by decide +kernel
theorem dX9_needPick_1 : decode cX9_needPick 1 = .ok (.ifCond .lt 14, 3) := by decide +kernel
theorem dX9_needPick_4 : decode cX9_needPick 4 = .ok (.iload_n 1, 1) := by decide +kernel
theorem dX9_needPick_5 : decode cX9_needPick 5 = .ok (.aload_n 0, 1) := by decide +kernel
theorem dX9_needPick_6 : decode cX9_needPick 6 = .ok (.getfield 40, 3) := by decide +kernel
theorem dX9_needPick_9 : decode cX9_needPick 9 = .ok (.getfield 116, 3) := by decide +kernel
theorem dX9_needPick_12 : decode cX9_needPick 12 = .ok (.if_icmp .lt 14, 3) := by decide +kernel
theorem dX9_needPick_15 : decode cX9_needPick 15 = .ok (.new 362, 3) := by decide +kernel
theorem dX9_needPick_18 : decode cX9_needPick 18 = .ok (.dup, 1) := by decide +kernel
theorem dX9_needPick_19 : decode cX9_needPick 19 = .ok (.ldc_w 369, 3) := by decide +kernel
theorem dX9_needPick_22 : decode cX9_needPick 22 = .ok (.invokespecial 366, 3) := by decide +kernel
theorem dX9_needPick_25 : decode cX9_needPick 25 = .ok (.athrow, 1) := by decide +kernel
theorem dX9_needPick_26 : decode cX9_needPick 26 = .ok (.return_, 1) := by decide +kernel
theorem dX9_needEvent_0 : decode cX9_needEvent 0 = .ok (.iload_n 1, 1) := by decide +kernel
theorem dX9_needEvent_1 : decode cX9_needEvent 1 = .ok (.ifCond .lt 14, 3) := by decide +kernel
theorem dX9_needEvent_4 : decode cX9_needEvent 4 = .ok (.iload_n 1, 1) := by decide +kernel
theorem dX9_needEvent_5 : decode cX9_needEvent 5 = .ok (.aload_n 0, 1) := by decide +kernel
theorem dX9_needEvent_6 : decode cX9_needEvent 6 = .ok (.getfield 40, 3) := by decide +kernel
theorem dX9_needEvent_9 : decode cX9_needEvent 9 = .ok (.getfield 119, 3) := by decide +kernel
theorem dX9_needEvent_12 : decode cX9_needEvent 12 = .ok (.if_icmp .lt 14, 3) := by decide +kernel
theorem dX9_needEvent_15 : decode cX9_needEvent 15 = .ok (.new 362, 3) := by decide +kernel
theorem dX9_needEvent_18 : decode cX9_needEvent 18 = .ok (.dup, 1) := by decide +kernel
theorem dX9_needEvent_19 : decode cX9_needEvent 19 = .ok (.ldc_w 371, 3) := by decide +kernel
theorem dX9_needEvent_22 : decode cX9_needEvent 22 = .ok (.invokespecial 366, 3) := by decide +kernel
theorem dX9_needEvent_25 : decode cX9_needEvent 25 = .ok (.athrow, 1) := by decide +kernel
theorem dX9_needEvent_26 : decode cX9_needEvent 26 = .ok (.return_, 1) := by decide +kernel
theorem dX9_needSlot_0 : decode cX9_needSlot 0 = .ok (.iload_n 1, 1) := by decide +kernel
theorem dX9_needSlot_1 : decode cX9_needSlot 1 = .ok (.ifCond .lt 8, 3) := by decide +kernel
theorem dX9_needSlot_4 : decode cX9_needSlot 4 = .ok (.iload_n 1, 1) := by decide +kernel
theorem dX9_needSlot_5 : decode cX9_needSlot 5 = .ok (.iconst 2, 1) := by decide +kernel
theorem dX9_needSlot_6 : decode cX9_needSlot 6 = .ok (.if_icmp .lt 14, 3) := by decide +kernel
theorem dX9_needSlot_9 : decode cX9_needSlot 9 = .ok (.new 362, 3) := by decide +kernel
theorem dX9_needSlot_12 : decode cX9_needSlot 12 = .ok (.dup, 1) := by decide +kernel
theorem dX9_needSlot_13 : decode cX9_needSlot 13 = .ok (.ldc_w 373, 3) := by decide +kernel
theorem dX9_needSlot_16 : decode cX9_needSlot 16 = .ok (.invokespecial 366, 3) := by decide +kernel
theorem dX9_needSlot_19 : decode cX9_needSlot 19 = .ok (.athrow, 1) := by decide +kernel
theorem dX9_needSlot_20 : decode cX9_needSlot 20 = .ok (.return_, 1) := by decide +kernel
theorem dX9_needLevel_0 : decode cX9_needLevel 0 = .ok (.iload_n 1, 1) := by decide +kernel
theorem dX9_needLevel_1 : decode cX9_needLevel 1 = .ok (.ifCond .lt 10, 3) := by decide +kernel
theorem dX9_needLevel_4 : decode cX9_needLevel 4 = .ok (.iload_n 1, 1) := by decide +kernel
theorem dX9_needLevel_5 : decode cX9_needLevel 5 = .ok (.sipush 9999, 3) := by decide +kernel
theorem dX9_needLevel_8 : decode cX9_needLevel 8 = .ok (.if_icmp .le 14, 3) := by decide +kernel
theorem dX9_needLevel_11 : decode cX9_needLevel 11 = .ok (.new 79, 3) := by decide +kernel
theorem dX9_needLevel_14 : decode cX9_needLevel 14 = .ok (.dup, 1) := by decide +kernel
theorem dX9_needLevel_15 : decode cX9_needLevel 15 = .ok (.ldc_w 375, 3) := by decide +kernel
theorem dX9_needLevel_18 : decode cX9_needLevel 18 = .ok (.invokespecial 83, 3) := by decide +kernel
theorem dX9_needLevel_21 : decode cX9_needLevel 21 = .ok (.athrow, 1) := by decide +kernel
theorem dX9_needLevel_22 : decode cX9_needLevel 22 = .ok (.return_, 1) := by decide +kernel
theorem dX9_needTicks_0 : decode cX9_needTicks 0 = .ok (.iload_n 2, 1) := by decide +kernel
theorem dX9_needTicks_1 : decode cX9_needTicks 1 = .ok (.iload_n 1, 1) := by decide +kernel
theorem dX9_needTicks_2 : decode cX9_needTicks 2 = .ok (.if_icmp .lt 10, 3) := by decide +kernel
theorem dX9_needTicks_5 : decode cX9_needTicks 5 = .ok (.iload_n 2, 1) := by decide +kernel
theorem dX9_needTicks_6 : decode cX9_needTicks 6 = .ok (.sipush 200, 3) := by decide +kernel
theorem dX9_needTicks_9 : decode cX9_needTicks 9 = .ok (.if_icmp .le 14, 3) := by decide +kernel
theorem dX9_needTicks_12 : decode cX9_needTicks 12 = .ok (.new 79, 3) := by decide +kernel
theorem dX9_needTicks_15 : decode cX9_needTicks 15 = .ok (.dup, 1) := by decide +kernel
theorem dX9_needTicks_16 : decode cX9_needTicks 16 = .ok (.ldc_w 377, 3) := by decide +kernel
theorem dX9_needTicks_19 : decode cX9_needTicks 19 = .ok (.invokespecial 83, 3) := by decide +kernel
theorem dX9_needTicks_22 : decode cX9_needTicks 22 = .ok (.athrow, 1) := by decide +kernel
theorem dX9_needTicks_23 : decode cX9_needTicks 23 = .ok (.return_, 1) := by decide +kernel
theorem dX9_needMuted_0 : decode cX9_needMuted 0 = .ok (.aload_n 0, 1) := by decide +kernel
theorem dX9_needMuted_1 : decode cX9_needMuted 1 = .ok (.getfield 40, 3) := by decide +kernel
theorem dX9_needMuted_4 : decode cX9_needMuted 4 = .ok (.getfield 171, 3) := by decide +kernel
theorem dX9_needMuted_7 : decode cX9_needMuted 7 = .ok (.iload_n 1, 1) := by decide +kernel
theorem dX9_needMuted_8 : decode cX9_needMuted 8 = .ok (.iaload, 1) := by decide +kernel
theorem dX9_needMuted_9 : decode cX9_needMuted 9 = .ok (.iload_n 2, 1) := by decide +kernel
theorem dX9_needMuted_10 : decode cX9_needMuted 10 = .ok (.if_icmp .eq 14, 3) := by decide +kernel
theorem dX9_needMuted_13 : decode cX9_needMuted 13 = .ok (.new 296, 3) := by decide +kernel
theorem dX9_needMuted_16 : decode cX9_needMuted 16 = .ok (.dup, 1) := by decide +kernel
theorem dX9_needMuted_17 : decode cX9_needMuted 17 = .ok (.ldc_w 379, 3) := by decide +kernel
theorem dX9_needMuted_20 : decode cX9_needMuted 20 = .ok (.invokespecial 300, 3) := by decide +kernel
theorem dX9_needMuted_23 : decode cX9_needMuted 23 = .ok (.athrow, 1) := by decide +kernel
theorem dX9_needMuted_24 : decode cX9_needMuted 24 = .ok (.return_, 1) := by decide +kernel
theorem dX9_needStanding_0 : decode cX9_needStanding 0 = .ok (.aload_n 0, 1) := by decide +kernel
theorem dX9_needStanding_1 : decode cX9_needStanding 1 = .ok (.getfield 40, 3) := by decide +kernel
theorem dX9_needStanding_4 : decode cX9_needStanding 4 = .ok (.getfield 206, 3) := by decide +kernel
theorem dX9_needStanding_7 : decode cX9_needStanding 7 = .ok (.iload_n 1, 1) := by decide +kernel
theorem dX9_needStanding_8 : decode cX9_needStanding 8 = .ok (.iaload, 1) := by decide +kernel
theorem dX9_needStanding_9 : decode cX9_needStanding 9 = .ok (.iconst 1, 1) := by decide +kernel
theorem dX9_needStanding_10 : decode cX9_needStanding 10 = .ok (.if_icmp .ne 14, 3) := by decide +kernel
theorem dX9_needStanding_13 : decode cX9_needStanding 13 = .ok (.new 296, 3) := by decide +kernel
theorem dX9_needStanding_16 : decode cX9_needStanding 16 = .ok (.dup, 1) := by decide +kernel
theorem dX9_needStanding_17 : decode cX9_needStanding 17 = .ok (.ldc_w 381, 3) := by decide +kernel
theorem dX9_needStanding_20 : decode cX9_needStanding 20 = .ok (.invokespecial 300, 3) := by decide +kernel
theorem dX9_needStanding_23 : decode cX9_needStanding 23 = .ok (.athrow, 1) := by decide +kernel
theorem dX9_needStanding_24 : decode cX9_needStanding 24 = .ok (.return_, 1) := by decide +kernel
theorem dX9_root_0 : decode cX9_root 0 = .ok (.iconst 0, 1) := by decide +kernel
theorem dX9_root_1 : decode cX9_root 1 = .ok (.istore_n 1, 1) := by decide +kernel
theorem dX9_root_2 : decode cX9_root 2 = .ok (.bipush 11, 2) := by decide +kernel
theorem dX9_root_4 : decode cX9_root 4 = .ok (.istore_n 2, 1) := by decide +kernel
theorem dX9_root_5 : decode cX9_root 5 = .ok (.iload_n 2, 1) := by decide +kernel
theorem dX9_root_6 : decode cX9_root 6 = .ok (.ifCond .lt 24, 3) := by decide +kernel
theorem dX9_root_9 : decode cX9_root 9 = .ok (.iload_n 1, 1) := by decide +kernel
theorem dX9_root_10 : decode cX9_root 10 = .ok (.iconst 1, 1) := by decide +kernel
theorem dX9_root_11 : decode cX9_root 11 = .ok (.iload_n 2, 1) := by decide +kernel
theorem dX9_root_12 : decode cX9_root 12 = .ok (.ishl, 1) := by decide +kernel
theorem dX9_root_13 : decode cX9_root 13 = .ok (.iadd, 1) := by decide +kernel
theorem dX9_root_14 : decode cX9_root 14 = .ok (.istore_n 3, 1) := by decide +kernel
theorem dX9_root_15 : decode cX9_root 15 = .ok (.iload_n 3, 1) := by decide +kernel
theorem dX9_root_16 : decode cX9_root 16 = .ok (.iload_n 3, 1) := by decide +kernel
theorem dX9_root_17 : decode cX9_root 17 = .ok (.imul, 1) := by decide +kernel
theorem dX9_root_18 : decode cX9_root 18 = .ok (.iload_n 0, 1) := by decide +kernel
theorem dX9_root_19 : decode cX9_root 19 = .ok (.if_icmp .gt 5, 3) := by decide +kernel
theorem dX9_root_22 : decode cX9_root 22 = .ok (.iload_n 3, 1) := by decide +kernel
theorem dX9_root_23 : decode cX9_root 23 = .ok (.istore_n 1, 1) := by decide +kernel
theorem dX9_root_24 : decode cX9_root 24 = .ok (.iinc 2 (-1), 3) := by decide +kernel
theorem dX9_root_27 : decode cX9_root 27 = .ok (.goto (-22), 3) := by decide +kernel
theorem dX9_root_30 : decode cX9_root 30 = .ok (.iload_n 1, 1) := by decide +kernel
theorem dX9_root_31 : decode cX9_root 31 = .ok (.ireturn, 1) := by decide +kernel
set_option maxRecDepth 20000 in
theorem ggX9_distance_X9_root : GoodIn wsX9_distance wsX9_root := goodIn_r _ [4] (by decide +kernel) (by decide +kernel)
set_option maxRecDepth 20000 in
theorem gX9_distance_X9_root : GoodIn wsX9_distance (va_wsS RX9 383 yX9_root wsX9_root) := goodIn_app (goodIn_of _ (by decide +kernel)) ggX9_distance_X9_root
theorem dX9_distance_0 : decode cX9_distance 0 = .ok (.iload_n 0, 1) := by decide +kernel
theorem dX9_distance_1 : decode cX9_distance 1 = .ok (.iload_n 0, 1) := by decide +kernel
theorem dX9_distance_2 : decode cX9_distance 2 = .ok (.imul, 1) := by decide +kernel
theorem dX9_distance_3 : decode cX9_distance 3 = .ok (.iload_n 1, 1) := by decide +kernel
theorem dX9_distance_4 : decode cX9_distance 4 = .ok (.iload_n 1, 1) := by decide +kernel
theorem dX9_distance_5 : decode cX9_distance 5 = .ok (.imul, 1) := by decide +kernel
theorem dX9_distance_6 : decode cX9_distance 6 = .ok (.iadd, 1) := by decide +kernel
theorem dX9_distance_7 : decode cX9_distance 7 = .ok (.invokestatic 383, 3) := by decide +kernel
theorem dX9_distance_10 : decode cX9_distance 10 = .ok (.ireturn, 1) := by decide +kernel
theorem dX9_copyRow_0 : decode cX9_copyRow 0 = .ok (.aload_n 0, 1) := by decide +kernel
theorem dX9_copyRow_1 : decode cX9_copyRow 1 = .ok (.iconst 0, 1) := by decide +kernel
theorem dX9_copyRow_2 : decode cX9_copyRow 2 = .ok (.aload_n 1, 1) := by decide +kernel
theorem dX9_copyRow_3 : decode cX9_copyRow 3 = .ok (.iconst 0, 1) := by decide +kernel
theorem dX9_copyRow_4 : decode cX9_copyRow 4 = .ok (.aload_n 0, 1) := by decide +kernel
theorem dX9_copyRow_5 : decode cX9_copyRow 5 = .ok (.arraylength, 1) := by decide +kernel
theorem dX9_copyRow_6 : decode cX9_copyRow 6 = .ok (.aload_n 1, 1) := by decide +kernel
theorem dX9_copyRow_7 : decode cX9_copyRow 7 = .ok (.arraylength, 1) := by decide +kernel
theorem dX9_copyRow_8 : decode cX9_copyRow 8 = .ok (.invokestatic 386, 3) := by decide +kernel
theorem dX9_copyRow_11 : decode cX9_copyRow 11 = .ok (.invokestatic 391, 3) := by decide +kernel
theorem dX9_copyRow_14 : decode cX9_copyRow 14 = .ok (.return_, 1) := by decide +kernel
set_option maxRecDepth 20000 in
theorem ggX10_init_X10_clearDraft : GoodIn wsX10_init wsX10_clearDraft := goodIn_ca (goodIn_r _ [25, 26, 27, 28, 24, 29, 6, 42, 43, 44, 45, 46, 47, 48, 49, 50, 51, 52, 53, 54, 55, 56, 57, 58, 59, 60, 61, 62, 63, 64, 65, 66, 67] (by decide +kernel) (by decide +kernel)) (goodIn_sub (fun _ h => List.mem_cons_of_mem _ (List.mem_append_right _ h)) (by decide +kernel))
set_option maxRecDepth 20000 in
theorem gX10_init_X10_clearDraft : GoodIn wsX10_init (wsV RX10 55 RX10 yX10_clearDraft wsX10_clearDraft) := goodIn_app (goodIn_of _ (by decide +kernel)) ggX10_init_X10_clearDraft
set_option maxRecDepth 20000 in
theorem ggX10_init_X10_liftsAll : GoodIn wsX10_init wsX10_liftsAll := goodIn_ca (goodIn_r _ [33, 6, 7, 8, 9, 10, 34, 35, 24, 36, 42, 43, 44, 45, 46, 47, 48, 49, 50, 51, 52, 53, 54, 55, 56, 57, 58, 59, 60, 61, 62, 63, 64, 65, 66, 67] (by decide +kernel) (by decide +kernel)) (goodIn_sub (fun _ h => List.mem_cons_of_mem _ (List.mem_append_right _ h)) (by decide +kernel))
set_option maxRecDepth 20000 in
theorem gX10_init_X10_liftsAll : GoodIn wsX10_init (wsV RX10 58 RX10 yX10_liftsAll wsX10_liftsAll) := goodIn_app (goodIn_of _ (by decide +kernel)) ggX10_init_X10_liftsAll
set_option maxRecDepth 20000 in
theorem ggX10_init_X10_begins : GoodIn wsX10_init wsX10_begins := goodIn_ca (goodIn_r _ [40, 5, 41, 20, 42, 43, 44, 45, 46, 47, 48, 49, 50, 51, 52, 53, 54, 55, 56, 57, 58, 59, 60, 61, 62, 63, 64, 65, 66, 67] (by decide +kernel) (by decide +kernel)) (goodIn_sub (fun _ h => List.mem_cons_of_mem _ (List.mem_append_right _ h)) (by decide +kernel))
set_option maxRecDepth 20000 in
theorem gX10_init_X10_begins : GoodIn wsX10_init (wsV RX10 61 RX10 yX10_begins wsX10_begins) := goodIn_app (goodIn_of _ (by decide +kernel)) ggX10_init_X10_begins
theorem dX10_init_0 : decode cX10_init 0 = .ok (.aload_n 0, 1) := by decide +kernel
theorem dX10_init_1 : decode cX10_init 1 = .ok (.invokespecial 1, 3) := by decide +kernel
theorem dX10_init_4 : decode cX10_init 4 = .ok (.aload_n 0, 1) := by decide +kernel
theorem dX10_init_5 : decode cX10_init 5 = .ok (.sipush 1167, 3) := by decide +kernel
theorem dX10_init_8 : decode cX10_init 8 = .ok (.newarray .int, 2) := by decide +kernel
theorem dX10_init_10 : decode cX10_init 10 = .ok (.putfield 7, 3) := by decide +kernel
theorem dX10_init_13 : decode cX10_init 13 = .ok (.aload_n 0, 1) := by decide +kernel
theorem dX10_init_14 : decode cX10_init 14 = .ok (.bipush 30, 2) := by decide +kernel
theorem dX10_init_16 : decode cX10_init 16 = .ok (.newarray .int, 2) := by decide +kernel
theorem dX10_init_18 : decode cX10_init 18 = .ok (.putfield 13, 3) := by decide +kernel
theorem dX10_init_21 : decode cX10_init 21 = .ok (.aload_n 0, 1) := by decide +kernel
theorem dX10_init_22 : decode cX10_init 22 = .ok (.bipush 16, 2) := by decide +kernel
theorem dX10_init_24 : decode cX10_init 24 = .ok (.newarray .int, 2) := by decide +kernel
theorem dX10_init_26 : decode cX10_init 26 = .ok (.putfield 16, 3) := by decide +kernel
theorem dX10_init_29 : decode cX10_init 29 = .ok (.aload_n 0, 1) := by decide +kernel
theorem dX10_init_30 : decode cX10_init 30 = .ok (.bipush 16, 2) := by decide +kernel
theorem dX10_init_32 : decode cX10_init 32 = .ok (.newarray .int, 2) := by decide +kernel
theorem dX10_init_34 : decode cX10_init 34 = .ok (.putfield 19, 3) := by decide +kernel
theorem dX10_init_37 : decode cX10_init 37 = .ok (.aload_n 0, 1) := by decide +kernel
theorem dX10_init_38 : decode cX10_init 38 = .ok (.bipush 16, 2) := by decide +kernel
theorem dX10_init_40 : decode cX10_init 40 = .ok (.newarray .int, 2) := by decide +kernel
theorem dX10_init_42 : decode cX10_init 42 = .ok (.putfield 22, 3) := by decide +kernel
theorem dX10_init_45 : decode cX10_init 45 = .ok (.aload_n 0, 1) := by decide +kernel
theorem dX10_init_46 : decode cX10_init 46 = .ok (.bipush 16, 2) := by decide +kernel
theorem dX10_init_48 : decode cX10_init 48 = .ok (.newarray .int, 2) := by decide +kernel
theorem dX10_init_50 : decode cX10_init 50 = .ok (.putfield 25, 3) := by decide +kernel
theorem dX10_init_53 : decode cX10_init 53 = .ok (.aload_n 0, 1) := by decide +kernel
theorem dX10_init_54 : decode cX10_init 54 = .ok (.sipush 500, 3) := by decide +kernel
theorem dX10_init_57 : decode cX10_init 57 = .ok (.newarray .byte, 2) := by decide +kernel
theorem dX10_init_59 : decode cX10_init 59 = .ok (.putfield 28, 3) := by decide +kernel
theorem dX10_init_62 : decode cX10_init 62 = .ok (.aload_n 0, 1) := by decide +kernel
theorem dX10_init_63 : decode cX10_init 63 = .ok (.iconst (-1), 1) := by decide +kernel
theorem dX10_init_64 : decode cX10_init 64 = .ok (.putfield 32, 3) := by decide +kernel
theorem dX10_init_67 : decode cX10_init 67 = .ok (.aload_n 0, 1) := by decide +kernel
theorem dX10_init_68 : decode cX10_init 68 = .ok (.bipush 101, 2) := by decide +kernel
theorem dX10_init_70 : decode cX10_init 70 = .ok (.newarray .int, 2) := by decide +kernel
theorem dX10_init_72 : decode cX10_init 72 = .ok (.putfield 36, 3) := by decide +kernel
theorem dX10_init_75 : decode cX10_init 75 = .ok (.aload_n 0, 1) := by decide +kernel
theorem dX10_init_76 : decode cX10_init 76 = .ok (.bipush 80, 2) := by decide +kernel
theorem dX10_init_78 : decode cX10_init 78 = .ok (.newarray .int, 2) := by decide +kernel
theorem dX10_init_80 : decode cX10_init 80 = .ok (.putfield 39, 3) := by decide +kernel
theorem dX10_init_83 : decode cX10_init 83 = .ok (.aload_n 0, 1) := by decide +kernel
theorem dX10_init_84 : decode cX10_init 84 = .ok (.sipush 1167, 3) := by decide +kernel
theorem dX10_init_87 : decode cX10_init 87 = .ok (.newarray .int, 2) := by decide +kernel
theorem dX10_init_89 : decode cX10_init 89 = .ok (.putfield 42, 3) := by decide +kernel
theorem dX10_init_92 : decode cX10_init 92 = .ok (.aload_n 0, 1) := by decide +kernel
theorem dX10_init_93 : decode cX10_init 93 = .ok (.sipush 11670, 3) := by decide +kernel
theorem dX10_init_96 : decode cX10_init 96 = .ok (.newarray .int, 2) := by decide +kernel
theorem dX10_init_98 : decode cX10_init 98 = .ok (.putfield 45, 3) := by decide +kernel
theorem dX10_init_101 : decode cX10_init 101 = .ok (.aload_n 0, 1) := by decide +kernel
theorem dX10_init_102 : decode cX10_init 102 = .ok (.sipush 2334, 3) := by decide +kernel
theorem dX10_init_105 : decode cX10_init 105 = .ok (.newarray .int, 2) := by decide +kernel
theorem dX10_init_107 : decode cX10_init 107 = .ok (.putfield 48, 3) := by decide +kernel
theorem dX10_init_110 : decode cX10_init 110 = .ok (.aload_n 0, 1) := by decide +kernel
theorem dX10_init_111 : decode cX10_init 111 = .ok (.iconst 2, 1) := by decide +kernel
theorem dX10_init_112 : decode cX10_init 112 = .ok (.newarray .boolean, 2) := by decide +kernel
theorem dX10_init_114 : decode cX10_init 114 = .ok (.putfield 51, 3) := by decide +kernel
theorem dX10_init_117 : decode cX10_init 117 = .ok (.aload_n 0, 1) := by decide +kernel
theorem dX10_init_118 : decode cX10_init 118 = .ok (.invokevirtual 55, 3) := by decide +kernel
theorem dX10_init_121 : decode cX10_init 121 = .ok (.aload_n 0, 1) := by decide +kernel
theorem dX10_init_122 : decode cX10_init 122 = .ok (.invokevirtual 58, 3) := by decide +kernel
theorem dX10_init_125 : decode cX10_init 125 = .ok (.aload_n 0, 1) := by decide +kernel
theorem dX10_init_126 : decode cX10_init 126 = .ok (.invokevirtual 61, 3) := by decide +kernel
theorem dX10_init_129 : decode cX10_init 129 = .ok (.return_, 1) := by decide +kernel
theorem dX10_thrown_0 : decode cX10_thrown 0 = .ok (.aload_n 0, 1) := by decide +kernel
theorem dX10_thrown_1 : decode cX10_thrown 1 = .ok (.getfield 64, 3) := by decide +kernel
theorem dX10_thrown_4 : decode cX10_thrown 4 = .ok (.ireturn, 1) := by decide +kernel
theorem dX10_within_0 : decode cX10_within 0 = .ok (.iload_n 0, 1) := by decide +kernel
theorem dX10_within_1 : decode cX10_within 1 = .ok (.iload_n 1, 1) := by decide +kernel
theorem dX10_within_2 : decode cX10_within 2 = .ok (.if_icmp .lt 12, 3) := by decide +kernel
theorem dX10_within_5 : decode cX10_within 5 = .ok (.iload_n 0, 1) := by decide +kernel
theorem dX10_within_6 : decode cX10_within 6 = .ok (.iload_n 2, 1) := by decide +kernel
theorem dX10_within_7 : decode cX10_within 7 = .ok (.if_icmp .gt 7, 3) := by decide +kernel
theorem dX10_within_10 : decode cX10_within 10 = .ok (.iconst 1, 1) := by decide +kernel
theorem dX10_within_11 : decode cX10_within 11 = .ok (.goto 4, 3) := by decide +kernel
theorem dX10_within_14 : decode cX10_within 14 = .ok (.iconst 0, 1) := by decide +kernel
theorem dX10_within_15 : decode cX10_within 15 = .ok (.ireturn, 1) := by decide +kernel
theorem dX10_throwsIf_0 : decode cX10_throwsIf 0 = .ok (.aload_n 0, 1) := by decide +kernel
theorem dX10_throwsIf_1 : decode cX10_throwsIf 1 = .ok (.getfield 64, 3) := by decide +kernel
theorem dX10_throwsIf_4 : decode cX10_throwsIf 4 = .ok (.ifCond .ne 12, 3) := by decide +kernel
theorem dX10_throwsIf_7 : decode cX10_throwsIf 7 = .ok (.iload_n 1, 1) := by decide +kernel
theorem dX10_throwsIf_8 : decode cX10_throwsIf 8 = .ok (.ifCond .eq 8, 3) := by decide +kernel
theorem dX10_throwsIf_11 : decode cX10_throwsIf 11 = .ok (.aload_n 0, 1) := by decide +kernel
theorem dX10_throwsIf_12 : decode cX10_throwsIf 12 = .ok (.iload_n 2, 1) := by decide +kernel
theorem dX10_throwsIf_13 : decode cX10_throwsIf 13 = .ok (.putfield 64, 3) := by decide +kernel
theorem dX10_throwsIf_16 : decode cX10_throwsIf 16 = .ok (.aload_n 0, 1) := by decide +kernel
theorem dX10_throwsIf_17 : decode cX10_throwsIf 17 = .ok (.getfield 64, 3) := by decide +kernel
theorem dX10_throwsIf_20 : decode cX10_throwsIf 20 = .ok (.ifCond .le 7, 3) := by decide +kernel
theorem dX10_throwsIf_23 : decode cX10_throwsIf 23 = .ok (.iconst 1, 1) := by decide +kernel
theorem dX10_throwsIf_24 : decode cX10_throwsIf 24 = .ok (.goto 4, 3) := by decide +kernel
theorem dX10_throwsIf_27 : decode cX10_throwsIf 27 = .ok (.iconst 0, 1) := by decide +kernel
theorem dX10_throwsIf_28 : decode cX10_throwsIf 28 = .ok (.ireturn, 1) := by decide +kernel
theorem dX10_lifts_0 : decode cX10_lifts 0 = .ok (.iconst 0, 1) := by decide +kernel
theorem dX10_lifts_1 : decode cX10_lifts 1 = .ok (.istore_n 1, 1) := by decide +kernel
theorem dX10_lifts_2 : decode cX10_lifts 2 = .ok (.iload_n 1, 1) := by decide +kernel
theorem dX10_lifts_3 : decode cX10_lifts 3 = .ok (.aload_n 0, 1) := by decide +kernel
theorem dX10_lifts_4 : decode cX10_lifts 4 = .ok (.arraylength, 1) := by decide +kernel
theorem dX10_lifts_5 : decode cX10_lifts 5 = .ok (.iconst 2, 1) := by decide +kernel
theorem dX10_lifts_6 : decode cX10_lifts 6 = .ok (.idiv, 1) := by decide +kernel
theorem dX10_lifts_7 : decode cX10_lifts 7 = .ok (.if_icmp .ge 20, 3) := by decide +kernel
theorem dX10_lifts_10 : decode cX10_lifts 10 = .ok (.aload_n 0, 1) := by decide +kernel
theorem dX10_lifts_11 : decode cX10_lifts 11 = .ok (.iload_n 1, 1) := by decide +kernel
theorem dX10_lifts_12 : decode cX10_lifts 12 = .ok (.aload_n 0, 1) := by decide +kernel
theorem dX10_lifts_13 : decode cX10_lifts 13 = .ok (.aload_n 0, 1) := by decide +kernel
theorem dX10_lifts_14 : decode cX10_lifts 14 = .ok (.arraylength, 1) := by decide +kernel
theorem dX10_lifts_15 : decode cX10_lifts 15 = .ok (.iconst 2, 1) := by decide +kernel
theorem dX10_lifts_16 : decode cX10_lifts 16 = .ok (.idiv, 1) := by decide +kernel
theorem dX10_lifts_17 : decode cX10_lifts 17 = .ok (.iload_n 1, 1) := by decide +kernel
theorem dX10_lifts_18 : decode cX10_lifts 18 = .ok (.iadd, 1) := by decide +kernel
theorem dX10_lifts_19 : decode cX10_lifts 19 = .ok (.iaload, 1) := by decide +kernel
theorem dX10_lifts_20 : decode cX10_lifts 20 = .ok (.iastore, 1) := by decide +kernel
theorem dX10_lifts_21 : decode cX10_lifts 21 = .ok (.iinc 1 1, 3) := by decide +kernel
theorem dX10_lifts_24 : decode cX10_lifts 24 = .ok (.goto (-22), 3) := by decide +kernel
theorem dX10_lifts_27 : decode cX10_lifts 27 = .ok (.return_, 1) := by decide +kernel
set_option maxRecDepth 20000 in
theorem ggX10_liftsAll_X10_lifts : GoodIn wsX10_liftsAll wsX10_lifts := goodIn_ca (goodIn_r _ [9] (by decide +kernel) (by decide +kernel)) (goodIn_sub (fun _ h => List.mem_cons_of_mem _ (List.mem_append_right _ h)) (by decide +kernel))
set_option maxRecDepth 20000 in
theorem gX10_liftsAll_X10_lifts : GoodIn wsX10_liftsAll (va_wsS RX10 67 yX10_lifts wsX10_lifts) := goodIn_app (goodIn_of _ (by decide +kernel)) ggX10_liftsAll_X10_lifts
theorem dX10_liftsAll_0 : decode cX10_liftsAll 0 = .ok (.aload_n 0, 1) := by decide +kernel
theorem dX10_liftsAll_1 : decode cX10_liftsAll 1 = .ok (.getfield 13, 3) := by decide +kernel
theorem dX10_liftsAll_4 : decode cX10_liftsAll 4 = .ok (.invokestatic 67, 3) := by decide +kernel
theorem dX10_liftsAll_7 : decode cX10_liftsAll 7 = .ok (.aload_n 0, 1) := by decide +kernel
theorem dX10_liftsAll_8 : decode cX10_liftsAll 8 = .ok (.getfield 16, 3) := by decide +kernel
theorem dX10_liftsAll_11 : decode cX10_liftsAll 11 = .ok (.invokestatic 67, 3) := by decide +kernel
theorem dX10_liftsAll_14 : decode cX10_liftsAll 14 = .ok (.aload_n 0, 1) := by decide +kernel
theorem dX10_liftsAll_15 : decode cX10_liftsAll 15 = .ok (.getfield 19, 3) := by decide +kernel
theorem dX10_liftsAll_18 : decode cX10_liftsAll 18 = .ok (.invokestatic 67, 3) := by decide +kernel
theorem dX10_liftsAll_21 : decode cX10_liftsAll 21 = .ok (.aload_n 0, 1) := by decide +kernel
theorem dX10_liftsAll_22 : decode cX10_liftsAll 22 = .ok (.getfield 22, 3) := by decide +kernel
theorem dX10_liftsAll_25 : decode cX10_liftsAll 25 = .ok (.invokestatic 67, 3) := by decide +kernel
theorem dX10_liftsAll_28 : decode cX10_liftsAll 28 = .ok (.aload_n 0, 1) := by decide +kernel
theorem dX10_liftsAll_29 : decode cX10_liftsAll 29 = .ok (.getfield 25, 3) := by decide +kernel
theorem dX10_liftsAll_32 : decode cX10_liftsAll 32 = .ok (.invokestatic 67, 3) := by decide +kernel
theorem dX10_liftsAll_35 : decode cX10_liftsAll 35 = .ok (.return_, 1) := by decide +kernel
theorem dX10_draft_0 : decode cX10_draft 0 = .ok (.aload_n 0, 1) := by decide +kernel
theorem dX10_draft_1 : decode cX10_draft 1 = .ok (.getfield 13, 3) := by decide +kernel
theorem dX10_draft_4 : decode cX10_draft 4 = .ok (.bipush 15, 2) := by decide +kernel
theorem dX10_draft_6 : decode cX10_draft 6 = .ok (.iload_n 1, 1) := by decide +kernel
theorem dX10_draft_7 : decode cX10_draft 7 = .ok (.iadd, 1) := by decide +kernel
theorem dX10_draft_8 : decode cX10_draft 8 = .ok (.iload_n 2, 1) := by decide +kernel
theorem dX10_draft_9 : decode cX10_draft 9 = .ok (.iastore, 1) := by decide +kernel
theorem dX10_draft_10 : decode cX10_draft 10 = .ok (.return_, 1) := by decide +kernel
set_option maxRecDepth 20000 in
theorem ggX10_clearDraft_X10_draft : GoodIn wsX10_clearDraft wsX10_draft := goodIn_ca (goodIn_r _ [5, 6, 7, 8, 9, 10, 11, 12, 13, 14, 15, 16, 17, 18, 19, 20, 21, 22, 23, 24, 25, 26, 27, 28, 29, 30, 31, 32] (by decide +kernel) (by decide +kernel)) (goodIn_sub (fun _ h => List.mem_cons_of_mem _ (List.mem_append_right _ h)) (by decide +kernel))
set_option maxRecDepth 20000 in
theorem gX10_clearDraft_X10_draft : GoodIn wsX10_clearDraft (wsV RX10 71 RX10 yX10_draft wsX10_draft) := goodIn_app (goodIn_of _ (by decide +kernel)) ggX10_clearDraft_X10_draft
theorem dX10_clearDraft_0 : decode cX10_clearDraft 0 = .ok (.aload_n 0, 1) := by decide +kernel
theorem dX10_clearDraft_1 : decode cX10_clearDraft 1 = .ok (.iconst 0, 1) := by decide +kernel
theorem dX10_clearDraft_2 : decode cX10_clearDraft 2 = .ok (.iconst 0, 1) := by decide +kernel
theorem dX10_clearDraft_3 : decode cX10_clearDraft 3 = .ok (.invokevirtual 71, 3) := by decide +kernel
theorem dX10_clearDraft_6 : decode cX10_clearDraft 6 = .ok (.aload_n 0, 1) := by decide +kernel
theorem dX10_clearDraft_7 : decode cX10_clearDraft 7 = .ok (.iconst 1, 1) := by decide +kernel
theorem dX10_clearDraft_8 : decode cX10_clearDraft 8 = .ok (.iconst 0, 1) := by decide +kernel
theorem dX10_clearDraft_9 : decode cX10_clearDraft 9 = .ok (.invokevirtual 71, 3) := by decide +kernel
theorem dX10_clearDraft_12 : decode cX10_clearDraft 12 = .ok (.aload_n 0, 1) := by decide +kernel
theorem dX10_clearDraft_13 : decode cX10_clearDraft 13 = .ok (.iconst 2, 1) := by decide +kernel
theorem dX10_clearDraft_14 : decode cX10_clearDraft 14 = .ok (.iconst 0, 1) := by decide +kernel
theorem dX10_clearDraft_15 : decode cX10_clearDraft 15 = .ok (.invokevirtual 71, 3) := by decide +kernel
theorem dX10_clearDraft_18 : decode cX10_clearDraft 18 = .ok (.aload_n 0, 1) := by decide +kernel
theorem dX10_clearDraft_19 : decode cX10_clearDraft 19 = .ok (.iconst 3, 1) := by decide +kernel
theorem dX10_clearDraft_20 : decode cX10_clearDraft 20 = .ok (.iconst 0, 1) := by decide +kernel
theorem dX10_clearDraft_21 : decode cX10_clearDraft 21 = .ok (.invokevirtual 71, 3) := by decide +kernel
theorem dX10_clearDraft_24 : decode cX10_clearDraft 24 = .ok (.aload_n 0, 1) := by decide +kernel
theorem dX10_clearDraft_25 : decode cX10_clearDraft 25 = .ok (.iconst 4, 1) := by decide +kernel
theorem dX10_clearDraft_26 : decode cX10_clearDraft 26 = .ok (.iconst 5, 1) := by decide +kernel
theorem dX10_clearDraft_27 : decode cX10_clearDraft 27 = .ok (.invokevirtual 71, 3) := by decide +kernel
theorem dX10_clearDraft_30 : decode cX10_clearDraft 30 = .ok (.aload_n 0, 1) := by decide +kernel
theorem dX10_clearDraft_31 : decode cX10_clearDraft 31 = .ok (.iconst 5, 1) := by decide +kernel
theorem dX10_clearDraft_32 : decode cX10_clearDraft 32 = .ok (.iconst 5, 1) := by decide +kernel
theorem dX10_clearDraft_33 : decode cX10_clearDraft 33 = .ok (.invokevirtual 71, 3) := by decide +kernel
theorem dX10_clearDraft_36 : decode cX10_clearDraft 36 = .ok (.aload_n 0, 1) := by decide +kernel
theorem dX10_clearDraft_37 : decode cX10_clearDraft 37 = .ok (.bipush 6, 2) := by decide +kernel
theorem dX10_clearDraft_39 : decode cX10_clearDraft 39 = .ok (.bipush 20, 2) := by decide +kernel
theorem dX10_clearDraft_41 : decode cX10_clearDraft 41 = .ok (.invokevirtual 71, 3) := by decide +kernel
theorem dX10_clearDraft_44 : decode cX10_clearDraft 44 = .ok (.aload_n 0, 1) := by decide +kernel
theorem dX10_clearDraft_45 : decode cX10_clearDraft 45 = .ok (.bipush 7, 2) := by decide +kernel
theorem dX10_clearDraft_47 : decode cX10_clearDraft 47 = .ok (.bipush 60, 2) := by decide +kernel
theorem dX10_clearDraft_49 : decode cX10_clearDraft 49 = .ok (.invokevirtual 71, 3) := by decide +kernel
theorem dX10_clearDraft_52 : decode cX10_clearDraft 52 = .ok (.aload_n 0, 1) := by decide +kernel
theorem dX10_clearDraft_53 : decode cX10_clearDraft 53 = .ok (.bipush 8, 2) := by decide +kernel
theorem dX10_clearDraft_55 : decode cX10_clearDraft 55 = .ok (.iconst 3, 1) := by decide +kernel
theorem dX10_clearDraft_56 : decode cX10_clearDraft 56 = .ok (.invokevirtual 71, 3) := by decide +kernel
theorem dX10_clearDraft_59 : decode cX10_clearDraft 59 = .ok (.aload_n 0, 1) := by decide +kernel
theorem dX10_clearDraft_60 : decode cX10_clearDraft 60 = .ok (.bipush 9, 2) := by decide +kernel
theorem dX10_clearDraft_62 : decode cX10_clearDraft 62 = .ok (.bipush 12, 2) := by decide +kernel
theorem dX10_clearDraft_64 : decode cX10_clearDraft 64 = .ok (.invokevirtual 71, 3) := by decide +kernel
theorem dX10_clearDraft_67 : decode cX10_clearDraft 67 = .ok (.aload_n 0, 1) := by decide +kernel
theorem dX10_clearDraft_68 : decode cX10_clearDraft 68 = .ok (.bipush 10, 2) := by decide +kernel
theorem dX10_clearDraft_70 : decode cX10_clearDraft 70 = .ok (.sipush 300, 3) := by decide +kernel
theorem dX10_clearDraft_73 : decode cX10_clearDraft 73 = .ok (.invokevirtual 71, 3) := by decide +kernel
theorem dX10_clearDraft_76 : decode cX10_clearDraft 76 = .ok (.aload_n 0, 1) := by decide +kernel
theorem dX10_clearDraft_77 : decode cX10_clearDraft 77 = .ok (.bipush 11, 2) := by decide +kernel
theorem dX10_clearDraft_79 : decode cX10_clearDraft 79 = .ok (.sipush 150, 3) := by decide +kernel
theorem dX10_clearDraft_82 : decode cX10_clearDraft 82 = .ok (.invokevirtual 71, 3) := by decide +kernel
theorem dX10_clearDraft_85 : decode cX10_clearDraft 85 = .ok (.aload_n 0, 1) := by decide +kernel
theorem dX10_clearDraft_86 : decode cX10_clearDraft 86 = .ok (.bipush 12, 2) := by decide +kernel
theorem dX10_clearDraft_88 : decode cX10_clearDraft 88 = .ok (.iconst 3, 1) := by decide +kernel
theorem dX10_clearDraft_89 : decode cX10_clearDraft 89 = .ok (.invokevirtual 71, 3) := by decide +kernel
theorem dX10_clearDraft_92 : decode cX10_clearDraft 92 = .ok (.aload_n 0, 1) := by decide +kernel
theorem dX10_clearDraft_93 : decode cX10_clearDraft 93 = .ok (.bipush 13, 2) := by decide +kernel
theorem dX10_clearDraft_95 : decode cX10_clearDraft 95 = .ok (.iconst 2, 1) := by decide +kernel
theorem dX10_clearDraft_96 : decode cX10_clearDraft 96 = .ok (.invokevirtual 71, 3) := by decide +kernel
theorem dX10_clearDraft_99 : decode cX10_clearDraft 99 = .ok (.aload_n 0, 1) := by decide +kernel
theorem dX10_clearDraft_100 : decode cX10_clearDraft 100 = .ok (.bipush 14, 2) := by decide +kernel
theorem dX10_clearDraft_102 : decode cX10_clearDraft 102 = .ok (.iconst 1, 1) := by decide +kernel
theorem dX10_clearDraft_103 : decode cX10_clearDraft 103 = .ok (.invokevirtual 71, 3) := by decide +kernel
theorem dX10_clearDraft_106 : decode cX10_clearDraft 106 = .ok (.return_, 1) := by decide +kernel
set_option maxRecDepth 20000 in
theorem ggX10_append_X10_bytesOf : GoodIn wsX10_append wsX10_bytesOf := goodIn_ca (goodIn_r _ [7, 8, 2, 9, 10, 11, 12, 13, 14, 15, 16, 17, 18, 19, 20, 21, 22, 23, 24, 25, 26, 27, 28, 29, 30, 31, 32, 33, 34] (by decide +kernel) (by decide +kernel)) (goodIn_sub (fun _ h => List.mem_cons_of_mem _ (List.mem_append_right _ h)) (by decide +kernel))
set_option maxRecDepth 20000 in
theorem gX10_append_X10_bytesOf : GoodIn wsX10_append (wsV RX10 78 RX10 yX10_bytesOf wsX10_bytesOf) := goodIn_app (goodIn_of _ (by decide +kernel)) ggX10_append_X10_bytesOf
theorem dX10_append_0 : decode cX10_append 0 = .ok (.aload_n 0, 1) := by decide +kernel
theorem dX10_append_1 : decode cX10_append 1 = .ok (.iconst 0, 1) := by decide +kernel
theorem dX10_append_2 : decode cX10_append 2 = .ok (.putfield 64, 3) := by decide +kernel
theorem dX10_append_5 : decode cX10_append 5 = .ok (.aload_n 0, 1) := by decide +kernel
theorem dX10_append_6 : decode cX10_append 6 = .ok (.getfield 75, 3) := by decide +kernel
theorem dX10_append_9 : decode cX10_append 9 = .ok (.bipush 20, 2) := by decide +kernel
theorem dX10_append_11 : decode cX10_append 11 = .ok (.iadd, 1) := by decide +kernel
theorem dX10_append_12 : decode cX10_append 12 = .ok (.sipush 500, 3) := by decide +kernel
theorem dX10_append_15 : decode cX10_append 15 = .ok (.if_icmp .le 5, 3) := by decide +kernel
theorem dX10_append_18 : decode cX10_append 18 = .ok (.iconst (-1), 1) := by decide +kernel
theorem dX10_append_19 : decode cX10_append 19 = .ok (.ireturn, 1) := by decide +kernel
theorem dX10_append_20 : decode cX10_append 20 = .ok (.aload_n 0, 1) := by decide +kernel
theorem dX10_append_21 : decode cX10_append 21 = .ok (.iload_n 1, 1) := by decide +kernel
theorem dX10_append_22 : decode cX10_append 22 = .ok (.invokevirtual 78, 3) := by decide +kernel
theorem dX10_append_25 : decode cX10_append 25 = .ok (.aload_n 0, 1) := by decide +kernel
theorem dX10_append_26 : decode cX10_append 26 = .ok (.iload_n 2, 1) := by decide +kernel
theorem dX10_append_27 : decode cX10_append 27 = .ok (.invokevirtual 78, 3) := by decide +kernel
theorem dX10_append_30 : decode cX10_append 30 = .ok (.aload_n 0, 1) := by decide +kernel
theorem dX10_append_31 : decode cX10_append 31 = .ok (.iload_n 3, 1) := by decide +kernel
theorem dX10_append_32 : decode cX10_append 32 = .ok (.invokevirtual 78, 3) := by decide +kernel
theorem dX10_append_35 : decode cX10_append 35 = .ok (.aload_n 0, 1) := by decide +kernel
theorem dX10_append_36 : decode cX10_append 36 = .ok (.iload 4, 2) := by decide +kernel
theorem dX10_append_38 : decode cX10_append 38 = .ok (.invokevirtual 78, 3) := by decide +kernel
theorem dX10_append_41 : decode cX10_append 41 = .ok (.aload_n 0, 1) := by decide +kernel
theorem dX10_append_42 : decode cX10_append 42 = .ok (.iload 5, 2) := by decide +kernel
theorem dX10_append_44 : decode cX10_append 44 = .ok (.invokevirtual 78, 3) := by decide +kernel
theorem dX10_append_47 : decode cX10_append 47 = .ok (.aload_n 0, 1) := by decide +kernel
theorem dX10_append_48 : decode cX10_append 48 = .ok (.getfield 75, 3) := by decide +kernel
theorem dX10_append_51 : decode cX10_append 51 = .ok (.ireturn, 1) := by decide +kernel
theorem dX10_bytesOf_0 : decode cX10_bytesOf 0 = .ok (.bipush 24, 2) := by decide +kernel
theorem dX10_bytesOf_2 : decode cX10_bytesOf 2 = .ok (.istore_n 2, 1) := by decide +kernel
theorem dX10_bytesOf_3 : decode cX10_bytesOf 3 = .ok (.iload_n 2, 1) := by decide +kernel
theorem dX10_bytesOf_4 : decode cX10_bytesOf 4 = .ok (.ifCond .lt 32, 3) := by decide +kernel
theorem dX10_bytesOf_7 : decode cX10_bytesOf 7 = .ok (.aload_n 0, 1) := by decide +kernel
theorem dX10_bytesOf_8 : decode cX10_bytesOf 8 = .ok (.getfield 28, 3) := by decide +kernel
theorem dX10_bytesOf_11 : decode cX10_bytesOf 11 = .ok (.aload_n 0, 1) := by decide +kernel
theorem dX10_bytesOf_12 : decode cX10_bytesOf 12 = .ok (.getfield 75, 3) := by decide +kernel
theorem dX10_bytesOf_15 : decode cX10_bytesOf 15 = .ok (.iload_n 1, 1) := by decide +kernel
theorem dX10_bytesOf_16 : decode cX10_bytesOf 16 = .ok (.iload_n 2, 1) := by decide +kernel
theorem dX10_bytesOf_17 : decode cX10_bytesOf 17 = .ok (.ishr, 1) := by decide +kernel
theorem dX10_bytesOf_18 : decode cX10_bytesOf 18 = .ok (.i2b, 1) := by decide +kernel
theorem dX10_bytesOf_19 : decode cX10_bytesOf 19 = .ok (.bastore, 1) := by decide +kernel
theorem dX10_bytesOf_20 : decode cX10_bytesOf 20 = .ok (.aload_n 0, 1) := by decide +kernel
theorem dX10_bytesOf_21 : decode cX10_bytesOf 21 = .ok (.dup, 1) := by decide +kernel
theorem dX10_bytesOf_22 : decode cX10_bytesOf 22 = .ok (.getfield 75, 3) := by decide +kernel
theorem dX10_bytesOf_25 : decode cX10_bytesOf 25 = .ok (.iconst 1, 1) := by decide +kernel
theorem dX10_bytesOf_26 : decode cX10_bytesOf 26 = .ok (.iadd, 1) := by decide +kernel
theorem dX10_bytesOf_27 : decode cX10_bytesOf 27 = .ok (.putfield 75, 3) := by decide +kernel
theorem dX10_bytesOf_30 : decode cX10_bytesOf 30 = .ok (.iinc 2 (-8), 3) := by decide +kernel
theorem dX10_bytesOf_33 : decode cX10_bytesOf 33 = .ok (.goto (-30), 3) := by decide +kernel
theorem dX10_bytesOf_36 : decode cX10_bytesOf 36 = .ok (.return_, 1) := by decide +kernel
theorem dX10_byteAt_0 : decode cX10_byteAt 0 = .ok (.iload_n 1, 1) := by decide +kernel
theorem dX10_byteAt_1 : decode cX10_byteAt 1 = .ok (.aload_n 0, 1) := by decide +kernel
theorem dX10_byteAt_2 : decode cX10_byteAt 2 = .ok (.getfield 82, 3) := by decide +kernel
theorem dX10_byteAt_5 : decode cX10_byteAt 5 = .ok (.if_icmp .ge 16, 3) := by decide +kernel
theorem dX10_byteAt_8 : decode cX10_byteAt 8 = .ok (.aload_n 0, 1) := by decide +kernel
theorem dX10_byteAt_9 : decode cX10_byteAt 9 = .ok (.getfield 28, 3) := by decide +kernel
theorem dX10_byteAt_12 : decode cX10_byteAt 12 = .ok (.iload_n 1, 1) := by decide +kernel
theorem dX10_byteAt_13 : decode cX10_byteAt 13 = .ok (.baload, 1) := by decide +kernel
theorem dX10_byteAt_14 : decode cX10_byteAt 14 = .ok (.sipush 255, 3) := by decide +kernel
theorem dX10_byteAt_17 : decode cX10_byteAt 17 = .ok (.iand, 1) := by decide +kernel
theorem dX10_byteAt_18 : decode cX10_byteAt 18 = .ok (.goto 4, 3) := by decide +kernel
theorem dX10_byteAt_21 : decode cX10_byteAt 21 = .ok (.iconst (-1), 1) := by decide +kernel
theorem dX10_byteAt_22 : decode cX10_byteAt 22 = .ok (.ireturn, 1) := by decide +kernel
set_option maxRecDepth 20000 in
theorem ggX10_advance_X10_byteAt : GoodIn wsX10_advance wsX10_byteAt := goodIn_ca (goodIn_r _ [9, 10, 11, 15, 16, 17, 18, 19, 20, 21, 22, 23, 24, 25, 26, 27, 28, 29, 30, 31, 32, 33, 34, 35, 36, 37, 38, 39, 40] (by decide +kernel) (by decide +kernel)) (goodIn_sub (fun _ h => List.mem_cons_of_mem _ (List.mem_append_right _ h)) (by decide +kernel))
set_option maxRecDepth 20000 in
theorem gX10_advance_X10_byteAt : GoodIn wsX10_advance (wsV RX10 88 RX10 yX10_byteAt wsX10_byteAt) := goodIn_app (goodIn_of _ (by decide +kernel)) ggX10_advance_X10_byteAt
set_option maxRecDepth 20000 in
theorem ggX10_advance_X10_within : GoodIn wsX10_advance wsX10_within := goodIn_r _ [14] (by decide +kernel) (by decide +kernel)
set_option maxRecDepth 20000 in
theorem gX10_advance_X10_within : GoodIn wsX10_advance (va_wsS RX10 101 yX10_within wsX10_within) := goodIn_app (goodIn_of _ (by decide +kernel)) ggX10_advance_X10_within
theorem dX10_advance_0 : decode cX10_advance 0 = .ok (.aload_n 0, 1) := by decide +kernel
theorem dX10_advance_1 : decode cX10_advance 1 = .ok (.aload_n 0, 1) := by decide +kernel
theorem dX10_advance_2 : decode cX10_advance 2 = .ok (.getfield 85, 3) := by decide +kernel
theorem dX10_advance_5 : decode cX10_advance 5 = .ok (.invokevirtual 88, 3) := by decide +kernel
theorem dX10_advance_8 : decode cX10_advance 8 = .ok (.bipush 32, 2) := by decide +kernel
theorem dX10_advance_10 : decode cX10_advance 10 = .ok (.if_icmp .eq 16, 3) := by decide +kernel
theorem dX10_advance_13 : decode cX10_advance 13 = .ok (.aload_n 0, 1) := by decide +kernel
theorem dX10_advance_14 : decode cX10_advance 14 = .ok (.aload_n 0, 1) := by decide +kernel
theorem dX10_advance_15 : decode cX10_advance 15 = .ok (.getfield 85, 3) := by decide +kernel
theorem dX10_advance_18 : decode cX10_advance 18 = .ok (.invokevirtual 88, 3) := by decide +kernel
theorem dX10_advance_21 : decode cX10_advance 21 = .ok (.bipush 10, 2) := by decide +kernel
theorem dX10_advance_23 : decode cX10_advance 23 = .ok (.if_icmp .ne 16, 3) := by decide +kernel
theorem dX10_advance_26 : decode cX10_advance 26 = .ok (.aload_n 0, 1) := by decide +kernel
theorem dX10_advance_27 : decode cX10_advance 27 = .ok (.dup, 1) := by decide +kernel
theorem dX10_advance_28 : decode cX10_advance 28 = .ok (.getfield 85, 3) := by decide +kernel
theorem dX10_advance_31 : decode cX10_advance 31 = .ok (.iconst 1, 1) := by decide +kernel
theorem dX10_advance_32 : decode cX10_advance 32 = .ok (.iadd, 1) := by decide +kernel
theorem dX10_advance_33 : decode cX10_advance 33 = .ok (.putfield 85, 3) := by decide +kernel
theorem dX10_advance_36 : decode cX10_advance 36 = .ok (.goto (-36), 3) := by decide +kernel
theorem dX10_advance_39 : decode cX10_advance 39 = .ok (.aload_n 0, 1) := by decide +kernel
theorem dX10_advance_40 : decode cX10_advance 40 = .ok (.aload_n 0, 1) := by decide +kernel
theorem dX10_advance_41 : decode cX10_advance 41 = .ok (.getfield 85, 3) := by decide +kernel
theorem dX10_advance_44 : decode cX10_advance 44 = .ok (.putfield 92, 3) := by decide +kernel
theorem dX10_advance_47 : decode cX10_advance 47 = .ok (.aload_n 0, 1) := by decide +kernel
theorem dX10_advance_48 : decode cX10_advance 48 = .ok (.iconst 0, 1) := by decide +kernel
theorem dX10_advance_49 : decode cX10_advance 49 = .ok (.putfield 95, 3) := by decide +kernel
theorem dX10_advance_52 : decode cX10_advance 52 = .ok (.aload_n 0, 1) := by decide +kernel
theorem dX10_advance_53 : decode cX10_advance 53 = .ok (.aload_n 0, 1) := by decide +kernel
theorem dX10_advance_54 : decode cX10_advance 54 = .ok (.getfield 85, 3) := by decide +kernel
theorem dX10_advance_57 : decode cX10_advance 57 = .ok (.invokevirtual 88, 3) := by decide +kernel
theorem dX10_advance_60 : decode cX10_advance 60 = .ok (.istore_n 1, 1) := by decide +kernel
theorem dX10_advance_61 : decode cX10_advance 61 = .ok (.iload_n 1, 1) := by decide +kernel
theorem dX10_advance_62 : decode cX10_advance 62 = .ok (.iconst (-1), 1) := by decide +kernel
theorem dX10_advance_63 : decode cX10_advance 63 = .ok (.if_icmp .ne 11, 3) := by decide +kernel
theorem dX10_advance_66 : decode cX10_advance 66 = .ok (.aload_n 0, 1) := by decide +kernel
theorem dX10_advance_67 : decode cX10_advance 67 = .ok (.iconst 0, 1) := by decide +kernel
theorem dX10_advance_68 : decode cX10_advance 68 = .ok (.putfield 98, 3) := by decide +kernel
theorem dX10_advance_71 : decode cX10_advance 71 = .ok (.goto 206, 3) := by decide +kernel
theorem dX10_advance_74 : decode cX10_advance 74 = .ok (.iload_n 1, 1) := by decide +kernel
theorem dX10_advance_75 : decode cX10_advance 75 = .ok (.bipush 97, 2) := by decide +kernel
theorem dX10_advance_77 : decode cX10_advance 77 = .ok (.bipush 122, 2) := by decide +kernel
theorem dX10_advance_79 : decode cX10_advance 79 = .ok (.invokestatic 101, 3) := by decide +kernel
theorem dX10_advance_82 : decode cX10_advance 82 = .ok (.ifCond .eq 60, 3) := by decide +kernel
theorem dX10_advance_85 : decode cX10_advance 85 = .ok (.aload_n 0, 1) := by decide +kernel
theorem dX10_advance_86 : decode cX10_advance 86 = .ok (.aload_n 0, 1) := by decide +kernel
theorem dX10_advance_87 : decode cX10_advance 87 = .ok (.getfield 85, 3) := by decide +kernel
theorem dX10_advance_90 : decode cX10_advance 90 = .ok (.invokevirtual 88, 3) := by decide +kernel
theorem dX10_advance_93 : decode cX10_advance 93 = .ok (.bipush 97, 2) := by decide +kernel
theorem dX10_advance_95 : decode cX10_advance 95 = .ok (.bipush 122, 2) := by decide +kernel
theorem dX10_advance_97 : decode cX10_advance 97 = .ok (.invokestatic 101, 3) := by decide +kernel
theorem dX10_advance_100 : decode cX10_advance 100 = .ok (.ifCond .eq 16, 3) := by decide +kernel
theorem dX10_advance_103 : decode cX10_advance 103 = .ok (.aload_n 0, 1) := by decide +kernel
theorem dX10_advance_104 : decode cX10_advance 104 = .ok (.dup, 1) := by decide +kernel
theorem dX10_advance_105 : decode cX10_advance 105 = .ok (.getfield 85, 3) := by decide +kernel
theorem dX10_advance_108 : decode cX10_advance 108 = .ok (.iconst 1, 1) := by decide +kernel
theorem dX10_advance_109 : decode cX10_advance 109 = .ok (.iadd, 1) := by decide +kernel
theorem dX10_advance_110 : decode cX10_advance 110 = .ok (.putfield 85, 3) := by decide +kernel
theorem dX10_advance_113 : decode cX10_advance 113 = .ok (.goto (-28), 3) := by decide +kernel
theorem dX10_advance_116 : decode cX10_advance 116 = .ok (.aload_n 0, 1) := by decide +kernel
theorem dX10_advance_117 : decode cX10_advance 117 = .ok (.aload_n 0, 1) := by decide +kernel
theorem dX10_advance_118 : decode cX10_advance 118 = .ok (.getfield 85, 3) := by decide +kernel
theorem dX10_advance_121 : decode cX10_advance 121 = .ok (.aload_n 0, 1) := by decide +kernel
theorem dX10_advance_122 : decode cX10_advance 122 = .ok (.getfield 92, 3) := by decide +kernel
theorem dX10_advance_125 : decode cX10_advance 125 = .ok (.isub, 1) := by decide +kernel
theorem dX10_advance_126 : decode cX10_advance 126 = .ok (.bipush 8, 2) := by decide +kernel
theorem dX10_advance_128 : decode cX10_advance 128 = .ok (.if_icmp .le 7, 3) := by decide +kernel
theorem dX10_advance_131 : decode cX10_advance 131 = .ok (.iconst 4, 1) := by decide +kernel
theorem dX10_advance_132 : decode cX10_advance 132 = .ok (.goto 4, 3) := by decide +kernel
theorem dX10_advance_135 : decode cX10_advance 135 = .ok (.iconst 1, 1) := by decide +kernel
theorem dX10_advance_136 : decode cX10_advance 136 = .ok (.putfield 98, 3) := by decide +kernel
theorem dX10_advance_139 : decode cX10_advance 139 = .ok (.goto 138, 3) := by decide +kernel
theorem dX10_advance_142 : decode cX10_advance 142 = .ok (.iload_n 1, 1) := by decide +kernel
theorem dX10_advance_143 : decode cX10_advance 143 = .ok (.bipush 48, 2) := by decide +kernel
theorem dX10_advance_145 : decode cX10_advance 145 = .ok (.bipush 57, 2) := by decide +kernel
theorem dX10_advance_147 : decode cX10_advance 147 = .ok (.invokestatic 101, 3) := by decide +kernel
theorem dX10_advance_150 : decode cX10_advance 150 = .ok (.ifCond .eq 102, 3) := by decide +kernel
theorem dX10_advance_153 : decode cX10_advance 153 = .ok (.aload_n 0, 1) := by decide +kernel
theorem dX10_advance_154 : decode cX10_advance 154 = .ok (.aload_n 0, 1) := by decide +kernel
theorem dX10_advance_155 : decode cX10_advance 155 = .ok (.getfield 85, 3) := by decide +kernel
theorem dX10_advance_158 : decode cX10_advance 158 = .ok (.invokevirtual 88, 3) := by decide +kernel
theorem dX10_advance_161 : decode cX10_advance 161 = .ok (.bipush 48, 2) := by decide +kernel
theorem dX10_advance_163 : decode cX10_advance 163 = .ok (.bipush 57, 2) := by decide +kernel
theorem dX10_advance_165 : decode cX10_advance 165 = .ok (.invokestatic 101, 3) := by decide +kernel
theorem dX10_advance_168 : decode cX10_advance 168 = .ok (.ifCond .eq 59, 3) := by decide +kernel
theorem dX10_advance_171 : decode cX10_advance 171 = .ok (.aload_n 0, 1) := by decide +kernel
theorem dX10_advance_172 : decode cX10_advance 172 = .ok (.aload_n 0, 1) := by decide +kernel
theorem dX10_advance_173 : decode cX10_advance 173 = .ok (.getfield 85, 3) := by decide +kernel
theorem dX10_advance_176 : decode cX10_advance 176 = .ok (.aload_n 0, 1) := by decide +kernel
theorem dX10_advance_177 : decode cX10_advance 177 = .ok (.getfield 92, 3) := by decide +kernel
theorem dX10_advance_180 : decode cX10_advance 180 = .ok (.isub, 1) := by decide +kernel
theorem dX10_advance_181 : decode cX10_advance 181 = .ok (.iconst 4, 1) := by decide +kernel
theorem dX10_advance_182 : decode cX10_advance 182 = .ok (.if_icmp .ge 25, 3) := by decide +kernel
theorem dX10_advance_185 : decode cX10_advance 185 = .ok (.bipush 10, 2) := by decide +kernel
theorem dX10_advance_187 : decode cX10_advance 187 = .ok (.aload_n 0, 1) := by decide +kernel
theorem dX10_advance_188 : decode cX10_advance 188 = .ok (.getfield 95, 3) := by decide +kernel
theorem dX10_advance_191 : decode cX10_advance 191 = .ok (.imul, 1) := by decide +kernel
theorem dX10_advance_192 : decode cX10_advance 192 = .ok (.aload_n 0, 1) := by decide +kernel
theorem dX10_advance_193 : decode cX10_advance 193 = .ok (.aload_n 0, 1) := by decide +kernel
theorem dX10_advance_194 : decode cX10_advance 194 = .ok (.getfield 85, 3) := by decide +kernel
theorem dX10_advance_197 : decode cX10_advance 197 = .ok (.invokevirtual 88, 3) := by decide +kernel
theorem dX10_advance_200 : decode cX10_advance 200 = .ok (.iadd, 1) := by decide +kernel
theorem dX10_advance_201 : decode cX10_advance 201 = .ok (.bipush 48, 2) := by decide +kernel
theorem dX10_advance_203 : decode cX10_advance 203 = .ok (.isub, 1) := by decide +kernel
theorem dX10_advance_204 : decode cX10_advance 204 = .ok (.goto 7, 3) := by decide +kernel
theorem dX10_advance_207 : decode cX10_advance 207 = .ok (.aload_n 0, 1) := by decide +kernel
theorem dX10_advance_208 : decode cX10_advance 208 = .ok (.getfield 95, 3) := by decide +kernel
theorem dX10_advance_211 : decode cX10_advance 211 = .ok (.putfield 95, 3) := by decide +kernel
theorem dX10_advance_214 : decode cX10_advance 214 = .ok (.aload_n 0, 1) := by decide +kernel
theorem dX10_advance_215 : decode cX10_advance 215 = .ok (.dup, 1) := by decide +kernel
theorem dX10_advance_216 : decode cX10_advance 216 = .ok (.getfield 85, 3) := by decide +kernel
theorem dX10_advance_219 : decode cX10_advance 219 = .ok (.iconst 1, 1) := by decide +kernel
theorem dX10_advance_220 : decode cX10_advance 220 = .ok (.iadd, 1) := by decide +kernel
theorem dX10_advance_221 : decode cX10_advance 221 = .ok (.putfield 85, 3) := by decide +kernel
theorem dX10_advance_224 : decode cX10_advance 224 = .ok (.goto (-71), 3) := by decide +kernel
theorem dX10_advance_227 : decode cX10_advance 227 = .ok (.aload_n 0, 1) := by decide +kernel
theorem dX10_advance_228 : decode cX10_advance 228 = .ok (.aload_n 0, 1) := by decide +kernel
theorem dX10_advance_229 : decode cX10_advance 229 = .ok (.getfield 85, 3) := by decide +kernel
theorem dX10_advance_232 : decode cX10_advance 232 = .ok (.aload_n 0, 1) := by decide +kernel
theorem dX10_advance_233 : decode cX10_advance 233 = .ok (.getfield 92, 3) := by decide +kernel
theorem dX10_advance_236 : decode cX10_advance 236 = .ok (.isub, 1) := by decide +kernel
theorem dX10_advance_237 : decode cX10_advance 237 = .ok (.iconst 4, 1) := by decide +kernel
theorem dX10_advance_238 : decode cX10_advance 238 = .ok (.if_icmp .le 7, 3) := by decide +kernel
theorem dX10_advance_241 : decode cX10_advance 241 = .ok (.iconst 4, 1) := by decide +kernel
theorem dX10_advance_242 : decode cX10_advance 242 = .ok (.goto 4, 3) := by decide +kernel
theorem dX10_advance_245 : decode cX10_advance 245 = .ok (.iconst 2, 1) := by decide +kernel
theorem dX10_advance_246 : decode cX10_advance 246 = .ok (.putfield 98, 3) := by decide +kernel
theorem dX10_advance_249 : decode cX10_advance 249 = .ok (.goto 28, 3) := by decide +kernel
theorem dX10_advance_252 : decode cX10_advance 252 = .ok (.aload_n 0, 1) := by decide +kernel
theorem dX10_advance_253 : decode cX10_advance 253 = .ok (.dup, 1) := by decide +kernel
theorem dX10_advance_254 : decode cX10_advance 254 = .ok (.getfield 85, 3) := by decide +kernel
theorem dX10_advance_257 : decode cX10_advance 257 = .ok (.iconst 1, 1) := by decide +kernel
theorem dX10_advance_258 : decode cX10_advance 258 = .ok (.iadd, 1) := by decide +kernel
theorem dX10_advance_259 : decode cX10_advance 259 = .ok (.putfield 85, 3) := by decide +kernel
theorem dX10_advance_262 : decode cX10_advance 262 = .ok (.aload_n 0, 1) := by decide +kernel
theorem dX10_advance_263 : decode cX10_advance 263 = .ok (.iload_n 1, 1) := by decide +kernel
theorem dX10_advance_264 : decode cX10_advance 264 = .ok (.bipush 59, 2) := by decide +kernel
theorem dX10_advance_266 : decode cX10_advance 266 = .ok (.if_icmp .ne 7, 3) := by decide +kernel
theorem dX10_advance_269 : decode cX10_advance 269 = .ok (.iconst 3, 1) := by decide +kernel
theorem dX10_advance_270 : decode cX10_advance 270 = .ok (.goto 4, 3) := by decide +kernel
theorem dX10_advance_273 : decode cX10_advance 273 = .ok (.iconst 4, 1) := by decide +kernel
theorem dX10_advance_274 : decode cX10_advance 274 = .ok (.putfield 98, 3) := by decide +kernel
theorem dX10_advance_277 : decode cX10_advance 277 = .ok (.return_, 1) := by decide +kernel
set_option maxRecDepth 20000 in
theorem ggX10_isWord_J0_length_8abf5 : GoodIn wsX10_isWord wsJ0_length_8abf5 := goodIn_r _ [9, 10, 11, 12, 13, 8, 14, 15, 16, 80, 81, 82, 83] (by decide +kernel) (by decide +kernel)
set_option maxRecDepth 20000 in
theorem gX10_isWord_J0_length_8abf5 : GoodIn wsX10_isWord (wsV RX10 105 RJ0 yJ0_length_8abf5 wsJ0_length_8abf5) := goodIn_app (goodIn_of _ (by decide +kernel)) ggX10_isWord_J0_length_8abf5
set_option maxRecDepth 20000 in
theorem ggX10_isWord_J0_charAt_5068e : GoodIn wsX10_isWord wsJ0_charAt_5068e := goodIn_r _ [20, 10, 21, 22, 23, 8, 24, 15, 16, 25, 26, 27, 28, 29, 30, 31, 32, 33, 34, 35, 36, 37, 38, 39, 40, 41, 42, 43, 44, 45, 46, 47, 48, 49, 50, 51, 52, 53, 80, 81, 82, 83] (by decide +kernel) (by decide +kernel)
set_option maxRecDepth 20000 in
theorem gX10_isWord_J0_charAt_5068e : GoodIn wsX10_isWord (wsV RX10 110 RJ0 yJ0_charAt_5068e wsJ0_charAt_5068e) := goodIn_app (goodIn_of _ (by decide +kernel)) ggX10_isWord_J0_charAt_5068e
theorem dX10_isWord_0 : decode cX10_isWord 0 = .ok (.aload_n 0, 1) := by decide +kernel
theorem dX10_isWord_1 : decode cX10_isWord 1 = .ok (.getfield 98, 3) := by decide +kernel
theorem dX10_isWord_4 : decode cX10_isWord 4 = .ok (.iconst 1, 1) := by decide +kernel
theorem dX10_isWord_5 : decode cX10_isWord 5 = .ok (.if_icmp .ne 23, 3) := by decide +kernel
theorem dX10_isWord_8 : decode cX10_isWord 8 = .ok (.aload_n 0, 1) := by decide +kernel
theorem dX10_isWord_9 : decode cX10_isWord 9 = .ok (.getfield 85, 3) := by decide +kernel
theorem dX10_isWord_12 : decode cX10_isWord 12 = .ok (.aload_n 0, 1) := by decide +kernel
theorem dX10_isWord_13 : decode cX10_isWord 13 = .ok (.getfield 92, 3) := by decide +kernel
theorem dX10_isWord_16 : decode cX10_isWord 16 = .ok (.isub, 1) := by decide +kernel
theorem dX10_isWord_17 : decode cX10_isWord 17 = .ok (.aload_n 1, 1) := by decide +kernel
theorem dX10_isWord_18 : decode cX10_isWord 18 = .ok (.invokevirtual 105, 3) := by decide +kernel
theorem dX10_isWord_21 : decode cX10_isWord 21 = .ok (.if_icmp .ne 7, 3) := by decide +kernel
theorem dX10_isWord_24 : decode cX10_isWord 24 = .ok (.iconst 1, 1) := by decide +kernel
theorem dX10_isWord_25 : decode cX10_isWord 25 = .ok (.goto 4, 3) := by decide +kernel
theorem dX10_isWord_28 : decode cX10_isWord 28 = .ok (.iconst 0, 1) := by decide +kernel
theorem dX10_isWord_29 : decode cX10_isWord 29 = .ok (.istore_n 2, 1) := by decide +kernel
theorem dX10_isWord_30 : decode cX10_isWord 30 = .ok (.iconst 0, 1) := by decide +kernel
theorem dX10_isWord_31 : decode cX10_isWord 31 = .ok (.istore_n 3, 1) := by decide +kernel
theorem dX10_isWord_32 : decode cX10_isWord 32 = .ok (.iload_n 3, 1) := by decide +kernel
theorem dX10_isWord_33 : decode cX10_isWord 33 = .ok (.aload_n 1, 1) := by decide +kernel
theorem dX10_isWord_34 : decode cX10_isWord 34 = .ok (.invokevirtual 105, 3) := by decide +kernel
theorem dX10_isWord_37 : decode cX10_isWord 37 = .ok (.if_icmp .ge 38, 3) := by decide +kernel
theorem dX10_isWord_40 : decode cX10_isWord 40 = .ok (.iload_n 2, 1) := by decide +kernel
theorem dX10_isWord_41 : decode cX10_isWord 41 = .ok (.ifCond .eq 34, 3) := by decide +kernel
theorem dX10_isWord_44 : decode cX10_isWord 44 = .ok (.aload_n 0, 1) := by decide +kernel
theorem dX10_isWord_45 : decode cX10_isWord 45 = .ok (.getfield 28, 3) := by decide +kernel
theorem dX10_isWord_48 : decode cX10_isWord 48 = .ok (.aload_n 0, 1) := by decide +kernel
theorem dX10_isWord_49 : decode cX10_isWord 49 = .ok (.getfield 92, 3) := by decide +kernel
theorem dX10_isWord_52 : decode cX10_isWord 52 = .ok (.iload_n 3, 1) := by decide +kernel
theorem dX10_isWord_53 : decode cX10_isWord 53 = .ok (.iadd, 1) := by decide +kernel
theorem dX10_isWord_54 : decode cX10_isWord 54 = .ok (.baload, 1) := by decide +kernel
theorem dX10_isWord_55 : decode cX10_isWord 55 = .ok (.aload_n 1, 1) := by decide +kernel
theorem dX10_isWord_56 : decode cX10_isWord 56 = .ok (.iload_n 3, 1) := by decide +kernel
theorem dX10_isWord_57 : decode cX10_isWord 57 = .ok (.invokevirtual 110, 3) := by decide +kernel
theorem dX10_isWord_60 : decode cX10_isWord 60 = .ok (.if_icmp .ne 7, 3) := by decide +kernel
theorem dX10_isWord_63 : decode cX10_isWord 63 = .ok (.iconst 1, 1) := by decide +kernel
theorem dX10_isWord_64 : decode cX10_isWord 64 = .ok (.goto 4, 3) := by decide +kernel
theorem dX10_isWord_67 : decode cX10_isWord 67 = .ok (.iconst 0, 1) := by decide +kernel
theorem dX10_isWord_68 : decode cX10_isWord 68 = .ok (.istore_n 2, 1) := by decide +kernel
theorem dX10_isWord_69 : decode cX10_isWord 69 = .ok (.iinc 3 1, 3) := by decide +kernel
theorem dX10_isWord_72 : decode cX10_isWord 72 = .ok (.goto (-40), 3) := by decide +kernel
theorem dX10_isWord_75 : decode cX10_isWord 75 = .ok (.iload_n 2, 1) := by decide +kernel
theorem dX10_isWord_76 : decode cX10_isWord 76 = .ok (.ireturn, 1) := by decide +kernel
theorem dX10_fails_0 : decode cX10_fails 0 = .ok (.aload_n 0, 1) := by decide +kernel
theorem dX10_fails_1 : decode cX10_fails 1 = .ok (.getfield 114, 3) := by decide +kernel
theorem dX10_fails_4 : decode cX10_fails 4 = .ok (.ifCond .ne 16, 3) := by decide +kernel
theorem dX10_fails_7 : decode cX10_fails 7 = .ok (.aload_n 0, 1) := by decide +kernel
theorem dX10_fails_8 : decode cX10_fails 8 = .ok (.iload_n 1, 1) := by decide +kernel
theorem dX10_fails_9 : decode cX10_fails 9 = .ok (.putfield 114, 3) := by decide +kernel
theorem dX10_fails_12 : decode cX10_fails 12 = .ok (.aload_n 0, 1) := by decide +kernel
theorem dX10_fails_13 : decode cX10_fails 13 = .ok (.aload_n 0, 1) := by decide +kernel
theorem dX10_fails_14 : decode cX10_fails 14 = .ok (.getfield 92, 3) := by decide +kernel
theorem dX10_fails_17 : decode cX10_fails 17 = .ok (.putfield 32, 3) := by decide +kernel
theorem dX10_fails_20 : decode cX10_fails 20 = .ok (.iconst 0, 1) := by decide +kernel
theorem dX10_fails_21 : decode cX10_fails 21 = .ok (.ireturn, 1) := by decide +kernel
set_option maxRecDepth 20000 in
theorem ggX10_takes_X10_fails : GoodIn wsX10_takes wsX10_fails := goodIn_r _ [8, 9, 10, 11, 26, 27, 28, 29, 30, 31, 32, 33, 34, 35, 36, 37, 38, 39, 40, 41, 42, 43, 44, 45, 46, 47, 48, 49, 50, 51] (by decide +kernel) (by decide +kernel)
set_option maxRecDepth 20000 in
theorem gX10_takes_X10_fails : GoodIn wsX10_takes (wsV RX10 117 RX10 yX10_fails wsX10_fails) := goodIn_app (goodIn_of _ (by decide +kernel)) ggX10_takes_X10_fails
set_option maxRecDepth 20000 in
theorem ggX10_takes_X10_within : GoodIn wsX10_takes wsX10_within := goodIn_r _ [14] (by decide +kernel) (by decide +kernel)
set_option maxRecDepth 20000 in
theorem gX10_takes_X10_within : GoodIn wsX10_takes (va_wsS RX10 101 yX10_within wsX10_within) := goodIn_app (goodIn_of _ (by decide +kernel)) ggX10_takes_X10_within
set_option maxRecDepth 20000 in
theorem ggX10_takes_X10_advance : GoodIn wsX10_takes wsX10_advance := goodIn_ca (goodIn_r _ [18, 19, 10, 2, 1, 20, 21, 22, 7, 23, 24, 25, 12, 13, 14, 26, 27, 28, 29, 30, 31, 32, 33, 34, 35, 36, 37, 38, 39, 40, 41, 42, 43, 44, 45, 46, 47, 48, 49, 50, 51] (by decide +kernel) (by decide +kernel)) (goodIn_sub (fun _ h => List.mem_cons_of_mem _ (List.mem_append_right _ h)) (by decide +kernel))
set_option maxRecDepth 20000 in
theorem gX10_takes_X10_advance : GoodIn wsX10_takes (wsV RX10 124 RX10 yX10_advance wsX10_advance) := goodIn_app (goodIn_of _ (by decide +kernel)) ggX10_takes_X10_advance
theorem dX10_takes_0 : decode cX10_takes 0 = .ok (.aload_n 0, 1) := by decide +kernel
theorem dX10_takes_1 : decode cX10_takes 1 = .ok (.getfield 98, 3) := by decide +kernel
theorem dX10_takes_4 : decode cX10_takes 4 = .ok (.iconst 2, 1) := by decide +kernel
theorem dX10_takes_5 : decode cX10_takes 5 = .ok (.if_icmp .eq 9, 3) := by decide +kernel
theorem dX10_takes_8 : decode cX10_takes 8 = .ok (.aload_n 0, 1) := by decide +kernel
theorem dX10_takes_9 : decode cX10_takes 9 = .ok (.iconst 1, 1) := by decide +kernel
theorem dX10_takes_10 : decode cX10_takes 10 = .ok (.invokevirtual 117, 3) := by decide +kernel
theorem dX10_takes_13 : decode cX10_takes 13 = .ok (.ireturn, 1) := by decide +kernel
theorem dX10_takes_14 : decode cX10_takes 14 = .ok (.aload_n 0, 1) := by decide +kernel
theorem dX10_takes_15 : decode cX10_takes 15 = .ok (.getfield 95, 3) := by decide +kernel
theorem dX10_takes_18 : decode cX10_takes 18 = .ok (.iload_n 1, 1) := by decide +kernel
theorem dX10_takes_19 : decode cX10_takes 19 = .ok (.iload_n 2, 1) := by decide +kernel
theorem dX10_takes_20 : decode cX10_takes 20 = .ok (.invokestatic 101, 3) := by decide +kernel
theorem dX10_takes_23 : decode cX10_takes 23 = .ok (.ifCond .ne 9, 3) := by decide +kernel
theorem dX10_takes_26 : decode cX10_takes 26 = .ok (.aload_n 0, 1) := by decide +kernel
theorem dX10_takes_27 : decode cX10_takes 27 = .ok (.iconst 3, 1) := by decide +kernel
theorem dX10_takes_28 : decode cX10_takes 28 = .ok (.invokevirtual 117, 3) := by decide +kernel
theorem dX10_takes_31 : decode cX10_takes 31 = .ok (.ireturn, 1) := by decide +kernel
theorem dX10_takes_32 : decode cX10_takes 32 = .ok (.aload_n 0, 1) := by decide +kernel
theorem dX10_takes_33 : decode cX10_takes 33 = .ok (.aload_n 0, 1) := by decide +kernel
theorem dX10_takes_34 : decode cX10_takes 34 = .ok (.getfield 95, 3) := by decide +kernel
theorem dX10_takes_37 : decode cX10_takes 37 = .ok (.putfield 121, 3) := by decide +kernel
theorem dX10_takes_40 : decode cX10_takes 40 = .ok (.aload_n 0, 1) := by decide +kernel
theorem dX10_takes_41 : decode cX10_takes 41 = .ok (.invokevirtual 124, 3) := by decide +kernel
theorem dX10_takes_44 : decode cX10_takes 44 = .ok (.iconst 1, 1) := by decide +kernel
theorem dX10_takes_45 : decode cX10_takes 45 = .ok (.ireturn, 1) := by decide +kernel
set_option maxRecDepth 20000 in
theorem ggX10_starts_X10_fails : GoodIn wsX10_starts wsX10_fails := goodIn_r _ [5, 6, 7, 8, 25, 26, 27, 28, 29, 30, 31, 32, 33, 34, 35, 36, 37, 38, 39, 40, 41, 42, 43, 44, 45, 46, 47, 48, 49, 50] (by decide +kernel) (by decide +kernel)
set_option maxRecDepth 20000 in
theorem gX10_starts_X10_fails : GoodIn wsX10_starts (wsV RX10 117 RX10 yX10_fails wsX10_fails) := goodIn_app (goodIn_of _ (by decide +kernel)) ggX10_starts_X10_fails
set_option maxRecDepth 20000 in
theorem ggX10_starts_X10_advance : GoodIn wsX10_starts wsX10_advance := goodIn_ca (goodIn_r _ [12, 13, 7, 14, 15, 16, 17, 18, 4, 19, 20, 21, 22, 23, 24, 25, 26, 27, 28, 29, 30, 31, 32, 33, 34, 35, 36, 37, 38, 39, 40, 41, 42, 43, 44, 45, 46, 47, 48, 49, 50] (by decide +kernel) (by decide +kernel)) (goodIn_sub (fun _ h => List.mem_cons_of_mem _ (List.mem_append_right _ h)) (by decide +kernel))
set_option maxRecDepth 20000 in
theorem gX10_starts_X10_advance : GoodIn wsX10_starts (wsV RX10 124 RX10 yX10_advance wsX10_advance) := goodIn_app (goodIn_of _ (by decide +kernel)) ggX10_starts_X10_advance
theorem dX10_starts_0 : decode cX10_starts 0 = .ok (.iload_n 2, 1) := by decide +kernel
theorem dX10_starts_1 : decode cX10_starts 1 = .ok (.ifCond .ne 9, 3) := by decide +kernel
theorem dX10_starts_4 : decode cX10_starts 4 = .ok (.aload_n 0, 1) := by decide +kernel
theorem dX10_starts_5 : decode cX10_starts 5 = .ok (.iload_n 1, 1) := by decide +kernel
theorem dX10_starts_6 : decode cX10_starts 6 = .ok (.invokevirtual 117, 3) := by decide +kernel
theorem dX10_starts_9 : decode cX10_starts 9 = .ok (.ireturn, 1) := by decide +kernel
theorem dX10_starts_10 : decode cX10_starts 10 = .ok (.aload_n 0, 1) := by decide +kernel
theorem dX10_starts_11 : decode cX10_starts 11 = .ok (.invokevirtual 124, 3) := by decide +kernel
theorem dX10_starts_14 : decode cX10_starts 14 = .ok (.iconst 1, 1) := by decide +kernel
theorem dX10_starts_15 : decode cX10_starts 15 = .ok (.ireturn, 1) := by decide +kernel
set_option maxRecDepth 20000 in
theorem ggX10_once_X10_starts : GoodIn wsX10_once wsX10_starts := goodIn_ca (goodIn_r _ [6, 7, 8, 9, 5, 10, 11, 12, 13, 14, 15, 16, 17, 18, 19, 20, 21, 22, 23, 24, 25, 26, 27, 28, 29, 30, 31, 32, 33, 34, 35, 36, 37, 38, 39, 40, 41, 42, 43, 44, 45, 46, 47, 48, 49, 50, 51, 52, 53, 54, 55] (by decide +kernel) (by decide +kernel)) (goodIn_sub (fun _ h => List.mem_cons_of_mem _ (List.mem_append_right _ h)) (by decide +kernel))
set_option maxRecDepth 20000 in
theorem gX10_once_X10_starts : GoodIn wsX10_once (wsV RX10 130 RX10 yX10_starts wsX10_starts) := goodIn_app (goodIn_of _ (by decide +kernel)) ggX10_once_X10_starts
theorem dX10_once_0 : decode cX10_once 0 = .ok (.aload_n 0, 1) := by decide +kernel
theorem dX10_once_1 : decode cX10_once 1 = .ok (.iconst 2, 1) := by decide +kernel
theorem dX10_once_2 : decode cX10_once 2 = .ok (.aload_n 0, 1) := by decide +kernel
theorem dX10_once_3 : decode cX10_once 3 = .ok (.getfield 127, 3) := by decide +kernel
theorem dX10_once_6 : decode cX10_once 6 = .ok (.iload_n 1, 1) := by decide +kernel
theorem dX10_once_7 : decode cX10_once 7 = .ok (.ishr, 1) := by decide +kernel
theorem dX10_once_8 : decode cX10_once 8 = .ok (.iconst 1, 1) := by decide +kernel
theorem dX10_once_9 : decode cX10_once 9 = .ok (.iand, 1) := by decide +kernel
theorem dX10_once_10 : decode cX10_once 10 = .ok (.ifCond .ne 7, 3) := by decide +kernel
theorem dX10_once_13 : decode cX10_once 13 = .ok (.iconst 1, 1) := by decide +kernel
theorem dX10_once_14 : decode cX10_once 14 = .ok (.goto 4, 3) := by decide +kernel
theorem dX10_once_17 : decode cX10_once 17 = .ok (.iconst 0, 1) := by decide +kernel
theorem dX10_once_18 : decode cX10_once 18 = .ok (.invokevirtual 130, 3) := by decide +kernel
theorem dX10_once_21 : decode cX10_once 21 = .ok (.ifCond .ne 5, 3) := by decide +kernel
theorem dX10_once_24 : decode cX10_once 24 = .ok (.iconst 0, 1) := by decide +kernel
theorem dX10_once_25 : decode cX10_once 25 = .ok (.ireturn, 1) := by decide +kernel
theorem dX10_once_26 : decode cX10_once 26 = .ok (.aload_n 0, 1) := by decide +kernel
theorem dX10_once_27 : decode cX10_once 27 = .ok (.dup, 1) := by decide +kernel
theorem dX10_once_28 : decode cX10_once 28 = .ok (.getfield 127, 3) := by decide +kernel
theorem dX10_once_31 : decode cX10_once 31 = .ok (.iconst 1, 1) := by decide +kernel
theorem dX10_once_32 : decode cX10_once 32 = .ok (.iload_n 1, 1) := by decide +kernel
theorem dX10_once_33 : decode cX10_once 33 = .ok (.ishl, 1) := by decide +kernel
theorem dX10_once_34 : decode cX10_once 34 = .ok (.ior, 1) := by decide +kernel
theorem dX10_once_35 : decode cX10_once 35 = .ok (.putfield 127, 3) := by decide +kernel
theorem dX10_once_38 : decode cX10_once 38 = .ok (.iconst 1, 1) := by decide +kernel
theorem dX10_once_39 : decode cX10_once 39 = .ok (.ireturn, 1) := by decide +kernel
set_option maxRecDepth 20000 in
theorem ggX10_sets_X10_takes : GoodIn wsX10_sets wsX10_takes := goodIn_ca (goodIn_r _ [6, 7, 8, 1, 9, 10, 11, 5, 12, 13, 14, 15, 16, 17, 18, 19, 20, 21, 22, 23, 24, 25, 26, 27, 28, 29, 35, 36, 37, 38, 39, 40, 41, 42, 43, 44, 45, 46, 47, 48, 49, 50, 51, 52, 53, 54, 55, 56, 57, 58, 59, 60] (by decide +kernel) (by decide +kernel)) (goodIn_sub (fun _ h => List.mem_cons_of_mem _ (List.mem_append_right _ h)) (by decide +kernel))
set_option maxRecDepth 20000 in
theorem gX10_sets_X10_takes : GoodIn wsX10_sets (wsV RX10 134 RX10 yX10_takes wsX10_takes) := goodIn_app (goodIn_of _ (by decide +kernel)) ggX10_sets_X10_takes
set_option maxRecDepth 20000 in
theorem ggX10_sets_X10_draft : GoodIn wsX10_sets wsX10_draft := goodIn_ca (goodIn_r _ [33, 34, 35, 36, 37, 38, 39, 40, 41, 42, 43, 44, 45, 46, 47, 48, 49, 50, 51, 52, 53, 54, 55, 56, 57, 58, 59, 60] (by decide +kernel) (by decide +kernel)) (goodIn_sub (fun _ h => List.mem_cons_of_mem _ (List.mem_append_right _ h)) (by decide +kernel))
set_option maxRecDepth 20000 in
theorem gX10_sets_X10_draft : GoodIn wsX10_sets (wsV RX10 71 RX10 yX10_draft wsX10_draft) := goodIn_app (goodIn_of _ (by decide +kernel)) ggX10_sets_X10_draft
theorem dX10_sets_0 : decode cX10_sets 0 = .ok (.aload_n 0, 1) := by decide +kernel
theorem dX10_sets_1 : decode cX10_sets 1 = .ok (.iload_n 2, 1) := by decide +kernel
theorem dX10_sets_2 : decode cX10_sets 2 = .ok (.iload_n 3, 1) := by decide +kernel
theorem dX10_sets_3 : decode cX10_sets 3 = .ok (.invokevirtual 134, 3) := by decide +kernel
theorem dX10_sets_6 : decode cX10_sets 6 = .ok (.ifCond .ne 5, 3) := by decide +kernel
theorem dX10_sets_9 : decode cX10_sets 9 = .ok (.iconst 0, 1) := by decide +kernel
theorem dX10_sets_10 : decode cX10_sets 10 = .ok (.ireturn, 1) := by decide +kernel
theorem dX10_sets_11 : decode cX10_sets 11 = .ok (.aload_n 0, 1) := by decide +kernel
theorem dX10_sets_12 : decode cX10_sets 12 = .ok (.iload_n 1, 1) := by decide +kernel
theorem dX10_sets_13 : decode cX10_sets 13 = .ok (.aload_n 0, 1) := by decide +kernel
theorem dX10_sets_14 : decode cX10_sets 14 = .ok (.getfield 121, 3) := by decide +kernel
theorem dX10_sets_17 : decode cX10_sets 17 = .ok (.invokevirtual 71, 3) := by decide +kernel
theorem dX10_sets_20 : decode cX10_sets 20 = .ok (.iconst 1, 1) := by decide +kernel
theorem dX10_sets_21 : decode cX10_sets 21 = .ok (.ireturn, 1) := by decide +kernel
set_option maxRecDepth 20000 in
theorem ggX10_puts_X10_takes : GoodIn wsX10_puts wsX10_takes := goodIn_ca (goodIn_r _ [6, 7, 8, 1, 9, 10, 11, 5, 12, 13, 14, 15, 16, 17, 18, 19, 20, 21, 22, 23, 24, 25, 26, 27, 28, 29, 30, 31, 32, 33, 34, 35, 36, 37, 38, 39, 40, 41, 42, 43, 44, 45, 46, 47, 48, 49, 50, 51, 52, 53, 54, 55] (by decide +kernel) (by decide +kernel)) (goodIn_sub (fun _ h => List.mem_cons_of_mem _ (List.mem_append_right _ h)) (by decide +kernel))
set_option maxRecDepth 20000 in
theorem gX10_puts_X10_takes : GoodIn wsX10_puts (wsV RX10 134 RX10 yX10_takes wsX10_takes) := goodIn_app (goodIn_of _ (by decide +kernel)) ggX10_puts_X10_takes
theorem dX10_puts_0 : decode cX10_puts 0 = .ok (.aload_n 0, 1) := by decide +kernel
theorem dX10_puts_1 : decode cX10_puts 1 = .ok (.iload_n 3, 1) := by decide +kernel
theorem dX10_puts_2 : decode cX10_puts 2 = .ok (.iload 4, 2) := by decide +kernel
theorem dX10_puts_4 : decode cX10_puts 4 = .ok (.invokevirtual 134, 3) := by decide +kernel
theorem dX10_puts_7 : decode cX10_puts 7 = .ok (.ifCond .ne 5, 3) := by decide +kernel
theorem dX10_puts_10 : decode cX10_puts 10 = .ok (.iconst 0, 1) := by decide +kernel
theorem dX10_puts_11 : decode cX10_puts 11 = .ok (.ireturn, 1) := by decide +kernel
theorem dX10_puts_12 : decode cX10_puts 12 = .ok (.aload_n 1, 1) := by decide +kernel
theorem dX10_puts_13 : decode cX10_puts 13 = .ok (.aload_n 1, 1) := by decide +kernel
theorem dX10_puts_14 : decode cX10_puts 14 = .ok (.arraylength, 1) := by decide +kernel
theorem dX10_puts_15 : decode cX10_puts 15 = .ok (.iconst 2, 1) := by decide +kernel
theorem dX10_puts_16 : decode cX10_puts 16 = .ok (.idiv, 1) := by decide +kernel
theorem dX10_puts_17 : decode cX10_puts 17 = .ok (.iload_n 2, 1) := by decide +kernel
theorem dX10_puts_18 : decode cX10_puts 18 = .ok (.iadd, 1) := by decide +kernel
theorem dX10_puts_19 : decode cX10_puts 19 = .ok (.aload_n 0, 1) := by decide +kernel
theorem dX10_puts_20 : decode cX10_puts 20 = .ok (.getfield 121, 3) := by decide +kernel
theorem dX10_puts_23 : decode cX10_puts 23 = .ok (.iastore, 1) := by decide +kernel
theorem dX10_puts_24 : decode cX10_puts 24 = .ok (.iconst 1, 1) := by decide +kernel
theorem dX10_puts_25 : decode cX10_puts 25 = .ok (.ireturn, 1) := by decide +kernel
set_option maxRecDepth 20000 in
theorem ggX10_stationLine_X10_starts : GoodIn wsX10_stationLine wsX10_starts := goodIn_ca (goodIn_r _ [8, 9, 10, 11, 7, 12, 13, 14, 15, 16, 17, 18, 19, 20, 21, 22, 23, 24, 25, 26, 27, 28, 29, 30, 31, 45, 46, 47, 48, 49, 50, 51, 52, 53, 54, 55, 56, 57, 58, 59, 60, 61, 62, 63, 64, 65, 66, 67, 68, 69, 70] (by decide +kernel) (by decide +kernel)) (goodIn_sub (fun _ h => List.mem_cons_of_mem _ (List.mem_append_right _ h)) (by decide +kernel))
set_option maxRecDepth 20000 in
theorem gX10_stationLine_X10_starts : GoodIn wsX10_stationLine (wsV RX10 130 RX10 yX10_starts wsX10_starts) := goodIn_app (goodIn_of _ (by decide +kernel)) ggX10_stationLine_X10_starts
set_option maxRecDepth 20000 in
theorem ggX10_stationLine_X10_puts : GoodIn wsX10_stationLine wsX10_puts := goodIn_ca (goodIn_r _ [35, 36, 37, 38, 39, 7, 40, 22, 21, 9, 10, 11, 12, 13, 14, 15, 29, 30, 31, 16, 17, 18, 19, 20, 23, 24, 25, 26, 27, 28, 45, 46, 47, 48, 49, 50, 51, 52, 53, 54, 55, 56, 57, 58, 59, 60, 61, 62, 63, 64, 65, 66, 67, 68, 69, 70] (by decide +kernel) (by decide +kernel)) (goodIn_sub (fun _ h => List.mem_cons_of_mem _ (List.mem_append_right _ h)) (by decide +kernel))
set_option maxRecDepth 20000 in
theorem gX10_stationLine_X10_puts : GoodIn wsX10_stationLine (wsV RX10 138 RX10 yX10_puts wsX10_puts) := goodIn_app (goodIn_of _ (by decide +kernel)) ggX10_stationLine_X10_puts
set_option maxRecDepth 20000 in
theorem ggX10_stationLine_X10_draft : GoodIn wsX10_stationLine wsX10_draft := goodIn_ca (goodIn_r _ [44, 1, 45, 46, 47, 48, 49, 50, 51, 52, 53, 54, 55, 56, 57, 58, 59, 60, 61, 62, 63, 64, 65, 66, 67, 68, 69, 70] (by decide +kernel) (by decide +kernel)) (goodIn_sub (fun _ h => List.mem_cons_of_mem _ (List.mem_append_right _ h)) (by decide +kernel))
set_option maxRecDepth 20000 in
theorem gX10_stationLine_X10_draft : GoodIn wsX10_stationLine (wsV RX10 71 RX10 yX10_draft wsX10_draft) := goodIn_app (goodIn_of _ (by decide +kernel)) ggX10_stationLine_X10_draft
theorem dX10_stationLine_0 : decode cX10_stationLine 0 = .ok (.aload_n 0, 1) := by decide +kernel
theorem dX10_stationLine_1 : decode cX10_stationLine 1 = .ok (.getfield 13, 3) := by decide +kernel
theorem dX10_stationLine_4 : decode cX10_stationLine 4 = .ok (.bipush 15, 2) := by decide +kernel
theorem dX10_stationLine_6 : decode cX10_stationLine 6 = .ok (.iaload, 1) := by decide +kernel
theorem dX10_stationLine_7 : decode cX10_stationLine 7 = .ok (.istore_n 1, 1) := by decide +kernel
theorem dX10_stationLine_8 : decode cX10_stationLine 8 = .ok (.aload_n 0, 1) := by decide +kernel
theorem dX10_stationLine_9 : decode cX10_stationLine 9 = .ok (.iconst 4, 1) := by decide +kernel
theorem dX10_stationLine_10 : decode cX10_stationLine 10 = .ok (.iload_n 1, 1) := by decide +kernel
theorem dX10_stationLine_11 : decode cX10_stationLine 11 = .ok (.bipush 8, 2) := by decide +kernel
theorem dX10_stationLine_13 : decode cX10_stationLine 13 = .ok (.if_icmp .ge 7, 3) := by decide +kernel
theorem dX10_stationLine_16 : decode cX10_stationLine 16 = .ok (.iconst 1, 1) := by decide +kernel
theorem dX10_stationLine_17 : decode cX10_stationLine 17 = .ok (.goto 4, 3) := by decide +kernel
theorem dX10_stationLine_20 : decode cX10_stationLine 20 = .ok (.iconst 0, 1) := by decide +kernel
theorem dX10_stationLine_21 : decode cX10_stationLine 21 = .ok (.invokevirtual 130, 3) := by decide +kernel
theorem dX10_stationLine_24 : decode cX10_stationLine 24 = .ok (.ifCond .eq 35, 3) := by decide +kernel
theorem dX10_stationLine_27 : decode cX10_stationLine 27 = .ok (.aload_n 0, 1) := by decide +kernel
theorem dX10_stationLine_28 : decode cX10_stationLine 28 = .ok (.aload_n 0, 1) := by decide +kernel
theorem dX10_stationLine_29 : decode cX10_stationLine 29 = .ok (.getfield 16, 3) := by decide +kernel
theorem dX10_stationLine_32 : decode cX10_stationLine 32 = .ok (.iload_n 1, 1) := by decide +kernel
theorem dX10_stationLine_33 : decode cX10_stationLine 33 = .ok (.iconst 0, 1) := by decide +kernel
theorem dX10_stationLine_34 : decode cX10_stationLine 34 = .ok (.sipush 999, 3) := by decide +kernel
theorem dX10_stationLine_37 : decode cX10_stationLine 37 = .ok (.invokevirtual 138, 3) := by decide +kernel
theorem dX10_stationLine_40 : decode cX10_stationLine 40 = .ok (.ifCond .eq 19, 3) := by decide +kernel
theorem dX10_stationLine_43 : decode cX10_stationLine 43 = .ok (.aload_n 0, 1) := by decide +kernel
theorem dX10_stationLine_44 : decode cX10_stationLine 44 = .ok (.aload_n 0, 1) := by decide +kernel
theorem dX10_stationLine_45 : decode cX10_stationLine 45 = .ok (.getfield 19, 3) := by decide +kernel
theorem dX10_stationLine_48 : decode cX10_stationLine 48 = .ok (.iload_n 1, 1) := by decide +kernel
theorem dX10_stationLine_49 : decode cX10_stationLine 49 = .ok (.iconst 0, 1) := by decide +kernel
theorem dX10_stationLine_50 : decode cX10_stationLine 50 = .ok (.sipush 999, 3) := by decide +kernel
theorem dX10_stationLine_53 : decode cX10_stationLine 53 = .ok (.invokevirtual 138, 3) := by decide +kernel
theorem dX10_stationLine_56 : decode cX10_stationLine 56 = .ok (.ifCond .ne 5, 3) := by decide +kernel
theorem dX10_stationLine_59 : decode cX10_stationLine 59 = .ok (.iconst 0, 1) := by decide +kernel
theorem dX10_stationLine_60 : decode cX10_stationLine 60 = .ok (.ireturn, 1) := by decide +kernel
theorem dX10_stationLine_61 : decode cX10_stationLine 61 = .ok (.aload_n 0, 1) := by decide +kernel
theorem dX10_stationLine_62 : decode cX10_stationLine 62 = .ok (.iconst 0, 1) := by decide +kernel
theorem dX10_stationLine_63 : decode cX10_stationLine 63 = .ok (.iload_n 1, 1) := by decide +kernel
theorem dX10_stationLine_64 : decode cX10_stationLine 64 = .ok (.iconst 1, 1) := by decide +kernel
theorem dX10_stationLine_65 : decode cX10_stationLine 65 = .ok (.iadd, 1) := by decide +kernel
theorem dX10_stationLine_66 : decode cX10_stationLine 66 = .ok (.invokevirtual 71, 3) := by decide +kernel
theorem dX10_stationLine_69 : decode cX10_stationLine 69 = .ok (.iconst 1, 1) := by decide +kernel
theorem dX10_stationLine_70 : decode cX10_stationLine 70 = .ok (.ireturn, 1) := by decide +kernel
set_option maxRecDepth 20000 in
theorem ggX10_rungLine_X10_starts : GoodIn wsX10_rungLine wsX10_starts := goodIn_ca (goodIn_r _ [8, 9, 10, 11, 7, 12, 13, 14, 15, 16, 17, 18, 19, 20, 21, 22, 23, 24, 25, 26, 27, 28, 29, 30, 31, 45, 46, 47, 48, 49, 50, 51, 52, 53, 54, 55, 56, 57, 58, 59, 60, 61, 62, 63, 64, 65, 66, 67, 68, 69, 70] (by decide +kernel) (by decide +kernel)) (goodIn_sub (fun _ h => List.mem_cons_of_mem _ (List.mem_append_right _ h)) (by decide +kernel))
set_option maxRecDepth 20000 in
theorem gX10_rungLine_X10_starts : GoodIn wsX10_rungLine (wsV RX10 130 RX10 yX10_starts wsX10_starts) := goodIn_app (goodIn_of _ (by decide +kernel)) ggX10_rungLine_X10_starts
set_option maxRecDepth 20000 in
theorem ggX10_rungLine_X10_puts : GoodIn wsX10_rungLine wsX10_puts := goodIn_ca (goodIn_r _ [35, 36, 37, 38, 39, 7, 40, 22, 21, 9, 10, 11, 12, 13, 14, 15, 29, 30, 31, 16, 17, 18, 19, 20, 23, 24, 25, 26, 27, 28, 45, 46, 47, 48, 49, 50, 51, 52, 53, 54, 55, 56, 57, 58, 59, 60, 61, 62, 63, 64, 65, 66, 67, 68, 69, 70] (by decide +kernel) (by decide +kernel)) (goodIn_sub (fun _ h => List.mem_cons_of_mem _ (List.mem_append_right _ h)) (by decide +kernel))
set_option maxRecDepth 20000 in
theorem gX10_rungLine_X10_puts : GoodIn wsX10_rungLine (wsV RX10 138 RX10 yX10_puts wsX10_puts) := goodIn_app (goodIn_of _ (by decide +kernel)) ggX10_rungLine_X10_puts
set_option maxRecDepth 20000 in
theorem ggX10_rungLine_X10_draft : GoodIn wsX10_rungLine wsX10_draft := goodIn_ca (goodIn_r _ [44, 1, 45, 46, 47, 48, 49, 50, 51, 52, 53, 54, 55, 56, 57, 58, 59, 60, 61, 62, 63, 64, 65, 66, 67, 68, 69, 70] (by decide +kernel) (by decide +kernel)) (goodIn_sub (fun _ h => List.mem_cons_of_mem _ (List.mem_append_right _ h)) (by decide +kernel))
set_option maxRecDepth 20000 in
theorem gX10_rungLine_X10_draft : GoodIn wsX10_rungLine (wsV RX10 71 RX10 yX10_draft wsX10_draft) := goodIn_app (goodIn_of _ (by decide +kernel)) ggX10_rungLine_X10_draft
theorem dX10_rungLine_0 : decode cX10_rungLine 0 = .ok (.aload_n 0, 1) := by decide +kernel
theorem dX10_rungLine_1 : decode cX10_rungLine 1 = .ok (.getfield 13, 3) := by decide +kernel
theorem dX10_rungLine_4 : decode cX10_rungLine 4 = .ok (.bipush 16, 2) := by decide +kernel
theorem dX10_rungLine_6 : decode cX10_rungLine 6 = .ok (.iaload, 1) := by decide +kernel
theorem dX10_rungLine_7 : decode cX10_rungLine 7 = .ok (.istore_n 1, 1) := by decide +kernel
theorem dX10_rungLine_8 : decode cX10_rungLine 8 = .ok (.aload_n 0, 1) := by decide +kernel
theorem dX10_rungLine_9 : decode cX10_rungLine 9 = .ok (.iconst 4, 1) := by decide +kernel
theorem dX10_rungLine_10 : decode cX10_rungLine 10 = .ok (.iload_n 1, 1) := by decide +kernel
theorem dX10_rungLine_11 : decode cX10_rungLine 11 = .ok (.bipush 8, 2) := by decide +kernel
theorem dX10_rungLine_13 : decode cX10_rungLine 13 = .ok (.if_icmp .ge 7, 3) := by decide +kernel
theorem dX10_rungLine_16 : decode cX10_rungLine 16 = .ok (.iconst 1, 1) := by decide +kernel
theorem dX10_rungLine_17 : decode cX10_rungLine 17 = .ok (.goto 4, 3) := by decide +kernel
theorem dX10_rungLine_20 : decode cX10_rungLine 20 = .ok (.iconst 0, 1) := by decide +kernel
theorem dX10_rungLine_21 : decode cX10_rungLine 21 = .ok (.invokevirtual 130, 3) := by decide +kernel
theorem dX10_rungLine_24 : decode cX10_rungLine 24 = .ok (.ifCond .eq 72, 3) := by decide +kernel
theorem dX10_rungLine_27 : decode cX10_rungLine 27 = .ok (.aload_n 0, 1) := by decide +kernel
theorem dX10_rungLine_28 : decode cX10_rungLine 28 = .ok (.aload_n 0, 1) := by decide +kernel
theorem dX10_rungLine_29 : decode cX10_rungLine 29 = .ok (.getfield 22, 3) := by decide +kernel
theorem dX10_rungLine_32 : decode cX10_rungLine 32 = .ok (.iload_n 1, 1) := by decide +kernel
theorem dX10_rungLine_33 : decode cX10_rungLine 33 = .ok (.iload_n 1, 1) := by decide +kernel
theorem dX10_rungLine_34 : decode cX10_rungLine 34 = .ok (.ifCond .ne 7, 3) := by decide +kernel
theorem dX10_rungLine_37 : decode cX10_rungLine 37 = .ok (.iconst 0, 1) := by decide +kernel
theorem dX10_rungLine_38 : decode cX10_rungLine 38 = .ok (.goto 16, 3) := by decide +kernel
theorem dX10_rungLine_41 : decode cX10_rungLine 41 = .ok (.aload_n 0, 1) := by decide +kernel
theorem dX10_rungLine_42 : decode cX10_rungLine 42 = .ok (.getfield 22, 3) := by decide +kernel
theorem dX10_rungLine_45 : decode cX10_rungLine 45 = .ok (.bipush 8, 2) := by decide +kernel
theorem dX10_rungLine_47 : decode cX10_rungLine 47 = .ok (.iload_n 1, 1) := by decide +kernel
theorem dX10_rungLine_48 : decode cX10_rungLine 48 = .ok (.iadd, 1) := by decide +kernel
theorem dX10_rungLine_49 : decode cX10_rungLine 49 = .ok (.iconst 1, 1) := by decide +kernel
theorem dX10_rungLine_50 : decode cX10_rungLine 50 = .ok (.isub, 1) := by decide +kernel
theorem dX10_rungLine_51 : decode cX10_rungLine 51 = .ok (.iaload, 1) := by decide +kernel
theorem dX10_rungLine_52 : decode cX10_rungLine 52 = .ok (.iconst 1, 1) := by decide +kernel
theorem dX10_rungLine_53 : decode cX10_rungLine 53 = .ok (.iadd, 1) := by decide +kernel
theorem dX10_rungLine_54 : decode cX10_rungLine 54 = .ok (.sipush 9999, 3) := by decide +kernel
theorem dX10_rungLine_57 : decode cX10_rungLine 57 = .ok (.invokevirtual 138, 3) := by decide +kernel
theorem dX10_rungLine_60 : decode cX10_rungLine 60 = .ok (.ifCond .eq 36, 3) := by decide +kernel
theorem dX10_rungLine_63 : decode cX10_rungLine 63 = .ok (.aload_n 0, 1) := by decide +kernel
theorem dX10_rungLine_64 : decode cX10_rungLine 64 = .ok (.aload_n 0, 1) := by decide +kernel
theorem dX10_rungLine_65 : decode cX10_rungLine 65 = .ok (.getfield 25, 3) := by decide +kernel
theorem dX10_rungLine_68 : decode cX10_rungLine 68 = .ok (.iload_n 1, 1) := by decide +kernel
theorem dX10_rungLine_69 : decode cX10_rungLine 69 = .ok (.iload_n 1, 1) := by decide +kernel
theorem dX10_rungLine_70 : decode cX10_rungLine 70 = .ok (.ifCond .ne 7, 3) := by decide +kernel
theorem dX10_rungLine_73 : decode cX10_rungLine 73 = .ok (.iconst 0, 1) := by decide +kernel
theorem dX10_rungLine_74 : decode cX10_rungLine 74 = .ok (.goto 14, 3) := by decide +kernel
theorem dX10_rungLine_77 : decode cX10_rungLine 77 = .ok (.aload_n 0, 1) := by decide +kernel
theorem dX10_rungLine_78 : decode cX10_rungLine 78 = .ok (.getfield 25, 3) := by decide +kernel
theorem dX10_rungLine_81 : decode cX10_rungLine 81 = .ok (.bipush 8, 2) := by decide +kernel
theorem dX10_rungLine_83 : decode cX10_rungLine 83 = .ok (.iload_n 1, 1) := by decide +kernel
theorem dX10_rungLine_84 : decode cX10_rungLine 84 = .ok (.iadd, 1) := by decide +kernel
theorem dX10_rungLine_85 : decode cX10_rungLine 85 = .ok (.iconst 1, 1) := by decide +kernel
theorem dX10_rungLine_86 : decode cX10_rungLine 86 = .ok (.isub, 1) := by decide +kernel
theorem dX10_rungLine_87 : decode cX10_rungLine 87 = .ok (.iaload, 1) := by decide +kernel
theorem dX10_rungLine_88 : decode cX10_rungLine 88 = .ok (.bipush 99, 2) := by decide +kernel
theorem dX10_rungLine_90 : decode cX10_rungLine 90 = .ok (.invokevirtual 138, 3) := by decide +kernel
theorem dX10_rungLine_93 : decode cX10_rungLine 93 = .ok (.ifCond .ne 5, 3) := by decide +kernel
theorem dX10_rungLine_96 : decode cX10_rungLine 96 = .ok (.iconst 0, 1) := by decide +kernel
theorem dX10_rungLine_97 : decode cX10_rungLine 97 = .ok (.ireturn, 1) := by decide +kernel
theorem dX10_rungLine_98 : decode cX10_rungLine 98 = .ok (.aload_n 0, 1) := by decide +kernel
theorem dX10_rungLine_99 : decode cX10_rungLine 99 = .ok (.iconst 1, 1) := by decide +kernel
theorem dX10_rungLine_100 : decode cX10_rungLine 100 = .ok (.iload_n 1, 1) := by decide +kernel
theorem dX10_rungLine_101 : decode cX10_rungLine 101 = .ok (.iconst 1, 1) := by decide +kernel
theorem dX10_rungLine_102 : decode cX10_rungLine 102 = .ok (.iadd, 1) := by decide +kernel
theorem dX10_rungLine_103 : decode cX10_rungLine 103 = .ok (.invokevirtual 71, 3) := by decide +kernel
theorem dX10_rungLine_106 : decode cX10_rungLine 106 = .ok (.iconst 1, 1) := by decide +kernel
theorem dX10_rungLine_107 : decode cX10_rungLine 107 = .ok (.ireturn, 1) := by decide +kernel
set_option maxRecDepth 20000 in
theorem ggX10_statement_X10_isWord : GoodIn wsX10_statement wsX10_isWord := goodIn_ca (goodIn_r _ [6, 7, 8, 9, 10, 11, 12, 13, 14, 15, 16, 17, 18, 19, 20, 21, 22, 23, 24, 25, 26, 27, 28, 29, 30, 31, 32, 33, 34, 35, 36, 37, 38, 39, 40, 41, 42, 43, 44, 45, 46, 47, 48, 49, 50, 51, 52, 53, 54, 55, 56, 57, 58, 59, 117, 118, 119, 120, 121, 122, 123, 124, 125, 126, 127, 128, 129, 130, 131, 132, 133, 134, 135, 136, 137, 138, 139, 140, 141, 142, 143, 144, 145, 146] (by decide +kernel) (by decide +kernel)) (goodIn_sub (fun _ h => List.mem_cons_of_mem _ (List.mem_append_right _ h)) (by decide +kernel))
set_option maxRecDepth 20000 in
theorem gX10_statement_X10_isWord : GoodIn wsX10_statement (wsV RX10 144 RX10 yX10_isWord wsX10_isWord) := goodIn_app (goodIn_of _ (by decide +kernel)) ggX10_statement_X10_isWord
set_option maxRecDepth 20000 in
theorem ggX10_statement_X10_stationLine : GoodIn wsX10_statement wsX10_stationLine := goodIn_ca (goodIn_r _ [63, 64, 65, 66, 67, 68, 69, 5, 70, 71, 72, 73, 74, 75, 9, 76, 77, 78, 79, 80, 8, 81, 7, 82, 83, 84, 85, 86, 10, 87, 88, 89, 90, 91, 92, 93, 1, 94, 95, 96, 97, 98, 99, 100, 101, 117, 118, 119, 120, 121, 122, 123, 124, 125, 126, 127, 128, 129, 130, 131, 132, 133, 134, 135, 136, 137, 138, 139, 140, 141, 142] (by decide +kernel) (by decide +kernel)) (goodIn_sub (fun _ h => List.mem_cons_of_mem _ (List.mem_append_right _ h)) (by decide +kernel))
set_option maxRecDepth 20000 in
theorem gX10_statement_X10_stationLine : GoodIn wsX10_statement (wsV RX10 148 RX10 yX10_stationLine wsX10_stationLine) := goodIn_app (goodIn_of _ (by decide +kernel)) ggX10_statement_X10_stationLine
set_option maxRecDepth 20000 in
theorem ggX10_statement_X10_rungLine : GoodIn wsX10_statement wsX10_rungLine := goodIn_ca (goodIn_r _ [105, 64, 106, 107, 67, 68, 69, 5, 70, 71, 72, 73, 74, 75, 9, 76, 77, 78, 79, 80, 8, 81, 7, 82, 83, 84, 85, 86, 10, 87, 88, 89, 90, 91, 92, 93, 1, 94, 95, 96, 97, 98, 99, 100, 101, 117, 118, 119, 120, 121, 122, 123, 124, 125, 126, 127, 128, 129, 130, 131, 132, 133, 134, 135, 136, 137, 138, 139, 140, 141, 142] (by decide +kernel) (by decide +kernel)) (goodIn_sub (fun _ h => List.mem_cons_of_mem _ (List.mem_append_right _ h)) (by decide +kernel))
set_option maxRecDepth 20000 in
theorem gX10_statement_X10_rungLine : GoodIn wsX10_statement (wsV RX10 154 RX10 yX10_rungLine wsX10_rungLine) := goodIn_app (goodIn_of _ (by decide +kernel)) ggX10_statement_X10_rungLine
set_option maxRecDepth 20000 in
theorem ggX10_statement_X10_once : GoodIn wsX10_statement wsX10_once := goodIn_ca (goodIn_r _ [111, 112, 67, 68, 69, 5, 70, 71, 72, 73, 74, 75, 9, 76, 77, 78, 79, 80, 8, 81, 7, 82, 83, 84, 85, 86, 10, 87, 88, 89, 117, 118, 119, 120, 121, 122, 123, 124, 125, 126, 127, 128, 129, 130, 131, 132, 133, 134, 135, 136, 137, 138, 139, 140, 141, 142] (by decide +kernel) (by decide +kernel)) (goodIn_sub (fun _ h => List.mem_cons_of_mem _ (List.mem_append_right _ h)) (by decide +kernel))
set_option maxRecDepth 20000 in
theorem gX10_statement_X10_once : GoodIn wsX10_statement (wsV RX10 159 RX10 yX10_once wsX10_once) := goodIn_app (goodIn_of _ (by decide +kernel)) ggX10_statement_X10_once
set_option maxRecDepth 20000 in
theorem ggX10_statement_X10_sets : GoodIn wsX10_statement wsX10_sets := goodIn_ca (goodIn_r _ [116, 1, 94, 95, 96, 5, 97, 7, 81, 71, 72, 73, 74, 75, 9, 76, 87, 88, 89, 77, 78, 79, 80, 8, 82, 83, 84, 85, 86, 10, 98, 99, 100, 101, 64, 117, 118, 119, 120, 121, 122, 123, 124, 125, 126, 127, 128, 129, 130, 131, 132, 133, 134, 135, 136, 137, 138, 139, 140, 141, 142] (by decide +kernel) (by decide +kernel)) (goodIn_sub (fun _ h => List.mem_cons_of_mem _ (List.mem_append_right _ h)) (by decide +kernel))
set_option maxRecDepth 20000 in
theorem gX10_statement_X10_sets : GoodIn wsX10_statement (wsV RX10 162 RX10 yX10_sets wsX10_sets) := goodIn_app (goodIn_of _ (by decide +kernel)) ggX10_statement_X10_sets
set_option maxRecDepth 20000 in
theorem ggX10_statement_X10_fails : GoodIn wsX10_statement wsX10_fails := goodIn_r _ [74, 75, 9, 76, 117, 118, 119, 120, 121, 122, 123, 124, 125, 126, 127, 128, 129, 130, 131, 132, 133, 134, 135, 136, 137, 138, 139, 140, 141, 142] (by decide +kernel) (by decide +kernel)
set_option maxRecDepth 20000 in
theorem gX10_statement_X10_fails : GoodIn wsX10_statement (wsV RX10 117 RX10 yX10_fails wsX10_fails) := goodIn_app (goodIn_of _ (by decide +kernel)) ggX10_statement_X10_fails
theorem dX10_statement_0 : decode cX10_statement 0 = .ok (.aload_n 0, 1) := by decide +kernel
theorem dX10_statement_1 : decode cX10_statement 1 = .ok (.ldc 142, 2) := by decide +kernel
theorem dX10_statement_3 : decode cX10_statement 3 = .ok (.invokevirtual 144, 3) := by decide +kernel
theorem dX10_statement_6 : decode cX10_statement 6 = .ok (.ifCond .eq 8, 3) := by decide +kernel
theorem dX10_statement_9 : decode cX10_statement 9 = .ok (.aload_n 0, 1) := by decide +kernel
theorem dX10_statement_10 : decode cX10_statement 10 = .ok (.invokevirtual 148, 3) := by decide +kernel
theorem dX10_statement_13 : decode cX10_statement 13 = .ok (.ireturn, 1) := by decide +kernel
theorem dX10_statement_14 : decode cX10_statement 14 = .ok (.aload_n 0, 1) := by decide +kernel
theorem dX10_statement_15 : decode cX10_statement 15 = .ok (.ldc 152, 2) := by decide +kernel
theorem dX10_statement_17 : decode cX10_statement 17 = .ok (.invokevirtual 144, 3) := by decide +kernel
theorem dX10_statement_20 : decode cX10_statement 20 = .ok (.ifCond .eq 8, 3) := by decide +kernel
theorem dX10_statement_23 : decode cX10_statement 23 = .ok (.aload_n 0, 1) := by decide +kernel
theorem dX10_statement_24 : decode cX10_statement 24 = .ok (.invokevirtual 154, 3) := by decide +kernel
theorem dX10_statement_27 : decode cX10_statement 27 = .ok (.ireturn, 1) := by decide +kernel
theorem dX10_statement_28 : decode cX10_statement 28 = .ok (.aload_n 0, 1) := by decide +kernel
theorem dX10_statement_29 : decode cX10_statement 29 = .ok (.ldc 157, 2) := by decide +kernel
theorem dX10_statement_31 : decode cX10_statement 31 = .ok (.invokevirtual 144, 3) := by decide +kernel
theorem dX10_statement_34 : decode cX10_statement 34 = .ok (.ifCond .eq 75, 3) := by decide +kernel
theorem dX10_statement_37 : decode cX10_statement 37 = .ok (.aload_n 0, 1) := by decide +kernel
theorem dX10_statement_38 : decode cX10_statement 38 = .ok (.iconst 0, 1) := by decide +kernel
theorem dX10_statement_39 : decode cX10_statement 39 = .ok (.invokevirtual 159, 3) := by decide +kernel
theorem dX10_statement_42 : decode cX10_statement 42 = .ok (.ifCond .eq 65, 3) := by decide +kernel
theorem dX10_statement_45 : decode cX10_statement 45 = .ok (.aload_n 0, 1) := by decide +kernel
theorem dX10_statement_46 : decode cX10_statement 46 = .ok (.iconst 2, 1) := by decide +kernel
theorem dX10_statement_47 : decode cX10_statement 47 = .ok (.iconst 0, 1) := by decide +kernel
theorem dX10_statement_48 : decode cX10_statement 48 = .ok (.sipush 999, 3) := by decide +kernel
theorem dX10_statement_51 : decode cX10_statement 51 = .ok (.invokevirtual 162, 3) := by decide +kernel
theorem dX10_statement_54 : decode cX10_statement 54 = .ok (.ifCond .eq 53, 3) := by decide +kernel
theorem dX10_statement_57 : decode cX10_statement 57 = .ok (.aload_n 0, 1) := by decide +kernel
theorem dX10_statement_58 : decode cX10_statement 58 = .ok (.iconst 3, 1) := by decide +kernel
theorem dX10_statement_59 : decode cX10_statement 59 = .ok (.iconst 0, 1) := by decide +kernel
theorem dX10_statement_60 : decode cX10_statement 60 = .ok (.sipush 999, 3) := by decide +kernel
theorem dX10_statement_63 : decode cX10_statement 63 = .ok (.invokevirtual 162, 3) := by decide +kernel
theorem dX10_statement_66 : decode cX10_statement 66 = .ok (.ifCond .eq 41, 3) := by decide +kernel
theorem dX10_statement_69 : decode cX10_statement 69 = .ok (.aload_n 0, 1) := by decide +kernel
theorem dX10_statement_70 : decode cX10_statement 70 = .ok (.iconst 4, 1) := by decide +kernel
theorem dX10_statement_71 : decode cX10_statement 71 = .ok (.iconst 1, 1) := by decide +kernel
theorem dX10_statement_72 : decode cX10_statement 72 = .ok (.bipush 12, 2) := by decide +kernel
theorem dX10_statement_74 : decode cX10_statement 74 = .ok (.invokevirtual 162, 3) := by decide +kernel
theorem dX10_statement_77 : decode cX10_statement 77 = .ok (.ifCond .eq 30, 3) := by decide +kernel
theorem dX10_statement_80 : decode cX10_statement 80 = .ok (.aload_n 0, 1) := by decide +kernel
theorem dX10_statement_81 : decode cX10_statement 81 = .ok (.iconst 5, 1) := by decide +kernel
theorem dX10_statement_82 : decode cX10_statement 82 = .ok (.iconst 1, 1) := by decide +kernel
theorem dX10_statement_83 : decode cX10_statement 83 = .ok (.bipush 12, 2) := by decide +kernel
theorem dX10_statement_85 : decode cX10_statement 85 = .ok (.invokevirtual 162, 3) := by decide +kernel
theorem dX10_statement_88 : decode cX10_statement 88 = .ok (.ifCond .eq 19, 3) := by decide +kernel
theorem dX10_statement_91 : decode cX10_statement 91 = .ok (.aload_n 0, 1) := by decide +kernel
theorem dX10_statement_92 : decode cX10_statement 92 = .ok (.bipush 6, 2) := by decide +kernel
theorem dX10_statement_94 : decode cX10_statement 94 = .ok (.iconst 1, 1) := by decide +kernel
theorem dX10_statement_95 : decode cX10_statement 95 = .ok (.bipush 99, 2) := by decide +kernel
theorem dX10_statement_97 : decode cX10_statement 97 = .ok (.invokevirtual 162, 3) := by decide +kernel
theorem dX10_statement_100 : decode cX10_statement 100 = .ok (.ifCond .eq 7, 3) := by decide +kernel
theorem dX10_statement_103 : decode cX10_statement 103 = .ok (.iconst 1, 1) := by decide +kernel
theorem dX10_statement_104 : decode cX10_statement 104 = .ok (.goto 4, 3) := by decide +kernel
theorem dX10_statement_107 : decode cX10_statement 107 = .ok (.iconst 0, 1) := by decide +kernel
theorem dX10_statement_108 : decode cX10_statement 108 = .ok (.ireturn, 1) := by decide +kernel
theorem dX10_statement_109 : decode cX10_statement 109 = .ok (.aload_n 0, 1) := by decide +kernel
theorem dX10_statement_110 : decode cX10_statement 110 = .ok (.ldc 165, 2) := by decide +kernel
theorem dX10_statement_112 : decode cX10_statement 112 = .ok (.invokevirtual 144, 3) := by decide +kernel
theorem dX10_statement_115 : decode cX10_statement 115 = .ok (.ifCond .eq 30, 3) := by decide +kernel
theorem dX10_statement_118 : decode cX10_statement 118 = .ok (.aload_n 0, 1) := by decide +kernel
theorem dX10_statement_119 : decode cX10_statement 119 = .ok (.iconst 1, 1) := by decide +kernel
theorem dX10_statement_120 : decode cX10_statement 120 = .ok (.invokevirtual 159, 3) := by decide +kernel
theorem dX10_statement_123 : decode cX10_statement 123 = .ok (.ifCond .eq 20, 3) := by decide +kernel
theorem dX10_statement_126 : decode cX10_statement 126 = .ok (.aload_n 0, 1) := by decide +kernel
theorem dX10_statement_127 : decode cX10_statement 127 = .ok (.bipush 7, 2) := by decide +kernel
theorem dX10_statement_129 : decode cX10_statement 129 = .ok (.iconst 1, 1) := by decide +kernel
theorem dX10_statement_130 : decode cX10_statement 130 = .ok (.sipush 999, 3) := by decide +kernel
theorem dX10_statement_133 : decode cX10_statement 133 = .ok (.invokevirtual 162, 3) := by decide +kernel
theorem dX10_statement_136 : decode cX10_statement 136 = .ok (.ifCond .eq 7, 3) := by decide +kernel
theorem dX10_statement_139 : decode cX10_statement 139 = .ok (.iconst 1, 1) := by decide +kernel
theorem dX10_statement_140 : decode cX10_statement 140 = .ok (.goto 4, 3) := by decide +kernel
theorem dX10_statement_143 : decode cX10_statement 143 = .ok (.iconst 0, 1) := by decide +kernel
theorem dX10_statement_144 : decode cX10_statement 144 = .ok (.ireturn, 1) := by decide +kernel
theorem dX10_statement_145 : decode cX10_statement 145 = .ok (.aload_n 0, 1) := by decide +kernel
theorem dX10_statement_146 : decode cX10_statement 146 = .ok (.ldc 167, 2) := by decide +kernel
theorem dX10_statement_148 : decode cX10_statement 148 = .ok (.invokevirtual 144, 3) := by decide +kernel
theorem dX10_statement_151 : decode cX10_statement 151 = .ok (.ifCond .eq 44, 3) := by decide +kernel
theorem dX10_statement_154 : decode cX10_statement 154 = .ok (.aload_n 0, 1) := by decide +kernel
theorem dX10_statement_155 : decode cX10_statement 155 = .ok (.iconst 2, 1) := by decide +kernel
theorem dX10_statement_156 : decode cX10_statement 156 = .ok (.invokevirtual 159, 3) := by decide +kernel
theorem dX10_statement_159 : decode cX10_statement 159 = .ok (.ifCond .eq 34, 3) := by decide +kernel
theorem dX10_statement_162 : decode cX10_statement 162 = .ok (.aload_n 0, 1) := by decide +kernel
theorem dX10_statement_163 : decode cX10_statement 163 = .ok (.bipush 8, 2) := by decide +kernel
theorem dX10_statement_165 : decode cX10_statement 165 = .ok (.iconst 1, 1) := by decide +kernel
theorem dX10_statement_166 : decode cX10_statement 166 = .ok (.bipush 50, 2) := by decide +kernel
theorem dX10_statement_168 : decode cX10_statement 168 = .ok (.invokevirtual 162, 3) := by decide +kernel
theorem dX10_statement_171 : decode cX10_statement 171 = .ok (.ifCond .eq 22, 3) := by decide +kernel
theorem dX10_statement_174 : decode cX10_statement 174 = .ok (.aload_n 0, 1) := by decide +kernel
theorem dX10_statement_175 : decode cX10_statement 175 = .ok (.bipush 9, 2) := by decide +kernel
theorem dX10_statement_177 : decode cX10_statement 177 = .ok (.aload_n 0, 1) := by decide +kernel
theorem dX10_statement_178 : decode cX10_statement 178 = .ok (.getfield 121, 3) := by decide +kernel
theorem dX10_statement_181 : decode cX10_statement 181 = .ok (.bipush 99, 2) := by decide +kernel
theorem dX10_statement_183 : decode cX10_statement 183 = .ok (.invokevirtual 162, 3) := by decide +kernel
theorem dX10_statement_186 : decode cX10_statement 186 = .ok (.ifCond .eq 7, 3) := by decide +kernel
theorem dX10_statement_189 : decode cX10_statement 189 = .ok (.iconst 1, 1) := by decide +kernel
theorem dX10_statement_190 : decode cX10_statement 190 = .ok (.goto 4, 3) := by decide +kernel
theorem dX10_statement_193 : decode cX10_statement 193 = .ok (.iconst 0, 1) := by decide +kernel
theorem dX10_statement_194 : decode cX10_statement 194 = .ok (.ireturn, 1) := by decide +kernel
theorem dX10_statement_195 : decode cX10_statement 195 = .ok (.aload_n 0, 1) := by decide +kernel
theorem dX10_statement_196 : decode cX10_statement 196 = .ok (.ldc 169, 2) := by decide +kernel
theorem dX10_statement_198 : decode cX10_statement 198 = .ok (.invokevirtual 144, 3) := by decide +kernel
theorem dX10_statement_201 : decode cX10_statement 201 = .ok (.ifCond .eq 44, 3) := by decide +kernel
theorem dX10_statement_204 : decode cX10_statement 204 = .ok (.aload_n 0, 1) := by decide +kernel
theorem dX10_statement_205 : decode cX10_statement 205 = .ok (.iconst 3, 1) := by decide +kernel
theorem dX10_statement_206 : decode cX10_statement 206 = .ok (.invokevirtual 159, 3) := by decide +kernel
theorem dX10_statement_209 : decode cX10_statement 209 = .ok (.ifCond .eq 34, 3) := by decide +kernel
theorem dX10_statement_212 : decode cX10_statement 212 = .ok (.aload_n 0, 1) := by decide +kernel
theorem dX10_statement_213 : decode cX10_statement 213 = .ok (.bipush 10, 2) := by decide +kernel
theorem dX10_statement_215 : decode cX10_statement 215 = .ok (.iconst 1, 1) := by decide +kernel
theorem dX10_statement_216 : decode cX10_statement 216 = .ok (.sipush 9999, 3) := by decide +kernel
theorem dX10_statement_219 : decode cX10_statement 219 = .ok (.invokevirtual 162, 3) := by decide +kernel
theorem dX10_statement_222 : decode cX10_statement 222 = .ok (.ifCond .eq 21, 3) := by decide +kernel
theorem dX10_statement_225 : decode cX10_statement 225 = .ok (.aload_n 0, 1) := by decide +kernel
theorem dX10_statement_226 : decode cX10_statement 226 = .ok (.bipush 11, 2) := by decide +kernel
theorem dX10_statement_228 : decode cX10_statement 228 = .ok (.iconst 0, 1) := by decide +kernel
theorem dX10_statement_229 : decode cX10_statement 229 = .ok (.aload_n 0, 1) := by decide +kernel
theorem dX10_statement_230 : decode cX10_statement 230 = .ok (.getfield 121, 3) := by decide +kernel
theorem dX10_statement_233 : decode cX10_statement 233 = .ok (.invokevirtual 162, 3) := by decide +kernel
theorem dX10_statement_236 : decode cX10_statement 236 = .ok (.ifCond .eq 7, 3) := by decide +kernel
theorem dX10_statement_239 : decode cX10_statement 239 = .ok (.iconst 1, 1) := by decide +kernel
theorem dX10_statement_240 : decode cX10_statement 240 = .ok (.goto 4, 3) := by decide +kernel
theorem dX10_statement_243 : decode cX10_statement 243 = .ok (.iconst 0, 1) := by decide +kernel
theorem dX10_statement_244 : decode cX10_statement 244 = .ok (.ireturn, 1) := by decide +kernel
theorem dX10_statement_245 : decode cX10_statement 245 = .ok (.aload_n 0, 1) := by decide +kernel
theorem dX10_statement_246 : decode cX10_statement 246 = .ok (.ldc 171, 2) := by decide +kernel
theorem dX10_statement_248 : decode cX10_statement 248 = .ok (.invokevirtual 144, 3) := by decide +kernel
theorem dX10_statement_251 : decode cX10_statement 251 = .ok (.ifCond .eq 29, 3) := by decide +kernel
theorem dX10_statement_254 : decode cX10_statement 254 = .ok (.aload_n 0, 1) := by decide +kernel
theorem dX10_statement_255 : decode cX10_statement 255 = .ok (.iconst 4, 1) := by decide +kernel
theorem dX10_statement_256 : decode cX10_statement 256 = .ok (.invokevirtual 159, 3) := by decide +kernel
theorem dX10_statement_259 : decode cX10_statement 259 = .ok (.ifCond .eq 19, 3) := by decide +kernel
theorem dX10_statement_262 : decode cX10_statement 262 = .ok (.aload_n 0, 1) := by decide +kernel
theorem dX10_statement_263 : decode cX10_statement 263 = .ok (.bipush 12, 2) := by decide +kernel
theorem dX10_statement_265 : decode cX10_statement 265 = .ok (.iconst 1, 1) := by decide +kernel
theorem dX10_statement_266 : decode cX10_statement 266 = .ok (.bipush 8, 2) := by decide +kernel
theorem dX10_statement_268 : decode cX10_statement 268 = .ok (.invokevirtual 162, 3) := by decide +kernel
theorem dX10_statement_271 : decode cX10_statement 271 = .ok (.ifCond .eq 7, 3) := by decide +kernel
theorem dX10_statement_274 : decode cX10_statement 274 = .ok (.iconst 1, 1) := by decide +kernel
theorem dX10_statement_275 : decode cX10_statement 275 = .ok (.goto 4, 3) := by decide +kernel
theorem dX10_statement_278 : decode cX10_statement 278 = .ok (.iconst 0, 1) := by decide +kernel
theorem dX10_statement_279 : decode cX10_statement 279 = .ok (.ireturn, 1) := by decide +kernel
theorem dX10_statement_280 : decode cX10_statement 280 = .ok (.aload_n 0, 1) := by decide +kernel
theorem dX10_statement_281 : decode cX10_statement 281 = .ok (.ldc 173, 2) := by decide +kernel
theorem dX10_statement_283 : decode cX10_statement 283 = .ok (.invokevirtual 144, 3) := by decide +kernel
theorem dX10_statement_286 : decode cX10_statement 286 = .ok (.ifCond .eq 29, 3) := by decide +kernel
theorem dX10_statement_289 : decode cX10_statement 289 = .ok (.aload_n 0, 1) := by decide +kernel
theorem dX10_statement_290 : decode cX10_statement 290 = .ok (.iconst 5, 1) := by decide +kernel
theorem dX10_statement_291 : decode cX10_statement 291 = .ok (.invokevirtual 159, 3) := by decide +kernel
theorem dX10_statement_294 : decode cX10_statement 294 = .ok (.ifCond .eq 19, 3) := by decide +kernel
theorem dX10_statement_297 : decode cX10_statement 297 = .ok (.aload_n 0, 1) := by decide +kernel
theorem dX10_statement_298 : decode cX10_statement 298 = .ok (.bipush 13, 2) := by decide +kernel
theorem dX10_statement_300 : decode cX10_statement 300 = .ok (.iconst 0, 1) := by decide +kernel
theorem dX10_statement_301 : decode cX10_statement 301 = .ok (.bipush 99, 2) := by decide +kernel
theorem dX10_statement_303 : decode cX10_statement 303 = .ok (.invokevirtual 162, 3) := by decide +kernel
theorem dX10_statement_306 : decode cX10_statement 306 = .ok (.ifCond .eq 7, 3) := by decide +kernel
theorem dX10_statement_309 : decode cX10_statement 309 = .ok (.iconst 1, 1) := by decide +kernel
theorem dX10_statement_310 : decode cX10_statement 310 = .ok (.goto 4, 3) := by decide +kernel
theorem dX10_statement_313 : decode cX10_statement 313 = .ok (.iconst 0, 1) := by decide +kernel
theorem dX10_statement_314 : decode cX10_statement 314 = .ok (.ireturn, 1) := by decide +kernel
theorem dX10_statement_315 : decode cX10_statement 315 = .ok (.aload_n 0, 1) := by decide +kernel
theorem dX10_statement_316 : decode cX10_statement 316 = .ok (.ldc 175, 2) := by decide +kernel
theorem dX10_statement_318 : decode cX10_statement 318 = .ok (.invokevirtual 144, 3) := by decide +kernel
theorem dX10_statement_321 : decode cX10_statement 321 = .ok (.ifCond .eq 32, 3) := by decide +kernel
theorem dX10_statement_324 : decode cX10_statement 324 = .ok (.aload_n 0, 1) := by decide +kernel
theorem dX10_statement_325 : decode cX10_statement 325 = .ok (.bipush 6, 2) := by decide +kernel
theorem dX10_statement_327 : decode cX10_statement 327 = .ok (.invokevirtual 159, 3) := by decide +kernel
theorem dX10_statement_330 : decode cX10_statement 330 = .ok (.ifCond .eq 19, 3) := by decide +kernel
theorem dX10_statement_333 : decode cX10_statement 333 = .ok (.aload_n 0, 1) := by decide +kernel
theorem dX10_statement_334 : decode cX10_statement 334 = .ok (.bipush 14, 2) := by decide +kernel
theorem dX10_statement_336 : decode cX10_statement 336 = .ok (.iconst 0, 1) := by decide +kernel
theorem dX10_statement_337 : decode cX10_statement 337 = .ok (.bipush 99, 2) := by decide +kernel
theorem dX10_statement_339 : decode cX10_statement 339 = .ok (.invokevirtual 162, 3) := by decide +kernel
theorem dX10_statement_342 : decode cX10_statement 342 = .ok (.ifCond .eq 7, 3) := by decide +kernel
theorem dX10_statement_345 : decode cX10_statement 345 = .ok (.iconst 1, 1) := by decide +kernel
theorem dX10_statement_346 : decode cX10_statement 346 = .ok (.goto 12, 3) := by decide +kernel
