theorem dX10_next_92 : decode cX10_next 92 = .ok (.getfield 58, 3) := by decide +kernel
theorem dX10_next_95 : decode cX10_next 95 = .ok (.iload_n 2, 1) := by decide +kernel
theorem dX10_next_96 : decode cX10_next 96 = .ok (.iaload, 1) := by decide +kernel
theorem dX10_next_97 : decode cX10_next 97 = .ok (.if_icmp .ge 5, 3) := by decide +kernel
theorem dX10_next_100 : decode cX10_next 100 = .ok (.iload_n 3, 1) := by decide +kernel
theorem dX10_next_101 : decode cX10_next 101 = .ok (.istore_n 2, 1) := by decide +kernel
theorem dX10_next_102 : decode cX10_next 102 = .ok (.iinc 3 1, 3) := by decide +kernel
theorem dX10_next_105 : decode cX10_next 105 = .ok (.goto (-101), 3) := by decide +kernel
theorem dX10_next_108 : decode cX10_next 108 = .ok (.iload_n 2, 1) := by decide +kernel
theorem dX10_next_109 : decode cX10_next 109 = .ok (.ireturn, 1) := by decide +kernel
theorem dX10_spare_0 : decode cX10_spare 0 = .ok (.aload_n 0, 1) := by decide +kernel
theorem dX10_spare_1 : decode cX10_spare 1 = .ok (.getfield 21, 3) := by decide +kernel
theorem dX10_spare_4 : decode cX10_spare 4 = .ok (.bipush 70, 2) := by decide +kernel
theorem dX10_spare_6 : decode cX10_spare 6 = .ok (.aload_n 0, 1) := by decide +kernel
theorem dX10_spare_7 : decode cX10_spare 7 = .ok (.getfield 21, 3) := by decide +kernel
theorem dX10_spare_10 : decode cX10_spare 10 = .ok (.bipush 120, 2) := by decide +kernel
theorem dX10_spare_12 : decode cX10_spare 12 = .ok (.iload_n 1, 1) := by decide +kernel
theorem dX10_spare_13 : decode cX10_spare 13 = .ok (.iadd, 1) := by decide +kernel
theorem dX10_spare_14 : decode cX10_spare 14 = .ok (.iaload, 1) := by decide +kernel
theorem dX10_spare_15 : decode cX10_spare 15 = .ok (.iastore, 1) := by decide +kernel
theorem dX10_spare_16 : decode cX10_spare 16 = .ok (.aload_n 0, 1) := by decide +kernel
theorem dX10_spare_17 : decode cX10_spare 17 = .ok (.getfield 13, 3) := by decide +kernel
theorem dX10_spare_20 : decode cX10_spare 20 = .ok (.sipush 840, 3) := by decide +kernel
theorem dX10_spare_23 : decode cX10_spare 23 = .ok (.bipush 126, 2) := by decide +kernel
theorem dX10_spare_25 : decode cX10_spare 25 = .ok (.bastore, 1) := by decide +kernel
theorem dX10_spare_26 : decode cX10_spare 26 = .ok (.iconst 1, 1) := by decide +kernel
theorem dX10_spare_27 : decode cX10_spare 27 = .ok (.istore_n 2, 1) := by decide +kernel
theorem dX10_spare_28 : decode cX10_spare 28 = .ok (.iload_n 1, 1) := by decide +kernel
theorem dX10_spare_29 : decode cX10_spare 29 = .ok (.bipush 10, 2) := by decide +kernel
theorem dX10_spare_31 : decode cX10_spare 31 = .ok (.if_icmp .lt 24, 3) := by decide +kernel
theorem dX10_spare_34 : decode cX10_spare 34 = .ok (.aload_n 0, 1) := by decide +kernel
theorem dX10_spare_35 : decode cX10_spare 35 = .ok (.getfield 13, 3) := by decide +kernel
theorem dX10_spare_38 : decode cX10_spare 38 = .ok (.sipush 840, 3) := by decide +kernel
theorem dX10_spare_41 : decode cX10_spare 41 = .ok (.iload_n 2, 1) := by decide +kernel
theorem dX10_spare_42 : decode cX10_spare 42 = .ok (.iadd, 1) := by decide +kernel
theorem dX10_spare_43 : decode cX10_spare 43 = .ok (.bipush 48, 2) := by decide +kernel
theorem dX10_spare_45 : decode cX10_spare 45 = .ok (.iload_n 1, 1) := by decide +kernel
theorem dX10_spare_46 : decode cX10_spare 46 = .ok (.bipush 10, 2) := by decide +kernel
theorem dX10_spare_48 : decode cX10_spare 48 = .ok (.idiv, 1) := by decide +kernel
theorem dX10_spare_49 : decode cX10_spare 49 = .ok (.iadd, 1) := by decide +kernel
theorem dX10_spare_50 : decode cX10_spare 50 = .ok (.i2b, 1) := by decide +kernel
theorem dX10_spare_51 : decode cX10_spare 51 = .ok (.bastore, 1) := by decide +kernel
theorem dX10_spare_52 : decode cX10_spare 52 = .ok (.iinc 2 1, 3) := by decide +kernel
theorem dX10_spare_55 : decode cX10_spare 55 = .ok (.aload_n 0, 1) := by decide +kernel
theorem dX10_spare_56 : decode cX10_spare 56 = .ok (.getfield 13, 3) := by decide +kernel
theorem dX10_spare_59 : decode cX10_spare 59 = .ok (.sipush 840, 3) := by decide +kernel
theorem dX10_spare_62 : decode cX10_spare 62 = .ok (.iload_n 2, 1) := by decide +kernel
theorem dX10_spare_63 : decode cX10_spare 63 = .ok (.iadd, 1) := by decide +kernel
theorem dX10_spare_64 : decode cX10_spare 64 = .ok (.bipush 48, 2) := by decide +kernel
theorem dX10_spare_66 : decode cX10_spare 66 = .ok (.iload_n 1, 1) := by decide +kernel
theorem dX10_spare_67 : decode cX10_spare 67 = .ok (.bipush 10, 2) := by decide +kernel
theorem dX10_spare_69 : decode cX10_spare 69 = .ok (.irem, 1) := by decide +kernel
theorem dX10_spare_70 : decode cX10_spare 70 = .ok (.iadd, 1) := by decide +kernel
theorem dX10_spare_71 : decode cX10_spare 71 = .ok (.i2b, 1) := by decide +kernel
theorem dX10_spare_72 : decode cX10_spare 72 = .ok (.bastore, 1) := by decide +kernel
theorem dX10_spare_73 : decode cX10_spare 73 = .ok (.aload_n 0, 1) := by decide +kernel
theorem dX10_spare_74 : decode cX10_spare 74 = .ok (.getfield 17, 3) := by decide +kernel
theorem dX10_spare_77 : decode cX10_spare 77 = .ok (.bipush 70, 2) := by decide +kernel
theorem dX10_spare_79 : decode cX10_spare 79 = .ok (.iload_n 2, 1) := by decide +kernel
theorem dX10_spare_80 : decode cX10_spare 80 = .ok (.iconst 1, 1) := by decide +kernel
theorem dX10_spare_81 : decode cX10_spare 81 = .ok (.iadd, 1) := by decide +kernel
theorem dX10_spare_82 : decode cX10_spare 82 = .ok (.iastore, 1) := by decide +kernel
theorem dX10_spare_83 : decode cX10_spare 83 = .ok (.return_, 1) := by decide +kernel
set_option maxRecDepth 20000 in
theorem ggX10_findSteps_X10_troubles : GoodIn wsX10_findSteps wsX10_troubles := goodIn_r _ [9, 10, 11, 12, 61, 62, 63, 64, 65, 66, 67, 68, 69, 70, 71, 72, 73, 74, 75, 76, 77, 78, 79, 80, 81, 82, 83, 84, 85, 86, 87, 88, 89, 90, 91, 92, 93, 94, 95, 96, 97, 98, 99, 100, 101, 102, 103, 104] (by decide +kernel) (by decide +kernel)
set_option maxRecDepth 20000 in
theorem gX10_findSteps_X10_troubles : GoodIn wsX10_findSteps (wsV RX10 253 RX10 yX10_troubles wsX10_troubles) := goodIn_app (goodIn_of _ (by decide +kernel)) ggX10_findSteps_X10_troubles
set_option maxRecDepth 20000 in
theorem ggX10_findSteps_X10_copies : GoodIn wsX10_findSteps wsX10_copies := goodIn_r _ [16, 17, 18, 19, 61, 62, 63, 64, 65, 66, 67, 68, 69, 70, 71, 72, 73, 74, 75, 76, 77, 78, 79, 80, 81, 82, 83, 84, 85, 86, 87, 88, 89, 90, 91, 92, 93, 94, 95, 96, 97, 98, 99, 100, 101, 102, 103, 104] (by decide +kernel) (by decide +kernel)
set_option maxRecDepth 20000 in
theorem gX10_findSteps_X10_copies : GoodIn wsX10_findSteps (wsV RX10 121 RX10 yX10_copies wsX10_copies) := goodIn_app (goodIn_of _ (by decide +kernel)) ggX10_findSteps_X10_copies
set_option maxRecDepth 20000 in
theorem ggX10_findSteps_X10_next : GoodIn wsX10_findSteps wsX10_next := goodIn_r _ [23, 10, 24, 3, 2, 25, 26, 27, 28, 8, 29, 4, 30, 31, 32, 33, 34, 35, 17, 18, 19, 36, 37, 38, 39, 40, 41, 42, 61, 62, 63, 64, 65, 66, 67, 68, 69, 70, 71, 72, 73, 74, 75, 76, 77, 78, 79, 80, 81, 82, 83, 84, 85, 86, 87, 88, 89, 90, 91, 92, 93, 94, 95, 96, 97, 98, 99, 100, 101, 102, 103, 104] (by decide +kernel) (by decide +kernel)
set_option maxRecDepth 20000 in
theorem gX10_findSteps_X10_next : GoodIn wsX10_findSteps (wsV RX10 256 RX10 yX10_next wsX10_next) := goodIn_app (goodIn_of _ (by decide +kernel)) ggX10_findSteps_X10_next
set_option maxRecDepth 20000 in
theorem ggX10_findSteps_X10_writes : GoodIn wsX10_findSteps wsX10_writes := goodIn_r _ [46, 25, 47, 1, 48, 49, 2, 3, 50, 51, 52, 8, 53, 54, 17, 55, 18, 56, 19, 57, 58, 59, 60, 13, 14, 15, 16, 61, 62, 63, 64, 65, 66, 67, 68, 69, 70, 71, 72, 73, 74, 75, 76, 77, 78, 79, 80, 81, 82, 83, 84, 85, 86, 87, 88, 89, 90, 91, 92, 93, 94, 95, 96, 97, 98, 99, 100, 101, 102, 103, 104] (by decide +kernel) (by decide +kernel)
set_option maxRecDepth 20000 in
theorem gX10_findSteps_X10_writes : GoodIn wsX10_findSteps (wsV RX10 260 RX10 yX10_writes wsX10_writes) := goodIn_app (goodIn_of _ (by decide +kernel)) ggX10_findSteps_X10_writes
theorem dX10_findSteps_0 : decode cX10_findSteps 0 = .ok (.aload_n 0, 1) := by decide +kernel
theorem dX10_findSteps_1 : decode cX10_findSteps 1 = .ok (.iconst 0, 1) := by decide +kernel
theorem dX10_findSteps_2 : decode cX10_findSteps 2 = .ok (.putfield 247, 3) := by decide +kernel
theorem dX10_findSteps_5 : decode cX10_findSteps 5 = .ok (.iconst 0, 1) := by decide +kernel
theorem dX10_findSteps_6 : decode cX10_findSteps 6 = .ok (.istore_n 1, 1) := by decide +kernel
theorem dX10_findSteps_7 : decode cX10_findSteps 7 = .ok (.iload_n 1, 1) := by decide +kernel
theorem dX10_findSteps_8 : decode cX10_findSteps 8 = .ok (.bipush 40, 2) := by decide +kernel
theorem dX10_findSteps_10 : decode cX10_findSteps 10 = .ok (.if_icmp .ge 23, 3) := by decide +kernel
theorem dX10_findSteps_13 : decode cX10_findSteps 13 = .ok (.aload_n 0, 1) := by decide +kernel
theorem dX10_findSteps_14 : decode cX10_findSteps 14 = .ok (.getfield 94, 3) := by decide +kernel
theorem dX10_findSteps_17 : decode cX10_findSteps 17 = .ok (.iload_n 1, 1) := by decide +kernel
theorem dX10_findSteps_18 : decode cX10_findSteps 18 = .ok (.iconst 0, 1) := by decide +kernel
theorem dX10_findSteps_19 : decode cX10_findSteps 19 = .ok (.bastore, 1) := by decide +kernel
theorem dX10_findSteps_20 : decode cX10_findSteps 20 = .ok (.aload_n 0, 1) := by decide +kernel
theorem dX10_findSteps_21 : decode cX10_findSteps 21 = .ok (.getfield 97, 3) := by decide +kernel
theorem dX10_findSteps_24 : decode cX10_findSteps 24 = .ok (.iload_n 1, 1) := by decide +kernel
theorem dX10_findSteps_25 : decode cX10_findSteps 25 = .ok (.iconst 0, 1) := by decide +kernel
theorem dX10_findSteps_26 : decode cX10_findSteps 26 = .ok (.bastore, 1) := by decide +kernel
theorem dX10_findSteps_27 : decode cX10_findSteps 27 = .ok (.iinc 1 1, 3) := by decide +kernel
theorem dX10_findSteps_30 : decode cX10_findSteps 30 = .ok (.goto (-23), 3) := by decide +kernel
theorem dX10_findSteps_33 : decode cX10_findSteps 33 = .ok (.aload_n 0, 1) := by decide +kernel
theorem dX10_findSteps_34 : decode cX10_findSteps 34 = .ok (.invokevirtual 253, 3) := by decide +kernel
theorem dX10_findSteps_37 : decode cX10_findSteps 37 = .ok (.ifCond .le 4, 3) := by decide +kernel
theorem dX10_findSteps_40 : decode cX10_findSteps 40 = .ok (.return_, 1) := by decide +kernel
theorem dX10_findSteps_41 : decode cX10_findSteps 41 = .ok (.iconst 0, 1) := by decide +kernel
theorem dX10_findSteps_42 : decode cX10_findSteps 42 = .ok (.istore_n 1, 1) := by decide +kernel
theorem dX10_findSteps_43 : decode cX10_findSteps 43 = .ok (.iload_n 1, 1) := by decide +kernel
theorem dX10_findSteps_44 : decode cX10_findSteps 44 = .ok (.aload_n 0, 1) := by decide +kernel
theorem dX10_findSteps_45 : decode cX10_findSteps 45 = .ok (.getfield 112, 3) := by decide +kernel
theorem dX10_findSteps_48 : decode cX10_findSteps 48 = .ok (.if_icmp .ge 18, 3) := by decide +kernel
theorem dX10_findSteps_51 : decode cX10_findSteps 51 = .ok (.aload_n 0, 1) := by decide +kernel
theorem dX10_findSteps_52 : decode cX10_findSteps 52 = .ok (.iload_n 1, 1) := by decide +kernel
theorem dX10_findSteps_53 : decode cX10_findSteps 53 = .ok (.bipush 120, 2) := by decide +kernel
theorem dX10_findSteps_55 : decode cX10_findSteps 55 = .ok (.iload_n 1, 1) := by decide +kernel
theorem dX10_findSteps_56 : decode cX10_findSteps 56 = .ok (.iadd, 1) := by decide +kernel
theorem dX10_findSteps_57 : decode cX10_findSteps 57 = .ok (.invokevirtual 121, 3) := by decide +kernel
theorem dX10_findSteps_60 : decode cX10_findSteps 60 = .ok (.iinc 1 1, 3) := by decide +kernel
theorem dX10_findSteps_63 : decode cX10_findSteps 63 = .ok (.goto (-20), 3) := by decide +kernel
theorem dX10_findSteps_66 : decode cX10_findSteps 66 = .ok (.iconst 1, 1) := by decide +kernel
theorem dX10_findSteps_67 : decode cX10_findSteps 67 = .ok (.istore_n 1, 1) := by decide +kernel
theorem dX10_findSteps_68 : decode cX10_findSteps 68 = .ok (.iload_n 1, 1) := by decide +kernel
theorem dX10_findSteps_69 : decode cX10_findSteps 69 = .ok (.ifCond .eq 54, 3) := by decide +kernel
theorem dX10_findSteps_72 : decode cX10_findSteps 72 = .ok (.aload_n 0, 1) := by decide +kernel
theorem dX10_findSteps_73 : decode cX10_findSteps 73 = .ok (.iconst 0, 1) := by decide +kernel
theorem dX10_findSteps_74 : decode cX10_findSteps 74 = .ok (.invokevirtual 256, 3) := by decide +kernel
theorem dX10_findSteps_77 : decode cX10_findSteps 77 = .ok (.istore_n 2, 1) := by decide +kernel
theorem dX10_findSteps_78 : decode cX10_findSteps 78 = .ok (.iload_n 2, 1) := by decide +kernel
theorem dX10_findSteps_79 : decode cX10_findSteps 79 = .ok (.iconst (-1), 1) := by decide +kernel
theorem dX10_findSteps_80 : decode cX10_findSteps 80 = .ok (.if_icmp .ne 7, 3) := by decide +kernel
theorem dX10_findSteps_83 : decode cX10_findSteps 83 = .ok (.iconst 1, 1) := by decide +kernel
theorem dX10_findSteps_84 : decode cX10_findSteps 84 = .ok (.goto 4, 3) := by decide +kernel
theorem dX10_findSteps_87 : decode cX10_findSteps 87 = .ok (.iconst 0, 1) := by decide +kernel
theorem dX10_findSteps_88 : decode cX10_findSteps 88 = .ok (.istore_n 3, 1) := by decide +kernel
theorem dX10_findSteps_89 : decode cX10_findSteps 89 = .ok (.iload_n 3, 1) := by decide +kernel
theorem dX10_findSteps_90 : decode cX10_findSteps 90 = .ok (.ifCond .eq 9, 3) := by decide +kernel
theorem dX10_findSteps_93 : decode cX10_findSteps 93 = .ok (.aload_n 0, 1) := by decide +kernel
theorem dX10_findSteps_94 : decode cX10_findSteps 94 = .ok (.iconst 1, 1) := by decide +kernel
theorem dX10_findSteps_95 : decode cX10_findSteps 95 = .ok (.invokevirtual 256, 3) := by decide +kernel
theorem dX10_findSteps_98 : decode cX10_findSteps 98 = .ok (.istore_n 2, 1) := by decide +kernel
theorem dX10_findSteps_99 : decode cX10_findSteps 99 = .ok (.iload_n 2, 1) := by decide +kernel
theorem dX10_findSteps_100 : decode cX10_findSteps 100 = .ok (.iconst (-1), 1) := by decide +kernel
theorem dX10_findSteps_101 : decode cX10_findSteps 101 = .ok (.if_icmp .eq 7, 3) := by decide +kernel
theorem dX10_findSteps_104 : decode cX10_findSteps 104 = .ok (.iconst 1, 1) := by decide +kernel
theorem dX10_findSteps_105 : decode cX10_findSteps 105 = .ok (.goto 4, 3) := by decide +kernel
theorem dX10_findSteps_108 : decode cX10_findSteps 108 = .ok (.iconst 0, 1) := by decide +kernel
theorem dX10_findSteps_109 : decode cX10_findSteps 109 = .ok (.istore_n 1, 1) := by decide +kernel
theorem dX10_findSteps_110 : decode cX10_findSteps 110 = .ok (.iload_n 1, 1) := by decide +kernel
theorem dX10_findSteps_111 : decode cX10_findSteps 111 = .ok (.ifCond .eq 9, 3) := by decide +kernel
theorem dX10_findSteps_114 : decode cX10_findSteps 114 = .ok (.aload_n 0, 1) := by decide +kernel
theorem dX10_findSteps_115 : decode cX10_findSteps 115 = .ok (.iload_n 2, 1) := by decide +kernel
theorem dX10_findSteps_116 : decode cX10_findSteps 116 = .ok (.iload_n 3, 1) := by decide +kernel
theorem dX10_findSteps_117 : decode cX10_findSteps 117 = .ok (.invokevirtual 260, 3) := by decide +kernel
theorem dX10_findSteps_120 : decode cX10_findSteps 120 = .ok (.goto (-52), 3) := by decide +kernel
theorem dX10_findSteps_123 : decode cX10_findSteps 123 = .ok (.return_, 1) := by decide +kernel
set_option maxRecDepth 20000 in
theorem ggX10_writes_X10_keeps : GoodIn wsX10_writes wsX10_keeps := goodIn_r _ [12, 13, 14, 15, 16, 17, 18, 27, 28, 29, 30, 31, 32, 33, 34, 35, 36, 37, 38, 39, 40, 41, 42, 43, 44, 45, 46, 47, 48, 49, 50, 51, 52, 53, 54, 55, 56, 57, 58, 59, 60, 61, 62, 63, 64, 65, 66, 67, 68, 69, 70] (by decide +kernel) (by decide +kernel)
set_option maxRecDepth 20000 in
theorem gX10_writes_X10_keeps : GoodIn wsX10_writes (wsV RX10 264 RX10 yX10_keeps wsX10_keeps) := goodIn_app (goodIn_of _ (by decide +kernel)) ggX10_writes_X10_keeps
set_option maxRecDepth 20000 in
theorem ggX10_writes_X10_spare : GoodIn wsX10_writes wsX10_spare := goodIn_r _ [22, 14, 18, 16, 27, 28, 29, 30, 31, 32, 33, 34, 35, 36, 37, 38, 39, 40, 41, 42, 43, 44, 45, 46, 47, 48, 49, 50, 51, 52, 53, 54, 55, 56, 57, 58, 59, 60, 61, 62, 63, 64, 65, 66, 67, 68, 69, 70] (by decide +kernel) (by decide +kernel)
set_option maxRecDepth 20000 in
theorem gX10_writes_X10_spare : GoodIn wsX10_writes (wsV RX10 268 RX10 yX10_spare wsX10_spare) := goodIn_app (goodIn_of _ (by decide +kernel)) ggX10_writes_X10_spare
set_option maxRecDepth 20000 in
theorem ggX10_writes_X10_copies : GoodIn wsX10_writes wsX10_copies := goodIn_r _ [26, 14, 16, 18, 27, 28, 29, 30, 31, 32, 33, 34, 35, 36, 37, 38, 39, 40, 41, 42, 43, 44, 45, 46, 47, 48, 49, 50, 51, 52, 53, 54, 55, 56, 57, 58, 59, 60, 61, 62, 63, 64, 65, 66, 67, 68, 69, 70] (by decide +kernel) (by decide +kernel)
set_option maxRecDepth 20000 in
theorem gX10_writes_X10_copies : GoodIn wsX10_writes (wsV RX10 121 RX10 yX10_copies wsX10_copies) := goodIn_app (goodIn_of _ (by decide +kernel)) ggX10_writes_X10_copies
theorem dX10_writes_0 : decode cX10_writes 0 = .ok (.aload_n 0, 1) := by decide +kernel
theorem dX10_writes_1 : decode cX10_writes 1 = .ok (.getfield 58, 3) := by decide +kernel
theorem dX10_writes_4 : decode cX10_writes 4 = .ok (.iload_n 1, 1) := by decide +kernel
theorem dX10_writes_5 : decode cX10_writes 5 = .ok (.iaload, 1) := by decide +kernel
theorem dX10_writes_6 : decode cX10_writes 6 = .ok (.istore_n 3, 1) := by decide +kernel
theorem dX10_writes_7 : decode cX10_writes 7 = .ok (.aload_n 0, 1) := by decide +kernel
theorem dX10_writes_8 : decode cX10_writes 8 = .ok (.getfield 76, 3) := by decide +kernel
theorem dX10_writes_11 : decode cX10_writes 11 = .ok (.aload_n 0, 1) := by decide +kernel
theorem dX10_writes_12 : decode cX10_writes 12 = .ok (.getfield 247, 3) := by decide +kernel
theorem dX10_writes_15 : decode cX10_writes 15 = .ok (.iload_n 3, 1) := by decide +kernel
theorem dX10_writes_16 : decode cX10_writes 16 = .ok (.iastore, 1) := by decide +kernel
theorem dX10_writes_17 : decode cX10_writes 17 = .ok (.aload_n 0, 1) := by decide +kernel
theorem dX10_writes_18 : decode cX10_writes 18 = .ok (.getfield 79, 3) := by decide +kernel
theorem dX10_writes_21 : decode cX10_writes 21 = .ok (.aload_n 0, 1) := by decide +kernel
theorem dX10_writes_22 : decode cX10_writes 22 = .ok (.getfield 247, 3) := by decide +kernel
theorem dX10_writes_25 : decode cX10_writes 25 = .ok (.iload_n 2, 1) := by decide +kernel
theorem dX10_writes_26 : decode cX10_writes 26 = .ok (.bastore, 1) := by decide +kernel
theorem dX10_writes_27 : decode cX10_writes 27 = .ok (.aload_n 0, 1) := by decide +kernel
theorem dX10_writes_28 : decode cX10_writes 28 = .ok (.getfield 82, 3) := by decide +kernel
theorem dX10_writes_31 : decode cX10_writes 31 = .ok (.aload_n 0, 1) := by decide +kernel
theorem dX10_writes_32 : decode cX10_writes 32 = .ok (.getfield 247, 3) := by decide +kernel
theorem dX10_writes_35 : decode cX10_writes 35 = .ok (.iload_n 2, 1) := by decide +kernel
theorem dX10_writes_36 : decode cX10_writes 36 = .ok (.ifCond .ne 16, 3) := by decide +kernel
theorem dX10_writes_39 : decode cX10_writes 39 = .ok (.aload_n 0, 1) := by decide +kernel
theorem dX10_writes_40 : decode cX10_writes 40 = .ok (.getfield 94, 3) := by decide +kernel
theorem dX10_writes_43 : decode cX10_writes 43 = .ok (.iload_n 3, 1) := by decide +kernel
theorem dX10_writes_44 : decode cX10_writes 44 = .ok (.baload, 1) := by decide +kernel
theorem dX10_writes_45 : decode cX10_writes 45 = .ok (.ifCond .eq 7, 3) := by decide +kernel
theorem dX10_writes_48 : decode cX10_writes 48 = .ok (.iconst 1, 1) := by decide +kernel
theorem dX10_writes_49 : decode cX10_writes 49 = .ok (.goto 4, 3) := by decide +kernel
theorem dX10_writes_52 : decode cX10_writes 52 = .ok (.iconst 0, 1) := by decide +kernel
theorem dX10_writes_53 : decode cX10_writes 53 = .ok (.bastore, 1) := by decide +kernel
theorem dX10_writes_54 : decode cX10_writes 54 = .ok (.aload_n 0, 1) := by decide +kernel
theorem dX10_writes_55 : decode cX10_writes 55 = .ok (.aload_n 0, 1) := by decide +kernel
theorem dX10_writes_56 : decode cX10_writes 56 = .ok (.getfield 247, 3) := by decide +kernel
theorem dX10_writes_59 : decode cX10_writes 59 = .ok (.iconst 0, 1) := by decide +kernel
theorem dX10_writes_60 : decode cX10_writes 60 = .ok (.bipush 120, 2) := by decide +kernel
theorem dX10_writes_62 : decode cX10_writes 62 = .ok (.iload_n 3, 1) := by decide +kernel
theorem dX10_writes_63 : decode cX10_writes 63 = .ok (.iadd, 1) := by decide +kernel
theorem dX10_writes_64 : decode cX10_writes 64 = .ok (.invokevirtual 264, 3) := by decide +kernel
theorem dX10_writes_67 : decode cX10_writes 67 = .ok (.iload_n 2, 1) := by decide +kernel
theorem dX10_writes_68 : decode cX10_writes 68 = .ok (.ifCond .eq 8, 3) := by decide +kernel
theorem dX10_writes_71 : decode cX10_writes 71 = .ok (.aload_n 0, 1) := by decide +kernel
theorem dX10_writes_72 : decode cX10_writes 72 = .ok (.iload_n 3, 1) := by decide +kernel
theorem dX10_writes_73 : decode cX10_writes 73 = .ok (.invokevirtual 268, 3) := by decide +kernel
theorem dX10_writes_76 : decode cX10_writes 76 = .ok (.iload_n 2, 1) := by decide +kernel
theorem dX10_writes_77 : decode cX10_writes 77 = .ok (.ifCond .eq 8, 3) := by decide +kernel
theorem dX10_writes_80 : decode cX10_writes 80 = .ok (.bipush 70, 2) := by decide +kernel
theorem dX10_writes_82 : decode cX10_writes 82 = .ok (.goto 7, 3) := by decide +kernel
theorem dX10_writes_85 : decode cX10_writes 85 = .ok (.bipush 80, 2) := by decide +kernel
theorem dX10_writes_87 : decode cX10_writes 87 = .ok (.iload_n 1, 1) := by decide +kernel
theorem dX10_writes_88 : decode cX10_writes 88 = .ok (.iadd, 1) := by decide +kernel
theorem dX10_writes_89 : decode cX10_writes 89 = .ok (.istore 4, 2) := by decide +kernel
theorem dX10_writes_91 : decode cX10_writes 91 = .ok (.aload_n 0, 1) := by decide +kernel
theorem dX10_writes_92 : decode cX10_writes 92 = .ok (.aload_n 0, 1) := by decide +kernel
theorem dX10_writes_93 : decode cX10_writes 93 = .ok (.getfield 247, 3) := by decide +kernel
theorem dX10_writes_96 : decode cX10_writes 96 = .ok (.iconst 1, 1) := by decide +kernel
theorem dX10_writes_97 : decode cX10_writes 97 = .ok (.iload 4, 2) := by decide +kernel
theorem dX10_writes_99 : decode cX10_writes 99 = .ok (.invokevirtual 264, 3) := by decide +kernel
theorem dX10_writes_102 : decode cX10_writes 102 = .ok (.aload_n 0, 1) := by decide +kernel
theorem dX10_writes_103 : decode cX10_writes 103 = .ok (.iload 4, 2) := by decide +kernel
theorem dX10_writes_105 : decode cX10_writes 105 = .ok (.bipush 120, 2) := by decide +kernel
theorem dX10_writes_107 : decode cX10_writes 107 = .ok (.iload_n 3, 1) := by decide +kernel
theorem dX10_writes_108 : decode cX10_writes 108 = .ok (.iadd, 1) := by decide +kernel
theorem dX10_writes_109 : decode cX10_writes 109 = .ok (.invokevirtual 121, 3) := by decide +kernel
theorem dX10_writes_112 : decode cX10_writes 112 = .ok (.iload_n 2, 1) := by decide +kernel
theorem dX10_writes_113 : decode cX10_writes 113 = .ok (.ifCond .eq 13, 3) := by decide +kernel
theorem dX10_writes_116 : decode cX10_writes 116 = .ok (.aload_n 0, 1) := by decide +kernel
theorem dX10_writes_117 : decode cX10_writes 117 = .ok (.getfield 94, 3) := by decide +kernel
theorem dX10_writes_120 : decode cX10_writes 120 = .ok (.iload_n 3, 1) := by decide +kernel
theorem dX10_writes_121 : decode cX10_writes 121 = .ok (.iconst 1, 1) := by decide +kernel
theorem dX10_writes_122 : decode cX10_writes 122 = .ok (.bastore, 1) := by decide +kernel
theorem dX10_writes_123 : decode cX10_writes 123 = .ok (.goto 10, 3) := by decide +kernel
theorem dX10_writes_126 : decode cX10_writes 126 = .ok (.aload_n 0, 1) := by decide +kernel
theorem dX10_writes_127 : decode cX10_writes 127 = .ok (.getfield 97, 3) := by decide +kernel
theorem dX10_writes_130 : decode cX10_writes 130 = .ok (.iload_n 1, 1) := by decide +kernel
theorem dX10_writes_131 : decode cX10_writes 131 = .ok (.iconst 1, 1) := by decide +kernel
theorem dX10_writes_132 : decode cX10_writes 132 = .ok (.bastore, 1) := by decide +kernel
theorem dX10_writes_133 : decode cX10_writes 133 = .ok (.aload_n 0, 1) := by decide +kernel
theorem dX10_writes_134 : decode cX10_writes 134 = .ok (.dup, 1) := by decide +kernel
theorem dX10_writes_135 : decode cX10_writes 135 = .ok (.getfield 247, 3) := by decide +kernel
theorem dX10_writes_138 : decode cX10_writes 138 = .ok (.iconst 1, 1) := by decide +kernel
theorem dX10_writes_139 : decode cX10_writes 139 = .ok (.iadd, 1) := by decide +kernel
theorem dX10_writes_140 : decode cX10_writes 140 = .ok (.putfield 247, 3) := by decide +kernel
theorem dX10_writes_143 : decode cX10_writes 143 = .ok (.return_, 1) := by decide +kernel
set_option maxRecDepth 20000 in
theorem ggX10_steps_X10_troubles : GoodIn wsX10_steps wsX10_troubles := goodIn_r _ [8, 9, 2, 10, 11, 12, 13, 14, 15, 16, 17, 18, 19, 20, 21, 22, 23, 24, 25, 26, 27, 28, 29, 30, 31, 32, 33, 34, 35, 36, 37, 38, 39, 40, 41, 42, 43, 44, 45, 46, 47, 48, 49, 50, 51, 52, 53, 54] (by decide +kernel) (by decide +kernel)
set_option maxRecDepth 20000 in
theorem gX10_steps_X10_troubles : GoodIn wsX10_steps (wsV RX10 253 RX10 yX10_troubles wsX10_troubles) := goodIn_app (goodIn_of _ (by decide +kernel)) ggX10_steps_X10_troubles
theorem dX10_steps_0 : decode cX10_steps 0 = .ok (.aload_n 0, 1) := by decide +kernel
theorem dX10_steps_1 : decode cX10_steps 1 = .ok (.iconst 0, 1) := by decide +kernel
theorem dX10_steps_2 : decode cX10_steps 2 = .ok (.putfield 1, 3) := by decide +kernel
theorem dX10_steps_5 : decode cX10_steps 5 = .ok (.aload_n 0, 1) := by decide +kernel
theorem dX10_steps_6 : decode cX10_steps 6 = .ok (.getfield 228, 3) := by decide +kernel
theorem dX10_steps_9 : decode cX10_steps 9 = .ok (.ifCond .ne 7, 3) := by decide +kernel
theorem dX10_steps_12 : decode cX10_steps 12 = .ok (.iconst (-1), 1) := by decide +kernel
theorem dX10_steps_13 : decode cX10_steps 13 = .ok (.goto 19, 3) := by decide +kernel
theorem dX10_steps_16 : decode cX10_steps 16 = .ok (.aload_n 0, 1) := by decide +kernel
theorem dX10_steps_17 : decode cX10_steps 17 = .ok (.invokevirtual 253, 3) := by decide +kernel
theorem dX10_steps_20 : decode cX10_steps 20 = .ok (.ifCond .le 8, 3) := by decide +kernel
theorem dX10_steps_23 : decode cX10_steps 23 = .ok (.bipush (-2), 2) := by decide +kernel
theorem dX10_steps_25 : decode cX10_steps 25 = .ok (.goto 7, 3) := by decide +kernel
theorem dX10_steps_28 : decode cX10_steps 28 = .ok (.aload_n 0, 1) := by decide +kernel
theorem dX10_steps_29 : decode cX10_steps 29 = .ok (.getfield 247, 3) := by decide +kernel
theorem dX10_steps_32 : decode cX10_steps 32 = .ok (.ireturn, 1) := by decide +kernel
theorem dX10_step_0 : decode cX10_step 0 = .ok (.aload_n 0, 1) := by decide +kernel
theorem dX10_step_1 : decode cX10_step 1 = .ok (.iconst 0, 1) := by decide +kernel
theorem dX10_step_2 : decode cX10_step 2 = .ok (.putfield 1, 3) := by decide +kernel
theorem dX10_step_5 : decode cX10_step 5 = .ok (.aload_n 0, 1) := by decide +kernel
theorem dX10_step_6 : decode cX10_step 6 = .ok (.getfield 228, 3) := by decide +kernel
theorem dX10_step_9 : decode cX10_step 9 = .ok (.ifCond .eq 15, 3) := by decide +kernel
theorem dX10_step_12 : decode cX10_step 12 = .ok (.iload_n 1, 1) := by decide +kernel
theorem dX10_step_13 : decode cX10_step 13 = .ok (.ifCond .lt 11, 3) := by decide +kernel
theorem dX10_step_16 : decode cX10_step 16 = .ok (.iload_n 1, 1) := by decide +kernel
theorem dX10_step_17 : decode cX10_step 17 = .ok (.aload_n 0, 1) := by decide +kernel
theorem dX10_step_18 : decode cX10_step 18 = .ok (.getfield 247, 3) := by decide +kernel
theorem dX10_step_21 : decode cX10_step 21 = .ok (.if_icmp .lt 5, 3) := by decide +kernel
theorem dX10_step_24 : decode cX10_step 24 = .ok (.iconst (-1), 1) := by decide +kernel
theorem dX10_step_25 : decode cX10_step 25 = .ok (.ireturn, 1) := by decide +kernel
theorem dX10_step_26 : decode cX10_step 26 = .ok (.iload_n 2, 1) := by decide +kernel
theorem dX10_step_27 : decode cX10_step 27 = .ok (.ifCond .ne 12, 3) := by decide +kernel
theorem dX10_step_30 : decode cX10_step 30 = .ok (.aload_n 0, 1) := by decide +kernel
theorem dX10_step_31 : decode cX10_step 31 = .ok (.getfield 76, 3) := by decide +kernel
theorem dX10_step_34 : decode cX10_step 34 = .ok (.iload_n 1, 1) := by decide +kernel
theorem dX10_step_35 : decode cX10_step 35 = .ok (.iaload, 1) := by decide +kernel
theorem dX10_step_36 : decode cX10_step 36 = .ok (.goto 48, 3) := by decide +kernel
theorem dX10_step_39 : decode cX10_step 39 = .ok (.iload_n 2, 1) := by decide +kernel
theorem dX10_step_40 : decode cX10_step 40 = .ok (.iconst 1, 1) := by decide +kernel
theorem dX10_step_41 : decode cX10_step 41 = .ok (.if_icmp .ne 20, 3) := by decide +kernel
theorem dX10_step_44 : decode cX10_step 44 = .ok (.aload_n 0, 1) := by decide +kernel
theorem dX10_step_45 : decode cX10_step 45 = .ok (.getfield 79, 3) := by decide +kernel
theorem dX10_step_48 : decode cX10_step 48 = .ok (.iload_n 1, 1) := by decide +kernel
theorem dX10_step_49 : decode cX10_step 49 = .ok (.baload, 1) := by decide +kernel
theorem dX10_step_50 : decode cX10_step 50 = .ok (.ifCond .eq 7, 3) := by decide +kernel
theorem dX10_step_53 : decode cX10_step 53 = .ok (.iconst 1, 1) := by decide +kernel
theorem dX10_step_54 : decode cX10_step 54 = .ok (.goto 30, 3) := by decide +kernel
theorem dX10_step_57 : decode cX10_step 57 = .ok (.iconst 0, 1) := by decide +kernel
theorem dX10_step_58 : decode cX10_step 58 = .ok (.goto 26, 3) := by decide +kernel
theorem dX10_step_61 : decode cX10_step 61 = .ok (.iload_n 2, 1) := by decide +kernel
theorem dX10_step_62 : decode cX10_step 62 = .ok (.iconst 2, 1) := by decide +kernel
theorem dX10_step_63 : decode cX10_step 63 = .ok (.if_icmp .ne 20, 3) := by decide +kernel
theorem dX10_step_66 : decode cX10_step 66 = .ok (.aload_n 0, 1) := by decide +kernel
theorem dX10_step_67 : decode cX10_step 67 = .ok (.getfield 82, 3) := by decide +kernel
theorem dX10_step_70 : decode cX10_step 70 = .ok (.iload_n 1, 1) := by decide +kernel
theorem dX10_step_71 : decode cX10_step 71 = .ok (.baload, 1) := by decide +kernel
theorem dX10_step_72 : decode cX10_step 72 = .ok (.ifCond .eq 7, 3) := by decide +kernel
theorem dX10_step_75 : decode cX10_step 75 = .ok (.iconst 1, 1) := by decide +kernel
theorem dX10_step_76 : decode cX10_step 76 = .ok (.goto 8, 3) := by decide +kernel
theorem dX10_step_79 : decode cX10_step 79 = .ok (.iconst 0, 1) := by decide +kernel
theorem dX10_step_80 : decode cX10_step 80 = .ok (.goto 4, 3) := by decide +kernel
theorem dX10_step_83 : decode cX10_step 83 = .ok (.iconst (-1), 1) := by decide +kernel
theorem dX10_step_84 : decode cX10_step 84 = .ok (.ireturn, 1) := by decide +kernel
set_option maxRecDepth 20000 in
theorem ggX10_does_X10_lays : GoodIn wsX10_does wsX10_lays := goodIn_r _ [7, 8, 9, 10, 11, 12, 13, 40, 41, 42, 43, 44, 45, 46, 47, 48, 49, 50, 51, 52, 53, 54, 55, 56, 57, 58, 59, 60, 61, 62, 63, 64, 65, 66, 67, 68, 69, 70, 71, 72, 73, 74, 75, 76, 77, 78, 79, 80, 81, 82, 83] (by decide +kernel) (by decide +kernel)
set_option maxRecDepth 20000 in
theorem gX10_does_X10_lays : GoodIn wsX10_does (wsV RX10 271 RX10 yX10_lays wsX10_lays) := goodIn_app (goodIn_of _ (by decide +kernel)) ggX10_does_X10_lays
set_option maxRecDepth 20000 in
theorem ggX10_does_X10_isJust : GoodIn wsX10_does wsX10_isJust := goodIn_r _ [17, 8, 10, 12, 40, 41, 42, 43, 44, 45, 46, 47, 48, 49, 50, 51, 52, 53, 54, 55, 56, 57, 58, 59, 60, 61, 62, 63, 64, 65, 66, 67, 68, 69, 70, 71, 72, 73, 74, 75, 76, 77, 78, 79, 80, 81, 82, 83] (by decide +kernel) (by decide +kernel)
set_option maxRecDepth 20000 in
theorem gX10_does_X10_isJust : GoodIn wsX10_does (wsV RX10 104 RX10 yX10_isJust wsX10_isJust) := goodIn_app (goodIn_of _ (by decide +kernel)) ggX10_does_X10_isJust
set_option maxRecDepth 20000 in
theorem ggX10_does_X10_alikeTo : GoodIn wsX10_does wsX10_alikeTo := goodIn_r _ [21, 22, 2, 23, 24, 25, 6, 26, 27, 8, 10, 12, 14, 15, 16, 17, 28, 29, 30, 40, 41, 42, 43, 44, 45, 46, 47, 48, 49, 50, 51, 52, 53, 54, 55, 56, 57, 58, 59, 60, 61, 62, 63, 64, 65, 66, 67, 68, 69, 70, 71, 72, 73, 74, 75, 76, 77, 78, 79, 80, 81, 82, 83] (by decide +kernel) (by decide +kernel)
set_option maxRecDepth 20000 in
theorem gX10_does_X10_alikeTo : GoodIn wsX10_does (wsV RX10 146 RX10 yX10_alikeTo wsX10_alikeTo) := goodIn_app (goodIn_of _ (by decide +kernel)) ggX10_does_X10_alikeTo
set_option maxRecDepth 20000 in
theorem ggX10_does_X10_goesTo : GoodIn wsX10_does wsX10_goesTo := goodIn_r _ [34, 35, 14, 15, 16, 6, 17, 8, 10, 12, 36, 37, 38, 39, 40, 41, 42, 43, 44, 45, 46, 47, 48, 49, 50, 51, 52, 53, 54, 55, 56, 57, 58, 59, 60, 61, 62, 63, 64, 65, 66, 67, 68, 69, 70, 71, 72, 73, 74, 75, 76, 77, 78, 79, 80, 81, 82, 83] (by decide +kernel) (by decide +kernel)
set_option maxRecDepth 20000 in
theorem gX10_does_X10_goesTo : GoodIn wsX10_does (wsV RX10 153 RX10 yX10_goesTo wsX10_goesTo) := goodIn_app (goodIn_of _ (by decide +kernel)) ggX10_does_X10_goesTo
theorem dX10_does_0 : decode cX10_does 0 = .ok (.aload_n 0, 1) := by decide +kernel
theorem dX10_does_1 : decode cX10_does 1 = .ok (.getfield 76, 3) := by decide +kernel
theorem dX10_does_4 : decode cX10_does 4 = .ok (.iload_n 1, 1) := by decide +kernel
theorem dX10_does_5 : decode cX10_does 5 = .ok (.iaload, 1) := by decide +kernel
theorem dX10_does_6 : decode cX10_does 6 = .ok (.istore_n 3, 1) := by decide +kernel
theorem dX10_does_7 : decode cX10_does 7 = .ok (.aload_n 0, 1) := by decide +kernel
theorem dX10_does_8 : decode cX10_does 8 = .ok (.getfield 24, 3) := by decide +kernel
theorem dX10_does_11 : decode cX10_does 11 = .ok (.iload_n 3, 1) := by decide +kernel
theorem dX10_does_12 : decode cX10_does 12 = .ok (.baload, 1) := by decide +kernel
theorem dX10_does_13 : decode cX10_does 13 = .ok (.ifCond .ne 5, 3) := by decide +kernel
theorem dX10_does_16 : decode cX10_does 16 = .ok (.iconst 1, 1) := by decide +kernel
theorem dX10_does_17 : decode cX10_does 17 = .ok (.ireturn, 1) := by decide +kernel
theorem dX10_does_18 : decode cX10_does 18 = .ok (.aload_n 0, 1) := by decide +kernel
theorem dX10_does_19 : decode cX10_does 19 = .ok (.iload_n 1, 1) := by decide +kernel
theorem dX10_does_20 : decode cX10_does 20 = .ok (.iload_n 2, 1) := by decide +kernel
theorem dX10_does_21 : decode cX10_does 21 = .ok (.invokevirtual 271, 3) := by decide +kernel
theorem dX10_does_24 : decode cX10_does 24 = .ok (.aload_n 0, 1) := by decide +kernel
theorem dX10_does_25 : decode cX10_does 25 = .ok (.iload_n 3, 1) := by decide +kernel
theorem dX10_does_26 : decode cX10_does 26 = .ok (.bipush 70, 2) := by decide +kernel
theorem dX10_does_28 : decode cX10_does 28 = .ok (.invokevirtual 104, 3) := by decide +kernel
theorem dX10_does_31 : decode cX10_does 31 = .ok (.ifCond .ne 5, 3) := by decide +kernel
theorem dX10_does_34 : decode cX10_does 34 = .ok (.iconst 2, 1) := by decide +kernel
theorem dX10_does_35 : decode cX10_does 35 = .ok (.ireturn, 1) := by decide +kernel
theorem dX10_does_36 : decode cX10_does 36 = .ok (.aload_n 0, 1) := by decide +kernel
theorem dX10_does_37 : decode cX10_does 37 = .ok (.iload_n 1, 1) := by decide +kernel
theorem dX10_does_38 : decode cX10_does 38 = .ok (.iconst 1, 1) := by decide +kernel
theorem dX10_does_39 : decode cX10_does 39 = .ok (.iload_n 2, 1) := by decide +kernel
theorem dX10_does_40 : decode cX10_does 40 = .ok (.isub, 1) := by decide +kernel
theorem dX10_does_41 : decode cX10_does 41 = .ok (.invokevirtual 271, 3) := by decide +kernel
theorem dX10_does_44 : decode cX10_does 44 = .ok (.aload_n 0, 1) := by decide +kernel
theorem dX10_does_45 : decode cX10_does 45 = .ok (.bipush 70, 2) := by decide +kernel
theorem dX10_does_47 : decode cX10_does 47 = .ok (.iload_n 3, 1) := by decide +kernel
theorem dX10_does_48 : decode cX10_does 48 = .ok (.invokevirtual 146, 3) := by decide +kernel
theorem dX10_does_51 : decode cX10_does 51 = .ok (.iconst (-1), 1) := by decide +kernel
theorem dX10_does_52 : decode cX10_does 52 = .ok (.if_icmp .eq 5, 3) := by decide +kernel
theorem dX10_does_55 : decode cX10_does 55 = .ok (.iconst 3, 1) := by decide +kernel
theorem dX10_does_56 : decode cX10_does 56 = .ok (.ireturn, 1) := by decide +kernel
theorem dX10_does_57 : decode cX10_does 57 = .ok (.aload_n 0, 1) := by decide +kernel
theorem dX10_does_58 : decode cX10_does 58 = .ok (.iload_n 3, 1) := by decide +kernel
theorem dX10_does_59 : decode cX10_does 59 = .ok (.bipush 70, 2) := by decide +kernel
theorem dX10_does_61 : decode cX10_does 61 = .ok (.invokevirtual 153, 3) := by decide +kernel
theorem dX10_does_64 : decode cX10_does 64 = .ok (.iconst 0, 1) := by decide +kernel
theorem dX10_does_65 : decode cX10_does 65 = .ok (.ireturn, 1) := by decide +kernel
set_option maxRecDepth 20000 in
theorem ggX10_can_X10_troubles : GoodIn wsX10_can wsX10_troubles := goodIn_r _ [6, 7, 1, 8, 9, 10, 11, 12, 13, 14, 15, 16, 17, 18, 19, 20, 21, 22, 23, 24, 25, 26, 27, 28, 29, 30, 31, 32, 33, 34, 35, 36, 37, 38, 39, 40, 41, 42, 43, 44, 45, 46, 47, 48, 49, 50, 51, 52] (by decide +kernel) (by decide +kernel)
set_option maxRecDepth 20000 in
theorem gX10_can_X10_troubles : GoodIn wsX10_can (wsV RX10 253 RX10 yX10_troubles wsX10_troubles) := goodIn_app (goodIn_of _ (by decide +kernel)) ggX10_can_X10_troubles
theorem dX10_can_0 : decode cX10_can 0 = .ok (.iload_n 1, 1) := by decide +kernel
theorem dX10_can_1 : decode cX10_can 1 = .ok (.ifCond .lt 21, 3) := by decide +kernel
theorem dX10_can_4 : decode cX10_can 4 = .ok (.aload_n 0, 1) := by decide +kernel
theorem dX10_can_5 : decode cX10_can 5 = .ok (.getfield 228, 3) := by decide +kernel
theorem dX10_can_8 : decode cX10_can 8 = .ok (.ifCond .eq 14, 3) := by decide +kernel
theorem dX10_can_11 : decode cX10_can 11 = .ok (.aload_n 0, 1) := by decide +kernel
theorem dX10_can_12 : decode cX10_can 12 = .ok (.invokevirtual 253, 3) := by decide +kernel
theorem dX10_can_15 : decode cX10_can 15 = .ok (.ifCond .ne 7, 3) := by decide +kernel
theorem dX10_can_18 : decode cX10_can 18 = .ok (.iconst 1, 1) := by decide +kernel
theorem dX10_can_19 : decode cX10_can 19 = .ok (.goto 4, 3) := by decide +kernel
theorem dX10_can_22 : decode cX10_can 22 = .ok (.iconst 0, 1) := by decide +kernel
theorem dX10_can_23 : decode cX10_can 23 = .ok (.ireturn, 1) := by decide +kernel
set_option maxRecDepth 20000 in
theorem ggX10_go_X10_can : GoodIn wsX10_go wsX10_can := goodIn_r _ [9, 10, 11, 12, 13, 8, 14, 15, 16, 59, 60, 61, 62, 63, 64, 65, 66, 67, 68, 69, 70, 71, 72, 73, 74, 75, 76, 77, 78, 79, 80, 81, 82, 83, 84, 85, 86, 87, 88, 89, 90, 91, 92, 93, 94, 95, 96, 97, 98, 99, 100, 101, 102] (by decide +kernel) (by decide +kernel)
set_option maxRecDepth 20000 in
theorem gX10_go_X10_can : GoodIn wsX10_go (wsV RX10 274 RX10 yX10_can wsX10_can) := goodIn_app (goodIn_of _ (by decide +kernel)) ggX10_go_X10_can
set_option maxRecDepth 20000 in
theorem ggX10_go_X10_does : GoodIn wsX10_go wsX10_does := goodIn_r _ [20, 21, 22, 23, 24, 25, 8, 26, 27, 28, 29, 30, 31, 32, 33, 34, 35, 36, 37, 38, 39, 40, 41, 42, 43, 44, 45, 46, 47, 48, 49, 50, 51, 52, 53, 54, 55, 56, 57, 58, 59, 60, 61, 62, 63, 64, 65, 66, 67, 68, 69, 70, 71, 72, 73, 74, 75, 76, 77, 78, 79, 80, 81, 82, 83, 84, 85, 86, 87, 88, 89, 90, 91, 92, 93, 94, 95, 96, 97, 98, 99, 100, 101, 102] (by decide +kernel) (by decide +kernel)
set_option maxRecDepth 20000 in
theorem gX10_go_X10_does : GoodIn wsX10_go (wsV RX10 280 RX10 yX10_does wsX10_does) := goodIn_app (goodIn_of _ (by decide +kernel)) ggX10_go_X10_does
theorem dX10_go_0 : decode cX10_go 0 = .ok (.aload_n 0, 1) := by decide +kernel
theorem dX10_go_1 : decode cX10_go 1 = .ok (.iconst 0, 1) := by decide +kernel
theorem dX10_go_2 : decode cX10_go 2 = .ok (.putfield 1, 3) := by decide +kernel
theorem dX10_go_5 : decode cX10_go 5 = .ok (.aload_n 0, 1) := by decide +kernel
theorem dX10_go_6 : decode cX10_go 6 = .ok (.iload_n 1, 1) := by decide +kernel
theorem dX10_go_7 : decode cX10_go 7 = .ok (.invokevirtual 274, 3) := by decide +kernel
theorem dX10_go_10 : decode cX10_go 10 = .ok (.ifCond .ne 5, 3) := by decide +kernel
theorem dX10_go_13 : decode cX10_go 13 = .ok (.iconst (-1), 1) := by decide +kernel
theorem dX10_go_14 : decode cX10_go 14 = .ok (.ireturn, 1) := by decide +kernel
theorem dX10_go_15 : decode cX10_go 15 = .ok (.aload_n 0, 1) := by decide +kernel
theorem dX10_go_16 : decode cX10_go 16 = .ok (.iconst 0, 1) := by decide +kernel
theorem dX10_go_17 : decode cX10_go 17 = .ok (.putfield 277, 3) := by decide +kernel
theorem dX10_go_20 : decode cX10_go 20 = .ok (.iconst 0, 1) := by decide +kernel
theorem dX10_go_21 : decode cX10_go 21 = .ok (.istore_n 2, 1) := by decide +kernel
theorem dX10_go_22 : decode cX10_go 22 = .ok (.iload_n 2, 1) := by decide +kernel
theorem dX10_go_23 : decode cX10_go 23 = .ok (.iload_n 1, 1) := by decide +kernel
theorem dX10_go_24 : decode cX10_go 24 = .ok (.if_icmp .ge 60, 3) := by decide +kernel
theorem dX10_go_27 : decode cX10_go 27 = .ok (.aload_n 0, 1) := by decide +kernel
theorem dX10_go_28 : decode cX10_go 28 = .ok (.getfield 231, 3) := by decide +kernel
theorem dX10_go_31 : decode cX10_go 31 = .ok (.aload_n 0, 1) := by decide +kernel
theorem dX10_go_32 : decode cX10_go 32 = .ok (.getfield 247, 3) := by decide +kernel
theorem dX10_go_35 : decode cX10_go 35 = .ok (.if_icmp .ge 49, 3) := by decide +kernel
theorem dX10_go_38 : decode cX10_go 38 = .ok (.aload_n 0, 1) := by decide +kernel
theorem dX10_go_39 : decode cX10_go 39 = .ok (.getfield 277, 3) := by decide +kernel
theorem dX10_go_42 : decode cX10_go 42 = .ok (.ifCond .ne 42, 3) := by decide +kernel
theorem dX10_go_45 : decode cX10_go 45 = .ok (.aload_n 0, 1) := by decide +kernel
theorem dX10_go_46 : decode cX10_go 46 = .ok (.aload_n 0, 1) := by decide +kernel
theorem dX10_go_47 : decode cX10_go 47 = .ok (.aload_n 0, 1) := by decide +kernel
theorem dX10_go_48 : decode cX10_go 48 = .ok (.getfield 231, 3) := by decide +kernel
theorem dX10_go_51 : decode cX10_go 51 = .ok (.iconst 0, 1) := by decide +kernel
theorem dX10_go_52 : decode cX10_go 52 = .ok (.invokevirtual 280, 3) := by decide +kernel
theorem dX10_go_55 : decode cX10_go 55 = .ok (.putfield 277, 3) := by decide +kernel
theorem dX10_go_58 : decode cX10_go 58 = .ok (.aload_n 0, 1) := by decide +kernel
theorem dX10_go_59 : decode cX10_go 59 = .ok (.getfield 277, 3) := by decide +kernel
theorem dX10_go_62 : decode cX10_go 62 = .ok (.ifCond .eq 6, 3) := by decide +kernel
theorem dX10_go_65 : decode cX10_go 65 = .ok (.goto (-43), 3) := by decide +kernel
theorem dX10_go_68 : decode cX10_go 68 = .ok (.aload_n 0, 1) := by decide +kernel
theorem dX10_go_69 : decode cX10_go 69 = .ok (.dup, 1) := by decide +kernel
theorem dX10_go_70 : decode cX10_go 70 = .ok (.getfield 231, 3) := by decide +kernel
theorem dX10_go_73 : decode cX10_go 73 = .ok (.iconst 1, 1) := by decide +kernel
theorem dX10_go_74 : decode cX10_go 74 = .ok (.iadd, 1) := by decide +kernel
theorem dX10_go_75 : decode cX10_go 75 = .ok (.putfield 231, 3) := by decide +kernel
theorem dX10_go_78 : decode cX10_go 78 = .ok (.iinc 2 1, 3) := by decide +kernel
theorem dX10_go_81 : decode cX10_go 81 = .ok (.goto (-59), 3) := by decide +kernel
theorem dX10_go_84 : decode cX10_go 84 = .ok (.iload_n 2, 1) := by decide +kernel
theorem dX10_go_85 : decode cX10_go 85 = .ok (.ireturn, 1) := by decide +kernel
set_option maxRecDepth 20000 in
theorem ggX10_back_X10_can : GoodIn wsX10_back wsX10_can := goodIn_r _ [8, 9, 10, 11, 12, 7, 13, 14, 15, 58, 59, 60, 61, 62, 63, 64, 65, 66, 67, 68, 69, 70, 71, 72, 73, 74, 75, 76, 77, 78, 79, 80, 81, 82, 83, 84, 85, 86, 87, 88, 89, 90, 91, 92, 93, 94, 95, 96, 97, 98, 99, 100, 101] (by decide +kernel) (by decide +kernel)
set_option maxRecDepth 20000 in
theorem gX10_back_X10_can : GoodIn wsX10_back (wsV RX10 274 RX10 yX10_can wsX10_can) := goodIn_app (goodIn_of _ (by decide +kernel)) ggX10_back_X10_can
set_option maxRecDepth 20000 in
theorem ggX10_back_X10_does : GoodIn wsX10_back wsX10_does := goodIn_r _ [19, 20, 21, 22, 23, 24, 7, 25, 26, 27, 28, 29, 30, 31, 32, 33, 34, 35, 36, 37, 38, 39, 40, 41, 42, 43, 44, 45, 46, 47, 48, 49, 50, 51, 52, 53, 54, 55, 56, 57, 58, 59, 60, 61, 62, 63, 64, 65, 66, 67, 68, 69, 70, 71, 72, 73, 74, 75, 76, 77, 78, 79, 80, 81, 82, 83, 84, 85, 86, 87, 88, 89, 90, 91, 92, 93, 94, 95, 96, 97, 98, 99, 100, 101] (by decide +kernel) (by decide +kernel)
set_option maxRecDepth 20000 in
theorem gX10_back_X10_does : GoodIn wsX10_back (wsV RX10 280 RX10 yX10_does wsX10_does) := goodIn_app (goodIn_of _ (by decide +kernel)) ggX10_back_X10_does
theorem dX10_back_0 : decode cX10_back 0 = .ok (.aload_n 0, 1) := by decide +kernel
theorem dX10_back_1 : decode cX10_back 1 = .ok (.iconst 0, 1) := by decide +kernel
theorem dX10_back_2 : decode cX10_back 2 = .ok (.putfield 1, 3) := by decide +kernel
theorem dX10_back_5 : decode cX10_back 5 = .ok (.aload_n 0, 1) := by decide +kernel
theorem dX10_back_6 : decode cX10_back 6 = .ok (.iload_n 1, 1) := by decide +kernel
theorem dX10_back_7 : decode cX10_back 7 = .ok (.invokevirtual 274, 3) := by decide +kernel
theorem dX10_back_10 : decode cX10_back 10 = .ok (.ifCond .ne 5, 3) := by decide +kernel
theorem dX10_back_13 : decode cX10_back 13 = .ok (.iconst (-1), 1) := by decide +kernel
theorem dX10_back_14 : decode cX10_back 14 = .ok (.ireturn, 1) := by decide +kernel
theorem dX10_back_15 : decode cX10_back 15 = .ok (.aload_n 0, 1) := by decide +kernel
theorem dX10_back_16 : decode cX10_back 16 = .ok (.iconst 0, 1) := by decide +kernel
theorem dX10_back_17 : decode cX10_back 17 = .ok (.putfield 277, 3) := by decide +kernel
theorem dX10_back_20 : decode cX10_back 20 = .ok (.iconst 0, 1) := by decide +kernel
theorem dX10_back_21 : decode cX10_back 21 = .ok (.istore_n 2, 1) := by decide +kernel
theorem dX10_back_22 : decode cX10_back 22 = .ok (.iload_n 2, 1) := by decide +kernel
theorem dX10_back_23 : decode cX10_back 23 = .ok (.iload_n 1, 1) := by decide +kernel
theorem dX10_back_24 : decode cX10_back 24 = .ok (.if_icmp .ge 58, 3) := by decide +kernel
theorem dX10_back_27 : decode cX10_back 27 = .ok (.aload_n 0, 1) := by decide +kernel
theorem dX10_back_28 : decode cX10_back 28 = .ok (.getfield 231, 3) := by decide +kernel
theorem dX10_back_31 : decode cX10_back 31 = .ok (.ifCond .le 51, 3) := by decide +kernel
theorem dX10_back_34 : decode cX10_back 34 = .ok (.aload_n 0, 1) := by decide +kernel
theorem dX10_back_35 : decode cX10_back 35 = .ok (.getfield 277, 3) := by decide +kernel
theorem dX10_back_38 : decode cX10_back 38 = .ok (.ifCond .ne 44, 3) := by decide +kernel
theorem dX10_back_41 : decode cX10_back 41 = .ok (.aload_n 0, 1) := by decide +kernel
theorem dX10_back_42 : decode cX10_back 42 = .ok (.aload_n 0, 1) := by decide +kernel
theorem dX10_back_43 : decode cX10_back 43 = .ok (.aload_n 0, 1) := by decide +kernel
theorem dX10_back_44 : decode cX10_back 44 = .ok (.getfield 231, 3) := by decide +kernel
theorem dX10_back_47 : decode cX10_back 47 = .ok (.iconst 1, 1) := by decide +kernel
theorem dX10_back_48 : decode cX10_back 48 = .ok (.isub, 1) := by decide +kernel
theorem dX10_back_49 : decode cX10_back 49 = .ok (.iconst 1, 1) := by decide +kernel
theorem dX10_back_50 : decode cX10_back 50 = .ok (.invokevirtual 280, 3) := by decide +kernel
theorem dX10_back_53 : decode cX10_back 53 = .ok (.putfield 277, 3) := by decide +kernel
theorem dX10_back_56 : decode cX10_back 56 = .ok (.aload_n 0, 1) := by decide +kernel
theorem dX10_back_57 : decode cX10_back 57 = .ok (.getfield 277, 3) := by decide +kernel
theorem dX10_back_60 : decode cX10_back 60 = .ok (.ifCond .eq 6, 3) := by decide +kernel
theorem dX10_back_63 : decode cX10_back 63 = .ok (.goto (-41), 3) := by decide +kernel
theorem dX10_back_66 : decode cX10_back 66 = .ok (.aload_n 0, 1) := by decide +kernel
theorem dX10_back_67 : decode cX10_back 67 = .ok (.dup, 1) := by decide +kernel
theorem dX10_back_68 : decode cX10_back 68 = .ok (.getfield 231, 3) := by decide +kernel
theorem dX10_back_71 : decode cX10_back 71 = .ok (.iconst 1, 1) := by decide +kernel
theorem dX10_back_72 : decode cX10_back 72 = .ok (.isub, 1) := by decide +kernel
theorem dX10_back_73 : decode cX10_back 73 = .ok (.putfield 231, 3) := by decide +kernel
theorem dX10_back_76 : decode cX10_back 76 = .ok (.iinc 2 1, 3) := by decide +kernel
theorem dX10_back_79 : decode cX10_back 79 = .ok (.goto (-57), 3) := by decide +kernel
theorem dX10_back_82 : decode cX10_back 82 = .ok (.iload_n 2, 1) := by decide +kernel
theorem dX10_back_83 : decode cX10_back 83 = .ok (.ireturn, 1) := by decide +kernel
theorem dX10_stuck_0 : decode cX10_stuck 0 = .ok (.aload_n 0, 1) := by decide +kernel
theorem dX10_stuck_1 : decode cX10_stuck 1 = .ok (.iconst 0, 1) := by decide +kernel
theorem dX10_stuck_2 : decode cX10_stuck 2 = .ok (.putfield 1, 3) := by decide +kernel
theorem dX10_stuck_5 : decode cX10_stuck 5 = .ok (.aload_n 0, 1) := by decide +kernel
theorem dX10_stuck_6 : decode cX10_stuck 6 = .ok (.getfield 277, 3) := by decide +kernel
theorem dX10_stuck_9 : decode cX10_stuck 9 = .ok (.ireturn, 1) := by decide +kernel
set_option maxRecDepth 20000 in
theorem ggX10_link_X10_takes : GoodIn wsX10_link wsX10_takes := goodIn_r _ [7, 8, 9, 10, 11, 12, 13, 14, 6, 15, 16, 17, 18, 19, 20, 21, 26, 27, 28, 29, 30, 31, 32, 33, 34, 35, 36, 37, 38, 39, 40, 41, 42, 43, 44, 45, 46, 47, 48, 49, 50, 51, 52, 53, 54, 55, 56, 57, 58, 59, 60, 61, 62, 63, 64, 65, 66, 67, 68, 69] (by decide +kernel) (by decide +kernel)
set_option maxRecDepth 20000 in
theorem gX10_link_X10_takes : GoodIn wsX10_link (wsV RX10 143 RX10 yX10_takes wsX10_takes) := goodIn_app (goodIn_of _ (by decide +kernel)) ggX10_link_X10_takes
set_option maxRecDepth 20000 in
theorem ggX10_link_X10_copies : GoodIn wsX10_link wsX10_copies := goodIn_r _ [25, 10, 11, 12, 26, 27, 28, 29, 30, 31, 32, 33, 34, 35, 36, 37, 38, 39, 40, 41, 42, 43, 44, 45, 46, 47, 48, 49, 50, 51, 52, 53, 54, 55, 56, 57, 58, 59, 60, 61, 62, 63, 64, 65, 66, 67, 68, 69] (by decide +kernel) (by decide +kernel)
set_option maxRecDepth 20000 in
theorem gX10_link_X10_copies : GoodIn wsX10_link (wsV RX10 121 RX10 yX10_copies wsX10_copies) := goodIn_app (goodIn_of _ (by decide +kernel)) ggX10_link_X10_copies
theorem dX10_link_0 : decode cX10_link 0 = .ok (.aload_n 0, 1) := by decide +kernel
theorem dX10_link_1 : decode cX10_link 1 = .ok (.iconst 0, 1) := by decide +kernel
theorem dX10_link_2 : decode cX10_link 2 = .ok (.putfield 1, 3) := by decide +kernel
theorem dX10_link_5 : decode cX10_link 5 = .ok (.aload_n 0, 1) := by decide +kernel
theorem dX10_link_6 : decode cX10_link 6 = .ok (.iload_n 1, 1) := by decide +kernel
theorem dX10_link_7 : decode cX10_link 7 = .ok (.invokevirtual 143, 3) := by decide +kernel
theorem dX10_link_10 : decode cX10_link 10 = .ok (.ifCond .eq 12, 3) := by decide +kernel
theorem dX10_link_13 : decode cX10_link 13 = .ok (.aload_n 0, 1) := by decide +kernel
theorem dX10_link_14 : decode cX10_link 14 = .ok (.getfield 118, 3) := by decide +kernel
theorem dX10_link_17 : decode cX10_link 17 = .ok (.bipush 30, 2) := by decide +kernel
theorem dX10_link_19 : decode cX10_link 19 = .ok (.if_icmp .ne 5, 3) := by decide +kernel
theorem dX10_link_22 : decode cX10_link 22 = .ok (.iconst (-1), 1) := by decide +kernel
theorem dX10_link_23 : decode cX10_link 23 = .ok (.ireturn, 1) := by decide +kernel
theorem dX10_link_24 : decode cX10_link 24 = .ok (.aload_n 0, 1) := by decide +kernel
theorem dX10_link_25 : decode cX10_link 25 = .ok (.bipush 70, 2) := by decide +kernel
theorem dX10_link_27 : decode cX10_link 27 = .ok (.bipush 40, 2) := by decide +kernel
theorem dX10_link_29 : decode cX10_link 29 = .ok (.aload_n 0, 1) := by decide +kernel
theorem dX10_link_30 : decode cX10_link 30 = .ok (.getfield 118, 3) := by decide +kernel
theorem dX10_link_33 : decode cX10_link 33 = .ok (.iadd, 1) := by decide +kernel
theorem dX10_link_34 : decode cX10_link 34 = .ok (.invokevirtual 121, 3) := by decide +kernel
theorem dX10_link_37 : decode cX10_link 37 = .ok (.aload_n 0, 1) := by decide +kernel
theorem dX10_link_38 : decode cX10_link 38 = .ok (.dup, 1) := by decide +kernel
theorem dX10_link_39 : decode cX10_link 39 = .ok (.getfield 118, 3) := by decide +kernel
theorem dX10_link_42 : decode cX10_link 42 = .ok (.iconst 1, 1) := by decide +kernel
theorem dX10_link_43 : decode cX10_link 43 = .ok (.iadd, 1) := by decide +kernel
theorem dX10_link_44 : decode cX10_link 44 = .ok (.putfield 118, 3) := by decide +kernel
theorem dX10_link_47 : decode cX10_link 47 = .ok (.aload_n 0, 1) := by decide +kernel
theorem dX10_link_48 : decode cX10_link 48 = .ok (.getfield 118, 3) := by decide +kernel
theorem dX10_link_51 : decode cX10_link 51 = .ok (.iconst 1, 1) := by decide +kernel
theorem dX10_link_52 : decode cX10_link 52 = .ok (.isub, 1) := by decide +kernel
theorem dX10_link_53 : decode cX10_link 53 = .ok (.ireturn, 1) := by decide +kernel
theorem dX10_lookAt_0 : decode cX10_lookAt 0 = .ok (.iload_n 2, 1) := by decide +kernel
theorem dX10_lookAt_1 : decode cX10_lookAt 1 = .ok (.bipush 10, 2) := by decide +kernel
theorem dX10_lookAt_3 : decode cX10_lookAt 3 = .ok (.if_icmp .lt 33, 3) := by decide +kernel
theorem dX10_lookAt_6 : decode cX10_lookAt 6 = .ok (.iload_n 2, 1) := by decide +kernel
theorem dX10_lookAt_7 : decode cX10_lookAt 7 = .ok (.bipush 10, 2) := by decide +kernel
theorem dX10_lookAt_9 : decode cX10_lookAt 9 = .ok (.aload_n 0, 1) := by decide +kernel
theorem dX10_lookAt_10 : decode cX10_lookAt 10 = .ok (.getfield 17, 3) := by decide +kernel
theorem dX10_lookAt_13 : decode cX10_lookAt 13 = .ok (.iload_n 1, 1) := by decide +kernel
theorem dX10_lookAt_14 : decode cX10_lookAt 14 = .ok (.iaload, 1) := by decide +kernel
theorem dX10_lookAt_15 : decode cX10_lookAt 15 = .ok (.iadd, 1) := by decide +kernel
theorem dX10_lookAt_16 : decode cX10_lookAt 16 = .ok (.if_icmp .ge 20, 3) := by decide +kernel
theorem dX10_lookAt_19 : decode cX10_lookAt 19 = .ok (.aload_n 0, 1) := by decide +kernel
theorem dX10_lookAt_20 : decode cX10_lookAt 20 = .ok (.getfield 13, 3) := by decide +kernel
theorem dX10_lookAt_23 : decode cX10_lookAt 23 = .ok (.bipush 12, 2) := by decide +kernel
theorem dX10_lookAt_25 : decode cX10_lookAt 25 = .ok (.iload_n 1, 1) := by decide +kernel
theorem dX10_lookAt_26 : decode cX10_lookAt 26 = .ok (.imul, 1) := by decide +kernel
theorem dX10_lookAt_27 : decode cX10_lookAt 27 = .ok (.iload_n 2, 1) := by decide +kernel
theorem dX10_lookAt_28 : decode cX10_lookAt 28 = .ok (.iadd, 1) := by decide +kernel
theorem dX10_lookAt_29 : decode cX10_lookAt 29 = .ok (.bipush 10, 2) := by decide +kernel
theorem dX10_lookAt_31 : decode cX10_lookAt 31 = .ok (.isub, 1) := by decide +kernel
theorem dX10_lookAt_32 : decode cX10_lookAt 32 = .ok (.baload, 1) := by decide +kernel
theorem dX10_lookAt_33 : decode cX10_lookAt 33 = .ok (.goto 4, 3) := by decide +kernel
theorem dX10_lookAt_36 : decode cX10_lookAt 36 = .ok (.iconst (-1), 1) := by decide +kernel
theorem dX10_lookAt_37 : decode cX10_lookAt 37 = .ok (.ireturn, 1) := by decide +kernel
set_option maxRecDepth 20000 in
theorem ggX10_linkOf_X10_lookAt : GoodIn wsX10_linkOf wsX10_lookAt := goodIn_r _ [11, 4, 12, 17, 18, 19, 20, 21, 22, 23, 24, 25, 26, 27, 28, 29, 30, 31, 32, 33, 34, 35, 36, 37, 38, 39, 40, 41, 42, 43, 44, 45, 46, 47, 48, 49, 50, 51, 52, 53, 54, 55, 56, 57, 58, 59, 60] (by decide +kernel) (by decide +kernel)
set_option maxRecDepth 20000 in
theorem gX10_linkOf_X10_lookAt : GoodIn wsX10_linkOf (wsV RX10 283 RX10 yX10_lookAt wsX10_lookAt) := goodIn_app (goodIn_of _ (by decide +kernel)) ggX10_linkOf_X10_lookAt
set_option maxRecDepth 20000 in
theorem ggX10_linkOf_X10_isJust : GoodIn wsX10_linkOf wsX10_isJust := goodIn_r _ [16, 3, 4, 12, 17, 18, 19, 20, 21, 22, 23, 24, 25, 26, 27, 28, 29, 30, 31, 32, 33, 34, 35, 36, 37, 38, 39, 40, 41, 42, 43, 44, 45, 46, 47, 48, 49, 50, 51, 52, 53, 54, 55, 56, 57, 58, 59, 60] (by decide +kernel) (by decide +kernel)
set_option maxRecDepth 20000 in
theorem gX10_linkOf_X10_isJust : GoodIn wsX10_linkOf (wsV RX10 104 RX10 yX10_isJust wsX10_isJust) := goodIn_app (goodIn_of _ (by decide +kernel)) ggX10_linkOf_X10_isJust
theorem dX10_linkOf_0 : decode cX10_linkOf 0 = .ok (.aload_n 0, 1) := by decide +kernel
theorem dX10_linkOf_1 : decode cX10_linkOf 1 = .ok (.iconst 0, 1) := by decide +kernel
theorem dX10_linkOf_2 : decode cX10_linkOf 2 = .ok (.putfield 1, 3) := by decide +kernel
theorem dX10_linkOf_5 : decode cX10_linkOf 5 = .ok (.iload_n 1, 1) := by decide +kernel
theorem dX10_linkOf_6 : decode cX10_linkOf 6 = .ok (.ifCond .lt 11, 3) := by decide +kernel
theorem dX10_linkOf_9 : decode cX10_linkOf 9 = .ok (.iload_n 1, 1) := by decide +kernel
theorem dX10_linkOf_10 : decode cX10_linkOf 10 = .ok (.aload_n 0, 1) := by decide +kernel
theorem dX10_linkOf_11 : decode cX10_linkOf 11 = .ok (.getfield 118, 3) := by decide +kernel
theorem dX10_linkOf_14 : decode cX10_linkOf 14 = .ok (.if_icmp .lt 5, 3) := by decide +kernel
theorem dX10_linkOf_17 : decode cX10_linkOf 17 = .ok (.iconst (-1), 1) := by decide +kernel
theorem dX10_linkOf_18 : decode cX10_linkOf 18 = .ok (.ireturn, 1) := by decide +kernel
theorem dX10_linkOf_19 : decode cX10_linkOf 19 = .ok (.bipush 40, 2) := by decide +kernel
theorem dX10_linkOf_21 : decode cX10_linkOf 21 = .ok (.iload_n 1, 1) := by decide +kernel
theorem dX10_linkOf_22 : decode cX10_linkOf 22 = .ok (.iadd, 1) := by decide +kernel
theorem dX10_linkOf_23 : decode cX10_linkOf 23 = .ok (.istore_n 3, 1) := by decide +kernel
theorem dX10_linkOf_24 : decode cX10_linkOf 24 = .ok (.iload_n 2, 1) := by decide +kernel
theorem dX10_linkOf_25 : decode cX10_linkOf 25 = .ok (.ifCond .ne 10, 3) := by decide +kernel
theorem dX10_linkOf_28 : decode cX10_linkOf 28 = .ok (.aload_n 0, 1) := by decide +kernel
theorem dX10_linkOf_29 : decode cX10_linkOf 29 = .ok (.getfield 21, 3) := by decide +kernel
theorem dX10_linkOf_32 : decode cX10_linkOf 32 = .ok (.iload_n 3, 1) := by decide +kernel
theorem dX10_linkOf_33 : decode cX10_linkOf 33 = .ok (.iaload, 1) := by decide +kernel
theorem dX10_linkOf_34 : decode cX10_linkOf 34 = .ok (.ireturn, 1) := by decide +kernel
theorem dX10_linkOf_35 : decode cX10_linkOf 35 = .ok (.iload_n 2, 1) := by decide +kernel
theorem dX10_linkOf_36 : decode cX10_linkOf 36 = .ok (.iconst 2, 1) := by decide +kernel
theorem dX10_linkOf_37 : decode cX10_linkOf 37 = .ok (.if_icmp .ne 10, 3) := by decide +kernel
theorem dX10_linkOf_40 : decode cX10_linkOf 40 = .ok (.aload_n 0, 1) := by decide +kernel
theorem dX10_linkOf_41 : decode cX10_linkOf 41 = .ok (.getfield 17, 3) := by decide +kernel
theorem dX10_linkOf_44 : decode cX10_linkOf 44 = .ok (.iload_n 3, 1) := by decide +kernel
theorem dX10_linkOf_45 : decode cX10_linkOf 45 = .ok (.iaload, 1) := by decide +kernel
theorem dX10_linkOf_46 : decode cX10_linkOf 46 = .ok (.ireturn, 1) := by decide +kernel
theorem dX10_linkOf_47 : decode cX10_linkOf 47 = .ok (.iload_n 2, 1) := by decide +kernel
theorem dX10_linkOf_48 : decode cX10_linkOf 48 = .ok (.iconst 1, 1) := by decide +kernel
theorem dX10_linkOf_49 : decode cX10_linkOf 49 = .ok (.if_icmp .eq 10, 3) := by decide +kernel
theorem dX10_linkOf_52 : decode cX10_linkOf 52 = .ok (.aload_n 0, 1) := by decide +kernel
theorem dX10_linkOf_53 : decode cX10_linkOf 53 = .ok (.iload_n 3, 1) := by decide +kernel
theorem dX10_linkOf_54 : decode cX10_linkOf 54 = .ok (.iload_n 2, 1) := by decide +kernel
theorem dX10_linkOf_55 : decode cX10_linkOf 55 = .ok (.invokevirtual 283, 3) := by decide +kernel
theorem dX10_linkOf_58 : decode cX10_linkOf 58 = .ok (.ireturn, 1) := by decide +kernel
theorem dX10_linkOf_59 : decode cX10_linkOf 59 = .ok (.iconst 0, 1) := by decide +kernel
theorem dX10_linkOf_60 : decode cX10_linkOf 60 = .ok (.istore 4, 2) := by decide +kernel
theorem dX10_linkOf_62 : decode cX10_linkOf 62 = .ok (.iload 4, 2) := by decide +kernel
theorem dX10_linkOf_64 : decode cX10_linkOf 64 = .ok (.aload_n 0, 1) := by decide +kernel
theorem dX10_linkOf_65 : decode cX10_linkOf 65 = .ok (.getfield 112, 3) := by decide +kernel
theorem dX10_linkOf_68 : decode cX10_linkOf 68 = .ok (.if_icmp .ge 32, 3) := by decide +kernel
theorem dX10_linkOf_71 : decode cX10_linkOf 71 = .ok (.aload_n 0, 1) := by decide +kernel
theorem dX10_linkOf_72 : decode cX10_linkOf 72 = .ok (.getfield 24, 3) := by decide +kernel
theorem dX10_linkOf_75 : decode cX10_linkOf 75 = .ok (.iload 4, 2) := by decide +kernel
theorem dX10_linkOf_77 : decode cX10_linkOf 77 = .ok (.baload, 1) := by decide +kernel
theorem dX10_linkOf_78 : decode cX10_linkOf 78 = .ok (.ifCond .eq 16, 3) := by decide +kernel
theorem dX10_linkOf_81 : decode cX10_linkOf 81 = .ok (.aload_n 0, 1) := by decide +kernel
theorem dX10_linkOf_82 : decode cX10_linkOf 82 = .ok (.iload 4, 2) := by decide +kernel
theorem dX10_linkOf_84 : decode cX10_linkOf 84 = .ok (.iload_n 3, 1) := by decide +kernel
theorem dX10_linkOf_85 : decode cX10_linkOf 85 = .ok (.invokevirtual 104, 3) := by decide +kernel
theorem dX10_linkOf_88 : decode cX10_linkOf 88 = .ok (.ifCond .eq 6, 3) := by decide +kernel
theorem dX10_linkOf_91 : decode cX10_linkOf 91 = .ok (.iload 4, 2) := by decide +kernel
theorem dX10_linkOf_93 : decode cX10_linkOf 93 = .ok (.ireturn, 1) := by decide +kernel
theorem dX10_linkOf_94 : decode cX10_linkOf 94 = .ok (.iinc 4 1, 3) := by decide +kernel
theorem dX10_linkOf_97 : decode cX10_linkOf 97 = .ok (.goto (-35), 3) := by decide +kernel
theorem dX10_linkOf_100 : decode cX10_linkOf 100 = .ok (.iconst (-1), 1) := by decide +kernel
theorem dX10_linkOf_101 : decode cX10_linkOf 101 = .ok (.ireturn, 1) := by decide +kernel
set_option maxRecDepth 20000 in
theorem ggX10_of_X10_isFile : GoodIn wsX10_of wsX10_isFile := goodIn_r _ [9, 10, 11, 19, 20, 21, 22, 23, 24, 25, 26, 27, 28, 29, 30, 31, 32, 33, 34, 35, 36, 37, 38, 39, 40, 41, 42, 43, 44, 45, 46, 47, 48, 49, 50, 51, 52, 53, 54, 55, 56, 57, 58, 59, 60, 61, 62] (by decide +kernel) (by decide +kernel)
set_option maxRecDepth 20000 in
theorem gX10_of_X10_isFile : GoodIn wsX10_of (wsV RX10 150 RX10 yX10_isFile wsX10_isFile) := goodIn_app (goodIn_of _ (by decide +kernel)) ggX10_of_X10_isFile
set_option maxRecDepth 20000 in
theorem ggX10_of_X10_within : GoodIn wsX10_of wsX10_within := goodIn_r _ [14] (by decide +kernel) (by decide +kernel)
set_option maxRecDepth 20000 in
theorem gX10_of_X10_within : GoodIn wsX10_of (va_wsS RX10 136 yX10_within wsX10_within) := goodIn_app (goodIn_of _ (by decide +kernel)) ggX10_of_X10_within
set_option maxRecDepth 20000 in
theorem ggX10_of_X10_lookAt : GoodIn wsX10_of wsX10_lookAt := goodIn_r _ [18, 2, 4, 19, 20, 21, 22, 23, 24, 25, 26, 27, 28, 29, 30, 31, 32, 33, 34, 35, 36, 37, 38, 39, 40, 41, 42, 43, 44, 45, 46, 47, 48, 49, 50, 51, 52, 53, 54, 55, 56, 57, 58, 59, 60, 61, 62] (by decide +kernel) (by decide +kernel)
set_option maxRecDepth 20000 in
theorem gX10_of_X10_lookAt : GoodIn wsX10_of (wsV RX10 283 RX10 yX10_lookAt wsX10_lookAt) := goodIn_app (goodIn_of _ (by decide +kernel)) ggX10_of_X10_lookAt
theorem dX10_of_0 : decode cX10_of 0 = .ok (.aload_n 0, 1) := by decide +kernel
theorem dX10_of_1 : decode cX10_of 1 = .ok (.iconst 0, 1) := by decide +kernel
theorem dX10_of_2 : decode cX10_of 2 = .ok (.putfield 1, 3) := by decide +kernel
theorem dX10_of_5 : decode cX10_of 5 = .ok (.aload_n 0, 1) := by decide +kernel
theorem dX10_of_6 : decode cX10_of 6 = .ok (.iload_n 1, 1) := by decide +kernel
theorem dX10_of_7 : decode cX10_of 7 = .ok (.invokevirtual 150, 3) := by decide +kernel
theorem dX10_of_10 : decode cX10_of 10 = .ok (.ifCond .eq 35, 3) := by decide +kernel
theorem dX10_of_13 : decode cX10_of 13 = .ok (.iload_n 2, 1) := by decide +kernel
theorem dX10_of_14 : decode cX10_of 14 = .ok (.iconst 0, 1) := by decide +kernel
theorem dX10_of_15 : decode cX10_of 15 = .ok (.iconst 2, 1) := by decide +kernel
theorem dX10_of_16 : decode cX10_of 16 = .ok (.invokestatic 136, 3) := by decide +kernel
theorem dX10_of_19 : decode cX10_of 19 = .ok (.ifCond .ne 22, 3) := by decide +kernel
theorem dX10_of_22 : decode cX10_of 22 = .ok (.iload_n 2, 1) := by decide +kernel
theorem dX10_of_23 : decode cX10_of 23 = .ok (.bipush 10, 2) := by decide +kernel
theorem dX10_of_25 : decode cX10_of 25 = .ok (.if_icmp .lt 20, 3) := by decide +kernel
theorem dX10_of_28 : decode cX10_of 28 = .ok (.iload_n 2, 1) := by decide +kernel
theorem dX10_of_29 : decode cX10_of 29 = .ok (.bipush 10, 2) := by decide +kernel
theorem dX10_of_31 : decode cX10_of 31 = .ok (.aload_n 0, 1) := by decide +kernel
theorem dX10_of_32 : decode cX10_of 32 = .ok (.getfield 17, 3) := by decide +kernel
theorem dX10_of_35 : decode cX10_of 35 = .ok (.iload_n 1, 1) := by decide +kernel
theorem dX10_of_36 : decode cX10_of 36 = .ok (.iaload, 1) := by decide +kernel
theorem dX10_of_37 : decode cX10_of 37 = .ok (.iadd, 1) := by decide +kernel
theorem dX10_of_38 : decode cX10_of 38 = .ok (.if_icmp .ge 7, 3) := by decide +kernel
theorem dX10_of_41 : decode cX10_of 41 = .ok (.iconst 1, 1) := by decide +kernel
theorem dX10_of_42 : decode cX10_of 42 = .ok (.goto 4, 3) := by decide +kernel
theorem dX10_of_45 : decode cX10_of 45 = .ok (.iconst 0, 1) := by decide +kernel
theorem dX10_of_46 : decode cX10_of 46 = .ok (.istore_n 3, 1) := by decide +kernel
theorem dX10_of_47 : decode cX10_of 47 = .ok (.iload_n 3, 1) := by decide +kernel
theorem dX10_of_48 : decode cX10_of 48 = .ok (.ifCond .ne 10, 3) := by decide +kernel
theorem dX10_of_51 : decode cX10_of 51 = .ok (.aload_n 0, 1) := by decide +kernel
theorem dX10_of_52 : decode cX10_of 52 = .ok (.iconst 1, 1) := by decide +kernel
theorem dX10_of_53 : decode cX10_of 53 = .ok (.putfield 1, 3) := by decide +kernel
theorem dX10_of_56 : decode cX10_of 56 = .ok (.iconst 0, 1) := by decide +kernel
theorem dX10_of_57 : decode cX10_of 57 = .ok (.ireturn, 1) := by decide +kernel
theorem dX10_of_58 : decode cX10_of 58 = .ok (.iload_n 2, 1) := by decide +kernel
theorem dX10_of_59 : decode cX10_of 59 = .ok (.ifCond .ne 12, 3) := by decide +kernel
theorem dX10_of_62 : decode cX10_of 62 = .ok (.aload_n 0, 1) := by decide +kernel
theorem dX10_of_63 : decode cX10_of 63 = .ok (.getfield 21, 3) := by decide +kernel
theorem dX10_of_66 : decode cX10_of 66 = .ok (.iload_n 1, 1) := by decide +kernel
theorem dX10_of_67 : decode cX10_of 67 = .ok (.iaload, 1) := by decide +kernel
theorem dX10_of_68 : decode cX10_of 68 = .ok (.goto 50, 3) := by decide +kernel
theorem dX10_of_71 : decode cX10_of 71 = .ok (.iload_n 2, 1) := by decide +kernel
theorem dX10_of_72 : decode cX10_of 72 = .ok (.iconst 1, 1) := by decide +kernel
theorem dX10_of_73 : decode cX10_of 73 = .ok (.if_icmp .ne 12, 3) := by decide +kernel
theorem dX10_of_76 : decode cX10_of 76 = .ok (.aload_n 0, 1) := by decide +kernel
theorem dX10_of_77 : decode cX10_of 77 = .ok (.getfield 17, 3) := by decide +kernel
theorem dX10_of_80 : decode cX10_of 80 = .ok (.iload_n 1, 1) := by decide +kernel
theorem dX10_of_81 : decode cX10_of 81 = .ok (.iaload, 1) := by decide +kernel
theorem dX10_of_82 : decode cX10_of 82 = .ok (.goto 36, 3) := by decide +kernel
theorem dX10_of_85 : decode cX10_of 85 = .ok (.iload_n 2, 1) := by decide +kernel
theorem dX10_of_86 : decode cX10_of 86 = .ok (.iconst 2, 1) := by decide +kernel
theorem dX10_of_87 : decode cX10_of 87 = .ok (.if_icmp .ne 25, 3) := by decide +kernel
theorem dX10_of_90 : decode cX10_of 90 = .ok (.aload_n 0, 1) := by decide +kernel
theorem dX10_of_91 : decode cX10_of 91 = .ok (.getfield 13, 3) := by decide +kernel
theorem dX10_of_94 : decode cX10_of 94 = .ok (.bipush 12, 2) := by decide +kernel
theorem dX10_of_96 : decode cX10_of 96 = .ok (.iload_n 1, 1) := by decide +kernel
theorem dX10_of_97 : decode cX10_of 97 = .ok (.imul, 1) := by decide +kernel
theorem dX10_of_98 : decode cX10_of 98 = .ok (.baload, 1) := by decide +kernel
theorem dX10_of_99 : decode cX10_of 99 = .ok (.bipush 126, 2) := by decide +kernel
theorem dX10_of_101 : decode cX10_of 101 = .ok (.if_icmp .ne 7, 3) := by decide +kernel
theorem dX10_of_104 : decode cX10_of 104 = .ok (.iconst 1, 1) := by decide +kernel
theorem dX10_of_105 : decode cX10_of 105 = .ok (.goto 13, 3) := by decide +kernel
theorem dX10_of_108 : decode cX10_of 108 = .ok (.iconst 0, 1) := by decide +kernel
theorem dX10_of_109 : decode cX10_of 109 = .ok (.goto 9, 3) := by decide +kernel
theorem dX10_of_112 : decode cX10_of 112 = .ok (.aload_n 0, 1) := by decide +kernel
theorem dX10_of_113 : decode cX10_of 113 = .ok (.iload_n 1, 1) := by decide +kernel
theorem dX10_of_114 : decode cX10_of 114 = .ok (.iload_n 2, 1) := by decide +kernel
theorem dX10_of_115 : decode cX10_of 115 = .ok (.invokevirtual 283, 3) := by decide +kernel
theorem dX10_of_118 : decode cX10_of 118 = .ok (.ireturn, 1) := by decide +kernel
theorem dX10_spared_0 : decode cX10_spared 0 = .ok (.iconst 0, 1) := by decide +kernel
theorem dX10_spared_1 : decode cX10_spared 1 = .ok (.istore_n 1, 1) := by decide +kernel
theorem dX10_spared_2 : decode cX10_spared 2 = .ok (.iconst 0, 1) := by decide +kernel
theorem dX10_spared_3 : decode cX10_spared 3 = .ok (.istore_n 2, 1) := by decide +kernel
theorem dX10_spared_4 : decode cX10_spared 4 = .ok (.iload_n 2, 1) := by decide +kernel
theorem dX10_spared_5 : decode cX10_spared 5 = .ok (.aload_n 0, 1) := by decide +kernel
theorem dX10_spared_6 : decode cX10_spared 6 = .ok (.getfield 112, 3) := by decide +kernel
theorem dX10_spared_9 : decode cX10_spared 9 = .ok (.if_icmp .ge 35, 3) := by decide +kernel
theorem dX10_spared_12 : decode cX10_spared 12 = .ok (.aload_n 0, 1) := by decide +kernel
theorem dX10_spared_13 : decode cX10_spared 13 = .ok (.getfield 24, 3) := by decide +kernel
theorem dX10_spared_16 : decode cX10_spared 16 = .ok (.iload_n 2, 1) := by decide +kernel
theorem dX10_spared_17 : decode cX10_spared 17 = .ok (.baload, 1) := by decide +kernel
theorem dX10_spared_18 : decode cX10_spared 18 = .ok (.ifCond .eq 20, 3) := by decide +kernel
theorem dX10_spared_21 : decode cX10_spared 21 = .ok (.aload_n 0, 1) := by decide +kernel
theorem dX10_spared_22 : decode cX10_spared 22 = .ok (.getfield 13, 3) := by decide +kernel
theorem dX10_spared_25 : decode cX10_spared 25 = .ok (.bipush 12, 2) := by decide +kernel
theorem dX10_spared_27 : decode cX10_spared 27 = .ok (.iload_n 2, 1) := by decide +kernel
theorem dX10_spared_28 : decode cX10_spared 28 = .ok (.imul, 1) := by decide +kernel
theorem dX10_spared_29 : decode cX10_spared 29 = .ok (.baload, 1) := by decide +kernel
theorem dX10_spared_30 : decode cX10_spared 30 = .ok (.bipush 126, 2) := by decide +kernel
theorem dX10_spared_32 : decode cX10_spared 32 = .ok (.if_icmp .ne 6, 3) := by decide +kernel
theorem dX10_spared_35 : decode cX10_spared 35 = .ok (.iinc 1 1, 3) := by decide +kernel
theorem dX10_spared_38 : decode cX10_spared 38 = .ok (.iinc 2 1, 3) := by decide +kernel
theorem dX10_spared_41 : decode cX10_spared 41 = .ok (.goto (-37), 3) := by decide +kernel
theorem dX10_spared_44 : decode cX10_spared 44 = .ok (.iload_n 1, 1) := by decide +kernel
theorem dX10_spared_45 : decode cX10_spared 45 = .ok (.ireturn, 1) := by decide +kernel
set_option maxRecDepth 20000 in
theorem ggX10_count_X10_there : GoodIn wsX10_count wsX10_there := goodIn_r _ [13, 2, 14, 30, 31, 32, 33, 34, 35, 36, 37, 38, 39, 40, 41, 42, 43, 44, 45, 46, 47, 48, 49, 50, 51, 52, 53, 54, 55, 56, 57, 58, 59, 60, 61, 62, 63, 64, 65, 66, 67, 68, 69, 70, 71, 72, 73] (by decide +kernel) (by decide +kernel)
set_option maxRecDepth 20000 in
theorem gX10_count_X10_there : GoodIn wsX10_count (wsV RX10 125 RX10 yX10_there wsX10_there) := goodIn_app (goodIn_of _ (by decide +kernel)) ggX10_count_X10_there
set_option maxRecDepth 20000 in
theorem ggX10_count_X10_troubles : GoodIn wsX10_count wsX10_troubles := goodIn_r _ [18, 6, 5, 19, 30, 31, 32, 33, 34, 35, 36, 37, 38, 39, 40, 41, 42, 43, 44, 45, 46, 47, 48, 49, 50, 51, 52, 53, 54, 55, 56, 57, 58, 59, 60, 61, 62, 63, 64, 65, 66, 67, 68, 69, 70, 71, 72, 73] (by decide +kernel) (by decide +kernel)
set_option maxRecDepth 20000 in
theorem gX10_count_X10_troubles : GoodIn wsX10_count (wsV RX10 253 RX10 yX10_troubles wsX10_troubles) := goodIn_app (goodIn_of _ (by decide +kernel)) ggX10_count_X10_troubles
set_option maxRecDepth 20000 in
theorem ggX10_count_X10_isUnderWay : GoodIn wsX10_count wsX10_isUnderWay := goodIn_r _ [23, 5, 7, 24, 30, 31, 32, 33, 34, 35, 36, 37, 38, 39, 40, 41, 42, 43, 44, 45, 46, 47, 48, 49, 50, 51, 52, 53, 54, 55, 56, 57, 58, 59, 60, 61, 62, 63, 64, 65, 66, 67, 68, 69, 70, 71, 72, 73] (by decide +kernel) (by decide +kernel)
set_option maxRecDepth 20000 in
theorem gX10_count_X10_isUnderWay : GoodIn wsX10_count (wsV RX10 224 RX10 yX10_isUnderWay wsX10_isUnderWay) := goodIn_app (goodIn_of _ (by decide +kernel)) ggX10_count_X10_isUnderWay
set_option maxRecDepth 20000 in
theorem ggX10_count_X10_spared : GoodIn wsX10_count wsX10_spared := goodIn_r _ [28, 2, 14, 29, 30, 31, 32, 33, 34, 35, 36, 37, 38, 39, 40, 41, 42, 43, 44, 45, 46, 47, 48, 49, 50, 51, 52, 53, 54, 55, 56, 57, 58, 59, 60, 61, 62, 63, 64, 65, 66, 67, 68, 69, 70, 71, 72, 73] (by decide +kernel) (by decide +kernel)
set_option maxRecDepth 20000 in
theorem gX10_count_X10_spared : GoodIn wsX10_count (wsV RX10 286 RX10 yX10_spared wsX10_spared) := goodIn_app (goodIn_of _ (by decide +kernel)) ggX10_count_X10_spared
theorem dX10_count_0 : decode cX10_count 0 = .ok (.aload_n 0, 1) := by decide +kernel
theorem dX10_count_1 : decode cX10_count 1 = .ok (.iconst 0, 1) := by decide +kernel
theorem dX10_count_2 : decode cX10_count 2 = .ok (.putfield 1, 3) := by decide +kernel
theorem dX10_count_5 : decode cX10_count 5 = .ok (.iload_n 1, 1) := by decide +kernel
theorem dX10_count_6 : decode cX10_count 6 = .ok (.tableswitch 142 0 9 #[54, 59, 64, 77, 82, 98, 103, 119, 124, 137], 54) := by decide +kernel
theorem dX10_count_60 : decode cX10_count 60 = .ok (.aload_n 0, 1) := by decide +kernel
theorem dX10_count_61 : decode cX10_count 61 = .ok (.getfield 112, 3) := by decide +kernel
theorem dX10_count_64 : decode cX10_count 64 = .ok (.ireturn, 1) := by decide +kernel
theorem dX10_count_65 : decode cX10_count 65 = .ok (.aload_n 0, 1) := by decide +kernel
theorem dX10_count_66 : decode cX10_count 66 = .ok (.invokevirtual 125, 3) := by decide +kernel
theorem dX10_count_69 : decode cX10_count 69 = .ok (.ireturn, 1) := by decide +kernel
theorem dX10_count_70 : decode cX10_count 70 = .ok (.aload_n 0, 1) := by decide +kernel
theorem dX10_count_71 : decode cX10_count 71 = .ok (.getfield 100, 3) := by decide +kernel
theorem dX10_count_74 : decode cX10_count 74 = .ok (.ifCond .eq 7, 3) := by decide +kernel
theorem dX10_count_77 : decode cX10_count 77 = .ok (.iconst 1, 1) := by decide +kernel
theorem dX10_count_78 : decode cX10_count 78 = .ok (.goto 4, 3) := by decide +kernel
theorem dX10_count_81 : decode cX10_count 81 = .ok (.iconst 0, 1) := by decide +kernel
theorem dX10_count_82 : decode cX10_count 82 = .ok (.ireturn, 1) := by decide +kernel
theorem dX10_count_83 : decode cX10_count 83 = .ok (.aload_n 0, 1) := by decide +kernel
theorem dX10_count_84 : decode cX10_count 84 = .ok (.getfield 129, 3) := by decide +kernel
theorem dX10_count_87 : decode cX10_count 87 = .ok (.ireturn, 1) := by decide +kernel
theorem dX10_count_88 : decode cX10_count 88 = .ok (.aload_n 0, 1) := by decide +kernel
theorem dX10_count_89 : decode cX10_count 89 = .ok (.getfield 228, 3) := by decide +kernel
theorem dX10_count_92 : decode cX10_count 92 = .ok (.ifCond .eq 10, 3) := by decide +kernel
theorem dX10_count_95 : decode cX10_count 95 = .ok (.aload_n 0, 1) := by decide +kernel
theorem dX10_count_96 : decode cX10_count 96 = .ok (.getfield 215, 3) := by decide +kernel
theorem dX10_count_99 : decode cX10_count 99 = .ok (.goto 4, 3) := by decide +kernel
theorem dX10_count_102 : decode cX10_count 102 = .ok (.iconst 0, 1) := by decide +kernel
theorem dX10_count_103 : decode cX10_count 103 = .ok (.ireturn, 1) := by decide +kernel
theorem dX10_count_104 : decode cX10_count 104 = .ok (.aload_n 0, 1) := by decide +kernel
theorem dX10_count_105 : decode cX10_count 105 = .ok (.invokevirtual 253, 3) := by decide +kernel
theorem dX10_count_108 : decode cX10_count 108 = .ok (.ireturn, 1) := by decide +kernel
theorem dX10_count_109 : decode cX10_count 109 = .ok (.aload_n 0, 1) := by decide +kernel
theorem dX10_count_110 : decode cX10_count 110 = .ok (.getfield 228, 3) := by decide +kernel
theorem dX10_count_113 : decode cX10_count 113 = .ok (.ifCond .eq 10, 3) := by decide +kernel
theorem dX10_count_116 : decode cX10_count 116 = .ok (.aload_n 0, 1) := by decide +kernel
theorem dX10_count_117 : decode cX10_count 117 = .ok (.getfield 231, 3) := by decide +kernel
theorem dX10_count_120 : decode cX10_count 120 = .ok (.goto 4, 3) := by decide +kernel
theorem dX10_count_123 : decode cX10_count 123 = .ok (.iconst 0, 1) := by decide +kernel
theorem dX10_count_124 : decode cX10_count 124 = .ok (.ireturn, 1) := by decide +kernel
theorem dX10_count_125 : decode cX10_count 125 = .ok (.aload_n 0, 1) := by decide +kernel
theorem dX10_count_126 : decode cX10_count 126 = .ok (.getfield 118, 3) := by decide +kernel
theorem dX10_count_129 : decode cX10_count 129 = .ok (.ireturn, 1) := by decide +kernel
theorem dX10_count_130 : decode cX10_count 130 = .ok (.aload_n 0, 1) := by decide +kernel
theorem dX10_count_131 : decode cX10_count 131 = .ok (.invokevirtual 224, 3) := by decide +kernel
theorem dX10_count_134 : decode cX10_count 134 = .ok (.ifCond .eq 7, 3) := by decide +kernel
theorem dX10_count_137 : decode cX10_count 137 = .ok (.iconst 1, 1) := by decide +kernel
theorem dX10_count_138 : decode cX10_count 138 = .ok (.goto 4, 3) := by decide +kernel
theorem dX10_count_141 : decode cX10_count 141 = .ok (.iconst 0, 1) := by decide +kernel
theorem dX10_count_142 : decode cX10_count 142 = .ok (.ireturn, 1) := by decide +kernel
theorem dX10_count_143 : decode cX10_count 143 = .ok (.aload_n 0, 1) := by decide +kernel
theorem dX10_count_144 : decode cX10_count 144 = .ok (.invokevirtual 286, 3) := by decide +kernel
theorem dX10_count_147 : decode cX10_count 147 = .ok (.ireturn, 1) := by decide +kernel
theorem dX10_count_148 : decode cX10_count 148 = .ok (.iconst (-1), 1) := by decide +kernel
theorem dX10_count_149 : decode cX10_count 149 = .ok (.ireturn, 1) := by decide +kernel
theorem dJ9_min_7cf53_0 : decode cJ9_min_7cf53 0 = .ok (.iload_n 0, 1) := by decide +kernel
theorem dJ9_min_7cf53_1 : decode cJ9_min_7cf53 1 = .ok (.iload_n 1, 1) := by decide +kernel
theorem dJ9_min_7cf53_2 : decode cJ9_min_7cf53 2 = .ok (.if_icmp .gt 7, 3) := by decide +kernel
theorem dJ9_min_7cf53_5 : decode cJ9_min_7cf53 5 = .ok (.iload_n 0, 1) := by decide +kernel
theorem dJ9_min_7cf53_6 : decode cJ9_min_7cf53 6 = .ok (.goto 4, 3) := by decide +kernel
theorem dJ9_min_7cf53_9 : decode cJ9_min_7cf53 9 = .ok (.iload_n 1, 1) := by decide +kernel
theorem dJ9_min_7cf53_10 : decode cJ9_min_7cf53 10 = .ok (.ireturn, 1) := by decide +kernel
set_option maxRecDepth 20000 in
theorem ggL_of_X9_of : GoodIn wsL_of wsX9_of := goodIn_ca (goodIn_r _ [6, 7, 8, 9, 10, 11, 12, 13, 14, 15, 16, 17, 18, 19, 20, 21, 22, 23, 24, 25, 26, 27, 28, 29, 30, 31, 32, 33, 34, 35, 36, 37, 38, 39, 40, 41, 42, 43, 44, 45, 46, 47, 48, 49, 50, 51, 52, 53] (by decide +kernel) (by decide +kernel)) (goodIn_sub (fun _ h => List.mem_cons_of_mem _ (List.mem_append_right _ h)) (by decide +kernel))
set_option maxRecDepth 20000 in
theorem gL_of_X9_of : GoodIn wsL_of (wsV RL 7 RX9 yX9_of wsX9_of) := goodIn_app (goodIn_of _ (by decide +kernel)) ggL_of_X9_of
theorem dL_of_0 : decode cL_of 0 = .ok (.aload_n 3, 1) := by decide +kernel
theorem dL_of_1 : decode cL_of 1 = .ok (.iconst 0, 1) := by decide +kernel
theorem dL_of_2 : decode cL_of 2 = .ok (.aload_n 0, 1) := by decide +kernel
theorem dL_of_3 : decode cL_of 3 = .ok (.iload_n 1, 1) := by decide +kernel
theorem dL_of_4 : decode cL_of 4 = .ok (.iload_n 2, 1) := by decide +kernel
theorem dL_of_5 : decode cL_of 5 = .ok (.invokevirtual 7, 3) := by decide +kernel
theorem dL_of_8 : decode cL_of 8 = .ok (.i2l, 1) := by decide +kernel
theorem dL_of_9 : decode cL_of 9 = .ok (.lastore, 1) := by decide +kernel
theorem dL_of_10 : decode cL_of 10 = .ok (.goto 7, 3) := by decide +kernel
theorem dL_of_13 : decode cL_of 13 = .ok (.astore 4, 2) := by decide +kernel
theorem dL_of_15 : decode cL_of 15 = .ok (.iconst 1, 1) := by decide +kernel
theorem dL_of_16 : decode cL_of 16 = .ok (.ireturn, 1) := by decide +kernel
theorem dL_of_17 : decode cL_of 17 = .ok (.iconst 0, 1) := by decide +kernel
theorem dL_of_18 : decode cL_of 18 = .ok (.ireturn, 1) := by decide +kernel
theorem dL_law_0 : decode cL_law 0 = .ok (.new 8, 3) := by decide +kernel
theorem dL_law_3 : decode cL_law 3 = .ok (.dup, 1) := by decide +kernel
theorem dL_law_4 : decode cL_law 4 = .ok (.invokespecial 15, 3) := by decide +kernel
theorem dL_law_7 : decode cL_law 7 = .ok (.astore_n 1, 1) := by decide +kernel
theorem dL_law_8 : decode cL_law 8 = .ok (.new 16, 3) := by decide +kernel
theorem dL_law_11 : decode cL_law 11 = .ok (.dup, 1) := by decide +kernel
theorem dL_law_12 : decode cL_law 12 = .ok (.invokespecial 18, 3) := by decide +kernel
theorem dL_law_15 : decode cL_law 15 = .ok (.astore_n 2, 1) := by decide +kernel
theorem dL_law_16 : decode cL_law 16 = .ok (.iconst 1, 1) := by decide +kernel
theorem dL_law_17 : decode cL_law 17 = .ok (.newarray .long, 2) := by decide +kernel
theorem dL_law_19 : decode cL_law 19 = .ok (.astore_n 3, 1) := by decide +kernel
theorem dL_law_20 : decode cL_law 20 = .ok (.iconst 0, 1) := by decide +kernel
theorem dL_law_21 : decode cL_law 21 = .ok (.istore 4, 2) := by decide +kernel
theorem dL_law_23 : decode cL_law 23 = .ok (.iload 4, 2) := by decide +kernel
theorem dL_law_25 : decode cL_law 25 = .ok (.aload_n 0, 1) := by decide +kernel
theorem dL_law_26 : decode cL_law 26 = .ok (.arraylength, 1) := by decide +kernel
theorem dL_law_27 : decode cL_law 27 = .ok (.bipush 6, 2) := by decide +kernel
theorem dL_law_29 : decode cL_law 29 = .ok (.isub, 1) := by decide +kernel
theorem dL_law_30 : decode cL_law 30 = .ok (.if_icmp .gt 865, 3) := by decide +kernel
theorem dL_law_33 : decode cL_law 33 = .ok (.aload_n 0, 1) := by decide +kernel
theorem dL_law_34 : decode cL_law 34 = .ok (.iload 4, 2) := by decide +kernel
theorem dL_law_36 : decode cL_law 36 = .ok (.iaload, 1) := by decide +kernel
theorem dL_law_37 : decode cL_law 37 = .ok (.bipush 31, 2) := by decide +kernel
theorem dL_law_39 : decode cL_law 39 = .ok (.iand, 1) := by decide +kernel
theorem dL_law_40 : decode cL_law 40 = .ok (.tableswitch 849 0 21 #[104, 145, 218, 243, 268, 293, 330, 355, 368, 381, 418, 507, 544, 581, 594, 631, 656, 681, 694, 719, 756, 824], 104) := by decide +kernel
theorem dL_law_144 : decode cL_law 144 = .ok (.aload_n 1, 1) := by decide +kernel
theorem dL_law_145 : decode cL_law 145 = .ok (.aload_n 0, 1) := by decide +kernel
theorem dL_law_146 : decode cL_law 146 = .ok (.iload 4, 2) := by decide +kernel
theorem dL_law_148 : decode cL_law 148 = .ok (.iconst 1, 1) := by decide +kernel
theorem dL_law_149 : decode cL_law 149 = .ok (.iadd, 1) := by decide +kernel
theorem dL_law_150 : decode cL_law 150 = .ok (.iaload, 1) := by decide +kernel
theorem dL_law_151 : decode cL_law 151 = .ok (.ifCond .eq 7, 3) := by decide +kernel
theorem dL_law_154 : decode cL_law 154 = .ok (.iconst 1, 1) := by decide +kernel
theorem dL_law_155 : decode cL_law 155 = .ok (.goto 4, 3) := by decide +kernel
theorem dL_law_158 : decode cL_law 158 = .ok (.iconst 0, 1) := by decide +kernel
theorem dL_law_159 : decode cL_law 159 = .ok (.invokevirtual 19, 3) := by decide +kernel
theorem dL_law_162 : decode cL_law 162 = .ok (.aload_n 2, 1) := by decide +kernel
theorem dL_law_163 : decode cL_law 163 = .ok (.aload_n 0, 1) := by decide +kernel
theorem dL_law_164 : decode cL_law 164 = .ok (.iload 4, 2) := by decide +kernel
theorem dL_law_166 : decode cL_law 166 = .ok (.iconst 1, 1) := by decide +kernel
theorem dL_law_167 : decode cL_law 167 = .ok (.iadd, 1) := by decide +kernel
theorem dL_law_168 : decode cL_law 168 = .ok (.iaload, 1) := by decide +kernel
theorem dL_law_169 : decode cL_law 169 = .ok (.ifCond .eq 7, 3) := by decide +kernel
theorem dL_law_172 : decode cL_law 172 = .ok (.iconst 1, 1) := by decide +kernel
theorem dL_law_173 : decode cL_law 173 = .ok (.goto 4, 3) := by decide +kernel
theorem dL_law_176 : decode cL_law 176 = .ok (.iconst 0, 1) := by decide +kernel
theorem dL_law_177 : decode cL_law 177 = .ok (.invokevirtual 23, 3) := by decide +kernel
theorem dL_law_180 : decode cL_law 180 = .ok (.if_icmp .eq 709, 3) := by decide +kernel
theorem dL_law_183 : decode cL_law 183 = .ok (.iconst 0, 1) := by decide +kernel
theorem dL_law_184 : decode cL_law 184 = .ok (.ireturn, 1) := by decide +kernel
theorem dL_law_185 : decode cL_law 185 = .ok (.aload_n 1, 1) := by decide +kernel
theorem dL_law_186 : decode cL_law 186 = .ok (.aload_n 0, 1) := by decide +kernel
theorem dL_law_187 : decode cL_law 187 = .ok (.iload 4, 2) := by decide +kernel
theorem dL_law_189 : decode cL_law 189 = .ok (.iconst 1, 1) := by decide +kernel
theorem dL_law_190 : decode cL_law 190 = .ok (.iadd, 1) := by decide +kernel
theorem dL_law_191 : decode cL_law 191 = .ok (.iaload, 1) := by decide +kernel
theorem dL_law_192 : decode cL_law 192 = .ok (.aload_n 0, 1) := by decide +kernel
theorem dL_law_193 : decode cL_law 193 = .ok (.iload 4, 2) := by decide +kernel
theorem dL_law_195 : decode cL_law 195 = .ok (.iconst 2, 1) := by decide +kernel
theorem dL_law_196 : decode cL_law 196 = .ok (.iadd, 1) := by decide +kernel
theorem dL_law_197 : decode cL_law 197 = .ok (.iaload, 1) := by decide +kernel
theorem dL_law_198 : decode cL_law 198 = .ok (.aload_n 0, 1) := by decide +kernel
theorem dL_law_199 : decode cL_law 199 = .ok (.iload 4, 2) := by decide +kernel
theorem dL_law_201 : decode cL_law 201 = .ok (.iconst 3, 1) := by decide +kernel
theorem dL_law_202 : decode cL_law 202 = .ok (.iadd, 1) := by decide +kernel
theorem dL_law_203 : decode cL_law 203 = .ok (.iaload, 1) := by decide +kernel
theorem dL_law_204 : decode cL_law 204 = .ok (.aload_n 0, 1) := by decide +kernel
theorem dL_law_205 : decode cL_law 205 = .ok (.iload 4, 2) := by decide +kernel
theorem dL_law_207 : decode cL_law 207 = .ok (.iconst 4, 1) := by decide +kernel
theorem dL_law_208 : decode cL_law 208 = .ok (.iadd, 1) := by decide +kernel
theorem dL_law_209 : decode cL_law 209 = .ok (.iaload, 1) := by decide +kernel
theorem dL_law_210 : decode cL_law 210 = .ok (.aload_n 0, 1) := by decide +kernel
theorem dL_law_211 : decode cL_law 211 = .ok (.iload 4, 2) := by decide +kernel
theorem dL_law_213 : decode cL_law 213 = .ok (.iconst 5, 1) := by decide +kernel
theorem dL_law_214 : decode cL_law 214 = .ok (.iadd, 1) := by decide +kernel
theorem dL_law_215 : decode cL_law 215 = .ok (.iaload, 1) := by decide +kernel
theorem dL_law_216 : decode cL_law 216 = .ok (.invokevirtual 24, 3) := by decide +kernel
theorem dL_law_219 : decode cL_law 219 = .ok (.aload_n 2, 1) := by decide +kernel
theorem dL_law_220 : decode cL_law 220 = .ok (.aload_n 0, 1) := by decide +kernel
theorem dL_law_221 : decode cL_law 221 = .ok (.iload 4, 2) := by decide +kernel
theorem dL_law_223 : decode cL_law 223 = .ok (.iconst 1, 1) := by decide +kernel
theorem dL_law_224 : decode cL_law 224 = .ok (.iadd, 1) := by decide +kernel
theorem dL_law_225 : decode cL_law 225 = .ok (.iaload, 1) := by decide +kernel
theorem dL_law_226 : decode cL_law 226 = .ok (.aload_n 0, 1) := by decide +kernel
theorem dL_law_227 : decode cL_law 227 = .ok (.iload 4, 2) := by decide +kernel
theorem dL_law_229 : decode cL_law 229 = .ok (.iconst 2, 1) := by decide +kernel
theorem dL_law_230 : decode cL_law 230 = .ok (.iadd, 1) := by decide +kernel
theorem dL_law_231 : decode cL_law 231 = .ok (.iaload, 1) := by decide +kernel
theorem dL_law_232 : decode cL_law 232 = .ok (.aload_n 0, 1) := by decide +kernel
theorem dL_law_233 : decode cL_law 233 = .ok (.iload 4, 2) := by decide +kernel
theorem dL_law_235 : decode cL_law 235 = .ok (.iconst 3, 1) := by decide +kernel
theorem dL_law_236 : decode cL_law 236 = .ok (.iadd, 1) := by decide +kernel
theorem dL_law_237 : decode cL_law 237 = .ok (.iaload, 1) := by decide +kernel
theorem dL_law_238 : decode cL_law 238 = .ok (.aload_n 0, 1) := by decide +kernel
theorem dL_law_239 : decode cL_law 239 = .ok (.iload 4, 2) := by decide +kernel
theorem dL_law_241 : decode cL_law 241 = .ok (.iconst 4, 1) := by decide +kernel
theorem dL_law_242 : decode cL_law 242 = .ok (.iadd, 1) := by decide +kernel
theorem dL_law_243 : decode cL_law 243 = .ok (.iaload, 1) := by decide +kernel
theorem dL_law_244 : decode cL_law 244 = .ok (.aload_n 0, 1) := by decide +kernel
theorem dL_law_245 : decode cL_law 245 = .ok (.iload 4, 2) := by decide +kernel
theorem dL_law_247 : decode cL_law 247 = .ok (.iconst 5, 1) := by decide +kernel
theorem dL_law_248 : decode cL_law 248 = .ok (.iadd, 1) := by decide +kernel
theorem dL_law_249 : decode cL_law 249 = .ok (.iaload, 1) := by decide +kernel
theorem dL_law_250 : decode cL_law 250 = .ok (.invokevirtual 28, 3) := by decide +kernel
theorem dL_law_253 : decode cL_law 253 = .ok (.if_icmp .eq 636, 3) := by decide +kernel
theorem dL_law_256 : decode cL_law 256 = .ok (.iconst 0, 1) := by decide +kernel
theorem dL_law_257 : decode cL_law 257 = .ok (.ireturn, 1) := by decide +kernel
theorem dL_law_258 : decode cL_law 258 = .ok (.aload_n 1, 1) := by decide +kernel
theorem dL_law_259 : decode cL_law 259 = .ok (.aload_n 0, 1) := by decide +kernel
theorem dL_law_260 : decode cL_law 260 = .ok (.iload 4, 2) := by decide +kernel
theorem dL_law_262 : decode cL_law 262 = .ok (.iconst 1, 1) := by decide +kernel
theorem dL_law_263 : decode cL_law 263 = .ok (.iadd, 1) := by decide +kernel
theorem dL_law_264 : decode cL_law 264 = .ok (.iaload, 1) := by decide +kernel
theorem dL_law_265 : decode cL_law 265 = .ok (.invokevirtual 29, 3) := by decide +kernel
theorem dL_law_268 : decode cL_law 268 = .ok (.aload_n 2, 1) := by decide +kernel
theorem dL_law_269 : decode cL_law 269 = .ok (.aload_n 0, 1) := by decide +kernel
theorem dL_law_270 : decode cL_law 270 = .ok (.iload 4, 2) := by decide +kernel
theorem dL_law_272 : decode cL_law 272 = .ok (.iconst 1, 1) := by decide +kernel
theorem dL_law_273 : decode cL_law 273 = .ok (.iadd, 1) := by decide +kernel
theorem dL_law_274 : decode cL_law 274 = .ok (.iaload, 1) := by decide +kernel
theorem dL_law_275 : decode cL_law 275 = .ok (.invokevirtual 33, 3) := by decide +kernel
theorem dL_law_278 : decode cL_law 278 = .ok (.if_icmp .eq 611, 3) := by decide +kernel
theorem dL_law_281 : decode cL_law 281 = .ok (.iconst 0, 1) := by decide +kernel
theorem dL_law_282 : decode cL_law 282 = .ok (.ireturn, 1) := by decide +kernel
theorem dL_law_283 : decode cL_law 283 = .ok (.aload_n 1, 1) := by decide +kernel
theorem dL_law_284 : decode cL_law 284 = .ok (.aload_n 0, 1) := by decide +kernel
theorem dL_law_285 : decode cL_law 285 = .ok (.iload 4, 2) := by decide +kernel
theorem dL_law_287 : decode cL_law 287 = .ok (.iconst 1, 1) := by decide +kernel
theorem dL_law_288 : decode cL_law 288 = .ok (.iadd, 1) := by decide +kernel
theorem dL_law_289 : decode cL_law 289 = .ok (.iaload, 1) := by decide +kernel
theorem dL_law_290 : decode cL_law 290 = .ok (.invokevirtual 34, 3) := by decide +kernel
theorem dL_law_293 : decode cL_law 293 = .ok (.aload_n 2, 1) := by decide +kernel
theorem dL_law_294 : decode cL_law 294 = .ok (.aload_n 0, 1) := by decide +kernel
theorem dL_law_295 : decode cL_law 295 = .ok (.iload 4, 2) := by decide +kernel
theorem dL_law_297 : decode cL_law 297 = .ok (.iconst 1, 1) := by decide +kernel
theorem dL_law_298 : decode cL_law 298 = .ok (.iadd, 1) := by decide +kernel
theorem dL_law_299 : decode cL_law 299 = .ok (.iaload, 1) := by decide +kernel
theorem dL_law_300 : decode cL_law 300 = .ok (.invokevirtual 37, 3) := by decide +kernel
theorem dL_law_303 : decode cL_law 303 = .ok (.if_icmp .eq 586, 3) := by decide +kernel
theorem dL_law_306 : decode cL_law 306 = .ok (.iconst 0, 1) := by decide +kernel
theorem dL_law_307 : decode cL_law 307 = .ok (.ireturn, 1) := by decide +kernel
theorem dL_law_308 : decode cL_law 308 = .ok (.aload_n 1, 1) := by decide +kernel
theorem dL_law_309 : decode cL_law 309 = .ok (.aload_n 0, 1) := by decide +kernel
theorem dL_law_310 : decode cL_law 310 = .ok (.iload 4, 2) := by decide +kernel
theorem dL_law_312 : decode cL_law 312 = .ok (.iconst 1, 1) := by decide +kernel
theorem dL_law_313 : decode cL_law 313 = .ok (.iadd, 1) := by decide +kernel
theorem dL_law_314 : decode cL_law 314 = .ok (.iaload, 1) := by decide +kernel
theorem dL_law_315 : decode cL_law 315 = .ok (.invokevirtual 38, 3) := by decide +kernel
theorem dL_law_318 : decode cL_law 318 = .ok (.aload_n 2, 1) := by decide +kernel
theorem dL_law_319 : decode cL_law 319 = .ok (.aload_n 0, 1) := by decide +kernel
theorem dL_law_320 : decode cL_law 320 = .ok (.iload 4, 2) := by decide +kernel
theorem dL_law_322 : decode cL_law 322 = .ok (.iconst 1, 1) := by decide +kernel
theorem dL_law_323 : decode cL_law 323 = .ok (.iadd, 1) := by decide +kernel
theorem dL_law_324 : decode cL_law 324 = .ok (.iaload, 1) := by decide +kernel
theorem dL_law_325 : decode cL_law 325 = .ok (.invokevirtual 42, 3) := by decide +kernel
theorem dL_law_328 : decode cL_law 328 = .ok (.if_icmp .eq 561, 3) := by decide +kernel
theorem dL_law_331 : decode cL_law 331 = .ok (.iconst 0, 1) := by decide +kernel
theorem dL_law_332 : decode cL_law 332 = .ok (.ireturn, 1) := by decide +kernel
theorem dL_law_333 : decode cL_law 333 = .ok (.aload_n 1, 1) := by decide +kernel
theorem dL_law_334 : decode cL_law 334 = .ok (.aload_n 0, 1) := by decide +kernel
theorem dL_law_335 : decode cL_law 335 = .ok (.iload 4, 2) := by decide +kernel
theorem dL_law_337 : decode cL_law 337 = .ok (.iconst 1, 1) := by decide +kernel
theorem dL_law_338 : decode cL_law 338 = .ok (.iadd, 1) := by decide +kernel
theorem dL_law_339 : decode cL_law 339 = .ok (.iaload, 1) := by decide +kernel
theorem dL_law_340 : decode cL_law 340 = .ok (.aload_n 0, 1) := by decide +kernel
theorem dL_law_341 : decode cL_law 341 = .ok (.iload 4, 2) := by decide +kernel
theorem dL_law_343 : decode cL_law 343 = .ok (.iconst 2, 1) := by decide +kernel
theorem dL_law_344 : decode cL_law 344 = .ok (.iadd, 1) := by decide +kernel
theorem dL_law_345 : decode cL_law 345 = .ok (.iaload, 1) := by decide +kernel
theorem dL_law_346 : decode cL_law 346 = .ok (.invokevirtual 43, 3) := by decide +kernel
theorem dL_law_349 : decode cL_law 349 = .ok (.aload_n 2, 1) := by decide +kernel
theorem dL_law_350 : decode cL_law 350 = .ok (.aload_n 0, 1) := by decide +kernel
theorem dL_law_351 : decode cL_law 351 = .ok (.iload 4, 2) := by decide +kernel
theorem dL_law_353 : decode cL_law 353 = .ok (.iconst 1, 1) := by decide +kernel
theorem dL_law_354 : decode cL_law 354 = .ok (.iadd, 1) := by decide +kernel
theorem dL_law_355 : decode cL_law 355 = .ok (.iaload, 1) := by decide +kernel
theorem dL_law_356 : decode cL_law 356 = .ok (.aload_n 0, 1) := by decide +kernel
theorem dL_law_357 : decode cL_law 357 = .ok (.iload 4, 2) := by decide +kernel
theorem dL_law_359 : decode cL_law 359 = .ok (.iconst 2, 1) := by decide +kernel
theorem dL_law_360 : decode cL_law 360 = .ok (.iadd, 1) := by decide +kernel
theorem dL_law_361 : decode cL_law 361 = .ok (.iaload, 1) := by decide +kernel
theorem dL_law_362 : decode cL_law 362 = .ok (.invokevirtual 46, 3) := by decide +kernel
theorem dL_law_365 : decode cL_law 365 = .ok (.if_icmp .eq 524, 3) := by decide +kernel
theorem dL_law_368 : decode cL_law 368 = .ok (.iconst 0, 1) := by decide +kernel
theorem dL_law_369 : decode cL_law 369 = .ok (.ireturn, 1) := by decide +kernel
theorem dL_law_370 : decode cL_law 370 = .ok (.aload_n 1, 1) := by decide +kernel
theorem dL_law_371 : decode cL_law 371 = .ok (.aload_n 0, 1) := by decide +kernel
theorem dL_law_372 : decode cL_law 372 = .ok (.iload 4, 2) := by decide +kernel
theorem dL_law_374 : decode cL_law 374 = .ok (.iconst 1, 1) := by decide +kernel
theorem dL_law_375 : decode cL_law 375 = .ok (.iadd, 1) := by decide +kernel
theorem dL_law_376 : decode cL_law 376 = .ok (.iaload, 1) := by decide +kernel
theorem dL_law_377 : decode cL_law 377 = .ok (.invokevirtual 47, 3) := by decide +kernel
theorem dL_law_380 : decode cL_law 380 = .ok (.aload_n 2, 1) := by decide +kernel
theorem dL_law_381 : decode cL_law 381 = .ok (.aload_n 0, 1) := by decide +kernel
theorem dL_law_382 : decode cL_law 382 = .ok (.iload 4, 2) := by decide +kernel
theorem dL_law_384 : decode cL_law 384 = .ok (.iconst 1, 1) := by decide +kernel
theorem dL_law_385 : decode cL_law 385 = .ok (.iadd, 1) := by decide +kernel
theorem dL_law_386 : decode cL_law 386 = .ok (.iaload, 1) := by decide +kernel
theorem dL_law_387 : decode cL_law 387 = .ok (.invokevirtual 50, 3) := by decide +kernel
theorem dL_law_390 : decode cL_law 390 = .ok (.if_icmp .eq 499, 3) := by decide +kernel
theorem dL_law_393 : decode cL_law 393 = .ok (.iconst 0, 1) := by decide +kernel
theorem dL_law_394 : decode cL_law 394 = .ok (.ireturn, 1) := by decide +kernel
theorem dL_law_395 : decode cL_law 395 = .ok (.aload_n 1, 1) := by decide +kernel
theorem dL_law_396 : decode cL_law 396 = .ok (.invokevirtual 51, 3) := by decide +kernel
theorem dL_law_399 : decode cL_law 399 = .ok (.aload_n 2, 1) := by decide +kernel
theorem dL_law_400 : decode cL_law 400 = .ok (.invokevirtual 55, 3) := by decide +kernel
theorem dL_law_403 : decode cL_law 403 = .ok (.if_icmp .eq 486, 3) := by decide +kernel
theorem dL_law_406 : decode cL_law 406 = .ok (.iconst 0, 1) := by decide +kernel
theorem dL_law_407 : decode cL_law 407 = .ok (.ireturn, 1) := by decide +kernel
theorem dL_law_408 : decode cL_law 408 = .ok (.aload_n 1, 1) := by decide +kernel
theorem dL_law_409 : decode cL_law 409 = .ok (.invokevirtual 56, 3) := by decide +kernel
theorem dL_law_412 : decode cL_law 412 = .ok (.aload_n 2, 1) := by decide +kernel
theorem dL_law_413 : decode cL_law 413 = .ok (.invokevirtual 59, 3) := by decide +kernel
theorem dL_law_416 : decode cL_law 416 = .ok (.if_icmp .eq 473, 3) := by decide +kernel
theorem dL_law_419 : decode cL_law 419 = .ok (.iconst 0, 1) := by decide +kernel
theorem dL_law_420 : decode cL_law 420 = .ok (.ireturn, 1) := by decide +kernel
theorem dL_law_421 : decode cL_law 421 = .ok (.aload_n 1, 1) := by decide +kernel
theorem dL_law_422 : decode cL_law 422 = .ok (.aload_n 0, 1) := by decide +kernel
theorem dL_law_423 : decode cL_law 423 = .ok (.iload 4, 2) := by decide +kernel
theorem dL_law_425 : decode cL_law 425 = .ok (.iconst 1, 1) := by decide +kernel
theorem dL_law_426 : decode cL_law 426 = .ok (.iadd, 1) := by decide +kernel
theorem dL_law_427 : decode cL_law 427 = .ok (.iaload, 1) := by decide +kernel
theorem dL_law_428 : decode cL_law 428 = .ok (.aload_n 0, 1) := by decide +kernel
theorem dL_law_429 : decode cL_law 429 = .ok (.iload 4, 2) := by decide +kernel
theorem dL_law_431 : decode cL_law 431 = .ok (.iconst 2, 1) := by decide +kernel
theorem dL_law_432 : decode cL_law 432 = .ok (.iadd, 1) := by decide +kernel
theorem dL_law_433 : decode cL_law 433 = .ok (.iaload, 1) := by decide +kernel
theorem dL_law_434 : decode cL_law 434 = .ok (.invokevirtual 60, 3) := by decide +kernel
theorem dL_law_437 : decode cL_law 437 = .ok (.aload_n 2, 1) := by decide +kernel
theorem dL_law_438 : decode cL_law 438 = .ok (.aload_n 0, 1) := by decide +kernel
theorem dL_law_439 : decode cL_law 439 = .ok (.iload 4, 2) := by decide +kernel
theorem dL_law_441 : decode cL_law 441 = .ok (.iconst 1, 1) := by decide +kernel
theorem dL_law_442 : decode cL_law 442 = .ok (.iadd, 1) := by decide +kernel
theorem dL_law_443 : decode cL_law 443 = .ok (.iaload, 1) := by decide +kernel
theorem dL_law_444 : decode cL_law 444 = .ok (.aload_n 0, 1) := by decide +kernel
theorem dL_law_445 : decode cL_law 445 = .ok (.iload 4, 2) := by decide +kernel
theorem dL_law_447 : decode cL_law 447 = .ok (.iconst 2, 1) := by decide +kernel
theorem dL_law_448 : decode cL_law 448 = .ok (.iadd, 1) := by decide +kernel
theorem dL_law_449 : decode cL_law 449 = .ok (.iaload, 1) := by decide +kernel
theorem dL_law_450 : decode cL_law 450 = .ok (.invokevirtual 63, 3) := by decide +kernel
theorem dL_law_453 : decode cL_law 453 = .ok (.if_icmp .eq 436, 3) := by decide +kernel
theorem dL_law_456 : decode cL_law 456 = .ok (.iconst 0, 1) := by decide +kernel
theorem dL_law_457 : decode cL_law 457 = .ok (.ireturn, 1) := by decide +kernel
theorem dL_law_458 : decode cL_law 458 = .ok (.aload_n 1, 1) := by decide +kernel
theorem dL_law_459 : decode cL_law 459 = .ok (.aload_n 0, 1) := by decide +kernel
theorem dL_law_460 : decode cL_law 460 = .ok (.iload 4, 2) := by decide +kernel
theorem dL_law_462 : decode cL_law 462 = .ok (.iconst 1, 1) := by decide +kernel
theorem dL_law_463 : decode cL_law 463 = .ok (.iadd, 1) := by decide +kernel
theorem dL_law_464 : decode cL_law 464 = .ok (.iaload, 1) := by decide +kernel
theorem dL_law_465 : decode cL_law 465 = .ok (.aload_n 0, 1) := by decide +kernel
theorem dL_law_466 : decode cL_law 466 = .ok (.iload 4, 2) := by decide +kernel
theorem dL_law_468 : decode cL_law 468 = .ok (.iconst 2, 1) := by decide +kernel
theorem dL_law_469 : decode cL_law 469 = .ok (.iadd, 1) := by decide +kernel
theorem dL_law_470 : decode cL_law 470 = .ok (.iaload, 1) := by decide +kernel
theorem dL_law_471 : decode cL_law 471 = .ok (.aload_n 0, 1) := by decide +kernel
theorem dL_law_472 : decode cL_law 472 = .ok (.iload 4, 2) := by decide +kernel
theorem dL_law_474 : decode cL_law 474 = .ok (.iconst 3, 1) := by decide +kernel
theorem dL_law_475 : decode cL_law 475 = .ok (.iadd, 1) := by decide +kernel
theorem dL_law_476 : decode cL_law 476 = .ok (.iaload, 1) := by decide +kernel
theorem dL_law_477 : decode cL_law 477 = .ok (.aload_n 0, 1) := by decide +kernel
theorem dL_law_478 : decode cL_law 478 = .ok (.iload 4, 2) := by decide +kernel
theorem dL_law_480 : decode cL_law 480 = .ok (.iconst 4, 1) := by decide +kernel
theorem dL_law_481 : decode cL_law 481 = .ok (.iadd, 1) := by decide +kernel
theorem dL_law_482 : decode cL_law 482 = .ok (.iaload, 1) := by decide +kernel
theorem dL_law_483 : decode cL_law 483 = .ok (.aload_n 0, 1) := by decide +kernel
theorem dL_law_484 : decode cL_law 484 = .ok (.iload 4, 2) := by decide +kernel
theorem dL_law_486 : decode cL_law 486 = .ok (.iconst 5, 1) := by decide +kernel
theorem dL_law_487 : decode cL_law 487 = .ok (.iadd, 1) := by decide +kernel
theorem dL_law_488 : decode cL_law 488 = .ok (.iaload, 1) := by decide +kernel
theorem dL_law_489 : decode cL_law 489 = .ok (.ifCond .eq 7, 3) := by decide +kernel
theorem dL_law_492 : decode cL_law 492 = .ok (.iconst 1, 1) := by decide +kernel
theorem dL_law_493 : decode cL_law 493 = .ok (.goto 4, 3) := by decide +kernel
theorem dL_law_496 : decode cL_law 496 = .ok (.iconst 0, 1) := by decide +kernel
theorem dL_law_497 : decode cL_law 497 = .ok (.invokevirtual 64, 3) := by decide +kernel
theorem dL_law_500 : decode cL_law 500 = .ok (.aload_n 2, 1) := by decide +kernel
theorem dL_law_501 : decode cL_law 501 = .ok (.aload_n 0, 1) := by decide +kernel
theorem dL_law_502 : decode cL_law 502 = .ok (.iload 4, 2) := by decide +kernel
theorem dL_law_504 : decode cL_law 504 = .ok (.iconst 1, 1) := by decide +kernel
theorem dL_law_505 : decode cL_law 505 = .ok (.iadd, 1) := by decide +kernel
theorem dL_law_506 : decode cL_law 506 = .ok (.iaload, 1) := by decide +kernel
theorem dL_law_507 : decode cL_law 507 = .ok (.aload_n 0, 1) := by decide +kernel
theorem dL_law_508 : decode cL_law 508 = .ok (.iload 4, 2) := by decide +kernel
theorem dL_law_510 : decode cL_law 510 = .ok (.iconst 2, 1) := by decide +kernel
theorem dL_law_511 : decode cL_law 511 = .ok (.iadd, 1) := by decide +kernel
theorem dL_law_512 : decode cL_law 512 = .ok (.iaload, 1) := by decide +kernel
theorem dL_law_513 : decode cL_law 513 = .ok (.aload_n 0, 1) := by decide +kernel
theorem dL_law_514 : decode cL_law 514 = .ok (.iload 4, 2) := by decide +kernel
theorem dL_law_516 : decode cL_law 516 = .ok (.iconst 3, 1) := by decide +kernel
theorem dL_law_517 : decode cL_law 517 = .ok (.iadd, 1) := by decide +kernel
theorem dL_law_518 : decode cL_law 518 = .ok (.iaload, 1) := by decide +kernel
theorem dL_law_519 : decode cL_law 519 = .ok (.aload_n 0, 1) := by decide +kernel
theorem dL_law_520 : decode cL_law 520 = .ok (.iload 4, 2) := by decide +kernel
theorem dL_law_522 : decode cL_law 522 = .ok (.iconst 4, 1) := by decide +kernel
theorem dL_law_523 : decode cL_law 523 = .ok (.iadd, 1) := by decide +kernel
theorem dL_law_524 : decode cL_law 524 = .ok (.iaload, 1) := by decide +kernel
theorem dL_law_525 : decode cL_law 525 = .ok (.aload_n 0, 1) := by decide +kernel
theorem dL_law_526 : decode cL_law 526 = .ok (.iload 4, 2) := by decide +kernel
theorem dL_law_528 : decode cL_law 528 = .ok (.iconst 5, 1) := by decide +kernel
theorem dL_law_529 : decode cL_law 529 = .ok (.iadd, 1) := by decide +kernel
theorem dL_law_530 : decode cL_law 530 = .ok (.iaload, 1) := by decide +kernel
theorem dL_law_531 : decode cL_law 531 = .ok (.ifCond .eq 7, 3) := by decide +kernel
theorem dL_law_534 : decode cL_law 534 = .ok (.iconst 1, 1) := by decide +kernel
theorem dL_law_535 : decode cL_law 535 = .ok (.goto 4, 3) := by decide +kernel
theorem dL_law_538 : decode cL_law 538 = .ok (.iconst 0, 1) := by decide +kernel
theorem dL_law_539 : decode cL_law 539 = .ok (.invokevirtual 68, 3) := by decide +kernel
theorem dL_law_542 : decode cL_law 542 = .ok (.if_icmp .eq 347, 3) := by decide +kernel
theorem dL_law_545 : decode cL_law 545 = .ok (.iconst 0, 1) := by decide +kernel
theorem dL_law_546 : decode cL_law 546 = .ok (.ireturn, 1) := by decide +kernel
theorem dL_law_547 : decode cL_law 547 = .ok (.aload_n 1, 1) := by decide +kernel
theorem dL_law_548 : decode cL_law 548 = .ok (.aload_n 0, 1) := by decide +kernel
theorem dL_law_549 : decode cL_law 549 = .ok (.iload 4, 2) := by decide +kernel
theorem dL_law_551 : decode cL_law 551 = .ok (.iconst 1, 1) := by decide +kernel
theorem dL_law_552 : decode cL_law 552 = .ok (.iadd, 1) := by decide +kernel
theorem dL_law_553 : decode cL_law 553 = .ok (.iaload, 1) := by decide +kernel
theorem dL_law_554 : decode cL_law 554 = .ok (.aload_n 0, 1) := by decide +kernel
theorem dL_law_555 : decode cL_law 555 = .ok (.iload 4, 2) := by decide +kernel
theorem dL_law_557 : decode cL_law 557 = .ok (.iconst 2, 1) := by decide +kernel
theorem dL_law_558 : decode cL_law 558 = .ok (.iadd, 1) := by decide +kernel
theorem dL_law_559 : decode cL_law 559 = .ok (.iaload, 1) := by decide +kernel
theorem dL_law_560 : decode cL_law 560 = .ok (.invokevirtual 69, 3) := by decide +kernel
theorem dL_law_563 : decode cL_law 563 = .ok (.aload_n 2, 1) := by decide +kernel
theorem dL_law_564 : decode cL_law 564 = .ok (.aload_n 0, 1) := by decide +kernel
theorem dL_law_565 : decode cL_law 565 = .ok (.iload 4, 2) := by decide +kernel
theorem dL_law_567 : decode cL_law 567 = .ok (.iconst 1, 1) := by decide +kernel
theorem dL_law_568 : decode cL_law 568 = .ok (.iadd, 1) := by decide +kernel
theorem dL_law_569 : decode cL_law 569 = .ok (.iaload, 1) := by decide +kernel
theorem dL_law_570 : decode cL_law 570 = .ok (.aload_n 0, 1) := by decide +kernel
theorem dL_law_571 : decode cL_law 571 = .ok (.iload 4, 2) := by decide +kernel
theorem dL_law_573 : decode cL_law 573 = .ok (.iconst 2, 1) := by decide +kernel
theorem dL_law_574 : decode cL_law 574 = .ok (.iadd, 1) := by decide +kernel
theorem dL_law_575 : decode cL_law 575 = .ok (.iaload, 1) := by decide +kernel
theorem dL_law_576 : decode cL_law 576 = .ok (.invokevirtual 72, 3) := by decide +kernel
theorem dL_law_579 : decode cL_law 579 = .ok (.if_icmp .eq 310, 3) := by decide +kernel
theorem dL_law_582 : decode cL_law 582 = .ok (.iconst 0, 1) := by decide +kernel
theorem dL_law_583 : decode cL_law 583 = .ok (.ireturn, 1) := by decide +kernel
theorem dL_law_584 : decode cL_law 584 = .ok (.aload_n 1, 1) := by decide +kernel
theorem dL_law_585 : decode cL_law 585 = .ok (.aload_n 0, 1) := by decide +kernel
theorem dL_law_586 : decode cL_law 586 = .ok (.iload 4, 2) := by decide +kernel
theorem dL_law_588 : decode cL_law 588 = .ok (.iconst 1, 1) := by decide +kernel
theorem dL_law_589 : decode cL_law 589 = .ok (.iadd, 1) := by decide +kernel
theorem dL_law_590 : decode cL_law 590 = .ok (.iaload, 1) := by decide +kernel
theorem dL_law_591 : decode cL_law 591 = .ok (.aload_n 0, 1) := by decide +kernel
theorem dL_law_592 : decode cL_law 592 = .ok (.iload 4, 2) := by decide +kernel
theorem dL_law_594 : decode cL_law 594 = .ok (.iconst 2, 1) := by decide +kernel
theorem dL_law_595 : decode cL_law 595 = .ok (.iadd, 1) := by decide +kernel
theorem dL_law_596 : decode cL_law 596 = .ok (.iaload, 1) := by decide +kernel
theorem dL_law_597 : decode cL_law 597 = .ok (.invokevirtual 73, 3) := by decide +kernel
theorem dL_law_600 : decode cL_law 600 = .ok (.aload_n 2, 1) := by decide +kernel
theorem dL_law_601 : decode cL_law 601 = .ok (.aload_n 0, 1) := by decide +kernel
theorem dL_law_602 : decode cL_law 602 = .ok (.iload 4, 2) := by decide +kernel
theorem dL_law_604 : decode cL_law 604 = .ok (.iconst 1, 1) := by decide +kernel
theorem dL_law_605 : decode cL_law 605 = .ok (.iadd, 1) := by decide +kernel
theorem dL_law_606 : decode cL_law 606 = .ok (.iaload, 1) := by decide +kernel
theorem dL_law_607 : decode cL_law 607 = .ok (.aload_n 0, 1) := by decide +kernel
theorem dL_law_608 : decode cL_law 608 = .ok (.iload 4, 2) := by decide +kernel
theorem dL_law_610 : decode cL_law 610 = .ok (.iconst 2, 1) := by decide +kernel
theorem dL_law_611 : decode cL_law 611 = .ok (.iadd, 1) := by decide +kernel
theorem dL_law_612 : decode cL_law 612 = .ok (.iaload, 1) := by decide +kernel
theorem dL_law_613 : decode cL_law 613 = .ok (.invokevirtual 76, 3) := by decide +kernel
theorem dL_law_616 : decode cL_law 616 = .ok (.if_icmp .eq 273, 3) := by decide +kernel
theorem dL_law_619 : decode cL_law 619 = .ok (.iconst 0, 1) := by decide +kernel
theorem dL_law_620 : decode cL_law 620 = .ok (.ireturn, 1) := by decide +kernel
theorem dL_law_621 : decode cL_law 621 = .ok (.aload_n 1, 1) := by decide +kernel
theorem dL_law_622 : decode cL_law 622 = .ok (.invokevirtual 77, 3) := by decide +kernel
theorem dL_law_625 : decode cL_law 625 = .ok (.aload_n 2, 1) := by decide +kernel
theorem dL_law_626 : decode cL_law 626 = .ok (.invokevirtual 80, 3) := by decide +kernel
theorem dL_law_629 : decode cL_law 629 = .ok (.if_icmp .eq 260, 3) := by decide +kernel
theorem dL_law_632 : decode cL_law 632 = .ok (.iconst 0, 1) := by decide +kernel
theorem dL_law_633 : decode cL_law 633 = .ok (.ireturn, 1) := by decide +kernel
theorem dL_law_634 : decode cL_law 634 = .ok (.aload_n 1, 1) := by decide +kernel
theorem dL_law_635 : decode cL_law 635 = .ok (.aload_n 0, 1) := by decide +kernel
theorem dL_law_636 : decode cL_law 636 = .ok (.iload 4, 2) := by decide +kernel
theorem dL_law_638 : decode cL_law 638 = .ok (.iconst 1, 1) := by decide +kernel
theorem dL_law_639 : decode cL_law 639 = .ok (.iadd, 1) := by decide +kernel
theorem dL_law_640 : decode cL_law 640 = .ok (.iaload, 1) := by decide +kernel
theorem dL_law_641 : decode cL_law 641 = .ok (.aload_n 0, 1) := by decide +kernel
theorem dL_law_642 : decode cL_law 642 = .ok (.iload 4, 2) := by decide +kernel
theorem dL_law_644 : decode cL_law 644 = .ok (.iconst 2, 1) := by decide +kernel
theorem dL_law_645 : decode cL_law 645 = .ok (.iadd, 1) := by decide +kernel
theorem dL_law_646 : decode cL_law 646 = .ok (.iaload, 1) := by decide +kernel
theorem dL_law_647 : decode cL_law 647 = .ok (.invokevirtual 81, 3) := by decide +kernel
theorem dL_law_650 : decode cL_law 650 = .ok (.aload_n 2, 1) := by decide +kernel
theorem dL_law_651 : decode cL_law 651 = .ok (.aload_n 0, 1) := by decide +kernel
theorem dL_law_652 : decode cL_law 652 = .ok (.iload 4, 2) := by decide +kernel
theorem dL_law_654 : decode cL_law 654 = .ok (.iconst 1, 1) := by decide +kernel
theorem dL_law_655 : decode cL_law 655 = .ok (.iadd, 1) := by decide +kernel
theorem dL_law_656 : decode cL_law 656 = .ok (.iaload, 1) := by decide +kernel
theorem dL_law_657 : decode cL_law 657 = .ok (.aload_n 0, 1) := by decide +kernel
theorem dL_law_658 : decode cL_law 658 = .ok (.iload 4, 2) := by decide +kernel
theorem dL_law_660 : decode cL_law 660 = .ok (.iconst 2, 1) := by decide +kernel
theorem dL_law_661 : decode cL_law 661 = .ok (.iadd, 1) := by decide +kernel
theorem dL_law_662 : decode cL_law 662 = .ok (.iaload, 1) := by decide +kernel
theorem dL_law_663 : decode cL_law 663 = .ok (.invokevirtual 84, 3) := by decide +kernel
theorem dL_law_666 : decode cL_law 666 = .ok (.if_icmp .eq 223, 3) := by decide +kernel
theorem dL_law_669 : decode cL_law 669 = .ok (.iconst 0, 1) := by decide +kernel
theorem dL_law_670 : decode cL_law 670 = .ok (.ireturn, 1) := by decide +kernel
theorem dL_law_671 : decode cL_law 671 = .ok (.aload_n 1, 1) := by decide +kernel
theorem dL_law_672 : decode cL_law 672 = .ok (.aload_n 0, 1) := by decide +kernel
theorem dL_law_673 : decode cL_law 673 = .ok (.iload 4, 2) := by decide +kernel
theorem dL_law_675 : decode cL_law 675 = .ok (.iconst 1, 1) := by decide +kernel
theorem dL_law_676 : decode cL_law 676 = .ok (.iadd, 1) := by decide +kernel
theorem dL_law_677 : decode cL_law 677 = .ok (.iaload, 1) := by decide +kernel
theorem dL_law_678 : decode cL_law 678 = .ok (.invokevirtual 85, 3) := by decide +kernel
theorem dL_law_681 : decode cL_law 681 = .ok (.aload_n 2, 1) := by decide +kernel
theorem dL_law_682 : decode cL_law 682 = .ok (.aload_n 0, 1) := by decide +kernel
theorem dL_law_683 : decode cL_law 683 = .ok (.iload 4, 2) := by decide +kernel
theorem dL_law_685 : decode cL_law 685 = .ok (.iconst 1, 1) := by decide +kernel
theorem dL_law_686 : decode cL_law 686 = .ok (.iadd, 1) := by decide +kernel
theorem dL_law_687 : decode cL_law 687 = .ok (.iaload, 1) := by decide +kernel
theorem dL_law_688 : decode cL_law 688 = .ok (.invokevirtual 88, 3) := by decide +kernel
theorem dL_law_691 : decode cL_law 691 = .ok (.if_icmp .eq 198, 3) := by decide +kernel
theorem dL_law_694 : decode cL_law 694 = .ok (.iconst 0, 1) := by decide +kernel
theorem dL_law_695 : decode cL_law 695 = .ok (.ireturn, 1) := by decide +kernel
theorem dL_law_696 : decode cL_law 696 = .ok (.aload_n 1, 1) := by decide +kernel
theorem dL_law_697 : decode cL_law 697 = .ok (.aload_n 0, 1) := by decide +kernel
theorem dL_law_698 : decode cL_law 698 = .ok (.iload 4, 2) := by decide +kernel
theorem dL_law_700 : decode cL_law 700 = .ok (.iconst 1, 1) := by decide +kernel
theorem dL_law_701 : decode cL_law 701 = .ok (.iadd, 1) := by decide +kernel
theorem dL_law_702 : decode cL_law 702 = .ok (.iaload, 1) := by decide +kernel
theorem dL_law_703 : decode cL_law 703 = .ok (.invokevirtual 89, 3) := by decide +kernel
theorem dL_law_706 : decode cL_law 706 = .ok (.aload_n 2, 1) := by decide +kernel
theorem dL_law_707 : decode cL_law 707 = .ok (.aload_n 0, 1) := by decide +kernel
theorem dL_law_708 : decode cL_law 708 = .ok (.iload 4, 2) := by decide +kernel
theorem dL_law_710 : decode cL_law 710 = .ok (.iconst 1, 1) := by decide +kernel
theorem dL_law_711 : decode cL_law 711 = .ok (.iadd, 1) := by decide +kernel
theorem dL_law_712 : decode cL_law 712 = .ok (.iaload, 1) := by decide +kernel
theorem dL_law_713 : decode cL_law 713 = .ok (.invokevirtual 92, 3) := by decide +kernel
theorem dL_law_716 : decode cL_law 716 = .ok (.if_icmp .eq 173, 3) := by decide +kernel
theorem dL_law_719 : decode cL_law 719 = .ok (.iconst 0, 1) := by decide +kernel
theorem dL_law_720 : decode cL_law 720 = .ok (.ireturn, 1) := by decide +kernel
theorem dL_law_721 : decode cL_law 721 = .ok (.aload_n 1, 1) := by decide +kernel
theorem dL_law_722 : decode cL_law 722 = .ok (.invokevirtual 93, 3) := by decide +kernel
theorem dL_law_725 : decode cL_law 725 = .ok (.aload_n 2, 1) := by decide +kernel
theorem dL_law_726 : decode cL_law 726 = .ok (.invokevirtual 96, 3) := by decide +kernel
theorem dL_law_729 : decode cL_law 729 = .ok (.if_icmp .eq 160, 3) := by decide +kernel
theorem dL_law_732 : decode cL_law 732 = .ok (.iconst 0, 1) := by decide +kernel
theorem dL_law_733 : decode cL_law 733 = .ok (.ireturn, 1) := by decide +kernel
theorem dL_law_734 : decode cL_law 734 = .ok (.aload_n 1, 1) := by decide +kernel
theorem dL_law_735 : decode cL_law 735 = .ok (.aload_n 0, 1) := by decide +kernel
theorem dL_law_736 : decode cL_law 736 = .ok (.iload 4, 2) := by decide +kernel
theorem dL_law_738 : decode cL_law 738 = .ok (.iconst 1, 1) := by decide +kernel
theorem dL_law_739 : decode cL_law 739 = .ok (.iadd, 1) := by decide +kernel
theorem dL_law_740 : decode cL_law 740 = .ok (.iaload, 1) := by decide +kernel
theorem dL_law_741 : decode cL_law 741 = .ok (.invokevirtual 97, 3) := by decide +kernel
theorem dL_law_744 : decode cL_law 744 = .ok (.aload_n 2, 1) := by decide +kernel
theorem dL_law_745 : decode cL_law 745 = .ok (.aload_n 0, 1) := by decide +kernel
theorem dL_law_746 : decode cL_law 746 = .ok (.iload 4, 2) := by decide +kernel
theorem dL_law_748 : decode cL_law 748 = .ok (.iconst 1, 1) := by decide +kernel
theorem dL_law_749 : decode cL_law 749 = .ok (.iadd, 1) := by decide +kernel
theorem dL_law_750 : decode cL_law 750 = .ok (.iaload, 1) := by decide +kernel
theorem dL_law_751 : decode cL_law 751 = .ok (.invokevirtual 100, 3) := by decide +kernel
theorem dL_law_754 : decode cL_law 754 = .ok (.if_icmp .eq 135, 3) := by decide +kernel
theorem dL_law_757 : decode cL_law 757 = .ok (.iconst 0, 1) := by decide +kernel
theorem dL_law_758 : decode cL_law 758 = .ok (.ireturn, 1) := by decide +kernel
theorem dL_law_759 : decode cL_law 759 = .ok (.aload_n 1, 1) := by decide +kernel
theorem dL_law_760 : decode cL_law 760 = .ok (.aload_n 0, 1) := by decide +kernel
theorem dL_law_761 : decode cL_law 761 = .ok (.iload 4, 2) := by decide +kernel
theorem dL_law_763 : decode cL_law 763 = .ok (.iconst 1, 1) := by decide +kernel
theorem dL_law_764 : decode cL_law 764 = .ok (.iadd, 1) := by decide +kernel
theorem dL_law_765 : decode cL_law 765 = .ok (.iaload, 1) := by decide +kernel
theorem dL_law_766 : decode cL_law 766 = .ok (.aload_n 0, 1) := by decide +kernel
theorem dL_law_767 : decode cL_law 767 = .ok (.iload 4, 2) := by decide +kernel
theorem dL_law_769 : decode cL_law 769 = .ok (.iconst 2, 1) := by decide +kernel
theorem dL_law_770 : decode cL_law 770 = .ok (.iadd, 1) := by decide +kernel
theorem dL_law_771 : decode cL_law 771 = .ok (.iaload, 1) := by decide +kernel
theorem dL_law_772 : decode cL_law 772 = .ok (.invokevirtual 101, 3) := by decide +kernel
theorem dL_law_775 : decode cL_law 775 = .ok (.aload_n 2, 1) := by decide +kernel
theorem dL_law_776 : decode cL_law 776 = .ok (.aload_n 0, 1) := by decide +kernel
theorem dL_law_777 : decode cL_law 777 = .ok (.iload 4, 2) := by decide +kernel
theorem dL_law_779 : decode cL_law 779 = .ok (.iconst 1, 1) := by decide +kernel
theorem dL_law_780 : decode cL_law 780 = .ok (.iadd, 1) := by decide +kernel
theorem dL_law_781 : decode cL_law 781 = .ok (.iaload, 1) := by decide +kernel
theorem dL_law_782 : decode cL_law 782 = .ok (.aload_n 0, 1) := by decide +kernel
theorem dL_law_783 : decode cL_law 783 = .ok (.iload 4, 2) := by decide +kernel
theorem dL_law_785 : decode cL_law 785 = .ok (.iconst 2, 1) := by decide +kernel
theorem dL_law_786 : decode cL_law 786 = .ok (.iadd, 1) := by decide +kernel
theorem dL_law_787 : decode cL_law 787 = .ok (.iaload, 1) := by decide +kernel
theorem dL_law_788 : decode cL_law 788 = .ok (.invokevirtual 104, 3) := by decide +kernel
theorem dL_law_791 : decode cL_law 791 = .ok (.if_icmp .eq 98, 3) := by decide +kernel
theorem dL_law_794 : decode cL_law 794 = .ok (.iconst 0, 1) := by decide +kernel
theorem dL_law_795 : decode cL_law 795 = .ok (.ireturn, 1) := by decide +kernel
theorem dL_law_796 : decode cL_law 796 = .ok (.aload_n 1, 1) := by decide +kernel
theorem dL_law_797 : decode cL_law 797 = .ok (.aload_n 0, 1) := by decide +kernel
theorem dL_law_798 : decode cL_law 798 = .ok (.iload 4, 2) := by decide +kernel
theorem dL_law_800 : decode cL_law 800 = .ok (.iconst 1, 1) := by decide +kernel
theorem dL_law_801 : decode cL_law 801 = .ok (.iadd, 1) := by decide +kernel
theorem dL_law_802 : decode cL_law 802 = .ok (.iaload, 1) := by decide +kernel
theorem dL_law_803 : decode cL_law 803 = .ok (.aload_n 0, 1) := by decide +kernel
theorem dL_law_804 : decode cL_law 804 = .ok (.iload 4, 2) := by decide +kernel
theorem dL_law_806 : decode cL_law 806 = .ok (.iconst 2, 1) := by decide +kernel
theorem dL_law_807 : decode cL_law 807 = .ok (.iadd, 1) := by decide +kernel
theorem dL_law_808 : decode cL_law 808 = .ok (.iaload, 1) := by decide +kernel
theorem dL_law_809 : decode cL_law 809 = .ok (.aload_n 3, 1) := by decide +kernel
theorem dL_law_810 : decode cL_law 810 = .ok (.invokestatic 105, 3) := by decide +kernel
theorem dL_law_813 : decode cL_law 813 = .ok (.istore 5, 2) := by decide +kernel
theorem dL_law_815 : decode cL_law 815 = .ok (.aload_n 2, 1) := by decide +kernel
theorem dL_law_816 : decode cL_law 816 = .ok (.aload_n 0, 1) := by decide +kernel
theorem dL_law_817 : decode cL_law 817 = .ok (.iload 4, 2) := by decide +kernel
theorem dL_law_819 : decode cL_law 819 = .ok (.iconst 1, 1) := by decide +kernel
theorem dL_law_820 : decode cL_law 820 = .ok (.iadd, 1) := by decide +kernel
theorem dL_law_821 : decode cL_law 821 = .ok (.iaload, 1) := by decide +kernel
theorem dL_law_822 : decode cL_law 822 = .ok (.aload_n 0, 1) := by decide +kernel
theorem dL_law_823 : decode cL_law 823 = .ok (.iload 4, 2) := by decide +kernel
theorem dL_law_825 : decode cL_law 825 = .ok (.iconst 2, 1) := by decide +kernel
theorem dL_law_826 : decode cL_law 826 = .ok (.iadd, 1) := by decide +kernel
theorem dL_law_827 : decode cL_law 827 = .ok (.iaload, 1) := by decide +kernel
theorem dL_law_828 : decode cL_law 828 = .ok (.invokevirtual 110, 3) := by decide +kernel
theorem dL_law_831 : decode cL_law 831 = .ok (.istore 6, 2) := by decide +kernel
theorem dL_law_833 : decode cL_law 833 = .ok (.aload_n 2, 1) := by decide +kernel
theorem dL_law_834 : decode cL_law 834 = .ok (.invokevirtual 111, 3) := by decide +kernel
theorem dL_law_837 : decode cL_law 837 = .ok (.iload 5, 2) := by decide +kernel
theorem dL_law_839 : decode cL_law 839 = .ok (.if_icmp .eq 5, 3) := by decide +kernel
theorem dL_law_842 : decode cL_law 842 = .ok (.iconst 0, 1) := by decide +kernel
theorem dL_law_843 : decode cL_law 843 = .ok (.ireturn, 1) := by decide +kernel
theorem dL_law_844 : decode cL_law 844 = .ok (.iload 5, 2) := by decide +kernel
theorem dL_law_846 : decode cL_law 846 = .ok (.ifCond .ne 15, 3) := by decide +kernel
theorem dL_law_849 : decode cL_law 849 = .ok (.aload_n 3, 1) := by decide +kernel
theorem dL_law_850 : decode cL_law 850 = .ok (.iconst 0, 1) := by decide +kernel
theorem dL_law_851 : decode cL_law 851 = .ok (.laload, 1) := by decide +kernel
theorem dL_law_852 : decode cL_law 852 = .ok (.iload 6, 2) := by decide +kernel
theorem dL_law_854 : decode cL_law 854 = .ok (.i2l, 1) := by decide +kernel
theorem dL_law_855 : decode cL_law 855 = .ok (.lcmp, 1) := by decide +kernel
theorem dL_law_856 : decode cL_law 856 = .ok (.ifCond .eq 5, 3) := by decide +kernel
theorem dL_law_859 : decode cL_law 859 = .ok (.iconst 0, 1) := by decide +kernel
theorem dL_law_860 : decode cL_law 860 = .ok (.ireturn, 1) := by decide +kernel
theorem dL_law_861 : decode cL_law 861 = .ok (.goto 28, 3) := by decide +kernel
theorem dL_law_864 : decode cL_law 864 = .ok (.aload_n 1, 1) := by decide +kernel
theorem dL_law_865 : decode cL_law 865 = .ok (.aload_n 0, 1) := by decide +kernel
theorem dL_law_866 : decode cL_law 866 = .ok (.iload 4, 2) := by decide +kernel
theorem dL_law_868 : decode cL_law 868 = .ok (.iconst 1, 1) := by decide +kernel
theorem dL_law_869 : decode cL_law 869 = .ok (.iadd, 1) := by decide +kernel
theorem dL_law_870 : decode cL_law 870 = .ok (.iaload, 1) := by decide +kernel
theorem dL_law_871 : decode cL_law 871 = .ok (.invokevirtual 114, 3) := by decide +kernel
theorem dL_law_874 : decode cL_law 874 = .ok (.aload_n 2, 1) := by decide +kernel
theorem dL_law_875 : decode cL_law 875 = .ok (.aload_n 0, 1) := by decide +kernel
theorem dL_law_876 : decode cL_law 876 = .ok (.iload 4, 2) := by decide +kernel
theorem dL_law_878 : decode cL_law 878 = .ok (.iconst 1, 1) := by decide +kernel
theorem dL_law_879 : decode cL_law 879 = .ok (.iadd, 1) := by decide +kernel
theorem dL_law_880 : decode cL_law 880 = .ok (.iaload, 1) := by decide +kernel
theorem dL_law_881 : decode cL_law 881 = .ok (.invokevirtual 117, 3) := by decide +kernel
theorem dL_law_884 : decode cL_law 884 = .ok (.if_icmp .eq 5, 3) := by decide +kernel
theorem dL_law_887 : decode cL_law 887 = .ok (.iconst 0, 1) := by decide +kernel
theorem dL_law_888 : decode cL_law 888 = .ok (.ireturn, 1) := by decide +kernel
theorem dL_law_889 : decode cL_law 889 = .ok (.iinc 4 6, 3) := by decide +kernel
theorem dL_law_892 : decode cL_law 892 = .ok (.goto (-869), 3) := by decide +kernel
theorem dL_law_895 : decode cL_law 895 = .ok (.iconst 1, 1) := by decide +kernel
theorem dL_law_896 : decode cL_law 896 = .ok (.ireturn, 1) := by decide +kernel
abbrev vwCl : List vw_C := [(RX0, TX0, 3), (RX1, TX1, 2), (RX2, TX2, 3), (RX3, TX3, 9), (RX4, TX4, 12), (RX5, TX5, 8), (RX7, TX7, 6), (RX8, TX8, 2), (RX9, TX9, 11), (RX10, TX10, 44)]
