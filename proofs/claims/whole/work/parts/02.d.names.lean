theorem dX5_addItem_46 : decode cX5_addItem 46 = .ok (.iadd, 1) := by decide +kernel
theorem dX5_addItem_47 : decode cX5_addItem 47 = .ok (.putfield 24, 3) := by decide +kernel
theorem dX5_addItem_50 : decode cX5_addItem 50 = .ok (.return_, 1) := by decide +kernel
set_option maxRecDepth 20000 in
theorem ggX5_readParts_X8_length : GoodIn wsX5_readParts wsX8_length := goodIn_r _ [6, 7, 55, 56] (by decide +kernel) (by decide +kernel)
set_option maxRecDepth 20000 in
theorem gX5_readParts_X8_length : GoodIn wsX5_readParts (wsV RX5 45 RX8 yX8_length wsX8_length) := goodIn_app (goodIn_of _ (by decide +kernel)) ggX5_readParts_X8_length
set_option maxRecDepth 20000 in
theorem ggX5_readParts_X8_byteAt : GoodIn wsX5_readParts wsX8_byteAt := goodIn_r _ [11, 7, 12, 55, 56] (by decide +kernel) (by decide +kernel)
set_option maxRecDepth 20000 in
theorem gX5_readParts_X8_byteAt : GoodIn wsX5_readParts (wsV RX5 51 RX8 yX8_byteAt wsX8_byteAt) := goodIn_app (goodIn_of _ (by decide +kernel)) ggX5_readParts_X8_byteAt
set_option maxRecDepth 20000 in
theorem ggX5_readParts_X6_isTaken : GoodIn wsX5_readParts wsX6_isTaken := goodIn_r _ [16] (by decide +kernel) (by decide +kernel)
set_option maxRecDepth 20000 in
theorem gX5_readParts_X6_isTaken : GoodIn wsX5_readParts (va_wsS RX5 72 yX6_isTaken wsX6_isTaken) := goodIn_app (goodIn_of _ (by decide +kernel)) ggX5_readParts_X6_isTaken
set_option maxRecDepth 20000 in
theorem ggX5_readParts_X6_isOfNames : GoodIn wsX5_readParts wsX6_isOfNames := goodIn_r _ [19, 20, 21, 15, 22, 23, 24, 25, 26, 27, 28] (by decide +kernel) (by decide +kernel)
set_option maxRecDepth 20000 in
theorem gX5_readParts_X6_isOfNames : GoodIn wsX5_readParts (va_wsS RX5 55 yX6_isOfNames wsX6_isOfNames) := goodIn_app (goodIn_of _ (by decide +kernel)) ggX5_readParts_X6_isOfNames
set_option maxRecDepth 20000 in
theorem ggX5_readParts_X5_fault : GoodIn wsX5_readParts wsX5_fault := goodIn_r _ [33, 34, 47, 48, 49, 50, 51, 52, 53, 54] (by decide +kernel) (by decide +kernel)
set_option maxRecDepth 20000 in
theorem gX5_readParts_X5_fault : GoodIn wsX5_readParts (wsV RX5 64 RX5 yX5_fault wsX5_fault) := goodIn_app (goodIn_of _ (by decide +kernel)) ggX5_readParts_X5_fault
set_option maxRecDepth 20000 in
theorem ggX5_readParts_X5_faultOfFigure : GoodIn wsX5_readParts wsX5_faultOfFigure := goodIn_r _ [38, 39, 40, 27, 15, 28, 47, 48, 49, 50, 51, 52, 53, 54] (by decide +kernel) (by decide +kernel)
set_option maxRecDepth 20000 in
theorem gX5_readParts_X5_faultOfFigure : GoodIn wsX5_readParts (wsV RX5 75 RX5 yX5_faultOfFigure wsX5_faultOfFigure) := goodIn_app (goodIn_of _ (by decide +kernel)) ggX5_readParts_X5_faultOfFigure
set_option maxRecDepth 20000 in
theorem ggX5_readParts_X5_addPart : GoodIn wsX5_readParts wsX5_addPart := goodIn_r _ [44, 45, 1, 46, 47, 48, 49, 50, 51, 52, 53, 54] (by decide +kernel) (by decide +kernel)
set_option maxRecDepth 20000 in
theorem gX5_readParts_X5_addPart : GoodIn wsX5_readParts (wsV RX5 78 RX5 yX5_addPart wsX5_addPart) := goodIn_app (goodIn_of _ (by decide +kernel)) ggX5_readParts_X5_addPart
theorem dX5_readParts_0 : decode cX5_readParts 0 = .ok (.iload_n 2, 1) := by decide +kernel
theorem dX5_readParts_1 : decode cX5_readParts 1 = .ok (.istore_n 3, 1) := by decide +kernel
theorem dX5_readParts_2 : decode cX5_readParts 2 = .ok (.iload_n 3, 1) := by decide +kernel
theorem dX5_readParts_3 : decode cX5_readParts 3 = .ok (.aload_n 1, 1) := by decide +kernel
theorem dX5_readParts_4 : decode cX5_readParts 4 = .ok (.invokevirtual 45, 3) := by decide +kernel
theorem dX5_readParts_7 : decode cX5_readParts 7 = .ok (.if_icmp .ge 122, 3) := by decide +kernel
theorem dX5_readParts_10 : decode cX5_readParts 10 = .ok (.aload_n 1, 1) := by decide +kernel
theorem dX5_readParts_11 : decode cX5_readParts 11 = .ok (.iload_n 3, 1) := by decide +kernel
theorem dX5_readParts_12 : decode cX5_readParts 12 = .ok (.invokevirtual 51, 3) := by decide +kernel
theorem dX5_readParts_15 : decode cX5_readParts 15 = .ok (.istore 4, 2) := by decide +kernel
theorem dX5_readParts_17 : decode cX5_readParts 17 = .ok (.iload 4, 2) := by decide +kernel
theorem dX5_readParts_19 : decode cX5_readParts 19 = .ok (.bipush 37, 2) := by decide +kernel
theorem dX5_readParts_21 : decode cX5_readParts 21 = .ok (.if_icmp .eq 11, 3) := by decide +kernel
theorem dX5_readParts_24 : decode cX5_readParts 24 = .ok (.iload 4, 2) := by decide +kernel
theorem dX5_readParts_26 : decode cX5_readParts 26 = .ok (.invokestatic 72, 3) := by decide +kernel
theorem dX5_readParts_29 : decode cX5_readParts 29 = .ok (.ifCond .eq 7, 3) := by decide +kernel
theorem dX5_readParts_32 : decode cX5_readParts 32 = .ok (.iconst 1, 1) := by decide +kernel
theorem dX5_readParts_33 : decode cX5_readParts 33 = .ok (.goto 4, 3) := by decide +kernel
theorem dX5_readParts_36 : decode cX5_readParts 36 = .ok (.iconst 0, 1) := by decide +kernel
theorem dX5_readParts_37 : decode cX5_readParts 37 = .ok (.istore 5, 2) := by decide +kernel
theorem dX5_readParts_39 : decode cX5_readParts 39 = .ok (.iload 5, 2) := by decide +kernel
theorem dX5_readParts_41 : decode cX5_readParts 41 = .ok (.ifCond .ne 18, 3) := by decide +kernel
theorem dX5_readParts_44 : decode cX5_readParts 44 = .ok (.iload 4, 2) := by decide +kernel
theorem dX5_readParts_46 : decode cX5_readParts 46 = .ok (.invokestatic 55, 3) := by decide +kernel
theorem dX5_readParts_49 : decode cX5_readParts 49 = .ok (.ifCond .ne 10, 3) := by decide +kernel
theorem dX5_readParts_52 : decode cX5_readParts 52 = .ok (.aload_n 0, 1) := by decide +kernel
theorem dX5_readParts_53 : decode cX5_readParts 53 = .ok (.iconst 1, 1) := by decide +kernel
theorem dX5_readParts_54 : decode cX5_readParts 54 = .ok (.iload_n 3, 1) := by decide +kernel
theorem dX5_readParts_55 : decode cX5_readParts 55 = .ok (.invokevirtual 64, 3) := by decide +kernel
theorem dX5_readParts_58 : decode cX5_readParts 58 = .ok (.ireturn, 1) := by decide +kernel
theorem dX5_readParts_59 : decode cX5_readParts 59 = .ok (.aload_n 0, 1) := by decide +kernel
theorem dX5_readParts_60 : decode cX5_readParts 60 = .ok (.getfield 31, 3) := by decide +kernel
theorem dX5_readParts_63 : decode cX5_readParts 63 = .ok (.bipush 12, 2) := by decide +kernel
theorem dX5_readParts_65 : decode cX5_readParts 65 = .ok (.if_icmp .lt 10, 3) := by decide +kernel
theorem dX5_readParts_68 : decode cX5_readParts 68 = .ok (.aload_n 0, 1) := by decide +kernel
theorem dX5_readParts_69 : decode cX5_readParts 69 = .ok (.iconst 2, 1) := by decide +kernel
theorem dX5_readParts_70 : decode cX5_readParts 70 = .ok (.iload_n 3, 1) := by decide +kernel
theorem dX5_readParts_71 : decode cX5_readParts 71 = .ok (.invokevirtual 64, 3) := by decide +kernel
theorem dX5_readParts_74 : decode cX5_readParts 74 = .ok (.ireturn, 1) := by decide +kernel
theorem dX5_readParts_75 : decode cX5_readParts 75 = .ok (.iload 5, 2) := by decide +kernel
theorem dX5_readParts_77 : decode cX5_readParts 77 = .ok (.ifCond .eq 32, 3) := by decide +kernel
theorem dX5_readParts_80 : decode cX5_readParts 80 = .ok (.iinc 3 1, 3) := by decide +kernel
theorem dX5_readParts_83 : decode cX5_readParts 83 = .ok (.aload_n 0, 1) := by decide +kernel
theorem dX5_readParts_84 : decode cX5_readParts 84 = .ok (.iload 4, 2) := by decide +kernel
theorem dX5_readParts_86 : decode cX5_readParts 86 = .ok (.aload_n 1, 1) := by decide +kernel
theorem dX5_readParts_87 : decode cX5_readParts 87 = .ok (.iload_n 3, 1) := by decide +kernel
theorem dX5_readParts_88 : decode cX5_readParts 88 = .ok (.invokevirtual 51, 3) := by decide +kernel
theorem dX5_readParts_91 : decode cX5_readParts 91 = .ok (.invokevirtual 75, 3) := by decide +kernel
theorem dX5_readParts_94 : decode cX5_readParts 94 = .ok (.istore 6, 2) := by decide +kernel
theorem dX5_readParts_96 : decode cX5_readParts 96 = .ok (.iload 6, 2) := by decide +kernel
theorem dX5_readParts_98 : decode cX5_readParts 98 = .ok (.ifCond .eq 11, 3) := by decide +kernel
theorem dX5_readParts_101 : decode cX5_readParts 101 = .ok (.aload_n 0, 1) := by decide +kernel
theorem dX5_readParts_102 : decode cX5_readParts 102 = .ok (.iload 6, 2) := by decide +kernel
theorem dX5_readParts_104 : decode cX5_readParts 104 = .ok (.iload_n 3, 1) := by decide +kernel
theorem dX5_readParts_105 : decode cX5_readParts 105 = .ok (.invokevirtual 64, 3) := by decide +kernel
theorem dX5_readParts_108 : decode cX5_readParts 108 = .ok (.ireturn, 1) := by decide +kernel
theorem dX5_readParts_109 : decode cX5_readParts 109 = .ok (.aload_n 0, 1) := by decide +kernel
theorem dX5_readParts_110 : decode cX5_readParts 110 = .ok (.iload 4, 2) := by decide +kernel
theorem dX5_readParts_112 : decode cX5_readParts 112 = .ok (.aload_n 1, 1) := by decide +kernel
theorem dX5_readParts_113 : decode cX5_readParts 113 = .ok (.iload_n 3, 1) := by decide +kernel
theorem dX5_readParts_114 : decode cX5_readParts 114 = .ok (.invokevirtual 51, 3) := by decide +kernel
theorem dX5_readParts_117 : decode cX5_readParts 117 = .ok (.bipush 48, 2) := by decide +kernel
theorem dX5_readParts_119 : decode cX5_readParts 119 = .ok (.isub, 1) := by decide +kernel
theorem dX5_readParts_120 : decode cX5_readParts 120 = .ok (.invokevirtual 78, 3) := by decide +kernel
theorem dX5_readParts_123 : decode cX5_readParts 123 = .ok (.iinc 3 1, 3) := by decide +kernel
theorem dX5_readParts_126 : decode cX5_readParts 126 = .ok (.goto (-124), 3) := by decide +kernel
theorem dX5_readParts_129 : decode cX5_readParts 129 = .ok (.aload_n 0, 1) := by decide +kernel
theorem dX5_readParts_130 : decode cX5_readParts 130 = .ok (.getfield 31, 3) := by decide +kernel
theorem dX5_readParts_133 : decode cX5_readParts 133 = .ok (.ifCond .le 7, 3) := by decide +kernel
theorem dX5_readParts_136 : decode cX5_readParts 136 = .ok (.iconst 0, 1) := by decide +kernel
theorem dX5_readParts_137 : decode cX5_readParts 137 = .ok (.goto 12, 3) := by decide +kernel
theorem dX5_readParts_140 : decode cX5_readParts 140 = .ok (.aload_n 0, 1) := by decide +kernel
theorem dX5_readParts_141 : decode cX5_readParts 141 = .ok (.iconst 1, 1) := by decide +kernel
theorem dX5_readParts_142 : decode cX5_readParts 142 = .ok (.aload_n 1, 1) := by decide +kernel
theorem dX5_readParts_143 : decode cX5_readParts 143 = .ok (.invokevirtual 45, 3) := by decide +kernel
theorem dX5_readParts_146 : decode cX5_readParts 146 = .ok (.invokevirtual 64, 3) := by decide +kernel
theorem dX5_readParts_149 : decode cX5_readParts 149 = .ok (.ireturn, 1) := by decide +kernel
set_option maxRecDepth 20000 in
theorem ggX5_faultOfFigure_X6_isFigure : GoodIn wsX5_faultOfFigure wsX6_isFigure := goodIn_r _ [5] (by decide +kernel) (by decide +kernel)
set_option maxRecDepth 20000 in
theorem gX5_faultOfFigure_X6_isFigure : GoodIn wsX5_faultOfFigure (va_wsS RX5 82 yX6_isFigure wsX6_isFigure) := goodIn_app (goodIn_of _ (by decide +kernel)) ggX5_faultOfFigure_X6_isFigure
theorem dX5_faultOfFigure_0 : decode cX5_faultOfFigure 0 = .ok (.iload_n 2, 1) := by decide +kernel
theorem dX5_faultOfFigure_1 : decode cX5_faultOfFigure 1 = .ok (.invokestatic 82, 3) := by decide +kernel
theorem dX5_faultOfFigure_4 : decode cX5_faultOfFigure 4 = .ok (.ifCond .ne 5, 3) := by decide +kernel
theorem dX5_faultOfFigure_7 : decode cX5_faultOfFigure 7 = .ok (.iconst 1, 1) := by decide +kernel
theorem dX5_faultOfFigure_8 : decode cX5_faultOfFigure 8 = .ok (.ireturn, 1) := by decide +kernel
theorem dX5_faultOfFigure_9 : decode cX5_faultOfFigure 9 = .ok (.iload_n 2, 1) := by decide +kernel
theorem dX5_faultOfFigure_10 : decode cX5_faultOfFigure 10 = .ok (.bipush 48, 2) := by decide +kernel
theorem dX5_faultOfFigure_12 : decode cX5_faultOfFigure 12 = .ok (.isub, 1) := by decide +kernel
theorem dX5_faultOfFigure_13 : decode cX5_faultOfFigure 13 = .ok (.istore_n 3, 1) := by decide +kernel
theorem dX5_faultOfFigure_14 : decode cX5_faultOfFigure 14 = .ok (.iload_n 1, 1) := by decide +kernel
theorem dX5_faultOfFigure_15 : decode cX5_faultOfFigure 15 = .ok (.bipush 37, 2) := by decide +kernel
theorem dX5_faultOfFigure_17 : decode cX5_faultOfFigure 17 = .ok (.if_icmp .ne 19, 3) := by decide +kernel
theorem dX5_faultOfFigure_20 : decode cX5_faultOfFigure 20 = .ok (.iload_n 3, 1) := by decide +kernel
theorem dX5_faultOfFigure_21 : decode cX5_faultOfFigure 21 = .ok (.iconst 1, 1) := by decide +kernel
theorem dX5_faultOfFigure_22 : decode cX5_faultOfFigure 22 = .ok (.if_icmp .lt 12, 3) := by decide +kernel
theorem dX5_faultOfFigure_25 : decode cX5_faultOfFigure 25 = .ok (.iload_n 3, 1) := by decide +kernel
theorem dX5_faultOfFigure_26 : decode cX5_faultOfFigure 26 = .ok (.iconst 4, 1) := by decide +kernel
theorem dX5_faultOfFigure_27 : decode cX5_faultOfFigure 27 = .ok (.if_icmp .gt 7, 3) := by decide +kernel
theorem dX5_faultOfFigure_30 : decode cX5_faultOfFigure 30 = .ok (.iconst 0, 1) := by decide +kernel
theorem dX5_faultOfFigure_31 : decode cX5_faultOfFigure 31 = .ok (.goto 4, 3) := by decide +kernel
theorem dX5_faultOfFigure_34 : decode cX5_faultOfFigure 34 = .ok (.iconst 1, 1) := by decide +kernel
theorem dX5_faultOfFigure_35 : decode cX5_faultOfFigure 35 = .ok (.ireturn, 1) := by decide +kernel
theorem dX5_faultOfFigure_36 : decode cX5_faultOfFigure 36 = .ok (.iload_n 3, 1) := by decide +kernel
theorem dX5_faultOfFigure_37 : decode cX5_faultOfFigure 37 = .ok (.iconst 1, 1) := by decide +kernel
theorem dX5_faultOfFigure_38 : decode cX5_faultOfFigure 38 = .ok (.if_icmp .lt 15, 3) := by decide +kernel
theorem dX5_faultOfFigure_41 : decode cX5_faultOfFigure 41 = .ok (.iload_n 3, 1) := by decide +kernel
theorem dX5_faultOfFigure_42 : decode cX5_faultOfFigure 42 = .ok (.aload_n 0, 1) := by decide +kernel
theorem dX5_faultOfFigure_43 : decode cX5_faultOfFigure 43 = .ok (.getfield 28, 3) := by decide +kernel
theorem dX5_faultOfFigure_46 : decode cX5_faultOfFigure 46 = .ok (.if_icmp .gt 7, 3) := by decide +kernel
theorem dX5_faultOfFigure_49 : decode cX5_faultOfFigure 49 = .ok (.iconst 0, 1) := by decide +kernel
theorem dX5_faultOfFigure_50 : decode cX5_faultOfFigure 50 = .ok (.goto 4, 3) := by decide +kernel
theorem dX5_faultOfFigure_53 : decode cX5_faultOfFigure 53 = .ok (.iconst 3, 1) := by decide +kernel
theorem dX5_faultOfFigure_54 : decode cX5_faultOfFigure 54 = .ok (.ireturn, 1) := by decide +kernel
theorem dX5_addPart_0 : decode cX5_addPart 0 = .ok (.aload_n 0, 1) := by decide +kernel
theorem dX5_addPart_1 : decode cX5_addPart 1 = .ok (.getfield 18, 3) := by decide +kernel
theorem dX5_addPart_4 : decode cX5_addPart 4 = .ok (.aload_n 0, 1) := by decide +kernel
theorem dX5_addPart_5 : decode cX5_addPart 5 = .ok (.getfield 31, 3) := by decide +kernel
theorem dX5_addPart_8 : decode cX5_addPart 8 = .ok (.iload_n 1, 1) := by decide +kernel
theorem dX5_addPart_9 : decode cX5_addPart 9 = .ok (.iastore, 1) := by decide +kernel
theorem dX5_addPart_10 : decode cX5_addPart 10 = .ok (.aload_n 0, 1) := by decide +kernel
theorem dX5_addPart_11 : decode cX5_addPart 11 = .ok (.getfield 21, 3) := by decide +kernel
theorem dX5_addPart_14 : decode cX5_addPart 14 = .ok (.aload_n 0, 1) := by decide +kernel
theorem dX5_addPart_15 : decode cX5_addPart 15 = .ok (.getfield 31, 3) := by decide +kernel
theorem dX5_addPart_18 : decode cX5_addPart 18 = .ok (.iload_n 2, 1) := by decide +kernel
theorem dX5_addPart_19 : decode cX5_addPart 19 = .ok (.iastore, 1) := by decide +kernel
theorem dX5_addPart_20 : decode cX5_addPart 20 = .ok (.aload_n 0, 1) := by decide +kernel
theorem dX5_addPart_21 : decode cX5_addPart 21 = .ok (.dup, 1) := by decide +kernel
theorem dX5_addPart_22 : decode cX5_addPart 22 = .ok (.getfield 31, 3) := by decide +kernel
theorem dX5_addPart_25 : decode cX5_addPart 25 = .ok (.iconst 1, 1) := by decide +kernel
theorem dX5_addPart_26 : decode cX5_addPart 26 = .ok (.iadd, 1) := by decide +kernel
theorem dX5_addPart_27 : decode cX5_addPart 27 = .ok (.putfield 31, 3) := by decide +kernel
theorem dX5_addPart_30 : decode cX5_addPart 30 = .ok (.return_, 1) := by decide +kernel
theorem dX6_isFigure_0 : decode cX6_isFigure 0 = .ok (.iload_n 0, 1) := by decide +kernel
theorem dX6_isFigure_1 : decode cX6_isFigure 1 = .ok (.bipush 48, 2) := by decide +kernel
theorem dX6_isFigure_3 : decode cX6_isFigure 3 = .ok (.if_icmp .lt 13, 3) := by decide +kernel
theorem dX6_isFigure_6 : decode cX6_isFigure 6 = .ok (.iload_n 0, 1) := by decide +kernel
theorem dX6_isFigure_7 : decode cX6_isFigure 7 = .ok (.bipush 57, 2) := by decide +kernel
theorem dX6_isFigure_9 : decode cX6_isFigure 9 = .ok (.if_icmp .gt 7, 3) := by decide +kernel
theorem dX6_isFigure_12 : decode cX6_isFigure 12 = .ok (.iconst 1, 1) := by decide +kernel
theorem dX6_isFigure_13 : decode cX6_isFigure 13 = .ok (.goto 4, 3) := by decide +kernel
theorem dX6_isFigure_16 : decode cX6_isFigure 16 = .ok (.iconst 0, 1) := by decide +kernel
theorem dX6_isFigure_17 : decode cX6_isFigure 17 = .ok (.ireturn, 1) := by decide +kernel
theorem dX6_isSmall_0 : decode cX6_isSmall 0 = .ok (.iload_n 0, 1) := by decide +kernel
theorem dX6_isSmall_1 : decode cX6_isSmall 1 = .ok (.bipush 97, 2) := by decide +kernel
theorem dX6_isSmall_3 : decode cX6_isSmall 3 = .ok (.if_icmp .lt 13, 3) := by decide +kernel
theorem dX6_isSmall_6 : decode cX6_isSmall 6 = .ok (.iload_n 0, 1) := by decide +kernel
theorem dX6_isSmall_7 : decode cX6_isSmall 7 = .ok (.bipush 122, 2) := by decide +kernel
theorem dX6_isSmall_9 : decode cX6_isSmall 9 = .ok (.if_icmp .gt 7, 3) := by decide +kernel
theorem dX6_isSmall_12 : decode cX6_isSmall 12 = .ok (.iconst 1, 1) := by decide +kernel
theorem dX6_isSmall_13 : decode cX6_isSmall 13 = .ok (.goto 4, 3) := by decide +kernel
theorem dX6_isSmall_16 : decode cX6_isSmall 16 = .ok (.iconst 0, 1) := by decide +kernel
theorem dX6_isSmall_17 : decode cX6_isSmall 17 = .ok (.ireturn, 1) := by decide +kernel
theorem dX6_isCapital_0 : decode cX6_isCapital 0 = .ok (.iload_n 0, 1) := by decide +kernel
theorem dX6_isCapital_1 : decode cX6_isCapital 1 = .ok (.bipush 65, 2) := by decide +kernel
theorem dX6_isCapital_3 : decode cX6_isCapital 3 = .ok (.if_icmp .lt 13, 3) := by decide +kernel
theorem dX6_isCapital_6 : decode cX6_isCapital 6 = .ok (.iload_n 0, 1) := by decide +kernel
theorem dX6_isCapital_7 : decode cX6_isCapital 7 = .ok (.bipush 90, 2) := by decide +kernel
theorem dX6_isCapital_9 : decode cX6_isCapital 9 = .ok (.if_icmp .gt 7, 3) := by decide +kernel
theorem dX6_isCapital_12 : decode cX6_isCapital 12 = .ok (.iconst 1, 1) := by decide +kernel
theorem dX6_isCapital_13 : decode cX6_isCapital 13 = .ok (.goto 4, 3) := by decide +kernel
theorem dX6_isCapital_16 : decode cX6_isCapital 16 = .ok (.iconst 0, 1) := by decide +kernel
theorem dX6_isCapital_17 : decode cX6_isCapital 17 = .ok (.ireturn, 1) := by decide +kernel
set_option maxRecDepth 20000 in
theorem ggX6_isOfNames_X6_isSmall : GoodIn wsX6_isOfNames wsX6_isSmall := goodIn_r _ [4] (by decide +kernel) (by decide +kernel)
set_option maxRecDepth 20000 in
theorem gX6_isOfNames_X6_isSmall : GoodIn wsX6_isOfNames (va_wsS RX6 7 yX6_isSmall wsX6_isSmall) := goodIn_app (goodIn_of _ (by decide +kernel)) ggX6_isOfNames_X6_isSmall
set_option maxRecDepth 20000 in
theorem ggX6_isOfNames_X6_isCapital : GoodIn wsX6_isOfNames wsX6_isCapital := goodIn_r _ [7] (by decide +kernel) (by decide +kernel)
set_option maxRecDepth 20000 in
theorem gX6_isOfNames_X6_isCapital : GoodIn wsX6_isOfNames (va_wsS RX6 13 yX6_isCapital wsX6_isCapital) := goodIn_app (goodIn_of _ (by decide +kernel)) ggX6_isOfNames_X6_isCapital
set_option maxRecDepth 20000 in
theorem ggX6_isOfNames_X6_isFigure : GoodIn wsX6_isOfNames wsX6_isFigure := goodIn_r _ [10] (by decide +kernel) (by decide +kernel)
set_option maxRecDepth 20000 in
theorem gX6_isOfNames_X6_isFigure : GoodIn wsX6_isOfNames (va_wsS RX6 16 yX6_isFigure wsX6_isFigure) := goodIn_app (goodIn_of _ (by decide +kernel)) ggX6_isOfNames_X6_isFigure
theorem dX6_isOfNames_0 : decode cX6_isOfNames 0 = .ok (.iload_n 0, 1) := by decide +kernel
theorem dX6_isOfNames_1 : decode cX6_isOfNames 1 = .ok (.invokestatic 7, 3) := by decide +kernel
theorem dX6_isOfNames_4 : decode cX6_isOfNames 4 = .ok (.ifCond .ne 35, 3) := by decide +kernel
theorem dX6_isOfNames_7 : decode cX6_isOfNames 7 = .ok (.iload_n 0, 1) := by decide +kernel
theorem dX6_isOfNames_8 : decode cX6_isOfNames 8 = .ok (.invokestatic 13, 3) := by decide +kernel
theorem dX6_isOfNames_11 : decode cX6_isOfNames 11 = .ok (.ifCond .ne 28, 3) := by decide +kernel
theorem dX6_isOfNames_14 : decode cX6_isOfNames 14 = .ok (.iload_n 0, 1) := by decide +kernel
theorem dX6_isOfNames_15 : decode cX6_isOfNames 15 = .ok (.invokestatic 16, 3) := by decide +kernel
theorem dX6_isOfNames_18 : decode cX6_isOfNames 18 = .ok (.ifCond .ne 21, 3) := by decide +kernel
theorem dX6_isOfNames_21 : decode cX6_isOfNames 21 = .ok (.iload_n 0, 1) := by decide +kernel
theorem dX6_isOfNames_22 : decode cX6_isOfNames 22 = .ok (.bipush 46, 2) := by decide +kernel
theorem dX6_isOfNames_24 : decode cX6_isOfNames 24 = .ok (.if_icmp .eq 15, 3) := by decide +kernel
theorem dX6_isOfNames_27 : decode cX6_isOfNames 27 = .ok (.iload_n 0, 1) := by decide +kernel
theorem dX6_isOfNames_28 : decode cX6_isOfNames 28 = .ok (.bipush 45, 2) := by decide +kernel
theorem dX6_isOfNames_30 : decode cX6_isOfNames 30 = .ok (.if_icmp .eq 9, 3) := by decide +kernel
theorem dX6_isOfNames_33 : decode cX6_isOfNames 33 = .ok (.iload_n 0, 1) := by decide +kernel
theorem dX6_isOfNames_34 : decode cX6_isOfNames 34 = .ok (.bipush 95, 2) := by decide +kernel
theorem dX6_isOfNames_36 : decode cX6_isOfNames 36 = .ok (.if_icmp .ne 7, 3) := by decide +kernel
theorem dX6_isOfNames_39 : decode cX6_isOfNames 39 = .ok (.iconst 1, 1) := by decide +kernel
theorem dX6_isOfNames_40 : decode cX6_isOfNames 40 = .ok (.goto 4, 3) := by decide +kernel
theorem dX6_isOfNames_43 : decode cX6_isOfNames 43 = .ok (.iconst 0, 1) := by decide +kernel
theorem dX6_isOfNames_44 : decode cX6_isOfNames 44 = .ok (.ireturn, 1) := by decide +kernel
theorem dX6_isWild_0 : decode cX6_isWild 0 = .ok (.iload_n 0, 1) := by decide +kernel
theorem dX6_isWild_1 : decode cX6_isWild 1 = .ok (.bipush 63, 2) := by decide +kernel
theorem dX6_isWild_3 : decode cX6_isWild 3 = .ok (.if_icmp .eq 15, 3) := by decide +kernel
theorem dX6_isWild_6 : decode cX6_isWild 6 = .ok (.iload_n 0, 1) := by decide +kernel
theorem dX6_isWild_7 : decode cX6_isWild 7 = .ok (.bipush 42, 2) := by decide +kernel
theorem dX6_isWild_9 : decode cX6_isWild 9 = .ok (.if_icmp .eq 9, 3) := by decide +kernel
theorem dX6_isWild_12 : decode cX6_isWild 12 = .ok (.iload_n 0, 1) := by decide +kernel
theorem dX6_isWild_13 : decode cX6_isWild 13 = .ok (.bipush 35, 2) := by decide +kernel
theorem dX6_isWild_15 : decode cX6_isWild 15 = .ok (.if_icmp .ne 7, 3) := by decide +kernel
theorem dX6_isWild_18 : decode cX6_isWild 18 = .ok (.iconst 1, 1) := by decide +kernel
theorem dX6_isWild_19 : decode cX6_isWild 19 = .ok (.goto 4, 3) := by decide +kernel
theorem dX6_isWild_22 : decode cX6_isWild 22 = .ok (.iconst 0, 1) := by decide +kernel
theorem dX6_isWild_23 : decode cX6_isWild 23 = .ok (.ireturn, 1) := by decide +kernel
theorem dX6_isTaken_0 : decode cX6_isTaken 0 = .ok (.iload_n 0, 1) := by decide +kernel
theorem dX6_isTaken_1 : decode cX6_isTaken 1 = .ok (.bipush 36, 2) := by decide +kernel
theorem dX6_isTaken_3 : decode cX6_isTaken 3 = .ok (.if_icmp .eq 15, 3) := by decide +kernel
theorem dX6_isTaken_6 : decode cX6_isTaken 6 = .ok (.iload_n 0, 1) := by decide +kernel
theorem dX6_isTaken_7 : decode cX6_isTaken 7 = .ok (.bipush 94, 2) := by decide +kernel
theorem dX6_isTaken_9 : decode cX6_isTaken 9 = .ok (.if_icmp .eq 9, 3) := by decide +kernel
theorem dX6_isTaken_12 : decode cX6_isTaken 12 = .ok (.iload_n 0, 1) := by decide +kernel
theorem dX6_isTaken_13 : decode cX6_isTaken 13 = .ok (.bipush 33, 2) := by decide +kernel
theorem dX6_isTaken_15 : decode cX6_isTaken 15 = .ok (.if_icmp .ne 7, 3) := by decide +kernel
theorem dX6_isTaken_18 : decode cX6_isTaken 18 = .ok (.iconst 1, 1) := by decide +kernel
theorem dX6_isTaken_19 : decode cX6_isTaken 19 = .ok (.goto 4, 3) := by decide +kernel
theorem dX6_isTaken_22 : decode cX6_isTaken 22 = .ok (.iconst 0, 1) := by decide +kernel
theorem dX6_isTaken_23 : decode cX6_isTaken 23 = .ok (.ireturn, 1) := by decide +kernel
theorem dX6_capital_0 : decode cX6_capital 0 = .ok (.iload_n 0, 1) := by decide +kernel
theorem dX6_capital_1 : decode cX6_capital 1 = .ok (.bipush 97, 2) := by decide +kernel
theorem dX6_capital_3 : decode cX6_capital 3 = .ok (.if_icmp .lt 19, 3) := by decide +kernel
theorem dX6_capital_6 : decode cX6_capital 6 = .ok (.iload_n 0, 1) := by decide +kernel
theorem dX6_capital_7 : decode cX6_capital 7 = .ok (.bipush 122, 2) := by decide +kernel
theorem dX6_capital_9 : decode cX6_capital 9 = .ok (.if_icmp .gt 13, 3) := by decide +kernel
theorem dX6_capital_12 : decode cX6_capital 12 = .ok (.iload_n 0, 1) := by decide +kernel
theorem dX6_capital_13 : decode cX6_capital 13 = .ok (.bipush 97, 2) := by decide +kernel
theorem dX6_capital_15 : decode cX6_capital 15 = .ok (.isub, 1) := by decide +kernel
theorem dX6_capital_16 : decode cX6_capital 16 = .ok (.bipush 65, 2) := by decide +kernel
theorem dX6_capital_18 : decode cX6_capital 18 = .ok (.iadd, 1) := by decide +kernel
theorem dX6_capital_19 : decode cX6_capital 19 = .ok (.goto 4, 3) := by decide +kernel
theorem dX6_capital_22 : decode cX6_capital 22 = .ok (.iload_n 0, 1) := by decide +kernel
theorem dX6_capital_23 : decode cX6_capital 23 = .ok (.ireturn, 1) := by decide +kernel
theorem dX6_small_0 : decode cX6_small 0 = .ok (.iload_n 0, 1) := by decide +kernel
theorem dX6_small_1 : decode cX6_small 1 = .ok (.bipush 65, 2) := by decide +kernel
theorem dX6_small_3 : decode cX6_small 3 = .ok (.if_icmp .lt 19, 3) := by decide +kernel
theorem dX6_small_6 : decode cX6_small 6 = .ok (.iload_n 0, 1) := by decide +kernel
theorem dX6_small_7 : decode cX6_small 7 = .ok (.bipush 90, 2) := by decide +kernel
theorem dX6_small_9 : decode cX6_small 9 = .ok (.if_icmp .gt 13, 3) := by decide +kernel
theorem dX6_small_12 : decode cX6_small 12 = .ok (.iload_n 0, 1) := by decide +kernel
theorem dX6_small_13 : decode cX6_small 13 = .ok (.bipush 65, 2) := by decide +kernel
theorem dX6_small_15 : decode cX6_small 15 = .ok (.isub, 1) := by decide +kernel
theorem dX6_small_16 : decode cX6_small 16 = .ok (.bipush 97, 2) := by decide +kernel
theorem dX6_small_18 : decode cX6_small 18 = .ok (.iadd, 1) := by decide +kernel
theorem dX6_small_19 : decode cX6_small 19 = .ok (.goto 4, 3) := by decide +kernel
theorem dX6_small_22 : decode cX6_small 22 = .ok (.iload_n 0, 1) := by decide +kernel
theorem dX6_small_23 : decode cX6_small 23 = .ok (.ireturn, 1) := by decide +kernel
set_option maxRecDepth 20000 in
theorem ggX7_init_X2_init : GoodIn wsX7_init wsX2_init := goodIn_r _ [16, 17, 2, 3, 8, 18, 19, 20, 27, 28, 29] (by decide +kernel) (by decide +kernel)
set_option maxRecDepth 20000 in
theorem gX7_init_X2_init_n36 : GoodIn wsX7_init (wsX2_init) := ggX7_init_X2_init
theorem dX7_init_0 : decode cX7_init 0 = .ok (.aload_n 0, 1) := by decide +kernel
theorem dX7_init_1 : decode cX7_init 1 = .ok (.invokespecial 3, 3) := by decide +kernel
theorem dX7_init_4 : decode cX7_init 4 = .ok (.aload_n 0, 1) := by decide +kernel
theorem dX7_init_5 : decode cX7_init 5 = .ok (.bipush 40, 2) := by decide +kernel
theorem dX7_init_7 : decode cX7_init 7 = .ok (.anewarray 9, 3) := by decide +kernel
theorem dX7_init_10 : decode cX7_init 10 = .ok (.putfield 11, 3) := by decide +kernel
theorem dX7_init_13 : decode cX7_init 13 = .ok (.aload_n 0, 1) := by decide +kernel
theorem dX7_init_14 : decode cX7_init 14 = .ok (.bipush 40, 2) := by decide +kernel
theorem dX7_init_16 : decode cX7_init 16 = .ok (.newarray .boolean, 2) := by decide +kernel
theorem dX7_init_18 : decode cX7_init 18 = .ok (.putfield 17, 3) := by decide +kernel
theorem dX7_init_21 : decode cX7_init 21 = .ok (.aload_n 0, 1) := by decide +kernel
theorem dX7_init_22 : decode cX7_init 22 = .ok (.bipush 40, 2) := by decide +kernel
theorem dX7_init_24 : decode cX7_init 24 = .ok (.newarray .int, 2) := by decide +kernel
theorem dX7_init_26 : decode cX7_init 26 = .ok (.putfield 21, 3) := by decide +kernel
theorem dX7_init_29 : decode cX7_init 29 = .ok (.aload_n 0, 1) := by decide +kernel
theorem dX7_init_30 : decode cX7_init 30 = .ok (.iconst 0, 1) := by decide +kernel
theorem dX7_init_31 : decode cX7_init 31 = .ok (.putfield 25, 3) := by decide +kernel
theorem dX7_init_34 : decode cX7_init 34 = .ok (.aload_n 0, 1) := by decide +kernel
theorem dX7_init_35 : decode cX7_init 35 = .ok (.iconst 0, 1) := by decide +kernel
theorem dX7_init_36 : decode cX7_init 36 = .ok (.putfield 29, 3) := by decide +kernel
theorem dX7_init_39 : decode cX7_init 39 = .ok (.aload_n 0, 1) := by decide +kernel
theorem dX7_init_40 : decode cX7_init 40 = .ok (.iconst 0, 1) := by decide +kernel
theorem dX7_init_41 : decode cX7_init 41 = .ok (.putfield 32, 3) := by decide +kernel
theorem dX7_init_44 : decode cX7_init 44 = .ok (.iconst 0, 1) := by decide +kernel
theorem dX7_init_45 : decode cX7_init 45 = .ok (.istore_n 1, 1) := by decide +kernel
theorem dX7_init_46 : decode cX7_init 46 = .ok (.iload_n 1, 1) := by decide +kernel
theorem dX7_init_47 : decode cX7_init 47 = .ok (.bipush 40, 2) := by decide +kernel
theorem dX7_init_49 : decode cX7_init 49 = .ok (.if_icmp .ge 22, 3) := by decide +kernel
theorem dX7_init_52 : decode cX7_init 52 = .ok (.aload_n 0, 1) := by decide +kernel
theorem dX7_init_53 : decode cX7_init 53 = .ok (.getfield 11, 3) := by decide +kernel
theorem dX7_init_56 : decode cX7_init 56 = .ok (.iload_n 1, 1) := by decide +kernel
theorem dX7_init_57 : decode cX7_init 57 = .ok (.new 9, 3) := by decide +kernel
theorem dX7_init_60 : decode cX7_init 60 = .ok (.dup, 1) := by decide +kernel
theorem dX7_init_61 : decode cX7_init 61 = .ok (.invokespecial 36, 3) := by decide +kernel
theorem dX7_init_64 : decode cX7_init 64 = .ok (.aastore, 1) := by decide +kernel
theorem dX7_init_65 : decode cX7_init 65 = .ok (.iinc 1 1, 3) := by decide +kernel
theorem dX7_init_68 : decode cX7_init 68 = .ok (.goto (-22), 3) := by decide +kernel
theorem dX7_init_71 : decode cX7_init 71 = .ok (.return_, 1) := by decide +kernel
theorem dX7_howManyCame_0 : decode cX7_howManyCame 0 = .ok (.aload_n 0, 1) := by decide +kernel
theorem dX7_howManyCame_1 : decode cX7_howManyCame 1 = .ok (.getfield 25, 3) := by decide +kernel
theorem dX7_howManyCame_4 : decode cX7_howManyCame 4 = .ok (.ireturn, 1) := by decide +kernel
theorem dX7_howManyAre_0 : decode cX7_howManyAre 0 = .ok (.aload_n 0, 1) := by decide +kernel
theorem dX7_howManyAre_1 : decode cX7_howManyAre 1 = .ok (.getfield 29, 3) := by decide +kernel
theorem dX7_howManyAre_4 : decode cX7_howManyAre 4 = .ok (.ireturn, 1) := by decide +kernel
theorem dX7_isFull_0 : decode cX7_isFull 0 = .ok (.aload_n 0, 1) := by decide +kernel
theorem dX7_isFull_1 : decode cX7_isFull 1 = .ok (.getfield 25, 3) := by decide +kernel
theorem dX7_isFull_4 : decode cX7_isFull 4 = .ok (.bipush 40, 2) := by decide +kernel
theorem dX7_isFull_6 : decode cX7_isFull 6 = .ok (.if_icmp .lt 7, 3) := by decide +kernel
theorem dX7_isFull_9 : decode cX7_isFull 9 = .ok (.iconst 1, 1) := by decide +kernel
theorem dX7_isFull_10 : decode cX7_isFull 10 = .ok (.goto 4, 3) := by decide +kernel
theorem dX7_isFull_13 : decode cX7_isFull 13 = .ok (.iconst 0, 1) := by decide +kernel
theorem dX7_isFull_14 : decode cX7_isFull 14 = .ok (.ireturn, 1) := by decide +kernel
theorem dX7_isFolding_0 : decode cX7_isFolding 0 = .ok (.aload_n 0, 1) := by decide +kernel
theorem dX7_isFolding_1 : decode cX7_isFolding 1 = .ok (.getfield 32, 3) := by decide +kernel
theorem dX7_isFolding_4 : decode cX7_isFolding 4 = .ok (.ireturn, 1) := by decide +kernel
theorem dX7_setFolding_0 : decode cX7_setFolding 0 = .ok (.aload_n 0, 1) := by decide +kernel
theorem dX7_setFolding_1 : decode cX7_setFolding 1 = .ok (.iload_n 1, 1) := by decide +kernel
theorem dX7_setFolding_2 : decode cX7_setFolding 2 = .ok (.putfield 32, 3) := by decide +kernel
theorem dX7_setFolding_5 : decode cX7_setFolding 5 = .ok (.return_, 1) := by decide +kernel
theorem dX7_has_0 : decode cX7_has 0 = .ok (.iload_n 1, 1) := by decide +kernel
theorem dX7_has_1 : decode cX7_has 1 = .ok (.ifCond .lt 33, 3) := by decide +kernel
theorem dX7_has_4 : decode cX7_has 4 = .ok (.iload_n 1, 1) := by decide +kernel
theorem dX7_has_5 : decode cX7_has 5 = .ok (.aload_n 0, 1) := by decide +kernel
theorem dX7_has_6 : decode cX7_has 6 = .ok (.getfield 25, 3) := by decide +kernel
theorem dX7_has_9 : decode cX7_has 9 = .ok (.if_icmp .ge 25, 3) := by decide +kernel
theorem dX7_has_12 : decode cX7_has 12 = .ok (.iload_n 1, 1) := by decide +kernel
theorem dX7_has_13 : decode cX7_has 13 = .ok (.aload_n 0, 1) := by decide +kernel
theorem dX7_has_14 : decode cX7_has 14 = .ok (.getfield 17, 3) := by decide +kernel
theorem dX7_has_17 : decode cX7_has 17 = .ok (.arraylength, 1) := by decide +kernel
theorem dX7_has_18 : decode cX7_has 18 = .ok (.if_icmp .ge 16, 3) := by decide +kernel
theorem dX7_has_21 : decode cX7_has 21 = .ok (.aload_n 0, 1) := by decide +kernel
theorem dX7_has_22 : decode cX7_has 22 = .ok (.getfield 17, 3) := by decide +kernel
theorem dX7_has_25 : decode cX7_has 25 = .ok (.iload_n 1, 1) := by decide +kernel
theorem dX7_has_26 : decode cX7_has 26 = .ok (.baload, 1) := by decide +kernel
theorem dX7_has_27 : decode cX7_has 27 = .ok (.ifCond .eq 7, 3) := by decide +kernel
theorem dX7_has_30 : decode cX7_has 30 = .ok (.iconst 1, 1) := by decide +kernel
theorem dX7_has_31 : decode cX7_has 31 = .ok (.goto 4, 3) := by decide +kernel
theorem dX7_has_34 : decode cX7_has 34 = .ok (.iconst 0, 1) := by decide +kernel
theorem dX7_has_35 : decode cX7_has 35 = .ok (.ireturn, 1) := by decide +kernel
theorem dX7_placeOf_0 : decode cX7_placeOf 0 = .ok (.aload_n 0, 1) := by decide +kernel
theorem dX7_placeOf_1 : decode cX7_placeOf 1 = .ok (.getfield 11, 3) := by decide +kernel
theorem dX7_placeOf_4 : decode cX7_placeOf 4 = .ok (.iload_n 1, 1) := by decide +kernel
theorem dX7_placeOf_5 : decode cX7_placeOf 5 = .ok (.aaload, 1) := by decide +kernel
theorem dX7_placeOf_6 : decode cX7_placeOf 6 = .ok (.areturn, 1) := by decide +kernel
set_option maxRecDepth 20000 in
theorem ggX7_add_X2_become : GoodIn wsX7_add wsX2_become := goodIn_r _ [9, 10, 11, 12, 13, 14, 8, 15, 16, 17, 18, 19, 20, 21, 22, 23, 24, 31, 32, 33] (by decide +kernel) (by decide +kernel)
set_option maxRecDepth 20000 in
theorem gX7_add_X2_become : GoodIn wsX7_add (wsV RX7 37 RX2 yX2_become wsX2_become) := goodIn_app (goodIn_of _ (by decide +kernel)) ggX7_add_X2_become
theorem dX7_add_0 : decode cX7_add 0 = .ok (.aload_n 0, 1) := by decide +kernel
theorem dX7_add_1 : decode cX7_add 1 = .ok (.getfield 25, 3) := by decide +kernel
theorem dX7_add_4 : decode cX7_add 4 = .ok (.istore_n 2, 1) := by decide +kernel
theorem dX7_add_5 : decode cX7_add 5 = .ok (.aload_n 0, 1) := by decide +kernel
theorem dX7_add_6 : decode cX7_add 6 = .ok (.getfield 11, 3) := by decide +kernel
theorem dX7_add_9 : decode cX7_add 9 = .ok (.iload_n 2, 1) := by decide +kernel
theorem dX7_add_10 : decode cX7_add 10 = .ok (.aaload, 1) := by decide +kernel
theorem dX7_add_11 : decode cX7_add 11 = .ok (.aload_n 1, 1) := by decide +kernel
theorem dX7_add_12 : decode cX7_add 12 = .ok (.invokevirtual 37, 3) := by decide +kernel
theorem dX7_add_15 : decode cX7_add 15 = .ok (.aload_n 0, 1) := by decide +kernel
theorem dX7_add_16 : decode cX7_add 16 = .ok (.getfield 17, 3) := by decide +kernel
theorem dX7_add_19 : decode cX7_add 19 = .ok (.iload_n 2, 1) := by decide +kernel
theorem dX7_add_20 : decode cX7_add 20 = .ok (.iconst 1, 1) := by decide +kernel
theorem dX7_add_21 : decode cX7_add 21 = .ok (.bastore, 1) := by decide +kernel
theorem dX7_add_22 : decode cX7_add 22 = .ok (.aload_n 0, 1) := by decide +kernel
theorem dX7_add_23 : decode cX7_add 23 = .ok (.dup, 1) := by decide +kernel
theorem dX7_add_24 : decode cX7_add 24 = .ok (.getfield 25, 3) := by decide +kernel
theorem dX7_add_27 : decode cX7_add 27 = .ok (.iconst 1, 1) := by decide +kernel
theorem dX7_add_28 : decode cX7_add 28 = .ok (.iadd, 1) := by decide +kernel
theorem dX7_add_29 : decode cX7_add 29 = .ok (.putfield 25, 3) := by decide +kernel
theorem dX7_add_32 : decode cX7_add 32 = .ok (.aload_n 0, 1) := by decide +kernel
theorem dX7_add_33 : decode cX7_add 33 = .ok (.dup, 1) := by decide +kernel
theorem dX7_add_34 : decode cX7_add 34 = .ok (.getfield 29, 3) := by decide +kernel
theorem dX7_add_37 : decode cX7_add 37 = .ok (.iconst 1, 1) := by decide +kernel
theorem dX7_add_38 : decode cX7_add 38 = .ok (.iadd, 1) := by decide +kernel
theorem dX7_add_39 : decode cX7_add 39 = .ok (.putfield 29, 3) := by decide +kernel
theorem dX7_add_42 : decode cX7_add 42 = .ok (.iload_n 2, 1) := by decide +kernel
theorem dX7_add_43 : decode cX7_add 43 = .ok (.ireturn, 1) := by decide +kernel
theorem dX7_drop_0 : decode cX7_drop 0 = .ok (.aload_n 0, 1) := by decide +kernel
theorem dX7_drop_1 : decode cX7_drop 1 = .ok (.getfield 17, 3) := by decide +kernel
theorem dX7_drop_4 : decode cX7_drop 4 = .ok (.iload_n 1, 1) := by decide +kernel
theorem dX7_drop_5 : decode cX7_drop 5 = .ok (.iconst 0, 1) := by decide +kernel
theorem dX7_drop_6 : decode cX7_drop 6 = .ok (.bastore, 1) := by decide +kernel
theorem dX7_drop_7 : decode cX7_drop 7 = .ok (.aload_n 0, 1) := by decide +kernel
theorem dX7_drop_8 : decode cX7_drop 8 = .ok (.dup, 1) := by decide +kernel
theorem dX7_drop_9 : decode cX7_drop 9 = .ok (.getfield 29, 3) := by decide +kernel
theorem dX7_drop_12 : decode cX7_drop 12 = .ok (.iconst 1, 1) := by decide +kernel
theorem dX7_drop_13 : decode cX7_drop 13 = .ok (.isub, 1) := by decide +kernel
theorem dX7_drop_14 : decode cX7_drop 14 = .ok (.putfield 29, 3) := by decide +kernel
theorem dX7_drop_17 : decode cX7_drop 17 = .ok (.return_, 1) := by decide +kernel
set_option maxRecDepth 20000 in
theorem ggX7_findAlike_X2_isAlike : GoodIn wsX7_findAlike wsX2_isAlike := goodIn_r _ [9, 10, 11, 12, 13, 14, 8, 15, 16, 17, 18, 19, 20, 27, 28, 29] (by decide +kernel) (by decide +kernel)
set_option maxRecDepth 20000 in
theorem gX7_findAlike_X2_isAlike : GoodIn wsX7_findAlike (wsV RX7 41 RX2 yX2_isAlike wsX2_isAlike) := goodIn_app (goodIn_of _ (by decide +kernel)) ggX7_findAlike_X2_isAlike
theorem dX7_findAlike_0 : decode cX7_findAlike 0 = .ok (.iconst 0, 1) := by decide +kernel
theorem dX7_findAlike_1 : decode cX7_findAlike 1 = .ok (.istore_n 3, 1) := by decide +kernel
theorem dX7_findAlike_2 : decode cX7_findAlike 2 = .ok (.iload_n 3, 1) := by decide +kernel
theorem dX7_findAlike_3 : decode cX7_findAlike 3 = .ok (.aload_n 0, 1) := by decide +kernel
theorem dX7_findAlike_4 : decode cX7_findAlike 4 = .ok (.getfield 25, 3) := by decide +kernel
theorem dX7_findAlike_7 : decode cX7_findAlike 7 = .ok (.if_icmp .ge 42, 3) := by decide +kernel
theorem dX7_findAlike_10 : decode cX7_findAlike 10 = .ok (.iload_n 3, 1) := by decide +kernel
theorem dX7_findAlike_11 : decode cX7_findAlike 11 = .ok (.iload_n 2, 1) := by decide +kernel
theorem dX7_findAlike_12 : decode cX7_findAlike 12 = .ok (.if_icmp .eq 31, 3) := by decide +kernel
theorem dX7_findAlike_15 : decode cX7_findAlike 15 = .ok (.aload_n 0, 1) := by decide +kernel
theorem dX7_findAlike_16 : decode cX7_findAlike 16 = .ok (.getfield 17, 3) := by decide +kernel
theorem dX7_findAlike_19 : decode cX7_findAlike 19 = .ok (.iload_n 3, 1) := by decide +kernel
theorem dX7_findAlike_20 : decode cX7_findAlike 20 = .ok (.baload, 1) := by decide +kernel
theorem dX7_findAlike_21 : decode cX7_findAlike 21 = .ok (.ifCond .eq 22, 3) := by decide +kernel
theorem dX7_findAlike_24 : decode cX7_findAlike 24 = .ok (.aload_n 0, 1) := by decide +kernel
theorem dX7_findAlike_25 : decode cX7_findAlike 25 = .ok (.getfield 11, 3) := by decide +kernel
theorem dX7_findAlike_28 : decode cX7_findAlike 28 = .ok (.iload_n 3, 1) := by decide +kernel
theorem dX7_findAlike_29 : decode cX7_findAlike 29 = .ok (.aaload, 1) := by decide +kernel
theorem dX7_findAlike_30 : decode cX7_findAlike 30 = .ok (.aload_n 1, 1) := by decide +kernel
theorem dX7_findAlike_31 : decode cX7_findAlike 31 = .ok (.aload_n 0, 1) := by decide +kernel
theorem dX7_findAlike_32 : decode cX7_findAlike 32 = .ok (.getfield 32, 3) := by decide +kernel
theorem dX7_findAlike_35 : decode cX7_findAlike 35 = .ok (.invokevirtual 41, 3) := by decide +kernel
theorem dX7_findAlike_38 : decode cX7_findAlike 38 = .ok (.ifCond .eq 5, 3) := by decide +kernel
theorem dX7_findAlike_41 : decode cX7_findAlike 41 = .ok (.iload_n 3, 1) := by decide +kernel
theorem dX7_findAlike_42 : decode cX7_findAlike 42 = .ok (.ireturn, 1) := by decide +kernel
theorem dX7_findAlike_43 : decode cX7_findAlike 43 = .ok (.iinc 3 1, 3) := by decide +kernel
theorem dX7_findAlike_46 : decode cX7_findAlike 46 = .ok (.goto (-44), 3) := by decide +kernel
theorem dX7_findAlike_49 : decode cX7_findAlike 49 = .ok (.iconst (-1), 1) := by decide +kernel
theorem dX7_findAlike_50 : decode cX7_findAlike 50 = .ok (.ireturn, 1) := by decide +kernel
set_option maxRecDepth 20000 in
theorem ggX7_findJust_X2_isJust : GoodIn wsX7_findJust wsX2_isJust := goodIn_r _ [8, 9, 10, 11, 7, 12, 13, 14, 15, 16, 17, 18, 19, 20, 21, 22, 23, 30, 31, 32] (by decide +kernel) (by decide +kernel)
set_option maxRecDepth 20000 in
theorem gX7_findJust_X2_isJust : GoodIn wsX7_findJust (wsV RX7 45 RX2 yX2_isJust wsX2_isJust) := goodIn_app (goodIn_of _ (by decide +kernel)) ggX7_findJust_X2_isJust
theorem dX7_findJust_0 : decode cX7_findJust 0 = .ok (.iconst 0, 1) := by decide +kernel
theorem dX7_findJust_1 : decode cX7_findJust 1 = .ok (.istore_n 2, 1) := by decide +kernel
theorem dX7_findJust_2 : decode cX7_findJust 2 = .ok (.iload_n 2, 1) := by decide +kernel
theorem dX7_findJust_3 : decode cX7_findJust 3 = .ok (.aload_n 0, 1) := by decide +kernel
theorem dX7_findJust_4 : decode cX7_findJust 4 = .ok (.getfield 25, 3) := by decide +kernel
theorem dX7_findJust_7 : decode cX7_findJust 7 = .ok (.if_icmp .ge 33, 3) := by decide +kernel
theorem dX7_findJust_10 : decode cX7_findJust 10 = .ok (.aload_n 0, 1) := by decide +kernel
theorem dX7_findJust_11 : decode cX7_findJust 11 = .ok (.getfield 17, 3) := by decide +kernel
theorem dX7_findJust_14 : decode cX7_findJust 14 = .ok (.iload_n 2, 1) := by decide +kernel
theorem dX7_findJust_15 : decode cX7_findJust 15 = .ok (.baload, 1) := by decide +kernel
theorem dX7_findJust_16 : decode cX7_findJust 16 = .ok (.ifCond .eq 18, 3) := by decide +kernel
theorem dX7_findJust_19 : decode cX7_findJust 19 = .ok (.aload_n 0, 1) := by decide +kernel
theorem dX7_findJust_20 : decode cX7_findJust 20 = .ok (.getfield 11, 3) := by decide +kernel
theorem dX7_findJust_23 : decode cX7_findJust 23 = .ok (.iload_n 2, 1) := by decide +kernel
theorem dX7_findJust_24 : decode cX7_findJust 24 = .ok (.aaload, 1) := by decide +kernel
theorem dX7_findJust_25 : decode cX7_findJust 25 = .ok (.aload_n 1, 1) := by decide +kernel
theorem dX7_findJust_26 : decode cX7_findJust 26 = .ok (.invokevirtual 45, 3) := by decide +kernel
theorem dX7_findJust_29 : decode cX7_findJust 29 = .ok (.ifCond .eq 5, 3) := by decide +kernel
theorem dX7_findJust_32 : decode cX7_findJust 32 = .ok (.iload_n 2, 1) := by decide +kernel
theorem dX7_findJust_33 : decode cX7_findJust 33 = .ok (.ireturn, 1) := by decide +kernel
theorem dX7_findJust_34 : decode cX7_findJust 34 = .ok (.iinc 2 1, 3) := by decide +kernel
theorem dX7_findJust_37 : decode cX7_findJust 37 = .ok (.goto (-35), 3) := by decide +kernel
theorem dX7_findJust_40 : decode cX7_findJust 40 = .ok (.iconst (-1), 1) := by decide +kernel
theorem dX7_findJust_41 : decode cX7_findJust 41 = .ok (.ireturn, 1) := by decide +kernel
set_option maxRecDepth 20000 in
theorem ggX7_howManySpare_X2_isSpare : GoodIn wsX7_howManySpare wsX2_isSpare := goodIn_r _ [8, 9, 10, 11, 7, 12, 13, 14, 21, 22, 23] (by decide +kernel) (by decide +kernel)
set_option maxRecDepth 20000 in
theorem gX7_howManySpare_X2_isSpare : GoodIn wsX7_howManySpare (wsV RX7 49 RX2 yX2_isSpare wsX2_isSpare) := goodIn_app (goodIn_of _ (by decide +kernel)) ggX7_howManySpare_X2_isSpare
theorem dX7_howManySpare_0 : decode cX7_howManySpare 0 = .ok (.iconst 0, 1) := by decide +kernel
theorem dX7_howManySpare_1 : decode cX7_howManySpare 1 = .ok (.istore_n 1, 1) := by decide +kernel
theorem dX7_howManySpare_2 : decode cX7_howManySpare 2 = .ok (.iconst 0, 1) := by decide +kernel
theorem dX7_howManySpare_3 : decode cX7_howManySpare 3 = .ok (.istore_n 2, 1) := by decide +kernel
theorem dX7_howManySpare_4 : decode cX7_howManySpare 4 = .ok (.iload_n 2, 1) := by decide +kernel
theorem dX7_howManySpare_5 : decode cX7_howManySpare 5 = .ok (.aload_n 0, 1) := by decide +kernel
theorem dX7_howManySpare_6 : decode cX7_howManySpare 6 = .ok (.getfield 25, 3) := by decide +kernel
theorem dX7_howManySpare_9 : decode cX7_howManySpare 9 = .ok (.if_icmp .ge 33, 3) := by decide +kernel
theorem dX7_howManySpare_12 : decode cX7_howManySpare 12 = .ok (.aload_n 0, 1) := by decide +kernel
theorem dX7_howManySpare_13 : decode cX7_howManySpare 13 = .ok (.getfield 17, 3) := by decide +kernel
theorem dX7_howManySpare_16 : decode cX7_howManySpare 16 = .ok (.iload_n 2, 1) := by decide +kernel
theorem dX7_howManySpare_17 : decode cX7_howManySpare 17 = .ok (.baload, 1) := by decide +kernel
theorem dX7_howManySpare_18 : decode cX7_howManySpare 18 = .ok (.ifCond .eq 18, 3) := by decide +kernel
theorem dX7_howManySpare_21 : decode cX7_howManySpare 21 = .ok (.aload_n 0, 1) := by decide +kernel
theorem dX7_howManySpare_22 : decode cX7_howManySpare 22 = .ok (.getfield 11, 3) := by decide +kernel
theorem dX7_howManySpare_25 : decode cX7_howManySpare 25 = .ok (.iload_n 2, 1) := by decide +kernel
theorem dX7_howManySpare_26 : decode cX7_howManySpare 26 = .ok (.aaload, 1) := by decide +kernel
theorem dX7_howManySpare_27 : decode cX7_howManySpare 27 = .ok (.invokevirtual 49, 3) := by decide +kernel
theorem dX7_howManySpare_30 : decode cX7_howManySpare 30 = .ok (.ifCond .eq 6, 3) := by decide +kernel
theorem dX7_howManySpare_33 : decode cX7_howManySpare 33 = .ok (.iinc 1 1, 3) := by decide +kernel
theorem dX7_howManySpare_36 : decode cX7_howManySpare 36 = .ok (.iinc 2 1, 3) := by decide +kernel
theorem dX7_howManySpare_39 : decode cX7_howManySpare 39 = .ok (.goto (-35), 3) := by decide +kernel
theorem dX7_howManySpare_42 : decode cX7_howManySpare 42 = .ok (.iload_n 1, 1) := by decide +kernel
theorem dX7_howManySpare_43 : decode cX7_howManySpare 43 = .ok (.ireturn, 1) := by decide +kernel
set_option maxRecDepth 20000 in
theorem ggX7_list_X7_isNamedBefore : GoodIn wsX7_list wsX7_isNamedBefore := goodIn_r _ [9, 3, 10, 11, 12, 13, 14, 15, 16, 17, 18, 19, 20, 21, 22, 23, 24, 25, 26, 27, 28, 29, 30, 31, 32, 33] (by decide +kernel) (by decide +kernel)
set_option maxRecDepth 20000 in
theorem gX7_list_X7_isNamedBefore : GoodIn wsX7_list (wsV RX7 56 RX7 yX7_isNamedBefore wsX7_isNamedBefore) := goodIn_app (goodIn_of _ (by decide +kernel)) ggX7_list_X7_isNamedBefore
theorem dX7_list_0 : decode cX7_list 0 = .ok (.iconst 0, 1) := by decide +kernel
theorem dX7_list_1 : decode cX7_list 1 = .ok (.istore_n 3, 1) := by decide +kernel
theorem dX7_list_2 : decode cX7_list 2 = .ok (.iconst 0, 1) := by decide +kernel
theorem dX7_list_3 : decode cX7_list 3 = .ok (.istore 4, 2) := by decide +kernel
theorem dX7_list_5 : decode cX7_list 5 = .ok (.iload 4, 2) := by decide +kernel
theorem dX7_list_7 : decode cX7_list 7 = .ok (.aload_n 0, 1) := by decide +kernel
theorem dX7_list_8 : decode cX7_list 8 = .ok (.getfield 25, 3) := by decide +kernel
theorem dX7_list_11 : decode cX7_list 11 = .ok (.if_icmp .ge 106, 3) := by decide +kernel
theorem dX7_list_14 : decode cX7_list 14 = .ok (.aload_n 0, 1) := by decide +kernel
theorem dX7_list_15 : decode cX7_list 15 = .ok (.getfield 17, 3) := by decide +kernel
theorem dX7_list_18 : decode cX7_list 18 = .ok (.iload 4, 2) := by decide +kernel
theorem dX7_list_20 : decode cX7_list 20 = .ok (.baload, 1) := by decide +kernel
theorem dX7_list_21 : decode cX7_list 21 = .ok (.ifCond .eq 90, 3) := by decide +kernel
theorem dX7_list_24 : decode cX7_list 24 = .ok (.aload_n 0, 1) := by decide +kernel
theorem dX7_list_25 : decode cX7_list 25 = .ok (.getfield 11, 3) := by decide +kernel
theorem dX7_list_28 : decode cX7_list 28 = .ok (.iload 4, 2) := by decide +kernel
theorem dX7_list_30 : decode cX7_list 30 = .ok (.aaload, 1) := by decide +kernel
theorem dX7_list_31 : decode cX7_list 31 = .ok (.getfield 53, 3) := by decide +kernel
theorem dX7_list_34 : decode cX7_list 34 = .ok (.iload_n 1, 1) := by decide +kernel
theorem dX7_list_35 : decode cX7_list 35 = .ok (.if_icmp .ne 76, 3) := by decide +kernel
theorem dX7_list_38 : decode cX7_list 38 = .ok (.iload_n 3, 1) := by decide +kernel
theorem dX7_list_39 : decode cX7_list 39 = .ok (.istore 5, 2) := by decide +kernel
theorem dX7_list_41 : decode cX7_list 41 = .ok (.iload_n 3, 1) := by decide +kernel
theorem dX7_list_42 : decode cX7_list 42 = .ok (.istore 6, 2) := by decide +kernel
theorem dX7_list_44 : decode cX7_list 44 = .ok (.iload_n 2, 1) := by decide +kernel
theorem dX7_list_45 : decode cX7_list 45 = .ok (.ifCond .eq 54, 3) := by decide +kernel
theorem dX7_list_48 : decode cX7_list 48 = .ok (.iload 6, 2) := by decide +kernel
theorem dX7_list_50 : decode cX7_list 50 = .ok (.ifCond .le 49, 3) := by decide +kernel
theorem dX7_list_53 : decode cX7_list 53 = .ok (.aload_n 0, 1) := by decide +kernel
theorem dX7_list_54 : decode cX7_list 54 = .ok (.iload 4, 2) := by decide +kernel
theorem dX7_list_56 : decode cX7_list 56 = .ok (.aload_n 0, 1) := by decide +kernel
theorem dX7_list_57 : decode cX7_list 57 = .ok (.getfield 21, 3) := by decide +kernel
theorem dX7_list_60 : decode cX7_list 60 = .ok (.iload 6, 2) := by decide +kernel
theorem dX7_list_62 : decode cX7_list 62 = .ok (.iconst 1, 1) := by decide +kernel
theorem dX7_list_63 : decode cX7_list 63 = .ok (.isub, 1) := by decide +kernel
theorem dX7_list_64 : decode cX7_list 64 = .ok (.iaload, 1) := by decide +kernel
theorem dX7_list_65 : decode cX7_list 65 = .ok (.invokevirtual 56, 3) := by decide +kernel
theorem dX7_list_68 : decode cX7_list 68 = .ok (.ifCond .eq 31, 3) := by decide +kernel
theorem dX7_list_71 : decode cX7_list 71 = .ok (.aload_n 0, 1) := by decide +kernel
theorem dX7_list_72 : decode cX7_list 72 = .ok (.getfield 21, 3) := by decide +kernel
theorem dX7_list_75 : decode cX7_list 75 = .ok (.iload 6, 2) := by decide +kernel
theorem dX7_list_77 : decode cX7_list 77 = .ok (.aload_n 0, 1) := by decide +kernel
theorem dX7_list_78 : decode cX7_list 78 = .ok (.getfield 21, 3) := by decide +kernel
theorem dX7_list_81 : decode cX7_list 81 = .ok (.iload 6, 2) := by decide +kernel
theorem dX7_list_83 : decode cX7_list 83 = .ok (.iconst 1, 1) := by decide +kernel
theorem dX7_list_84 : decode cX7_list 84 = .ok (.isub, 1) := by decide +kernel
theorem dX7_list_85 : decode cX7_list 85 = .ok (.iaload, 1) := by decide +kernel
theorem dX7_list_86 : decode cX7_list 86 = .ok (.iastore, 1) := by decide +kernel
theorem dX7_list_87 : decode cX7_list 87 = .ok (.iload 6, 2) := by decide +kernel
theorem dX7_list_89 : decode cX7_list 89 = .ok (.iconst 1, 1) := by decide +kernel
theorem dX7_list_90 : decode cX7_list 90 = .ok (.isub, 1) := by decide +kernel
theorem dX7_list_91 : decode cX7_list 91 = .ok (.istore 5, 2) := by decide +kernel
theorem dX7_list_93 : decode cX7_list 93 = .ok (.iinc 6 (-1), 3) := by decide +kernel
theorem dX7_list_96 : decode cX7_list 96 = .ok (.goto (-52), 3) := by decide +kernel
theorem dX7_list_99 : decode cX7_list 99 = .ok (.aload_n 0, 1) := by decide +kernel
theorem dX7_list_100 : decode cX7_list 100 = .ok (.getfield 21, 3) := by decide +kernel
theorem dX7_list_103 : decode cX7_list 103 = .ok (.iload 5, 2) := by decide +kernel
theorem dX7_list_105 : decode cX7_list 105 = .ok (.iload 4, 2) := by decide +kernel
theorem dX7_list_107 : decode cX7_list 107 = .ok (.iastore, 1) := by decide +kernel
theorem dX7_list_108 : decode cX7_list 108 = .ok (.iinc 3 1, 3) := by decide +kernel
theorem dX7_list_111 : decode cX7_list 111 = .ok (.iinc 4 1, 3) := by decide +kernel
theorem dX7_list_114 : decode cX7_list 114 = .ok (.goto (-109), 3) := by decide +kernel
theorem dX7_list_117 : decode cX7_list 117 = .ok (.iload_n 3, 1) := by decide +kernel
theorem dX7_list_118 : decode cX7_list 118 = .ok (.ireturn, 1) := by decide +kernel
set_option maxRecDepth 20000 in
theorem ggX7_isNamedBefore_X2_isNamedBefore : GoodIn wsX7_isNamedBefore wsX2_isNamedBefore := goodIn_r _ [6, 7, 8, 9, 10, 11, 12, 13, 14, 5, 15, 16, 23, 24, 25] (by decide +kernel) (by decide +kernel)
set_option maxRecDepth 20000 in
theorem gX7_isNamedBefore_X2_isNamedBefore : GoodIn wsX7_isNamedBefore (wsV RX7 60 RX2 yX2_isNamedBefore wsX2_isNamedBefore) := goodIn_app (goodIn_of _ (by decide +kernel)) ggX7_isNamedBefore_X2_isNamedBefore
theorem dX7_isNamedBefore_0 : decode cX7_isNamedBefore 0 = .ok (.aload_n 0, 1) := by decide +kernel
theorem dX7_isNamedBefore_1 : decode cX7_isNamedBefore 1 = .ok (.getfield 11, 3) := by decide +kernel
theorem dX7_isNamedBefore_4 : decode cX7_isNamedBefore 4 = .ok (.iload_n 1, 1) := by decide +kernel
theorem dX7_isNamedBefore_5 : decode cX7_isNamedBefore 5 = .ok (.aaload, 1) := by decide +kernel
theorem dX7_isNamedBefore_6 : decode cX7_isNamedBefore 6 = .ok (.aload_n 0, 1) := by decide +kernel
theorem dX7_isNamedBefore_7 : decode cX7_isNamedBefore 7 = .ok (.getfield 11, 3) := by decide +kernel
theorem dX7_isNamedBefore_10 : decode cX7_isNamedBefore 10 = .ok (.iload_n 2, 1) := by decide +kernel
theorem dX7_isNamedBefore_11 : decode cX7_isNamedBefore 11 = .ok (.aaload, 1) := by decide +kernel
theorem dX7_isNamedBefore_12 : decode cX7_isNamedBefore 12 = .ok (.invokevirtual 60, 3) := by decide +kernel
theorem dX7_isNamedBefore_15 : decode cX7_isNamedBefore 15 = .ok (.ireturn, 1) := by decide +kernel
theorem dX7_listed_0 : decode cX7_listed 0 = .ok (.iload_n 1, 1) := by decide +kernel
theorem dX7_listed_1 : decode cX7_listed 1 = .ok (.ifCond .lt 21, 3) := by decide +kernel
theorem dX7_listed_4 : decode cX7_listed 4 = .ok (.iload_n 1, 1) := by decide +kernel
theorem dX7_listed_5 : decode cX7_listed 5 = .ok (.aload_n 0, 1) := by decide +kernel
theorem dX7_listed_6 : decode cX7_listed 6 = .ok (.getfield 21, 3) := by decide +kernel
theorem dX7_listed_9 : decode cX7_listed 9 = .ok (.arraylength, 1) := by decide +kernel
theorem dX7_listed_10 : decode cX7_listed 10 = .ok (.if_icmp .ge 12, 3) := by decide +kernel
theorem dX7_listed_13 : decode cX7_listed 13 = .ok (.aload_n 0, 1) := by decide +kernel
theorem dX7_listed_14 : decode cX7_listed 14 = .ok (.getfield 21, 3) := by decide +kernel
theorem dX7_listed_17 : decode cX7_listed 17 = .ok (.iload_n 1, 1) := by decide +kernel
theorem dX7_listed_18 : decode cX7_listed 18 = .ok (.iaload, 1) := by decide +kernel
theorem dX7_listed_19 : decode cX7_listed 19 = .ok (.goto 4, 3) := by decide +kernel
theorem dX7_listed_22 : decode cX7_listed 22 = .ok (.iconst (-1), 1) := by decide +kernel
theorem dX7_listed_23 : decode cX7_listed 23 = .ok (.ireturn, 1) := by decide +kernel
theorem dX8_init_0 : decode cX8_init 0 = .ok (.aload_n 0, 1) := by decide +kernel
theorem dX8_init_1 : decode cX8_init 1 = .ok (.invokespecial 3, 3) := by decide +kernel
theorem dX8_init_4 : decode cX8_init 4 = .ok (.aload_n 0, 1) := by decide +kernel
theorem dX8_init_5 : decode cX8_init 5 = .ok (.bipush 80, 2) := by decide +kernel
theorem dX8_init_7 : decode cX8_init 7 = .ok (.newarray .int, 2) := by decide +kernel
theorem dX8_init_9 : decode cX8_init 9 = .ok (.putfield 9, 3) := by decide +kernel
theorem dX8_init_12 : decode cX8_init 12 = .ok (.aload_n 0, 1) := by decide +kernel
theorem dX8_init_13 : decode cX8_init 13 = .ok (.iconst 0, 1) := by decide +kernel
theorem dX8_init_14 : decode cX8_init 14 = .ok (.putfield 15, 3) := by decide +kernel
theorem dX8_init_17 : decode cX8_init 17 = .ok (.return_, 1) := by decide +kernel
theorem dX8_length_0 : decode cX8_length 0 = .ok (.aload_n 0, 1) := by decide +kernel
theorem dX8_length_1 : decode cX8_length 1 = .ok (.getfield 15, 3) := by decide +kernel
theorem dX8_length_4 : decode cX8_length 4 = .ok (.ireturn, 1) := by decide +kernel
theorem dX8_byteAt_0 : decode cX8_byteAt 0 = .ok (.iload_n 1, 1) := by decide +kernel
theorem dX8_byteAt_1 : decode cX8_byteAt 1 = .ok (.ifCond .lt 29, 3) := by decide +kernel
theorem dX8_byteAt_4 : decode cX8_byteAt 4 = .ok (.iload_n 1, 1) := by decide +kernel
theorem dX8_byteAt_5 : decode cX8_byteAt 5 = .ok (.aload_n 0, 1) := by decide +kernel
theorem dX8_byteAt_6 : decode cX8_byteAt 6 = .ok (.getfield 15, 3) := by decide +kernel
theorem dX8_byteAt_9 : decode cX8_byteAt 9 = .ok (.if_icmp .ge 21, 3) := by decide +kernel
theorem dX8_byteAt_12 : decode cX8_byteAt 12 = .ok (.iload_n 1, 1) := by decide +kernel
theorem dX8_byteAt_13 : decode cX8_byteAt 13 = .ok (.aload_n 0, 1) := by decide +kernel
theorem dX8_byteAt_14 : decode cX8_byteAt 14 = .ok (.getfield 9, 3) := by decide +kernel
theorem dX8_byteAt_17 : decode cX8_byteAt 17 = .ok (.arraylength, 1) := by decide +kernel
theorem dX8_byteAt_18 : decode cX8_byteAt 18 = .ok (.if_icmp .ge 12, 3) := by decide +kernel
theorem dX8_byteAt_21 : decode cX8_byteAt 21 = .ok (.aload_n 0, 1) := by decide +kernel
theorem dX8_byteAt_22 : decode cX8_byteAt 22 = .ok (.getfield 9, 3) := by decide +kernel
theorem dX8_byteAt_25 : decode cX8_byteAt 25 = .ok (.iload_n 1, 1) := by decide +kernel
theorem dX8_byteAt_26 : decode cX8_byteAt 26 = .ok (.iaload, 1) := by decide +kernel
theorem dX8_byteAt_27 : decode cX8_byteAt 27 = .ok (.goto 4, 3) := by decide +kernel
theorem dX8_byteAt_30 : decode cX8_byteAt 30 = .ok (.iconst (-1), 1) := by decide +kernel
theorem dX8_byteAt_31 : decode cX8_byteAt 31 = .ok (.ireturn, 1) := by decide +kernel
theorem dX8_hasRoom_0 : decode cX8_hasRoom 0 = .ok (.aload_n 0, 1) := by decide +kernel
theorem dX8_hasRoom_1 : decode cX8_hasRoom 1 = .ok (.getfield 15, 3) := by decide +kernel
theorem dX8_hasRoom_4 : decode cX8_hasRoom 4 = .ok (.iload_n 1, 1) := by decide +kernel
theorem dX8_hasRoom_5 : decode cX8_hasRoom 5 = .ok (.iadd, 1) := by decide +kernel
theorem dX8_hasRoom_6 : decode cX8_hasRoom 6 = .ok (.aload_n 0, 1) := by decide +kernel
theorem dX8_hasRoom_7 : decode cX8_hasRoom 7 = .ok (.getfield 9, 3) := by decide +kernel
theorem dX8_hasRoom_10 : decode cX8_hasRoom 10 = .ok (.arraylength, 1) := by decide +kernel
theorem dX8_hasRoom_11 : decode cX8_hasRoom 11 = .ok (.if_icmp .gt 7, 3) := by decide +kernel
theorem dX8_hasRoom_14 : decode cX8_hasRoom 14 = .ok (.iconst 1, 1) := by decide +kernel
theorem dX8_hasRoom_15 : decode cX8_hasRoom 15 = .ok (.goto 4, 3) := by decide +kernel
theorem dX8_hasRoom_18 : decode cX8_hasRoom 18 = .ok (.iconst 0, 1) := by decide +kernel
theorem dX8_hasRoom_19 : decode cX8_hasRoom 19 = .ok (.ireturn, 1) := by decide +kernel
theorem dX8_addNumber_0 : decode cX8_addNumber 0 = .ok (.bipush 24, 2) := by decide +kernel
theorem dX8_addNumber_2 : decode cX8_addNumber 2 = .ok (.istore_n 2, 1) := by decide +kernel
theorem dX8_addNumber_3 : decode cX8_addNumber 3 = .ok (.iload_n 2, 1) := by decide +kernel
theorem dX8_addNumber_4 : decode cX8_addNumber 4 = .ok (.ifCond .lt 47, 3) := by decide +kernel
theorem dX8_addNumber_7 : decode cX8_addNumber 7 = .ok (.aload_n 0, 1) := by decide +kernel
theorem dX8_addNumber_8 : decode cX8_addNumber 8 = .ok (.getfield 15, 3) := by decide +kernel
theorem dX8_addNumber_11 : decode cX8_addNumber 11 = .ok (.aload_n 0, 1) := by decide +kernel
theorem dX8_addNumber_12 : decode cX8_addNumber 12 = .ok (.getfield 9, 3) := by decide +kernel
theorem dX8_addNumber_15 : decode cX8_addNumber 15 = .ok (.arraylength, 1) := by decide +kernel
theorem dX8_addNumber_16 : decode cX8_addNumber 16 = .ok (.if_icmp .ge 29, 3) := by decide +kernel
theorem dX8_addNumber_19 : decode cX8_addNumber 19 = .ok (.aload_n 0, 1) := by decide +kernel
theorem dX8_addNumber_20 : decode cX8_addNumber 20 = .ok (.getfield 9, 3) := by decide +kernel
theorem dX8_addNumber_23 : decode cX8_addNumber 23 = .ok (.aload_n 0, 1) := by decide +kernel
theorem dX8_addNumber_24 : decode cX8_addNumber 24 = .ok (.getfield 15, 3) := by decide +kernel
theorem dX8_addNumber_27 : decode cX8_addNumber 27 = .ok (.iload_n 1, 1) := by decide +kernel
theorem dX8_addNumber_28 : decode cX8_addNumber 28 = .ok (.iload_n 2, 1) := by decide +kernel
theorem dX8_addNumber_29 : decode cX8_addNumber 29 = .ok (.iushr, 1) := by decide +kernel
theorem dX8_addNumber_30 : decode cX8_addNumber 30 = .ok (.sipush 255, 3) := by decide +kernel
theorem dX8_addNumber_33 : decode cX8_addNumber 33 = .ok (.iand, 1) := by decide +kernel
theorem dX8_addNumber_34 : decode cX8_addNumber 34 = .ok (.iastore, 1) := by decide +kernel
theorem dX8_addNumber_35 : decode cX8_addNumber 35 = .ok (.aload_n 0, 1) := by decide +kernel
theorem dX8_addNumber_36 : decode cX8_addNumber 36 = .ok (.dup, 1) := by decide +kernel
theorem dX8_addNumber_37 : decode cX8_addNumber 37 = .ok (.getfield 15, 3) := by decide +kernel
theorem dX8_addNumber_40 : decode cX8_addNumber 40 = .ok (.iconst 1, 1) := by decide +kernel
theorem dX8_addNumber_41 : decode cX8_addNumber 41 = .ok (.iadd, 1) := by decide +kernel
theorem dX8_addNumber_42 : decode cX8_addNumber 42 = .ok (.putfield 15, 3) := by decide +kernel
theorem dX8_addNumber_45 : decode cX8_addNumber 45 = .ok (.iinc 2 (-8), 3) := by decide +kernel
theorem dX8_addNumber_48 : decode cX8_addNumber 48 = .ok (.goto (-45), 3) := by decide +kernel
theorem dX8_addNumber_51 : decode cX8_addNumber 51 = .ok (.return_, 1) := by decide +kernel
theorem dX8_cut_0 : decode cX8_cut 0 = .ok (.iload_n 1, 1) := by decide +kernel
theorem dX8_cut_1 : decode cX8_cut 1 = .ok (.ifCond .lt 11, 3) := by decide +kernel
theorem dX8_cut_4 : decode cX8_cut 4 = .ok (.iload_n 1, 1) := by decide +kernel
theorem dX8_cut_5 : decode cX8_cut 5 = .ok (.aload_n 0, 1) := by decide +kernel
theorem dX8_cut_6 : decode cX8_cut 6 = .ok (.getfield 15, 3) := by decide +kernel
theorem dX8_cut_9 : decode cX8_cut 9 = .ok (.if_icmp .le 5, 3) := by decide +kernel
theorem dX8_cut_12 : decode cX8_cut 12 = .ok (.iconst 0, 1) := by decide +kernel
theorem dX8_cut_13 : decode cX8_cut 13 = .ok (.ireturn, 1) := by decide +kernel
theorem dX8_cut_14 : decode cX8_cut 14 = .ok (.aload_n 0, 1) := by decide +kernel
theorem dX8_cut_15 : decode cX8_cut 15 = .ok (.iload_n 1, 1) := by decide +kernel
theorem dX8_cut_16 : decode cX8_cut 16 = .ok (.putfield 15, 3) := by decide +kernel
theorem dX8_cut_19 : decode cX8_cut 19 = .ok (.iconst 1, 1) := by decide +kernel
theorem dX8_cut_20 : decode cX8_cut 20 = .ok (.ireturn, 1) := by decide +kernel
theorem dX8_clear_0 : decode cX8_clear 0 = .ok (.aload_n 0, 1) := by decide +kernel
theorem dX8_clear_1 : decode cX8_clear 1 = .ok (.iconst 0, 1) := by decide +kernel
theorem dX8_clear_2 : decode cX8_clear 2 = .ok (.putfield 15, 3) := by decide +kernel
theorem dX8_clear_5 : decode cX8_clear 5 = .ok (.return_, 1) := by decide +kernel
set_option maxRecDepth 20000 in
theorem ggX8_isName_X8_byteAt : GoodIn wsX8_isName wsX8_byteAt := goodIn_r _ [6, 1, 7, 21, 22] (by decide +kernel) (by decide +kernel)
set_option maxRecDepth 20000 in
theorem gX8_isName_X8_byteAt : GoodIn wsX8_isName (wsV RX8 19 RX8 yX8_byteAt wsX8_byteAt) := goodIn_app (goodIn_of _ (by decide +kernel)) ggX8_isName_X8_byteAt
set_option maxRecDepth 20000 in
theorem ggX8_isName_X6_isOfNames : GoodIn wsX8_isName wsX6_isOfNames := goodIn_r _ [11, 12, 13, 10, 14, 15, 16, 17, 18, 19, 20] (by decide +kernel) (by decide +kernel)
set_option maxRecDepth 20000 in
theorem gX8_isName_X6_isOfNames : GoodIn wsX8_isName (va_wsS RX8 23 yX6_isOfNames wsX6_isOfNames) := goodIn_app (goodIn_of _ (by decide +kernel)) ggX8_isName_X6_isOfNames
theorem dX8_isName_0 : decode cX8_isName 0 = .ok (.aload_n 0, 1) := by decide +kernel
theorem dX8_isName_1 : decode cX8_isName 1 = .ok (.getfield 15, 3) := by decide +kernel
theorem dX8_isName_4 : decode cX8_isName 4 = .ok (.iconst 1, 1) := by decide +kernel
theorem dX8_isName_5 : decode cX8_isName 5 = .ok (.if_icmp .lt 12, 3) := by decide +kernel
theorem dX8_isName_8 : decode cX8_isName 8 = .ok (.aload_n 0, 1) := by decide +kernel
theorem dX8_isName_9 : decode cX8_isName 9 = .ok (.getfield 15, 3) := by decide +kernel
theorem dX8_isName_12 : decode cX8_isName 12 = .ok (.bipush 12, 2) := by decide +kernel
theorem dX8_isName_14 : decode cX8_isName 14 = .ok (.if_icmp .le 5, 3) := by decide +kernel
theorem dX8_isName_17 : decode cX8_isName 17 = .ok (.iconst 0, 1) := by decide +kernel
theorem dX8_isName_18 : decode cX8_isName 18 = .ok (.ireturn, 1) := by decide +kernel
theorem dX8_isName_19 : decode cX8_isName 19 = .ok (.iconst 0, 1) := by decide +kernel
theorem dX8_isName_20 : decode cX8_isName 20 = .ok (.istore_n 1, 1) := by decide +kernel
theorem dX8_isName_21 : decode cX8_isName 21 = .ok (.iload_n 1, 1) := by decide +kernel
theorem dX8_isName_22 : decode cX8_isName 22 = .ok (.aload_n 0, 1) := by decide +kernel
theorem dX8_isName_23 : decode cX8_isName 23 = .ok (.getfield 15, 3) := by decide +kernel
theorem dX8_isName_26 : decode cX8_isName 26 = .ok (.if_icmp .ge 22, 3) := by decide +kernel
theorem dX8_isName_29 : decode cX8_isName 29 = .ok (.aload_n 0, 1) := by decide +kernel
theorem dX8_isName_30 : decode cX8_isName 30 = .ok (.iload_n 1, 1) := by decide +kernel
theorem dX8_isName_31 : decode cX8_isName 31 = .ok (.invokevirtual 19, 3) := by decide +kernel
theorem dX8_isName_34 : decode cX8_isName 34 = .ok (.invokestatic 23, 3) := by decide +kernel
theorem dX8_isName_37 : decode cX8_isName 37 = .ok (.ifCond .ne 5, 3) := by decide +kernel
theorem dX8_isName_40 : decode cX8_isName 40 = .ok (.iconst 0, 1) := by decide +kernel
theorem dX8_isName_41 : decode cX8_isName 41 = .ok (.ireturn, 1) := by decide +kernel
theorem dX8_isName_42 : decode cX8_isName 42 = .ok (.iinc 1 1, 3) := by decide +kernel
theorem dX8_isName_45 : decode cX8_isName 45 = .ok (.goto (-24), 3) := by decide +kernel
theorem dX8_isName_48 : decode cX8_isName 48 = .ok (.iconst 1, 1) := by decide +kernel
theorem dX8_isName_49 : decode cX8_isName 49 = .ok (.ireturn, 1) := by decide +kernel
set_option maxRecDepth 20000 in
theorem ggX9_init_X8_init : GoodIn wsX9_init wsX8_init := goodIn_r _ [37, 38, 2, 3, 39, 40, 41, 116, 117] (by decide +kernel) (by decide +kernel)
set_option maxRecDepth 20000 in
theorem gX9_init_X8_init_n11 : GoodIn wsX9_init (wsX8_init) := ggX9_init_X8_init
set_option maxRecDepth 20000 in
theorem ggX9_init_X2_init : GoodIn wsX9_init wsX2_init := goodIn_r _ [43, 44, 2, 3, 39, 45, 46, 47, 129, 130, 131] (by decide +kernel) (by decide +kernel)
set_option maxRecDepth 20000 in
theorem gX9_init_X2_init_n18 : GoodIn wsX9_init (wsX2_init) := ggX9_init_X2_init
set_option maxRecDepth 20000 in
theorem ggX9_init_X7_init : GoodIn wsX9_init wsX7_init := goodIn_r _ [50, 51, 2, 3, 52, 53, 54, 55, 39, 56, 57, 58, 59, 9, 10, 42, 43, 44, 45, 46, 47, 132, 133, 134, 135, 136, 137, 129, 130, 131] (by decide +kernel) (by decide +kernel)
set_option maxRecDepth 20000 in
theorem gX9_init_X7_init : GoodIn wsX9_init (wsX7_init) := ggX9_init_X7_init
set_option maxRecDepth 20000 in
theorem ggX9_init_X1_init : GoodIn wsX9_init wsX1_init := goodIn_r _ [62, 63, 2, 3, 64, 65, 66, 9, 10, 42, 43, 44, 39, 45, 46, 47, 138, 139, 129, 130, 131] (by decide +kernel) (by decide +kernel)
set_option maxRecDepth 20000 in
theorem gX9_init_X1_init : GoodIn wsX9_init (wsX1_init) := ggX9_init_X1_init
set_option maxRecDepth 20000 in
theorem ggX9_init_X0_init : GoodIn wsX9_init wsX0_init := goodIn_r _ [68, 69, 2, 3, 54, 70, 39, 71, 72, 140, 141, 142] (by decide +kernel) (by decide +kernel)
set_option maxRecDepth 20000 in
theorem gX9_init_X0_init_n39 : GoodIn wsX9_init (wsX0_init) := ggX9_init_X0_init
set_option maxRecDepth 20000 in
theorem ggX9_init_X3_init : GoodIn wsX9_init wsX3_init := goodIn_r _ [75, 76, 2, 3, 77, 78, 39, 79, 54, 80, 81, 82, 83, 84, 85, 86, 87, 88, 89, 90, 91, 92, 9, 10, 93, 94, 95, 96, 97, 98, 99, 100, 101, 102, 103, 104, 42, 43, 44, 45, 46, 47, 143, 144, 145, 146, 147, 148, 149, 150, 151, 160, 161, 162, 163, 164, 165, 166, 167, 168, 169, 170, 171, 129, 130, 131] (by decide +kernel) (by decide +kernel)
set_option maxRecDepth 20000 in
theorem gX9_init_X3_init : GoodIn wsX9_init (wsX3_init) := ggX9_init_X3_init
set_option maxRecDepth 20000 in
theorem ggX9_init_X5_init : GoodIn wsX9_init wsX5_init := goodIn_r _ [106, 107, 2, 3, 39, 108, 109, 110, 111, 112, 113, 114, 115, 152, 153, 154, 155, 156, 157, 158, 159] (by decide +kernel) (by decide +kernel)
set_option maxRecDepth 20000 in
theorem gX9_init_X5_init_n53 : GoodIn wsX9_init (wsX5_init) := ggX9_init_X5_init
theorem dX9_init_0 : decode cX9_init 0 = .ok (.aload_n 0, 1) := by decide +kernel
theorem dX9_init_1 : decode cX9_init 1 = .ok (.invokespecial 3, 3) := by decide +kernel
theorem dX9_init_4 : decode cX9_init 4 = .ok (.aload_n 0, 1) := by decide +kernel
theorem dX9_init_5 : decode cX9_init 5 = .ok (.new 9, 3) := by decide +kernel
theorem dX9_init_8 : decode cX9_init 8 = .ok (.dup, 1) := by decide +kernel
theorem dX9_init_9 : decode cX9_init 9 = .ok (.invokespecial 11, 3) := by decide +kernel
theorem dX9_init_12 : decode cX9_init 12 = .ok (.putfield 12, 3) := by decide +kernel
theorem dX9_init_15 : decode cX9_init 15 = .ok (.aload_n 0, 1) := by decide +kernel
theorem dX9_init_16 : decode cX9_init 16 = .ok (.new 16, 3) := by decide +kernel
theorem dX9_init_19 : decode cX9_init 19 = .ok (.dup, 1) := by decide +kernel
theorem dX9_init_20 : decode cX9_init 20 = .ok (.invokespecial 18, 3) := by decide +kernel
theorem dX9_init_23 : decode cX9_init 23 = .ok (.putfield 19, 3) := by decide +kernel
theorem dX9_init_26 : decode cX9_init 26 = .ok (.aload_n 0, 1) := by decide +kernel
theorem dX9_init_27 : decode cX9_init 27 = .ok (.new 23, 3) := by decide +kernel
theorem dX9_init_30 : decode cX9_init 30 = .ok (.dup, 1) := by decide +kernel
theorem dX9_init_31 : decode cX9_init 31 = .ok (.invokespecial 25, 3) := by decide +kernel
theorem dX9_init_34 : decode cX9_init 34 = .ok (.putfield 26, 3) := by decide +kernel
theorem dX9_init_37 : decode cX9_init 37 = .ok (.aload_n 0, 1) := by decide +kernel
theorem dX9_init_38 : decode cX9_init 38 = .ok (.new 30, 3) := by decide +kernel
theorem dX9_init_41 : decode cX9_init 41 = .ok (.dup, 1) := by decide +kernel
theorem dX9_init_42 : decode cX9_init 42 = .ok (.invokespecial 32, 3) := by decide +kernel
theorem dX9_init_45 : decode cX9_init 45 = .ok (.putfield 33, 3) := by decide +kernel
theorem dX9_init_48 : decode cX9_init 48 = .ok (.aload_n 0, 1) := by decide +kernel
theorem dX9_init_49 : decode cX9_init 49 = .ok (.new 37, 3) := by decide +kernel
theorem dX9_init_52 : decode cX9_init 52 = .ok (.dup, 1) := by decide +kernel
theorem dX9_init_53 : decode cX9_init 53 = .ok (.invokespecial 39, 3) := by decide +kernel
theorem dX9_init_56 : decode cX9_init 56 = .ok (.putfield 40, 3) := by decide +kernel
theorem dX9_init_59 : decode cX9_init 59 = .ok (.aload_n 0, 1) := by decide +kernel
theorem dX9_init_60 : decode cX9_init 60 = .ok (.new 44, 3) := by decide +kernel
theorem dX9_init_63 : decode cX9_init 63 = .ok (.dup, 1) := by decide +kernel
theorem dX9_init_64 : decode cX9_init 64 = .ok (.invokespecial 46, 3) := by decide +kernel
theorem dX9_init_67 : decode cX9_init 67 = .ok (.putfield 47, 3) := by decide +kernel
theorem dX9_init_70 : decode cX9_init 70 = .ok (.aload_n 0, 1) := by decide +kernel
theorem dX9_init_71 : decode cX9_init 71 = .ok (.new 51, 3) := by decide +kernel
theorem dX9_init_74 : decode cX9_init 74 = .ok (.dup, 1) := by decide +kernel
theorem dX9_init_75 : decode cX9_init 75 = .ok (.invokespecial 53, 3) := by decide +kernel
theorem dX9_init_78 : decode cX9_init 78 = .ok (.putfield 54, 3) := by decide +kernel
theorem dX9_init_81 : decode cX9_init 81 = .ok (.aload_n 0, 1) := by decide +kernel
theorem dX9_init_82 : decode cX9_init 82 = .ok (.new 51, 3) := by decide +kernel
theorem dX9_init_85 : decode cX9_init 85 = .ok (.dup, 1) := by decide +kernel
theorem dX9_init_86 : decode cX9_init 86 = .ok (.invokespecial 53, 3) := by decide +kernel
theorem dX9_init_89 : decode cX9_init 89 = .ok (.putfield 58, 3) := by decide +kernel
theorem dX9_init_92 : decode cX9_init 92 = .ok (.aload_n 0, 1) := by decide +kernel
theorem dX9_init_93 : decode cX9_init 93 = .ok (.iconst 0, 1) := by decide +kernel
theorem dX9_init_94 : decode cX9_init 94 = .ok (.putfield 61, 3) := by decide +kernel
theorem dX9_init_97 : decode cX9_init 97 = .ok (.aload_n 0, 1) := by decide +kernel
theorem dX9_init_98 : decode cX9_init 98 = .ok (.iconst (-1), 1) := by decide +kernel
theorem dX9_init_99 : decode cX9_init 99 = .ok (.putfield 65, 3) := by decide +kernel
theorem dX9_init_102 : decode cX9_init 102 = .ok (.aload_n 0, 1) := by decide +kernel
theorem dX9_init_103 : decode cX9_init 103 = .ok (.iconst 0, 1) := by decide +kernel
theorem dX9_init_104 : decode cX9_init 104 = .ok (.putfield 69, 3) := by decide +kernel
theorem dX9_init_107 : decode cX9_init 107 = .ok (.return_, 1) := by decide +kernel
set_option maxRecDepth 20000 in
theorem ggX9_folds_X7_howManyAre : GoodIn wsX9_folds wsX7_howManyAre := goodIn_r _ [6, 7, 24, 25, 26, 27, 28, 29] (by decide +kernel) (by decide +kernel)
set_option maxRecDepth 20000 in
theorem gX9_folds_X7_howManyAre : GoodIn wsX9_folds (wsV RX9 72 RX7 yX7_howManyAre wsX7_howManyAre) := goodIn_app (goodIn_of _ (by decide +kernel)) ggX9_folds_X7_howManyAre
set_option maxRecDepth 20000 in
theorem ggX9_folds_X7_setFolding : GoodIn wsX9_folds wsX7_setFolding := goodIn_r _ [11, 12, 24, 25, 26, 27, 28, 29] (by decide +kernel) (by decide +kernel)
set_option maxRecDepth 20000 in
theorem gX9_folds_X7_setFolding : GoodIn wsX9_folds (wsV RX9 76 RX7 yX7_setFolding wsX7_setFolding) := goodIn_app (goodIn_of _ (by decide +kernel)) ggX9_folds_X7_setFolding
theorem dX9_folds_0 : decode cX9_folds 0 = .ok (.aload_n 0, 1) := by decide +kernel
theorem dX9_folds_1 : decode cX9_folds 1 = .ok (.getfield 26, 3) := by decide +kernel
theorem dX9_folds_4 : decode cX9_folds 4 = .ok (.invokevirtual 72, 3) := by decide +kernel
theorem dX9_folds_7 : decode cX9_folds 7 = .ok (.ifCond .le 5, 3) := by decide +kernel
theorem dX9_folds_10 : decode cX9_folds 10 = .ok (.iconst 0, 1) := by decide +kernel
theorem dX9_folds_11 : decode cX9_folds 11 = .ok (.ireturn, 1) := by decide +kernel
theorem dX9_folds_12 : decode cX9_folds 12 = .ok (.aload_n 0, 1) := by decide +kernel
theorem dX9_folds_13 : decode cX9_folds 13 = .ok (.getfield 26, 3) := by decide +kernel
theorem dX9_folds_16 : decode cX9_folds 16 = .ok (.iload_n 1, 1) := by decide +kernel
theorem dX9_folds_17 : decode cX9_folds 17 = .ok (.invokevirtual 76, 3) := by decide +kernel
theorem dX9_folds_20 : decode cX9_folds 20 = .ok (.iconst 1, 1) := by decide +kernel
theorem dX9_folds_21 : decode cX9_folds 21 = .ok (.ireturn, 1) := by decide +kernel
set_option maxRecDepth 20000 in
theorem ggX9_feed_X8_hasRoom : GoodIn wsX9_feed wsX8_hasRoom := goodIn_r _ [6, 7, 8, 28, 29] (by decide +kernel) (by decide +kernel)
set_option maxRecDepth 20000 in
theorem gX9_feed_X8_hasRoom : GoodIn wsX9_feed (wsV RX9 80 RX8 yX8_hasRoom wsX8_hasRoom) := goodIn_app (goodIn_of _ (by decide +kernel)) ggX9_feed_X8_hasRoom
set_option maxRecDepth 20000 in
theorem ggX9_feed_X8_addNumber : GoodIn wsX9_feed wsX8_addNumber := goodIn_r _ [12, 7, 8, 28, 29] (by decide +kernel) (by decide +kernel)
set_option maxRecDepth 20000 in
theorem gX9_feed_X8_addNumber : GoodIn wsX9_feed (wsV RX9 84 RX8 yX8_addNumber wsX8_addNumber) := goodIn_app (goodIn_of _ (by decide +kernel)) ggX9_feed_X8_addNumber
set_option maxRecDepth 20000 in
theorem ggX9_feed_X8_length : GoodIn wsX9_feed wsX8_length := goodIn_r _ [16, 7, 28, 29] (by decide +kernel) (by decide +kernel)
set_option maxRecDepth 20000 in
theorem gX9_feed_X8_length : GoodIn wsX9_feed (wsV RX9 88 RX8 yX8_length wsX8_length) := goodIn_app (goodIn_of _ (by decide +kernel)) ggX9_feed_X8_length
theorem dX9_feed_0 : decode cX9_feed 0 = .ok (.aload_n 0, 1) := by decide +kernel
theorem dX9_feed_1 : decode cX9_feed 1 = .ok (.getfield 12, 3) := by decide +kernel
theorem dX9_feed_4 : decode cX9_feed 4 = .ok (.bipush 20, 2) := by decide +kernel
theorem dX9_feed_6 : decode cX9_feed 6 = .ok (.invokevirtual 80, 3) := by decide +kernel
theorem dX9_feed_9 : decode cX9_feed 9 = .ok (.ifCond .ne 5, 3) := by decide +kernel
theorem dX9_feed_12 : decode cX9_feed 12 = .ok (.iconst (-1), 1) := by decide +kernel
theorem dX9_feed_13 : decode cX9_feed 13 = .ok (.ireturn, 1) := by decide +kernel
theorem dX9_feed_14 : decode cX9_feed 14 = .ok (.aload_n 0, 1) := by decide +kernel
theorem dX9_feed_15 : decode cX9_feed 15 = .ok (.getfield 12, 3) := by decide +kernel
theorem dX9_feed_18 : decode cX9_feed 18 = .ok (.iload_n 1, 1) := by decide +kernel
theorem dX9_feed_19 : decode cX9_feed 19 = .ok (.invokevirtual 84, 3) := by decide +kernel
theorem dX9_feed_22 : decode cX9_feed 22 = .ok (.aload_n 0, 1) := by decide +kernel
theorem dX9_feed_23 : decode cX9_feed 23 = .ok (.getfield 12, 3) := by decide +kernel
theorem dX9_feed_26 : decode cX9_feed 26 = .ok (.iload_n 2, 1) := by decide +kernel
theorem dX9_feed_27 : decode cX9_feed 27 = .ok (.invokevirtual 84, 3) := by decide +kernel
theorem dX9_feed_30 : decode cX9_feed 30 = .ok (.aload_n 0, 1) := by decide +kernel
theorem dX9_feed_31 : decode cX9_feed 31 = .ok (.getfield 12, 3) := by decide +kernel
theorem dX9_feed_34 : decode cX9_feed 34 = .ok (.iload_n 3, 1) := by decide +kernel
theorem dX9_feed_35 : decode cX9_feed 35 = .ok (.invokevirtual 84, 3) := by decide +kernel
theorem dX9_feed_38 : decode cX9_feed 38 = .ok (.aload_n 0, 1) := by decide +kernel
theorem dX9_feed_39 : decode cX9_feed 39 = .ok (.getfield 12, 3) := by decide +kernel
theorem dX9_feed_42 : decode cX9_feed 42 = .ok (.iload 4, 2) := by decide +kernel
theorem dX9_feed_44 : decode cX9_feed 44 = .ok (.invokevirtual 84, 3) := by decide +kernel
theorem dX9_feed_47 : decode cX9_feed 47 = .ok (.aload_n 0, 1) := by decide +kernel
theorem dX9_feed_48 : decode cX9_feed 48 = .ok (.getfield 12, 3) := by decide +kernel
theorem dX9_feed_51 : decode cX9_feed 51 = .ok (.iload 5, 2) := by decide +kernel
theorem dX9_feed_53 : decode cX9_feed 53 = .ok (.invokevirtual 84, 3) := by decide +kernel
theorem dX9_feed_56 : decode cX9_feed 56 = .ok (.aload_n 0, 1) := by decide +kernel
theorem dX9_feed_57 : decode cX9_feed 57 = .ok (.getfield 12, 3) := by decide +kernel
theorem dX9_feed_60 : decode cX9_feed 60 = .ok (.invokevirtual 88, 3) := by decide +kernel
theorem dX9_feed_63 : decode cX9_feed 63 = .ok (.ireturn, 1) := by decide +kernel
set_option maxRecDepth 20000 in
theorem ggX9_end_X8_cut : GoodIn wsX9_end wsX8_cut := goodIn_r _ [6, 7, 19, 20] (by decide +kernel) (by decide +kernel)
set_option maxRecDepth 20000 in
theorem gX9_end_X8_cut : GoodIn wsX9_end (wsV RX9 91 RX8 yX8_cut wsX8_cut) := goodIn_app (goodIn_of _ (by decide +kernel)) ggX9_end_X8_cut
theorem dX9_end_0 : decode cX9_end 0 = .ok (.aload_n 0, 1) := by decide +kernel
theorem dX9_end_1 : decode cX9_end 1 = .ok (.getfield 12, 3) := by decide +kernel
theorem dX9_end_4 : decode cX9_end 4 = .ok (.iload_n 1, 1) := by decide +kernel
theorem dX9_end_5 : decode cX9_end 5 = .ok (.invokevirtual 91, 3) := by decide +kernel
theorem dX9_end_8 : decode cX9_end 8 = .ok (.ifCond .eq 7, 3) := by decide +kernel
theorem dX9_end_11 : decode cX9_end 11 = .ok (.iload_n 1, 1) := by decide +kernel
theorem dX9_end_12 : decode cX9_end 12 = .ok (.goto 4, 3) := by decide +kernel
theorem dX9_end_15 : decode cX9_end 15 = .ok (.iconst (-1), 1) := by decide +kernel
theorem dX9_end_16 : decode cX9_end 16 = .ok (.ireturn, 1) := by decide +kernel
set_option maxRecDepth 20000 in
theorem ggX9_file_X9_takePlace : GoodIn wsX9_file wsX9_takePlace := goodIn_r _ [7, 8, 2, 9, 10, 6, 11, 12, 13, 14, 15, 16, 17, 18, 19, 20, 21, 22, 23, 24, 25, 26, 27, 28, 29, 30, 31, 32, 33, 34, 35, 36, 37, 38, 39, 40, 41, 42, 43, 44, 45, 46, 47, 48, 49, 50, 51, 52, 53, 54, 55, 56, 92, 93, 94, 95, 96, 97, 98, 99, 100, 101, 102, 103, 104, 105, 106, 107] (by decide +kernel) (by decide +kernel)
set_option maxRecDepth 20000 in
theorem gX9_file_X9_takePlace : GoodIn wsX9_file (wsV RX9 94 RX9 yX9_takePlace wsX9_takePlace) := goodIn_app (goodIn_of _ (by decide +kernel)) ggX9_file_X9_takePlace
set_option maxRecDepth 20000 in
theorem ggX9_file_X7_isFull : GoodIn wsX9_file wsX7_isFull := goodIn_r _ [61, 62, 108, 109, 110, 111, 112, 113] (by decide +kernel) (by decide +kernel)
set_option maxRecDepth 20000 in
theorem gX9_file_X7_isFull : GoodIn wsX9_file (wsV RX9 97 RX7 yX7_isFull wsX7_isFull) := goodIn_app (goodIn_of _ (by decide +kernel)) ggX9_file_X7_isFull
set_option maxRecDepth 20000 in
theorem ggX9_file_X7_findAlike : GoodIn wsX9_file wsX7_findAlike := goodIn_r _ [66, 62, 67, 68, 69, 70, 71, 72, 39, 73, 41, 42, 74, 75, 76, 77, 52, 78, 79, 25, 80, 108, 109, 110, 111, 112, 113, 105, 106, 107] (by decide +kernel) (by decide +kernel)
set_option maxRecDepth 20000 in
theorem gX9_file_X7_findAlike : GoodIn wsX9_file (wsV RX9 101 RX7 yX7_findAlike wsX7_findAlike) := goodIn_app (goodIn_of _ (by decide +kernel)) ggX9_file_X7_findAlike
set_option maxRecDepth 20000 in
theorem ggX9_file_X7_add : GoodIn wsX9_file wsX7_add := goodIn_r _ [84, 62, 68, 67, 85, 86, 87, 88, 39, 89, 41, 42, 90, 37, 38, 40, 74, 75, 76, 77, 52, 91, 49, 50, 51, 108, 109, 110, 111, 112, 113, 105, 106, 107] (by decide +kernel) (by decide +kernel)
set_option maxRecDepth 20000 in
theorem gX9_file_X7_add : GoodIn wsX9_file (wsV RX9 105 RX7 yX7_add wsX7_add) := goodIn_app (goodIn_of _ (by decide +kernel)) ggX9_file_X7_add
theorem dX9_file_0 : decode cX9_file 0 = .ok (.aload_n 0, 1) := by decide +kernel
theorem dX9_file_1 : decode cX9_file 1 = .ok (.iload_n 1, 1) := by decide +kernel
theorem dX9_file_2 : decode cX9_file 2 = .ok (.invokevirtual 94, 3) := by decide +kernel
theorem dX9_file_5 : decode cX9_file 5 = .ok (.ifCond .eq 13, 3) := by decide +kernel
theorem dX9_file_8 : decode cX9_file 8 = .ok (.aload_n 0, 1) := by decide +kernel
theorem dX9_file_9 : decode cX9_file 9 = .ok (.getfield 26, 3) := by decide +kernel
theorem dX9_file_12 : decode cX9_file 12 = .ok (.invokevirtual 97, 3) := by decide +kernel
theorem dX9_file_15 : decode cX9_file 15 = .ok (.ifCond .eq 5, 3) := by decide +kernel
theorem dX9_file_18 : decode cX9_file 18 = .ok (.iconst (-1), 1) := by decide +kernel
theorem dX9_file_19 : decode cX9_file 19 = .ok (.ireturn, 1) := by decide +kernel
theorem dX9_file_20 : decode cX9_file 20 = .ok (.aload_n 0, 1) := by decide +kernel
theorem dX9_file_21 : decode cX9_file 21 = .ok (.getfield 26, 3) := by decide +kernel
theorem dX9_file_24 : decode cX9_file 24 = .ok (.aload_n 0, 1) := by decide +kernel
theorem dX9_file_25 : decode cX9_file 25 = .ok (.getfield 19, 3) := by decide +kernel
theorem dX9_file_28 : decode cX9_file 28 = .ok (.iconst (-1), 1) := by decide +kernel
theorem dX9_file_29 : decode cX9_file 29 = .ok (.invokevirtual 101, 3) := by decide +kernel
theorem dX9_file_32 : decode cX9_file 32 = .ok (.istore_n 2, 1) := by decide +kernel
theorem dX9_file_33 : decode cX9_file 33 = .ok (.iload_n 2, 1) := by decide +kernel
theorem dX9_file_34 : decode cX9_file 34 = .ok (.iconst (-1), 1) := by decide +kernel
theorem dX9_file_35 : decode cX9_file 35 = .ok (.if_icmp .ne 17, 3) := by decide +kernel
theorem dX9_file_38 : decode cX9_file 38 = .ok (.aload_n 0, 1) := by decide +kernel
theorem dX9_file_39 : decode cX9_file 39 = .ok (.getfield 26, 3) := by decide +kernel
theorem dX9_file_42 : decode cX9_file 42 = .ok (.aload_n 0, 1) := by decide +kernel
theorem dX9_file_43 : decode cX9_file 43 = .ok (.getfield 19, 3) := by decide +kernel
theorem dX9_file_46 : decode cX9_file 46 = .ok (.invokevirtual 105, 3) := by decide +kernel
theorem dX9_file_49 : decode cX9_file 49 = .ok (.goto 7, 3) := by decide +kernel
theorem dX9_file_52 : decode cX9_file 52 = .ok (.bipush (-2), 2) := by decide +kernel
theorem dX9_file_54 : decode cX9_file 54 = .ok (.iload_n 2, 1) := by decide +kernel
theorem dX9_file_55 : decode cX9_file 55 = .ok (.isub, 1) := by decide +kernel
theorem dX9_file_56 : decode cX9_file 56 = .ok (.ireturn, 1) := by decide +kernel
set_option maxRecDepth 20000 in
theorem ggX9_remove_X7_has : GoodIn wsX9_remove wsX7_has := goodIn_r _ [6, 7, 8, 25, 26, 27, 28, 29, 30] (by decide +kernel) (by decide +kernel)
set_option maxRecDepth 20000 in
theorem gX9_remove_X7_has : GoodIn wsX9_remove (wsV RX9 109 RX7 yX7_has wsX7_has) := goodIn_app (goodIn_of _ (by decide +kernel)) ggX9_remove_X7_has
set_option maxRecDepth 20000 in
theorem ggX9_remove_X7_drop : GoodIn wsX9_remove wsX7_drop := goodIn_r _ [12, 8, 13, 25, 26, 27, 28, 29, 30] (by decide +kernel) (by decide +kernel)
set_option maxRecDepth 20000 in
theorem gX9_remove_X7_drop : GoodIn wsX9_remove (wsV RX9 112 RX7 yX7_drop wsX7_drop) := goodIn_app (goodIn_of _ (by decide +kernel)) ggX9_remove_X7_drop
theorem dX9_remove_0 : decode cX9_remove 0 = .ok (.aload_n 0, 1) := by decide +kernel
theorem dX9_remove_1 : decode cX9_remove 1 = .ok (.getfield 26, 3) := by decide +kernel
theorem dX9_remove_4 : decode cX9_remove 4 = .ok (.iload_n 1, 1) := by decide +kernel
theorem dX9_remove_5 : decode cX9_remove 5 = .ok (.invokevirtual 109, 3) := by decide +kernel
theorem dX9_remove_8 : decode cX9_remove 8 = .ok (.ifCond .ne 5, 3) := by decide +kernel
theorem dX9_remove_11 : decode cX9_remove 11 = .ok (.iconst 0, 1) := by decide +kernel
theorem dX9_remove_12 : decode cX9_remove 12 = .ok (.ireturn, 1) := by decide +kernel
theorem dX9_remove_13 : decode cX9_remove 13 = .ok (.aload_n 0, 1) := by decide +kernel
theorem dX9_remove_14 : decode cX9_remove 14 = .ok (.getfield 26, 3) := by decide +kernel
theorem dX9_remove_17 : decode cX9_remove 17 = .ok (.iload_n 1, 1) := by decide +kernel
theorem dX9_remove_18 : decode cX9_remove 18 = .ok (.invokevirtual 112, 3) := by decide +kernel
theorem dX9_remove_21 : decode cX9_remove 21 = .ok (.iconst 1, 1) := by decide +kernel
theorem dX9_remove_22 : decode cX9_remove 22 = .ok (.ireturn, 1) := by decide +kernel
set_option maxRecDepth 20000 in
theorem ggX9_hand_X9_takePlace : GoodIn wsX9_hand wsX9_takePlace := goodIn_r _ [7, 8, 2, 9, 10, 6, 11, 12, 13, 14, 15, 16, 17, 18, 19, 20, 21, 22, 23, 24, 25, 26, 27, 28, 29, 30, 31, 32, 33, 34, 35, 36, 37, 38, 39, 40, 41, 42, 43, 44, 45, 46, 47, 48, 49, 50, 51, 52, 53, 54, 55, 56, 109, 110, 111, 112, 113, 114, 115, 116, 117, 118, 119, 120, 121, 122, 123, 124] (by decide +kernel) (by decide +kernel)
set_option maxRecDepth 20000 in
theorem gX9_hand_X9_takePlace : GoodIn wsX9_hand (wsV RX9 94 RX9 yX9_takePlace wsX9_takePlace) := goodIn_app (goodIn_of _ (by decide +kernel)) ggX9_hand_X9_takePlace
set_option maxRecDepth 20000 in
theorem ggX9_hand_X7_has : GoodIn wsX9_hand wsX7_has := goodIn_r _ [61, 62, 63, 125, 126, 127, 128, 129, 130] (by decide +kernel) (by decide +kernel)
set_option maxRecDepth 20000 in
theorem gX9_hand_X7_has : GoodIn wsX9_hand (wsV RX9 109 RX7 yX7_has wsX7_has) := goodIn_app (goodIn_of _ (by decide +kernel)) ggX9_hand_X7_has
set_option maxRecDepth 20000 in
theorem ggX9_hand_X7_findAlike : GoodIn wsX9_hand wsX7_findAlike := goodIn_r _ [67, 62, 63, 68, 69, 70, 71, 72, 39, 73, 41, 42, 74, 75, 76, 77, 52, 78, 79, 25, 80, 125, 126, 127, 128, 129, 130, 122, 123, 124] (by decide +kernel) (by decide +kernel)
set_option maxRecDepth 20000 in
theorem gX9_hand_X7_findAlike : GoodIn wsX9_hand (wsV RX9 101 RX7 yX7_findAlike wsX7_findAlike) := goodIn_app (goodIn_of _ (by decide +kernel)) ggX9_hand_X7_findAlike
set_option maxRecDepth 20000 in
theorem ggX9_hand_X9_move : GoodIn wsX9_hand wsX9_move := goodIn_r _ [84, 1, 85, 86, 87, 88, 60, 89, 68, 90, 91, 92, 93, 94, 95, 96, 97, 98, 99, 39, 100, 101, 71, 72, 73, 41, 42, 74, 75, 76, 77, 52, 78, 79, 25, 80, 102, 103, 104, 105, 106, 37, 38, 40, 107, 49, 50, 51, 108, 109, 110, 111, 112, 113, 114, 115, 116, 117, 118, 119, 125, 126, 127, 128, 129, 130, 131, 132, 122, 123, 124] (by decide +kernel) (by decide +kernel)
set_option maxRecDepth 20000 in
theorem gX9_hand_X9_move : GoodIn wsX9_hand (wsV RX9 115 RX9 yX9_move wsX9_move) := goodIn_app (goodIn_of _ (by decide +kernel)) ggX9_hand_X9_move
theorem dX9_hand_0 : decode cX9_hand 0 = .ok (.aload_n 0, 1) := by decide +kernel
theorem dX9_hand_1 : decode cX9_hand 1 = .ok (.iload_n 2, 1) := by decide +kernel
theorem dX9_hand_2 : decode cX9_hand 2 = .ok (.invokevirtual 94, 3) := by decide +kernel
theorem dX9_hand_5 : decode cX9_hand 5 = .ok (.ifCond .eq 14, 3) := by decide +kernel
theorem dX9_hand_8 : decode cX9_hand 8 = .ok (.aload_n 0, 1) := by decide +kernel
theorem dX9_hand_9 : decode cX9_hand 9 = .ok (.getfield 26, 3) := by decide +kernel
theorem dX9_hand_12 : decode cX9_hand 12 = .ok (.iload_n 1, 1) := by decide +kernel
theorem dX9_hand_13 : decode cX9_hand 13 = .ok (.invokevirtual 109, 3) := by decide +kernel
theorem dX9_hand_16 : decode cX9_hand 16 = .ok (.ifCond .ne 5, 3) := by decide +kernel
theorem dX9_hand_19 : decode cX9_hand 19 = .ok (.iconst (-1), 1) := by decide +kernel
theorem dX9_hand_20 : decode cX9_hand 20 = .ok (.ireturn, 1) := by decide +kernel
theorem dX9_hand_21 : decode cX9_hand 21 = .ok (.aload_n 0, 1) := by decide +kernel
theorem dX9_hand_22 : decode cX9_hand 22 = .ok (.getfield 26, 3) := by decide +kernel
theorem dX9_hand_25 : decode cX9_hand 25 = .ok (.aload_n 0, 1) := by decide +kernel
theorem dX9_hand_26 : decode cX9_hand 26 = .ok (.getfield 19, 3) := by decide +kernel
theorem dX9_hand_29 : decode cX9_hand 29 = .ok (.iload_n 1, 1) := by decide +kernel
theorem dX9_hand_30 : decode cX9_hand 30 = .ok (.invokevirtual 101, 3) := by decide +kernel
theorem dX9_hand_33 : decode cX9_hand 33 = .ok (.istore_n 3, 1) := by decide +kernel
theorem dX9_hand_34 : decode cX9_hand 34 = .ok (.iload_n 3, 1) := by decide +kernel
theorem dX9_hand_35 : decode cX9_hand 35 = .ok (.iconst (-1), 1) := by decide +kernel
theorem dX9_hand_36 : decode cX9_hand 36 = .ok (.if_icmp .eq 8, 3) := by decide +kernel
theorem dX9_hand_39 : decode cX9_hand 39 = .ok (.bipush (-2), 2) := by decide +kernel
theorem dX9_hand_41 : decode cX9_hand 41 = .ok (.iload_n 3, 1) := by decide +kernel
theorem dX9_hand_42 : decode cX9_hand 42 = .ok (.isub, 1) := by decide +kernel
theorem dX9_hand_43 : decode cX9_hand 43 = .ok (.ireturn, 1) := by decide +kernel
theorem dX9_hand_44 : decode cX9_hand 44 = .ok (.aload_n 0, 1) := by decide +kernel
theorem dX9_hand_45 : decode cX9_hand 45 = .ok (.iload_n 1, 1) := by decide +kernel
theorem dX9_hand_46 : decode cX9_hand 46 = .ok (.aload_n 0, 1) := by decide +kernel
theorem dX9_hand_47 : decode cX9_hand 47 = .ok (.getfield 19, 3) := by decide +kernel
theorem dX9_hand_50 : decode cX9_hand 50 = .ok (.invokevirtual 115, 3) := by decide +kernel
theorem dX9_hand_53 : decode cX9_hand 53 = .ok (.iconst 0, 1) := by decide +kernel
theorem dX9_hand_54 : decode cX9_hand 54 = .ok (.ireturn, 1) := by decide +kernel
set_option maxRecDepth 20000 in
theorem ggX9_at_X9_takePlace : GoodIn wsX9_at wsX9_takePlace := goodIn_r _ [7, 8, 2, 9, 10, 6, 11, 12, 13, 14, 15, 16, 17, 18, 19, 20, 21, 22, 23, 24, 25, 26, 27, 28, 29, 30, 31, 32, 33, 34, 35, 36, 37, 38, 39, 40, 41, 42, 43, 44, 45, 46, 47, 48, 49, 50, 51, 52, 53, 54, 55, 56, 77, 78, 79, 80, 81, 82, 83, 84, 85, 86, 87, 88, 89, 90, 91, 92] (by decide +kernel) (by decide +kernel)
set_option maxRecDepth 20000 in
theorem gX9_at_X9_takePlace : GoodIn wsX9_at (wsV RX9 94 RX9 yX9_takePlace wsX9_takePlace) := goodIn_app (goodIn_of _ (by decide +kernel)) ggX9_at_X9_takePlace
set_option maxRecDepth 20000 in
theorem ggX9_at_X7_findAlike : GoodIn wsX9_at wsX7_findAlike := goodIn_r _ [61, 62, 63, 64, 65, 66, 67, 68, 39, 69, 41, 42, 70, 71, 72, 73, 52, 74, 75, 25, 76, 93, 94, 95, 96, 97, 98, 90, 91, 92] (by decide +kernel) (by decide +kernel)
set_option maxRecDepth 20000 in
theorem gX9_at_X7_findAlike : GoodIn wsX9_at (wsV RX9 101 RX7 yX7_findAlike wsX7_findAlike) := goodIn_app (goodIn_of _ (by decide +kernel)) ggX9_at_X7_findAlike
theorem dX9_at_0 : decode cX9_at 0 = .ok (.aload_n 0, 1) := by decide +kernel
theorem dX9_at_1 : decode cX9_at 1 = .ok (.iload_n 1, 1) := by decide +kernel
theorem dX9_at_2 : decode cX9_at 2 = .ok (.invokevirtual 94, 3) := by decide +kernel
theorem dX9_at_5 : decode cX9_at 5 = .ok (.ifCond .eq 18, 3) := by decide +kernel
theorem dX9_at_8 : decode cX9_at 8 = .ok (.aload_n 0, 1) := by decide +kernel
theorem dX9_at_9 : decode cX9_at 9 = .ok (.getfield 26, 3) := by decide +kernel
theorem dX9_at_12 : decode cX9_at 12 = .ok (.aload_n 0, 1) := by decide +kernel
theorem dX9_at_13 : decode cX9_at 13 = .ok (.getfield 19, 3) := by decide +kernel
theorem dX9_at_16 : decode cX9_at 16 = .ok (.iconst (-1), 1) := by decide +kernel
theorem dX9_at_17 : decode cX9_at 17 = .ok (.invokevirtual 101, 3) := by decide +kernel
theorem dX9_at_20 : decode cX9_at 20 = .ok (.goto 4, 3) := by decide +kernel
theorem dX9_at_23 : decode cX9_at 23 = .ok (.iconst (-1), 1) := by decide +kernel
theorem dX9_at_24 : decode cX9_at 24 = .ok (.ireturn, 1) := by decide +kernel
set_option maxRecDepth 20000 in
theorem ggX9_rule_X5_read : GoodIn wsX9_rule wsX5_read := goodIn_r _ [10, 11, 12, 13, 14, 15, 16, 17, 9, 18, 19, 20, 21, 22, 23, 24, 25, 26, 27, 28, 29, 30, 31, 32, 33, 34, 35, 36, 37, 38, 39, 40, 41, 42, 43, 44, 45, 46, 47, 48, 49, 50, 51, 52, 53, 54, 55, 56, 57, 58, 59, 60, 61, 62, 63, 64, 65, 66, 67, 68, 69, 70, 71, 72, 73, 97, 98, 99, 100, 101, 102, 103, 104, 105, 106] (by decide +kernel) (by decide +kernel)
set_option maxRecDepth 20000 in
theorem gX9_rule_X5_read : GoodIn wsX9_rule (wsV RX9 119 RX5 yX5_read wsX5_read) := goodIn_app (goodIn_of _ (by decide +kernel)) ggX9_rule_X5_read
set_option maxRecDepth 20000 in
theorem ggX9_rule_X8_clear : GoodIn wsX9_rule wsX8_clear := goodIn_r _ [77, 24, 105, 106] (by decide +kernel) (by decide +kernel)
set_option maxRecDepth 20000 in
theorem gX9_rule_X8_clear : GoodIn wsX9_rule (wsV RX9 123 RX8 yX8_clear wsX8_clear) := goodIn_app (goodIn_of _ (by decide +kernel)) ggX9_rule_X8_clear
set_option maxRecDepth 20000 in
theorem ggX9_rule_X5_placeOfFault : GoodIn wsX9_rule wsX5_placeOfFault := goodIn_r _ [81, 14, 97, 98, 99, 100, 101, 102, 103, 104] (by decide +kernel) (by decide +kernel)
set_option maxRecDepth 20000 in
theorem gX9_rule_X5_placeOfFault : GoodIn wsX9_rule (wsV RX9 126 RX5 yX5_placeOfFault wsX5_placeOfFault) := goodIn_app (goodIn_of _ (by decide +kernel)) ggX9_rule_X5_placeOfFault
set_option maxRecDepth 20000 in
theorem ggX9_rule_X5_itemCount : GoodIn wsX9_rule wsX5_itemCount := goodIn_r _ [85, 11, 97, 98, 99, 100, 101, 102, 103, 104] (by decide +kernel) (by decide +kernel)
set_option maxRecDepth 20000 in
theorem gX9_rule_X5_itemCount : GoodIn wsX9_rule (wsV RX9 129 RX5 yX5_itemCount wsX5_itemCount) := goodIn_app (goodIn_of _ (by decide +kernel)) ggX9_rule_X5_itemCount
theorem dX9_rule_0 : decode cX9_rule 0 = .ok (.aload_n 0, 1) := by decide +kernel
theorem dX9_rule_1 : decode cX9_rule 1 = .ok (.getfield 58, 3) := by decide +kernel
theorem dX9_rule_4 : decode cX9_rule 4 = .ok (.aload_n 0, 1) := by decide +kernel
theorem dX9_rule_5 : decode cX9_rule 5 = .ok (.getfield 12, 3) := by decide +kernel
theorem dX9_rule_8 : decode cX9_rule 8 = .ok (.invokevirtual 119, 3) := by decide +kernel
theorem dX9_rule_11 : decode cX9_rule 11 = .ok (.istore_n 1, 1) := by decide +kernel
theorem dX9_rule_12 : decode cX9_rule 12 = .ok (.aload_n 0, 1) := by decide +kernel
theorem dX9_rule_13 : decode cX9_rule 13 = .ok (.getfield 12, 3) := by decide +kernel
theorem dX9_rule_16 : decode cX9_rule 16 = .ok (.invokevirtual 123, 3) := by decide +kernel
theorem dX9_rule_19 : decode cX9_rule 19 = .ok (.aload_n 0, 1) := by decide +kernel
theorem dX9_rule_20 : decode cX9_rule 20 = .ok (.aload_n 0, 1) := by decide +kernel
theorem dX9_rule_21 : decode cX9_rule 21 = .ok (.getfield 58, 3) := by decide +kernel
theorem dX9_rule_24 : decode cX9_rule 24 = .ok (.invokevirtual 126, 3) := by decide +kernel
theorem dX9_rule_27 : decode cX9_rule 27 = .ok (.putfield 65, 3) := by decide +kernel
theorem dX9_rule_30 : decode cX9_rule 30 = .ok (.iload_n 1, 1) := by decide +kernel
theorem dX9_rule_31 : decode cX9_rule 31 = .ok (.ifCond .eq 7, 3) := by decide +kernel
theorem dX9_rule_34 : decode cX9_rule 34 = .ok (.iconst (-1), 1) := by decide +kernel
theorem dX9_rule_35 : decode cX9_rule 35 = .ok (.iload_n 1, 1) := by decide +kernel
theorem dX9_rule_36 : decode cX9_rule 36 = .ok (.isub, 1) := by decide +kernel
theorem dX9_rule_37 : decode cX9_rule 37 = .ok (.ireturn, 1) := by decide +kernel
theorem dX9_rule_38 : decode cX9_rule 38 = .ok (.aload_n 0, 1) := by decide +kernel
theorem dX9_rule_39 : decode cX9_rule 39 = .ok (.getfield 54, 3) := by decide +kernel
theorem dX9_rule_42 : decode cX9_rule 42 = .ok (.astore_n 2, 1) := by decide +kernel
theorem dX9_rule_43 : decode cX9_rule 43 = .ok (.aload_n 0, 1) := by decide +kernel
theorem dX9_rule_44 : decode cX9_rule 44 = .ok (.aload_n 0, 1) := by decide +kernel
theorem dX9_rule_45 : decode cX9_rule 45 = .ok (.getfield 58, 3) := by decide +kernel
theorem dX9_rule_48 : decode cX9_rule 48 = .ok (.putfield 54, 3) := by decide +kernel
theorem dX9_rule_51 : decode cX9_rule 51 = .ok (.aload_n 0, 1) := by decide +kernel
theorem dX9_rule_52 : decode cX9_rule 52 = .ok (.aload_n 2, 1) := by decide +kernel
theorem dX9_rule_53 : decode cX9_rule 53 = .ok (.putfield 58, 3) := by decide +kernel
theorem dX9_rule_56 : decode cX9_rule 56 = .ok (.aload_n 0, 1) := by decide +kernel
theorem dX9_rule_57 : decode cX9_rule 57 = .ok (.iconst 1, 1) := by decide +kernel
theorem dX9_rule_58 : decode cX9_rule 58 = .ok (.putfield 61, 3) := by decide +kernel
theorem dX9_rule_61 : decode cX9_rule 61 = .ok (.aload_n 0, 1) := by decide +kernel
theorem dX9_rule_62 : decode cX9_rule 62 = .ok (.getfield 54, 3) := by decide +kernel
theorem dX9_rule_65 : decode cX9_rule 65 = .ok (.invokevirtual 129, 3) := by decide +kernel
theorem dX9_rule_68 : decode cX9_rule 68 = .ok (.ireturn, 1) := by decide +kernel
theorem dX9_place_0 : decode cX9_place 0 = .ok (.aload_n 0, 1) := by decide +kernel
theorem dX9_place_1 : decode cX9_place 1 = .ok (.getfield 65, 3) := by decide +kernel
theorem dX9_place_4 : decode cX9_place 4 = .ok (.ireturn, 1) := by decide +kernel
set_option maxRecDepth 20000 in
theorem ggX9_fits_X7_has : GoodIn wsX9_fits wsX7_has := goodIn_r _ [9, 10, 11, 94, 95, 96, 97, 98, 99] (by decide +kernel) (by decide +kernel)
set_option maxRecDepth 20000 in
theorem gX9_fits_X7_has : GoodIn wsX9_fits (wsV RX9 109 RX7 yX7_has wsX7_has) := goodIn_app (goodIn_of _ (by decide +kernel)) ggX9_fits_X7_has
set_option maxRecDepth 20000 in
theorem ggX9_fits_X7_placeOf : GoodIn wsX9_fits wsX7_placeOf := goodIn_r _ [15, 16, 94, 95, 96, 97, 98, 99] (by decide +kernel) (by decide +kernel)
set_option maxRecDepth 20000 in
theorem gX9_fits_X7_placeOf : GoodIn wsX9_fits (wsV RX9 132 RX7 yX7_placeOf wsX7_placeOf) := goodIn_app (goodIn_of _ (by decide +kernel)) ggX9_fits_X7_placeOf
set_option maxRecDepth 20000 in
theorem ggX9_fits_X0_match : GoodIn wsX9_fits wsX0_match := goodIn_r _ [21, 22, 23, 24, 25, 26, 20, 27, 28, 29, 30, 31, 32, 33, 34, 35, 36, 37, 38, 39, 40, 41, 42, 43, 44, 45, 46, 47, 48, 49, 50, 51, 52, 53, 54, 55, 56, 57, 58, 59, 60, 61, 62, 63, 64, 65, 66, 67, 68, 69, 70, 71, 72, 73, 100, 101, 102, 103, 104, 105, 106, 107, 108, 109, 110, 111, 112, 113] (by decide +kernel) (by decide +kernel)
set_option maxRecDepth 20000 in
theorem gX9_fits_X0_match : GoodIn wsX9_fits (wsV RX9 136 RX0 yX0_match wsX0_match) := goodIn_app (goodIn_of _ (by decide +kernel)) ggX9_fits_X0_match
set_option maxRecDepth 20000 in
theorem ggX9_fits_X5_itemCount : GoodIn wsX9_fits wsX5_itemCount := goodIn_r _ [33, 34, 106, 107, 108, 109, 110, 111, 112, 113] (by decide +kernel) (by decide +kernel)
set_option maxRecDepth 20000 in
theorem gX9_fits_X5_itemCount : GoodIn wsX9_fits (wsV RX9 129 RX5 yX5_itemCount wsX5_itemCount) := goodIn_app (goodIn_of _ (by decide +kernel)) ggX9_fits_X5_itemCount
set_option maxRecDepth 20000 in
theorem ggX9_fits_X0_tookBy : GoodIn wsX9_fits wsX0_tookBy := goodIn_r _ [78, 23, 100, 101, 102] (by decide +kernel) (by decide +kernel)
set_option maxRecDepth 20000 in
theorem gX9_fits_X0_tookBy : GoodIn wsX9_fits (wsV RX9 140 RX0 yX0_tookBy wsX0_tookBy) := goodIn_app (goodIn_of _ (by decide +kernel)) ggX9_fits_X0_tookBy
set_option maxRecDepth 20000 in
theorem ggX9_fits_X0_startOf : GoodIn wsX9_fits wsX0_startOf := goodIn_r _ [82, 22, 100, 101, 102] (by decide +kernel) (by decide +kernel)
set_option maxRecDepth 20000 in
theorem gX9_fits_X0_startOf : GoodIn wsX9_fits (wsV RX9 144 RX0 yX0_startOf wsX0_startOf) := goodIn_app (goodIn_of _ (by decide +kernel)) ggX9_fits_X0_startOf
theorem dX9_fits_0 : decode cX9_fits 0 = .ok (.aload_n 0, 1) := by decide +kernel
theorem dX9_fits_1 : decode cX9_fits 1 = .ok (.getfield 61, 3) := by decide +kernel
theorem dX9_fits_4 : decode cX9_fits 4 = .ok (.ifCond .eq 14, 3) := by decide +kernel
theorem dX9_fits_7 : decode cX9_fits 7 = .ok (.aload_n 0, 1) := by decide +kernel
theorem dX9_fits_8 : decode cX9_fits 8 = .ok (.getfield 26, 3) := by decide +kernel
theorem dX9_fits_11 : decode cX9_fits 11 = .ok (.iload_n 1, 1) := by decide +kernel
theorem dX9_fits_12 : decode cX9_fits 12 = .ok (.invokevirtual 109, 3) := by decide +kernel
theorem dX9_fits_15 : decode cX9_fits 15 = .ok (.ifCond .ne 5, 3) := by decide +kernel
theorem dX9_fits_18 : decode cX9_fits 18 = .ok (.iconst (-1), 1) := by decide +kernel
theorem dX9_fits_19 : decode cX9_fits 19 = .ok (.ireturn, 1) := by decide +kernel
theorem dX9_fits_20 : decode cX9_fits 20 = .ok (.aload_n 0, 1) := by decide +kernel
theorem dX9_fits_21 : decode cX9_fits 21 = .ok (.getfield 40, 3) := by decide +kernel
theorem dX9_fits_24 : decode cX9_fits 24 = .ok (.aload_n 0, 1) := by decide +kernel
theorem dX9_fits_25 : decode cX9_fits 25 = .ok (.getfield 54, 3) := by decide +kernel
theorem dX9_fits_28 : decode cX9_fits 28 = .ok (.aload_n 0, 1) := by decide +kernel
theorem dX9_fits_29 : decode cX9_fits 29 = .ok (.getfield 26, 3) := by decide +kernel
theorem dX9_fits_32 : decode cX9_fits 32 = .ok (.iload_n 1, 1) := by decide +kernel
theorem dX9_fits_33 : decode cX9_fits 33 = .ok (.invokevirtual 132, 3) := by decide +kernel
theorem dX9_fits_36 : decode cX9_fits 36 = .ok (.invokevirtual 136, 3) := by decide +kernel
theorem dX9_fits_39 : decode cX9_fits 39 = .ok (.istore_n 3, 1) := by decide +kernel
theorem dX9_fits_40 : decode cX9_fits 40 = .ok (.iload_n 2, 1) := by decide +kernel
theorem dX9_fits_41 : decode cX9_fits 41 = .ok (.ifCond .ne 13, 3) := by decide +kernel
theorem dX9_fits_44 : decode cX9_fits 44 = .ok (.iload_n 3, 1) := by decide +kernel
theorem dX9_fits_45 : decode cX9_fits 45 = .ok (.ifCond .eq 7, 3) := by decide +kernel
theorem dX9_fits_48 : decode cX9_fits 48 = .ok (.iconst 1, 1) := by decide +kernel
theorem dX9_fits_49 : decode cX9_fits 49 = .ok (.goto 4, 3) := by decide +kernel
theorem dX9_fits_52 : decode cX9_fits 52 = .ok (.iconst 0, 1) := by decide +kernel
theorem dX9_fits_53 : decode cX9_fits 53 = .ok (.ireturn, 1) := by decide +kernel
theorem dX9_fits_54 : decode cX9_fits 54 = .ok (.iload_n 3, 1) := by decide +kernel
theorem dX9_fits_55 : decode cX9_fits 55 = .ok (.ifCond .ne 5, 3) := by decide +kernel
theorem dX9_fits_58 : decode cX9_fits 58 = .ok (.iconst (-1), 1) := by decide +kernel
theorem dX9_fits_59 : decode cX9_fits 59 = .ok (.ireturn, 1) := by decide +kernel
theorem dX9_fits_60 : decode cX9_fits 60 = .ok (.iload_n 2, 1) := by decide +kernel
theorem dX9_fits_61 : decode cX9_fits 61 = .ok (.bipush 10, 2) := by decide +kernel
theorem dX9_fits_63 : decode cX9_fits 63 = .ok (.if_icmp .lt 29, 3) := by decide +kernel
theorem dX9_fits_66 : decode cX9_fits 66 = .ok (.iload_n 2, 1) := by decide +kernel
theorem dX9_fits_67 : decode cX9_fits 67 = .ok (.bipush 10, 2) := by decide +kernel
theorem dX9_fits_69 : decode cX9_fits 69 = .ok (.aload_n 0, 1) := by decide +kernel
theorem dX9_fits_70 : decode cX9_fits 70 = .ok (.getfield 54, 3) := by decide +kernel
theorem dX9_fits_73 : decode cX9_fits 73 = .ok (.invokevirtual 129, 3) := by decide +kernel
theorem dX9_fits_76 : decode cX9_fits 76 = .ok (.iadd, 1) := by decide +kernel
theorem dX9_fits_77 : decode cX9_fits 77 = .ok (.if_icmp .ge 15, 3) := by decide +kernel
theorem dX9_fits_80 : decode cX9_fits 80 = .ok (.aload_n 0, 1) := by decide +kernel
theorem dX9_fits_81 : decode cX9_fits 81 = .ok (.getfield 40, 3) := by decide +kernel
theorem dX9_fits_84 : decode cX9_fits 84 = .ok (.iload_n 2, 1) := by decide +kernel
theorem dX9_fits_85 : decode cX9_fits 85 = .ok (.bipush 10, 2) := by decide +kernel
theorem dX9_fits_87 : decode cX9_fits 87 = .ok (.isub, 1) := by decide +kernel
theorem dX9_fits_88 : decode cX9_fits 88 = .ok (.invokevirtual 140, 3) := by decide +kernel
theorem dX9_fits_91 : decode cX9_fits 91 = .ok (.ireturn, 1) := by decide +kernel
theorem dX9_fits_92 : decode cX9_fits 92 = .ok (.iload_n 2, 1) := by decide +kernel
theorem dX9_fits_93 : decode cX9_fits 93 = .ok (.bipush 30, 2) := by decide +kernel
theorem dX9_fits_95 : decode cX9_fits 95 = .ok (.if_icmp .lt 29, 3) := by decide +kernel
theorem dX9_fits_98 : decode cX9_fits 98 = .ok (.iload_n 2, 1) := by decide +kernel
theorem dX9_fits_99 : decode cX9_fits 99 = .ok (.bipush 30, 2) := by decide +kernel
theorem dX9_fits_101 : decode cX9_fits 101 = .ok (.aload_n 0, 1) := by decide +kernel
theorem dX9_fits_102 : decode cX9_fits 102 = .ok (.getfield 54, 3) := by decide +kernel
theorem dX9_fits_105 : decode cX9_fits 105 = .ok (.invokevirtual 129, 3) := by decide +kernel
theorem dX9_fits_108 : decode cX9_fits 108 = .ok (.iadd, 1) := by decide +kernel
theorem dX9_fits_109 : decode cX9_fits 109 = .ok (.if_icmp .ge 15, 3) := by decide +kernel
theorem dX9_fits_112 : decode cX9_fits 112 = .ok (.aload_n 0, 1) := by decide +kernel
theorem dX9_fits_113 : decode cX9_fits 113 = .ok (.getfield 40, 3) := by decide +kernel
theorem dX9_fits_116 : decode cX9_fits 116 = .ok (.iload_n 2, 1) := by decide +kernel
theorem dX9_fits_117 : decode cX9_fits 117 = .ok (.bipush 30, 2) := by decide +kernel
theorem dX9_fits_119 : decode cX9_fits 119 = .ok (.isub, 1) := by decide +kernel
theorem dX9_fits_120 : decode cX9_fits 120 = .ok (.invokevirtual 144, 3) := by decide +kernel
theorem dX9_fits_123 : decode cX9_fits 123 = .ok (.ireturn, 1) := by decide +kernel
theorem dX9_fits_124 : decode cX9_fits 124 = .ok (.iconst (-1), 1) := by decide +kernel
theorem dX9_fits_125 : decode cX9_fits 125 = .ok (.ireturn, 1) := by decide +kernel
set_option maxRecDepth 20000 in
theorem ggX9_plan_X9_isFolder : GoodIn wsX9_plan wsX9_isFolder := goodIn_r _ [9] (by decide +kernel) (by decide +kernel)
set_option maxRecDepth 20000 in
theorem gX9_plan_X9_isFolder : GoodIn wsX9_plan (va_wsS RX9 147 yX9_isFolder wsX9_isFolder) := goodIn_app (goodIn_of _ (by decide +kernel)) ggX9_plan_X9_isFolder
set_option maxRecDepth 20000 in
theorem ggX9_plan_X3_isUnderWay : GoodIn wsX9_plan wsX3_isUnderWay := goodIn_r _ [14, 15, 16, 309, 310, 311, 312, 313, 314, 315, 316, 317] (by decide +kernel) (by decide +kernel)
set_option maxRecDepth 20000 in
theorem gX9_plan_X3_isUnderWay : GoodIn wsX9_plan (wsV RX9 150 RX3 yX3_isUnderWay wsX3_isUnderWay) := goodIn_app (goodIn_of _ (by decide +kernel)) ggX9_plan_X3_isUnderWay
set_option maxRecDepth 20000 in
theorem ggX9_plan_X3_begin : GoodIn wsX9_plan wsX3_begin := goodIn_r _ [20, 21, 22, 23, 16, 15, 309, 310, 311, 312, 313, 314, 315, 316, 317] (by decide +kernel) (by decide +kernel)
set_option maxRecDepth 20000 in
theorem gX9_plan_X3_begin : GoodIn wsX9_plan (wsV RX9 153 RX3 yX3_begin wsX3_begin) := goodIn_app (goodIn_of _ (by decide +kernel)) ggX9_plan_X3_begin
set_option maxRecDepth 20000 in
theorem ggX9_plan_X7_list : GoodIn wsX9_plan wsX7_list := goodIn_r _ [28, 29, 30, 31, 32, 33, 34, 35, 27, 36, 37, 38, 39, 40, 41, 42, 43, 44, 45, 46, 47, 48, 49, 50, 51, 318, 319, 320, 321, 322, 323, 324, 325, 326] (by decide +kernel) (by decide +kernel)
set_option maxRecDepth 20000 in
theorem gX9_plan_X7_list : GoodIn wsX9_plan (wsV RX9 156 RX7 yX7_list wsX7_list) := goodIn_app (goodIn_of _ (by decide +kernel)) ggX9_plan_X7_list
set_option maxRecDepth 20000 in
theorem ggX9_plan_X3_isFull : GoodIn wsX9_plan wsX3_isFull := goodIn_r _ [55, 22, 56, 309, 310, 311, 312, 313, 314, 315, 316, 317] (by decide +kernel) (by decide +kernel)
set_option maxRecDepth 20000 in
theorem gX9_plan_X3_isFull : GoodIn wsX9_plan (wsV RX9 160 RX3 yX3_isFull wsX3_isFull) := goodIn_app (goodIn_of _ (by decide +kernel)) ggX9_plan_X3_isFull
set_option maxRecDepth 20000 in
theorem ggX9_plan_X7_listed : GoodIn wsX9_plan wsX7_listed := goodIn_r _ [60, 32, 318, 319, 320, 321, 322, 323] (by decide +kernel) (by decide +kernel)
set_option maxRecDepth 20000 in
theorem gX9_plan_X7_listed : GoodIn wsX9_plan (wsV RX9 161 RX7 yX7_listed wsX7_listed) := goodIn_app (goodIn_of _ (by decide +kernel)) ggX9_plan_X7_listed
set_option maxRecDepth 20000 in
theorem ggX9_plan_X7_has : GoodIn wsX9_plan wsX7_has := goodIn_r _ [64, 29, 30, 318, 319, 320, 321, 322, 323] (by decide +kernel) (by decide +kernel)
set_option maxRecDepth 20000 in
theorem gX9_plan_X7_has : GoodIn wsX9_plan (wsV RX9 109 RX7 yX7_has wsX7_has) := goodIn_app (goodIn_of _ (by decide +kernel)) ggX9_plan_X7_has
set_option maxRecDepth 20000 in
theorem ggX9_plan_X7_placeOf : GoodIn wsX9_plan wsX7_placeOf := goodIn_r _ [68, 31, 318, 319, 320, 321, 322, 323] (by decide +kernel) (by decide +kernel)
set_option maxRecDepth 20000 in
theorem gX9_plan_X7_placeOf : GoodIn wsX9_plan (wsV RX9 132 RX7 yX7_placeOf wsX7_placeOf) := goodIn_app (goodIn_of _ (by decide +kernel)) ggX9_plan_X7_placeOf
set_option maxRecDepth 20000 in
theorem ggX9_plan_X0_match : GoodIn wsX9_plan wsX0_match := goodIn_r _ [73, 74, 75, 76, 77, 78, 72, 79, 80, 81, 82, 83, 84, 85, 86, 87, 88, 89, 90, 91, 92, 93, 94, 95, 96, 97, 98, 99, 100, 48, 49, 40, 50, 42, 51, 101, 102, 103, 104, 105, 106, 107, 108, 109, 110, 111, 112, 113, 114, 115, 116, 117, 118, 119, 327, 328, 329, 324, 325, 326, 330, 331, 332, 333, 334, 335, 336, 337] (by decide +kernel) (by decide +kernel)
set_option maxRecDepth 20000 in
theorem gX9_plan_X0_match : GoodIn wsX9_plan (wsV RX9 136 RX0 yX0_match wsX0_match) := goodIn_app (goodIn_of _ (by decide +kernel)) ggX9_plan_X0_match
set_option maxRecDepth 20000 in
theorem ggX9_plan_X3_size : GoodIn wsX9_plan wsX3_size := goodIn_r _ [123, 22, 309, 310, 311, 312, 313, 314, 315, 316, 317] (by decide +kernel) (by decide +kernel)
set_option maxRecDepth 20000 in
theorem gX9_plan_X3_size : GoodIn wsX9_plan (wsV RX9 164 RX3 yX3_size wsX3_size) := goodIn_app (goodIn_of _ (by decide +kernel)) ggX9_plan_X3_size
set_option maxRecDepth 20000 in
theorem ggX9_plan_X3_add : GoodIn wsX9_plan wsX3_add := goodIn_r _ [127, 56, 22, 128, 129, 130, 131, 132, 133, 134, 135, 136, 137, 138, 139, 140, 141, 142, 143, 144, 40, 145, 146, 42, 147, 148, 149, 150, 47, 48, 49, 50, 51, 151, 152, 153, 154, 155, 156, 157, 158, 309, 310, 311, 312, 313, 314, 315, 316, 317, 338, 339, 340, 341, 342, 343, 344, 345, 346, 347, 348, 349, 324, 325, 326] (by decide +kernel) (by decide +kernel)
set_option maxRecDepth 20000 in
theorem gX9_plan_X3_add : GoodIn wsX9_plan (wsV RX9 167 RX3 yX3_add wsX3_add) := goodIn_app (goodIn_of _ (by decide +kernel)) ggX9_plan_X3_add
set_option maxRecDepth 20000 in
theorem ggX9_plan_X4_nameBy : GoodIn wsX9_plan wsX4_nameBy := goodIn_r _ [162, 163, 164, 135, 165, 166, 148, 149, 40, 150, 146, 42, 167, 168, 169, 84, 170, 171, 172, 173, 174, 175, 176, 177, 178, 179, 180, 181, 182, 183, 184, 131, 185, 134, 186, 187, 188, 189, 190, 152, 153, 154, 51, 191, 192, 106, 193, 194, 195, 196, 197, 198, 199, 200, 201, 202, 72, 203, 74, 204, 205, 206, 207, 75, 208, 209, 210, 211, 212, 48, 49, 50, 213, 214, 215, 216, 217, 218, 219, 220, 221, 222, 223, 224, 225, 226, 47, 227, 338, 339, 340, 341, 342, 343, 344, 345, 346, 347, 348, 349, 324, 325, 326, 330, 331, 332, 333, 334, 335, 336, 337, 327, 328, 329] (by decide +kernel) (by decide +kernel)
set_option maxRecDepth 20000 in
theorem gX9_plan_X4_nameBy : GoodIn wsX9_plan (wsV RX9 170 RX4 yX4_nameBy wsX4_nameBy) := goodIn_app (goodIn_of _ (by decide +kernel)) ggX9_plan_X4_nameBy
set_option maxRecDepth 20000 in
theorem ggX9_plan_X3_findTroubles : GoodIn wsX9_plan wsX3_findTroubles := goodIn_r _ [231, 22, 56, 23, 232, 233, 234, 131, 235, 164, 137, 236, 237, 238, 239, 240, 241, 242, 13, 243, 244, 245, 246, 27, 247, 248, 249, 224, 225, 40, 226, 146, 42, 47, 48, 49, 50, 51, 227, 217, 106, 218, 250, 251, 252, 253, 138, 254, 255, 256, 257, 29, 30, 31, 258, 259, 260, 261, 262, 309, 310, 311, 312, 313, 314, 315, 316, 317, 338, 339, 340, 341, 342, 343, 344, 345, 346, 347, 348, 349, 318, 319, 320, 321, 322, 323, 324, 325, 326] (by decide +kernel) (by decide +kernel)
set_option maxRecDepth 20000 in
theorem gX9_plan_X3_findTroubles : GoodIn wsX9_plan (wsV RX9 176 RX3 yX3_findTroubles wsX3_findTroubles) := goodIn_app (goodIn_of _ (by decide +kernel)) ggX9_plan_X3_findTroubles
set_option maxRecDepth 20000 in
theorem ggX9_plan_X3_findSteps : GoodIn wsX9_plan wsX3_findSteps := goodIn_r _ [266, 23, 56, 267, 268, 269, 13, 270, 22, 271, 272, 273, 274, 275, 276, 277, 131, 278, 165, 141, 279, 280, 281, 282, 283, 284, 285, 286, 140, 287, 288, 289, 290, 291, 16, 292, 293, 294, 295, 296, 297, 309, 310, 311, 312, 313, 314, 315, 316, 317, 338, 339, 340, 341, 342, 343, 344, 345, 346, 347, 348, 349] (by decide +kernel) (by decide +kernel)
set_option maxRecDepth 20000 in
theorem gX9_plan_X3_findSteps : GoodIn wsX9_plan (wsV RX9 180 RX3 yX3_findSteps wsX3_findSteps) := goodIn_app (goodIn_of _ (by decide +kernel)) ggX9_plan_X3_findSteps
theorem dX9_plan_0 : decode cX9_plan 0 = .ok (.aload_n 0, 1) := by decide +kernel
theorem dX9_plan_1 : decode cX9_plan 1 = .ok (.getfield 61, 3) := by decide +kernel
theorem dX9_plan_4 : decode cX9_plan 4 = .ok (.ifCond .eq 17, 3) := by decide +kernel
theorem dX9_plan_7 : decode cX9_plan 7 = .ok (.iload_n 1, 1) := by decide +kernel
theorem dX9_plan_8 : decode cX9_plan 8 = .ok (.invokestatic 147, 3) := by decide +kernel
theorem dX9_plan_11 : decode cX9_plan 11 = .ok (.ifCond .eq 10, 3) := by decide +kernel
theorem dX9_plan_14 : decode cX9_plan 14 = .ok (.iload_n 2, 1) := by decide +kernel
theorem dX9_plan_15 : decode cX9_plan 15 = .ok (.invokestatic 147, 3) := by decide +kernel
theorem dX9_plan_18 : decode cX9_plan 18 = .ok (.ifCond .ne 5, 3) := by decide +kernel
theorem dX9_plan_21 : decode cX9_plan 21 = .ok (.iconst (-1), 1) := by decide +kernel
theorem dX9_plan_22 : decode cX9_plan 22 = .ok (.ireturn, 1) := by decide +kernel
theorem dX9_plan_23 : decode cX9_plan 23 = .ok (.iload_n 3, 1) := by decide +kernel
theorem dX9_plan_24 : decode cX9_plan 24 = .ok (.ifCond .lt 23, 3) := by decide +kernel
theorem dX9_plan_27 : decode cX9_plan 27 = .ok (.iload_n 3, 1) := by decide +kernel
theorem dX9_plan_28 : decode cX9_plan 28 = .ok (.sipush 999, 3) := by decide +kernel
theorem dX9_plan_31 : decode cX9_plan 31 = .ok (.if_icmp .gt 16, 3) := by decide +kernel
theorem dX9_plan_34 : decode cX9_plan 34 = .ok (.iload 4, 2) := by decide +kernel
theorem dX9_plan_36 : decode cX9_plan 36 = .ok (.iconst 1, 1) := by decide +kernel
theorem dX9_plan_37 : decode cX9_plan 37 = .ok (.if_icmp .lt 10, 3) := by decide +kernel
theorem dX9_plan_40 : decode cX9_plan 40 = .ok (.iload 4, 2) := by decide +kernel
theorem dX9_plan_42 : decode cX9_plan 42 = .ok (.bipush 99, 2) := by decide +kernel
theorem dX9_plan_44 : decode cX9_plan 44 = .ok (.if_icmp .le 5, 3) := by decide +kernel
theorem dX9_plan_47 : decode cX9_plan 47 = .ok (.iconst (-1), 1) := by decide +kernel
theorem dX9_plan_48 : decode cX9_plan 48 = .ok (.ireturn, 1) := by decide +kernel
theorem dX9_plan_49 : decode cX9_plan 49 = .ok (.aload_n 0, 1) := by decide +kernel
theorem dX9_plan_50 : decode cX9_plan 50 = .ok (.getfield 47, 3) := by decide +kernel
theorem dX9_plan_53 : decode cX9_plan 53 = .ok (.invokevirtual 150, 3) := by decide +kernel
theorem dX9_plan_56 : decode cX9_plan 56 = .ok (.ifCond .eq 6, 3) := by decide +kernel
theorem dX9_plan_59 : decode cX9_plan 59 = .ok (.bipush (-2), 2) := by decide +kernel
theorem dX9_plan_61 : decode cX9_plan 61 = .ok (.ireturn, 1) := by decide +kernel
theorem dX9_plan_62 : decode cX9_plan 62 = .ok (.aload_n 0, 1) := by decide +kernel
theorem dX9_plan_63 : decode cX9_plan 63 = .ok (.getfield 47, 3) := by decide +kernel
theorem dX9_plan_66 : decode cX9_plan 66 = .ok (.invokevirtual 153, 3) := by decide +kernel
theorem dX9_plan_69 : decode cX9_plan 69 = .ok (.aload_n 0, 1) := by decide +kernel
theorem dX9_plan_70 : decode cX9_plan 70 = .ok (.getfield 26, 3) := by decide +kernel
theorem dX9_plan_73 : decode cX9_plan 73 = .ok (.iload_n 1, 1) := by decide +kernel
theorem dX9_plan_74 : decode cX9_plan 74 = .ok (.iload 5, 2) := by decide +kernel
theorem dX9_plan_76 : decode cX9_plan 76 = .ok (.invokevirtual 156, 3) := by decide +kernel
theorem dX9_plan_79 : decode cX9_plan 79 = .ok (.istore 6, 2) := by decide +kernel
theorem dX9_plan_81 : decode cX9_plan 81 = .ok (.iconst 0, 1) := by decide +kernel
theorem dX9_plan_82 : decode cX9_plan 82 = .ok (.istore 7, 2) := by decide +kernel
theorem dX9_plan_84 : decode cX9_plan 84 = .ok (.iload 7, 2) := by decide +kernel
theorem dX9_plan_86 : decode cX9_plan 86 = .ok (.iload 6, 2) := by decide +kernel
theorem dX9_plan_88 : decode cX9_plan 88 = .ok (.if_icmp .ge 111, 3) := by decide +kernel
theorem dX9_plan_91 : decode cX9_plan 91 = .ok (.aload_n 0, 1) := by decide +kernel
theorem dX9_plan_92 : decode cX9_plan 92 = .ok (.getfield 47, 3) := by decide +kernel
theorem dX9_plan_95 : decode cX9_plan 95 = .ok (.invokevirtual 160, 3) := by decide +kernel
theorem dX9_plan_98 : decode cX9_plan 98 = .ok (.ifCond .ne 101, 3) := by decide +kernel
theorem dX9_plan_101 : decode cX9_plan 101 = .ok (.aload_n 0, 1) := by decide +kernel
theorem dX9_plan_102 : decode cX9_plan 102 = .ok (.getfield 26, 3) := by decide +kernel
theorem dX9_plan_105 : decode cX9_plan 105 = .ok (.iload 7, 2) := by decide +kernel
theorem dX9_plan_107 : decode cX9_plan 107 = .ok (.invokevirtual 161, 3) := by decide +kernel
theorem dX9_plan_110 : decode cX9_plan 110 = .ok (.istore 8, 2) := by decide +kernel
theorem dX9_plan_112 : decode cX9_plan 112 = .ok (.aload_n 0, 1) := by decide +kernel
theorem dX9_plan_113 : decode cX9_plan 113 = .ok (.getfield 26, 3) := by decide +kernel
theorem dX9_plan_116 : decode cX9_plan 116 = .ok (.iload 8, 2) := by decide +kernel
theorem dX9_plan_118 : decode cX9_plan 118 = .ok (.invokevirtual 109, 3) := by decide +kernel
theorem dX9_plan_121 : decode cX9_plan 121 = .ok (.ifCond .eq 72, 3) := by decide +kernel
theorem dX9_plan_124 : decode cX9_plan 124 = .ok (.aload_n 0, 1) := by decide +kernel
theorem dX9_plan_125 : decode cX9_plan 125 = .ok (.getfield 40, 3) := by decide +kernel
theorem dX9_plan_128 : decode cX9_plan 128 = .ok (.aload_n 0, 1) := by decide +kernel
theorem dX9_plan_129 : decode cX9_plan 129 = .ok (.getfield 54, 3) := by decide +kernel
theorem dX9_plan_132 : decode cX9_plan 132 = .ok (.aload_n 0, 1) := by decide +kernel
theorem dX9_plan_133 : decode cX9_plan 133 = .ok (.getfield 26, 3) := by decide +kernel
theorem dX9_plan_136 : decode cX9_plan 136 = .ok (.iload 8, 2) := by decide +kernel
theorem dX9_plan_138 : decode cX9_plan 138 = .ok (.invokevirtual 132, 3) := by decide +kernel
theorem dX9_plan_141 : decode cX9_plan 141 = .ok (.invokevirtual 136, 3) := by decide +kernel
theorem dX9_plan_144 : decode cX9_plan 144 = .ok (.ifCond .eq 49, 3) := by decide +kernel
theorem dX9_plan_147 : decode cX9_plan 147 = .ok (.aload_n 0, 1) := by decide +kernel
theorem dX9_plan_148 : decode cX9_plan 148 = .ok (.getfield 47, 3) := by decide +kernel
theorem dX9_plan_151 : decode cX9_plan 151 = .ok (.iload 8, 2) := by decide +kernel
theorem dX9_plan_153 : decode cX9_plan 153 = .ok (.aload_n 0, 1) := by decide +kernel
theorem dX9_plan_154 : decode cX9_plan 154 = .ok (.getfield 26, 3) := by decide +kernel
theorem dX9_plan_157 : decode cX9_plan 157 = .ok (.iload 8, 2) := by decide +kernel
theorem dX9_plan_159 : decode cX9_plan 159 = .ok (.invokevirtual 132, 3) := by decide +kernel
theorem dX9_plan_162 : decode cX9_plan 162 = .ok (.iload_n 3, 1) := by decide +kernel
theorem dX9_plan_163 : decode cX9_plan 163 = .ok (.aload_n 0, 1) := by decide +kernel
theorem dX9_plan_164 : decode cX9_plan 164 = .ok (.getfield 47, 3) := by decide +kernel
theorem dX9_plan_167 : decode cX9_plan 167 = .ok (.invokevirtual 164, 3) := by decide +kernel
theorem dX9_plan_170 : decode cX9_plan 170 = .ok (.iload 4, 2) := by decide +kernel
theorem dX9_plan_172 : decode cX9_plan 172 = .ok (.imul, 1) := by decide +kernel
theorem dX9_plan_173 : decode cX9_plan 173 = .ok (.iadd, 1) := by decide +kernel
theorem dX9_plan_174 : decode cX9_plan 174 = .ok (.invokevirtual 167, 3) := by decide +kernel
theorem dX9_plan_177 : decode cX9_plan 177 = .ok (.astore 9, 2) := by decide +kernel
theorem dX9_plan_179 : decode cX9_plan 179 = .ok (.aload 9, 2) := by decide +kernel
theorem dX9_plan_181 : decode cX9_plan 181 = .ok (.aload_n 0, 1) := by decide +kernel
theorem dX9_plan_182 : decode cX9_plan 182 = .ok (.getfield 54, 3) := by decide +kernel
theorem dX9_plan_185 : decode cX9_plan 185 = .ok (.aload_n 0, 1) := by decide +kernel
theorem dX9_plan_186 : decode cX9_plan 186 = .ok (.getfield 40, 3) := by decide +kernel
theorem dX9_plan_189 : decode cX9_plan 189 = .ok (.iload_n 2, 1) := by decide +kernel
theorem dX9_plan_190 : decode cX9_plan 190 = .ok (.invokevirtual 170, 3) := by decide +kernel
theorem dX9_plan_193 : decode cX9_plan 193 = .ok (.iinc 7 1, 3) := by decide +kernel
theorem dX9_plan_196 : decode cX9_plan 196 = .ok (.goto (-112), 3) := by decide +kernel
theorem dX9_plan_199 : decode cX9_plan 199 = .ok (.aload_n 0, 1) := by decide +kernel
theorem dX9_plan_200 : decode cX9_plan 200 = .ok (.getfield 47, 3) := by decide +kernel
theorem dX9_plan_203 : decode cX9_plan 203 = .ok (.aload_n 0, 1) := by decide +kernel
theorem dX9_plan_204 : decode cX9_plan 204 = .ok (.getfield 26, 3) := by decide +kernel
theorem dX9_plan_207 : decode cX9_plan 207 = .ok (.invokevirtual 176, 3) := by decide +kernel
theorem dX9_plan_210 : decode cX9_plan 210 = .ok (.aload_n 0, 1) := by decide +kernel
theorem dX9_plan_211 : decode cX9_plan 211 = .ok (.getfield 47, 3) := by decide +kernel
theorem dX9_plan_214 : decode cX9_plan 214 = .ok (.invokevirtual 180, 3) := by decide +kernel
theorem dX9_plan_217 : decode cX9_plan 217 = .ok (.aload_n 0, 1) := by decide +kernel
theorem dX9_plan_218 : decode cX9_plan 218 = .ok (.getfield 47, 3) := by decide +kernel
theorem dX9_plan_221 : decode cX9_plan 221 = .ok (.invokevirtual 164, 3) := by decide +kernel
theorem dX9_plan_224 : decode cX9_plan 224 = .ok (.ireturn, 1) := by decide +kernel
set_option maxRecDepth 20000 in
theorem ggX9_planned_X3_hasPlanned : GoodIn wsX9_planned wsX3_hasPlanned := goodIn_r _ [6, 7, 39, 40, 41, 42, 43, 44, 45, 46, 47] (by decide +kernel) (by decide +kernel)
set_option maxRecDepth 20000 in
theorem gX9_planned_X3_hasPlanned : GoodIn wsX9_planned (wsV RX9 183 RX3 yX3_hasPlanned wsX3_hasPlanned) := goodIn_app (goodIn_of _ (by decide +kernel)) ggX9_planned_X3_hasPlanned
set_option maxRecDepth 20000 in
theorem ggX9_planned_X3_get : GoodIn wsX9_planned wsX3_get := goodIn_r _ [11, 12, 39, 40, 41, 42, 43, 44, 45, 46, 47] (by decide +kernel) (by decide +kernel)
set_option maxRecDepth 20000 in
theorem gX9_planned_X3_get : GoodIn wsX9_planned (wsV RX9 186 RX3 yX3_get wsX3_get) := goodIn_app (goodIn_of _ (by decide +kernel)) ggX9_planned_X3_get
theorem dX9_planned_0 : decode cX9_planned 0 = .ok (.aload_n 0, 1) := by decide +kernel
theorem dX9_planned_1 : decode cX9_planned 1 = .ok (.getfield 47, 3) := by decide +kernel
theorem dX9_planned_4 : decode cX9_planned 4 = .ok (.iload_n 1, 1) := by decide +kernel
theorem dX9_planned_5 : decode cX9_planned 5 = .ok (.invokevirtual 183, 3) := by decide +kernel
theorem dX9_planned_8 : decode cX9_planned 8 = .ok (.ifCond .ne 5, 3) := by decide +kernel
theorem dX9_planned_11 : decode cX9_planned 11 = .ok (.iconst (-1), 1) := by decide +kernel
theorem dX9_planned_12 : decode cX9_planned 12 = .ok (.ireturn, 1) := by decide +kernel
theorem dX9_planned_13 : decode cX9_planned 13 = .ok (.aload_n 0, 1) := by decide +kernel
theorem dX9_planned_14 : decode cX9_planned 14 = .ok (.getfield 47, 3) := by decide +kernel
theorem dX9_planned_17 : decode cX9_planned 17 = .ok (.iload_n 1, 1) := by decide +kernel
theorem dX9_planned_18 : decode cX9_planned 18 = .ok (.invokevirtual 186, 3) := by decide +kernel
theorem dX9_planned_21 : decode cX9_planned 21 = .ok (.astore_n 3, 1) := by decide +kernel
theorem dX9_planned_22 : decode cX9_planned 22 = .ok (.iload_n 2, 1) := by decide +kernel
theorem dX9_planned_23 : decode cX9_planned 23 = .ok (.tableswitch 87 0 6 #[41, 46, 51, 56, 64, 69, 82], 41) := by decide +kernel
theorem dX9_planned_64 : decode cX9_planned 64 = .ok (.aload_n 3, 1) := by decide +kernel
theorem dX9_planned_65 : decode cX9_planned 65 = .ok (.getfield 190, 3) := by decide +kernel
theorem dX9_planned_68 : decode cX9_planned 68 = .ok (.ireturn, 1) := by decide +kernel
theorem dX9_planned_69 : decode cX9_planned 69 = .ok (.aload_n 3, 1) := by decide +kernel
theorem dX9_planned_70 : decode cX9_planned 70 = .ok (.getfield 193, 3) := by decide +kernel
theorem dX9_planned_73 : decode cX9_planned 73 = .ok (.ireturn, 1) := by decide +kernel
theorem dX9_planned_74 : decode cX9_planned 74 = .ok (.aload_n 3, 1) := by decide +kernel
theorem dX9_planned_75 : decode cX9_planned 75 = .ok (.getfield 196, 3) := by decide +kernel
theorem dX9_planned_78 : decode cX9_planned 78 = .ok (.ireturn, 1) := by decide +kernel
theorem dX9_planned_79 : decode cX9_planned 79 = .ok (.aload_n 3, 1) := by decide +kernel
theorem dX9_planned_80 : decode cX9_planned 80 = .ok (.getfield 199, 3) := by decide +kernel
theorem dX9_planned_83 : decode cX9_planned 83 = .ok (.getfield 202, 3) := by decide +kernel
theorem dX9_planned_86 : decode cX9_planned 86 = .ok (.ireturn, 1) := by decide +kernel
theorem dX9_planned_87 : decode cX9_planned 87 = .ok (.aload_n 3, 1) := by decide +kernel
theorem dX9_planned_88 : decode cX9_planned 88 = .ok (.getfield 205, 3) := by decide +kernel
theorem dX9_planned_91 : decode cX9_planned 91 = .ok (.ireturn, 1) := by decide +kernel
theorem dX9_planned_92 : decode cX9_planned 92 = .ok (.aload_n 3, 1) := by decide +kernel
theorem dX9_planned_93 : decode cX9_planned 93 = .ok (.getfield 207, 3) := by decide +kernel
theorem dX9_planned_96 : decode cX9_planned 96 = .ok (.ifCond .eq 7, 3) := by decide +kernel
theorem dX9_planned_99 : decode cX9_planned 99 = .ok (.iconst 1, 1) := by decide +kernel
theorem dX9_planned_100 : decode cX9_planned 100 = .ok (.goto 4, 3) := by decide +kernel
theorem dX9_planned_103 : decode cX9_planned 103 = .ok (.iconst 0, 1) := by decide +kernel
theorem dX9_planned_104 : decode cX9_planned 104 = .ok (.ireturn, 1) := by decide +kernel
theorem dX9_planned_105 : decode cX9_planned 105 = .ok (.aload_n 3, 1) := by decide +kernel
theorem dX9_planned_106 : decode cX9_planned 106 = .ok (.getfield 210, 3) := by decide +kernel
theorem dX9_planned_109 : decode cX9_planned 109 = .ok (.ireturn, 1) := by decide +kernel
theorem dX9_planned_110 : decode cX9_planned 110 = .ok (.iconst (-1), 1) := by decide +kernel
theorem dX9_planned_111 : decode cX9_planned 111 = .ok (.ireturn, 1) := by decide +kernel
set_option maxRecDepth 20000 in
theorem ggX9_newName_X3_hasPlanned : GoodIn wsX9_newName wsX3_hasPlanned := goodIn_r _ [6, 7, 43, 44, 45, 46, 47, 48, 49, 50, 51] (by decide +kernel) (by decide +kernel)
set_option maxRecDepth 20000 in
theorem gX9_newName_X3_hasPlanned : GoodIn wsX9_newName (wsV RX9 183 RX3 yX3_hasPlanned wsX3_hasPlanned) := goodIn_app (goodIn_of _ (by decide +kernel)) ggX9_newName_X3_hasPlanned
set_option maxRecDepth 20000 in
theorem ggX9_newName_X3_get : GoodIn wsX9_newName wsX3_get := goodIn_r _ [11, 12, 43, 44, 45, 46, 47, 48, 49, 50, 51] (by decide +kernel) (by decide +kernel)
set_option maxRecDepth 20000 in
theorem gX9_newName_X3_get : GoodIn wsX9_newName (wsV RX9 186 RX3 yX3_get wsX3_get) := goodIn_app (goodIn_of _ (by decide +kernel)) ggX9_newName_X3_get
set_option maxRecDepth 20000 in
theorem ggX9_newName_X2_byteAt : GoodIn wsX9_newName wsX2_byteAt := goodIn_r _ [17, 18, 19, 52, 53, 54] (by decide +kernel) (by decide +kernel)
set_option maxRecDepth 20000 in
theorem gX9_newName_X2_byteAt : GoodIn wsX9_newName (wsV RX9 213 RX2 yX2_byteAt wsX2_byteAt) := goodIn_app (goodIn_of _ (by decide +kernel)) ggX9_newName_X2_byteAt
theorem dX9_newName_0 : decode cX9_newName 0 = .ok (.aload_n 0, 1) := by decide +kernel
theorem dX9_newName_1 : decode cX9_newName 1 = .ok (.getfield 47, 3) := by decide +kernel
theorem dX9_newName_4 : decode cX9_newName 4 = .ok (.iload_n 1, 1) := by decide +kernel
theorem dX9_newName_5 : decode cX9_newName 5 = .ok (.invokevirtual 183, 3) := by decide +kernel
theorem dX9_newName_8 : decode cX9_newName 8 = .ok (.ifCond .eq 21, 3) := by decide +kernel
theorem dX9_newName_11 : decode cX9_newName 11 = .ok (.aload_n 0, 1) := by decide +kernel
theorem dX9_newName_12 : decode cX9_newName 12 = .ok (.getfield 47, 3) := by decide +kernel
theorem dX9_newName_15 : decode cX9_newName 15 = .ok (.iload_n 1, 1) := by decide +kernel
theorem dX9_newName_16 : decode cX9_newName 16 = .ok (.invokevirtual 186, 3) := by decide +kernel
theorem dX9_newName_19 : decode cX9_newName 19 = .ok (.getfield 199, 3) := by decide +kernel
theorem dX9_newName_22 : decode cX9_newName 22 = .ok (.iload_n 2, 1) := by decide +kernel
theorem dX9_newName_23 : decode cX9_newName 23 = .ok (.invokevirtual 213, 3) := by decide +kernel
theorem dX9_newName_26 : decode cX9_newName 26 = .ok (.goto 4, 3) := by decide +kernel
theorem dX9_newName_29 : decode cX9_newName 29 = .ok (.iconst (-1), 1) := by decide +kernel
theorem dX9_newName_30 : decode cX9_newName 30 = .ok (.ireturn, 1) := by decide +kernel
set_option maxRecDepth 20000 in
theorem ggX9_steps_X3_isMade : GoodIn wsX9_steps wsX3_isMade := goodIn_r _ [6, 7, 29, 30, 31, 32, 33, 34, 35, 36, 37] (by decide +kernel) (by decide +kernel)
set_option maxRecDepth 20000 in
theorem gX9_steps_X3_isMade : GoodIn wsX9_steps (wsV RX9 216 RX3 yX3_isMade wsX3_isMade) := goodIn_app (goodIn_of _ (by decide +kernel)) ggX9_steps_X3_isMade
set_option maxRecDepth 20000 in
theorem ggX9_steps_X3_troubles : GoodIn wsX9_steps wsX3_troubles := goodIn_r _ [11, 12, 29, 30, 31, 32, 33, 34, 35, 36, 37] (by decide +kernel) (by decide +kernel)
set_option maxRecDepth 20000 in
theorem gX9_steps_X3_troubles : GoodIn wsX9_steps (wsV RX9 219 RX3 yX3_troubles wsX3_troubles) := goodIn_app (goodIn_of _ (by decide +kernel)) ggX9_steps_X3_troubles
set_option maxRecDepth 20000 in
theorem ggX9_steps_X3_stepCount : GoodIn wsX9_steps wsX3_stepCount := goodIn_r _ [16, 17, 29, 30, 31, 32, 33, 34, 35, 36, 37] (by decide +kernel) (by decide +kernel)
set_option maxRecDepth 20000 in
theorem gX9_steps_X3_stepCount : GoodIn wsX9_steps (wsV RX9 222 RX3 yX3_stepCount wsX3_stepCount) := goodIn_app (goodIn_of _ (by decide +kernel)) ggX9_steps_X3_stepCount
theorem dX9_steps_0 : decode cX9_steps 0 = .ok (.aload_n 0, 1) := by decide +kernel
theorem dX9_steps_1 : decode cX9_steps 1 = .ok (.getfield 47, 3) := by decide +kernel
theorem dX9_steps_4 : decode cX9_steps 4 = .ok (.invokevirtual 216, 3) := by decide +kernel
theorem dX9_steps_7 : decode cX9_steps 7 = .ok (.ifCond .ne 5, 3) := by decide +kernel
theorem dX9_steps_10 : decode cX9_steps 10 = .ok (.iconst (-1), 1) := by decide +kernel
theorem dX9_steps_11 : decode cX9_steps 11 = .ok (.ireturn, 1) := by decide +kernel
theorem dX9_steps_12 : decode cX9_steps 12 = .ok (.aload_n 0, 1) := by decide +kernel
theorem dX9_steps_13 : decode cX9_steps 13 = .ok (.getfield 47, 3) := by decide +kernel
theorem dX9_steps_16 : decode cX9_steps 16 = .ok (.invokevirtual 219, 3) := by decide +kernel
theorem dX9_steps_19 : decode cX9_steps 19 = .ok (.ifCond .le 8, 3) := by decide +kernel
theorem dX9_steps_22 : decode cX9_steps 22 = .ok (.bipush (-2), 2) := by decide +kernel
theorem dX9_steps_24 : decode cX9_steps 24 = .ok (.goto 10, 3) := by decide +kernel
theorem dX9_steps_27 : decode cX9_steps 27 = .ok (.aload_n 0, 1) := by decide +kernel
theorem dX9_steps_28 : decode cX9_steps 28 = .ok (.getfield 47, 3) := by decide +kernel
theorem dX9_steps_31 : decode cX9_steps 31 = .ok (.invokevirtual 222, 3) := by decide +kernel
theorem dX9_steps_34 : decode cX9_steps 34 = .ok (.ireturn, 1) := by decide +kernel
set_option maxRecDepth 20000 in
theorem ggX9_step_X3_hasStep : GoodIn wsX9_step wsX3_hasStep := goodIn_r _ [6, 7, 35, 36, 37, 38, 39, 40, 41, 42, 43] (by decide +kernel) (by decide +kernel)
set_option maxRecDepth 20000 in
theorem gX9_step_X3_hasStep : GoodIn wsX9_step (wsV RX9 225 RX3 yX3_hasStep wsX3_hasStep) := goodIn_app (goodIn_of _ (by decide +kernel)) ggX9_step_X3_hasStep
set_option maxRecDepth 20000 in
theorem ggX9_step_X3_fileOfStep : GoodIn wsX9_step wsX3_fileOfStep := goodIn_r _ [11, 12, 13, 35, 36, 37, 38, 39, 40, 41, 42, 43, 44, 45, 46, 47, 48, 49, 50, 51, 52, 53, 54, 55] (by decide +kernel) (by decide +kernel)
set_option maxRecDepth 20000 in
theorem gX9_step_X3_fileOfStep : GoodIn wsX9_step (wsV RX9 228 RX3 yX3_fileOfStep wsX3_fileOfStep) := goodIn_app (goodIn_of _ (by decide +kernel)) ggX9_step_X3_fileOfStep
set_option maxRecDepth 20000 in
theorem ggX9_step_X3_goesToSpare : GoodIn wsX9_step wsX3_goesToSpare := goodIn_r _ [17, 18, 35, 36, 37, 38, 39, 40, 41, 42, 43] (by decide +kernel) (by decide +kernel)
set_option maxRecDepth 20000 in
theorem gX9_step_X3_goesToSpare : GoodIn wsX9_step (wsV RX9 231 RX3 yX3_goesToSpare wsX3_goesToSpare) := goodIn_app (goodIn_of _ (by decide +kernel)) ggX9_step_X3_goesToSpare
set_option maxRecDepth 20000 in
theorem ggX9_step_X3_comesFromSpare : GoodIn wsX9_step wsX3_comesFromSpare := goodIn_r _ [22, 23, 35, 36, 37, 38, 39, 40, 41, 42, 43] (by decide +kernel) (by decide +kernel)
set_option maxRecDepth 20000 in
theorem gX9_step_X3_comesFromSpare : GoodIn wsX9_step (wsV RX9 234 RX3 yX3_comesFromSpare wsX3_comesFromSpare) := goodIn_app (goodIn_of _ (by decide +kernel)) ggX9_step_X3_comesFromSpare
theorem dX9_step_0 : decode cX9_step 0 = .ok (.aload_n 0, 1) := by decide +kernel
theorem dX9_step_1 : decode cX9_step 1 = .ok (.getfield 47, 3) := by decide +kernel
theorem dX9_step_4 : decode cX9_step 4 = .ok (.iload_n 1, 1) := by decide +kernel
theorem dX9_step_5 : decode cX9_step 5 = .ok (.invokevirtual 225, 3) := by decide +kernel
theorem dX9_step_8 : decode cX9_step 8 = .ok (.ifCond .ne 5, 3) := by decide +kernel
theorem dX9_step_11 : decode cX9_step 11 = .ok (.iconst (-1), 1) := by decide +kernel
theorem dX9_step_12 : decode cX9_step 12 = .ok (.ireturn, 1) := by decide +kernel
theorem dX9_step_13 : decode cX9_step 13 = .ok (.iload_n 2, 1) := by decide +kernel
theorem dX9_step_14 : decode cX9_step 14 = .ok (.tableswitch 69 0 2 #[26, 35, 52], 26) := by decide +kernel
theorem dX9_step_40 : decode cX9_step 40 = .ok (.aload_n 0, 1) := by decide +kernel
theorem dX9_step_41 : decode cX9_step 41 = .ok (.getfield 47, 3) := by decide +kernel
theorem dX9_step_44 : decode cX9_step 44 = .ok (.iload_n 1, 1) := by decide +kernel
theorem dX9_step_45 : decode cX9_step 45 = .ok (.invokevirtual 228, 3) := by decide +kernel
theorem dX9_step_48 : decode cX9_step 48 = .ok (.ireturn, 1) := by decide +kernel
theorem dX9_step_49 : decode cX9_step 49 = .ok (.aload_n 0, 1) := by decide +kernel
theorem dX9_step_50 : decode cX9_step 50 = .ok (.getfield 47, 3) := by decide +kernel
theorem dX9_step_53 : decode cX9_step 53 = .ok (.iload_n 1, 1) := by decide +kernel
theorem dX9_step_54 : decode cX9_step 54 = .ok (.invokevirtual 231, 3) := by decide +kernel
theorem dX9_step_57 : decode cX9_step 57 = .ok (.ifCond .eq 7, 3) := by decide +kernel
theorem dX9_step_60 : decode cX9_step 60 = .ok (.iconst 1, 1) := by decide +kernel
theorem dX9_step_61 : decode cX9_step 61 = .ok (.goto 4, 3) := by decide +kernel
theorem dX9_step_64 : decode cX9_step 64 = .ok (.iconst 0, 1) := by decide +kernel
theorem dX9_step_65 : decode cX9_step 65 = .ok (.ireturn, 1) := by decide +kernel
theorem dX9_step_66 : decode cX9_step 66 = .ok (.aload_n 0, 1) := by decide +kernel
theorem dX9_step_67 : decode cX9_step 67 = .ok (.getfield 47, 3) := by decide +kernel
theorem dX9_step_70 : decode cX9_step 70 = .ok (.iload_n 1, 1) := by decide +kernel
theorem dX9_step_71 : decode cX9_step 71 = .ok (.invokevirtual 234, 3) := by decide +kernel
theorem dX9_step_74 : decode cX9_step 74 = .ok (.ifCond .eq 7, 3) := by decide +kernel
theorem dX9_step_77 : decode cX9_step 77 = .ok (.iconst 1, 1) := by decide +kernel
theorem dX9_step_78 : decode cX9_step 78 = .ok (.goto 4, 3) := by decide +kernel
theorem dX9_step_81 : decode cX9_step 81 = .ok (.iconst 0, 1) := by decide +kernel
theorem dX9_step_82 : decode cX9_step 82 = .ok (.ireturn, 1) := by decide +kernel
theorem dX9_step_83 : decode cX9_step 83 = .ok (.iconst (-1), 1) := by decide +kernel
theorem dX9_step_84 : decode cX9_step 84 = .ok (.ireturn, 1) := by decide +kernel
set_option maxRecDepth 20000 in
theorem ggX9_go_X3_canRun : GoodIn wsX9_go wsX3_canRun := goodIn_r _ [11, 12, 13, 125, 126, 127, 128, 129, 130, 131, 132, 133] (by decide +kernel) (by decide +kernel)
set_option maxRecDepth 20000 in
theorem gX9_go_X3_canRun : GoodIn wsX9_go (wsV RX9 237 RX3 yX3_canRun wsX3_canRun) := goodIn_app (goodIn_of _ (by decide +kernel)) ggX9_go_X3_canRun
set_option maxRecDepth 20000 in
theorem ggX9_go_X3_stepCount : GoodIn wsX9_go wsX3_stepCount := goodIn_r _ [17, 18, 125, 126, 127, 128, 129, 130, 131, 132, 133] (by decide +kernel) (by decide +kernel)
set_option maxRecDepth 20000 in
theorem gX9_go_X3_stepCount : GoodIn wsX9_go (wsV RX9 222 RX3 yX3_stepCount wsX3_stepCount) := goodIn_app (goodIn_of _ (by decide +kernel)) ggX9_go_X3_stepCount
set_option maxRecDepth 20000 in
theorem ggX9_go_X3_done : GoodIn wsX9_go wsX3_done := goodIn_r _ [22, 23, 125, 126, 127, 128, 129, 130, 131, 132, 133] (by decide +kernel) (by decide +kernel)
set_option maxRecDepth 20000 in
theorem gX9_go_X3_done : GoodIn wsX9_go (wsV RX9 240 RX3 yX3_done wsX3_done) := goodIn_app (goodIn_of _ (by decide +kernel)) ggX9_go_X3_done
set_option maxRecDepth 20000 in
theorem ggX9_go_X3_fileOfStep : GoodIn wsX9_go wsX3_fileOfStep := goodIn_r _ [27, 28, 29, 125, 126, 127, 128, 129, 130, 131, 132, 133, 134, 135, 136, 137, 138, 139, 140, 141, 142, 143, 144, 145] (by decide +kernel) (by decide +kernel)
set_option maxRecDepth 20000 in
theorem gX9_go_X3_fileOfStep : GoodIn wsX9_go (wsV RX9 228 RX3 yX3_fileOfStep wsX3_fileOfStep) := goodIn_app (goodIn_of _ (by decide +kernel)) ggX9_go_X3_fileOfStep
set_option maxRecDepth 20000 in
theorem ggX9_go_X3_startOfStep : GoodIn wsX9_go wsX3_startOfStep := goodIn_r _ [33, 28, 29, 34, 125, 126, 127, 128, 129, 130, 131, 132, 133, 134, 135, 136, 137, 138, 139, 140, 141, 142, 143, 144, 145] (by decide +kernel) (by decide +kernel)
set_option maxRecDepth 20000 in
theorem gX9_go_X3_startOfStep : GoodIn wsX9_go (wsV RX9 249 RX3 yX3_startOfStep wsX3_startOfStep) := goodIn_app (goodIn_of _ (by decide +kernel)) ggX9_go_X3_startOfStep
set_option maxRecDepth 20000 in
theorem ggX9_go_X3_goalOfStep : GoodIn wsX9_go wsX3_goalOfStep := goodIn_r _ [38, 28, 29, 39, 125, 126, 127, 128, 129, 130, 131, 132, 133, 134, 135, 136, 137, 138, 139, 140, 141, 142, 143, 144, 145] (by decide +kernel) (by decide +kernel)
set_option maxRecDepth 20000 in
theorem gX9_go_X3_goalOfStep : GoodIn wsX9_go (wsV RX9 252 RX3 yX3_goalOfStep wsX3_goalOfStep) := goodIn_app (goodIn_of _ (by decide +kernel)) ggX9_go_X3_goalOfStep
set_option maxRecDepth 20000 in
theorem ggX9_go_X9_tryMove : GoodIn wsX9_go wsX9_tryMove := goodIn_r _ [44, 45, 46, 47, 48, 49, 50, 51, 52, 53, 54, 55, 56, 57, 58, 59, 60, 61, 62, 63, 64, 65, 66, 67, 68, 69, 70, 71, 72, 73, 74, 75, 76, 77, 78, 79, 80, 81, 82, 83, 84, 85, 86, 43, 87, 88, 89, 90, 91, 92, 93, 94, 95, 96, 97, 98, 99, 100, 101, 102, 103, 104, 105, 106, 107, 108, 109, 114, 115, 116, 117, 118, 119, 120, 121, 122, 123, 124, 146, 147, 148, 149, 150, 151, 152, 153, 154, 155, 156] (by decide +kernel) (by decide +kernel)
set_option maxRecDepth 20000 in
theorem gX9_go_X9_tryMove : GoodIn wsX9_go (wsV RX9 255 RX9 yX9_tryMove wsX9_tryMove) := goodIn_app (goodIn_of _ (by decide +kernel)) ggX9_go_X9_tryMove
set_option maxRecDepth 20000 in
theorem ggX9_go_X3_setDone : GoodIn wsX9_go wsX3_setDone := goodIn_r _ [113, 23, 125, 126, 127, 128, 129, 130, 131, 132, 133] (by decide +kernel) (by decide +kernel)
set_option maxRecDepth 20000 in
theorem gX9_go_X3_setDone : GoodIn wsX9_go (wsV RX9 259 RX3 yX3_setDone wsX3_setDone) := goodIn_app (goodIn_of _ (by decide +kernel)) ggX9_go_X3_setDone
theorem dX9_go_0 : decode cX9_go 0 = .ok (.iload_n 1, 1) := by decide +kernel
