theorem dX9_go_1 : decode cX9_go 1 = .ok (.ifCond .lt 13, 3) := by decide +kernel
theorem dX9_go_4 : decode cX9_go 4 = .ok (.aload_n 0, 1) := by decide +kernel
theorem dX9_go_5 : decode cX9_go 5 = .ok (.getfield 47, 3) := by decide +kernel
theorem dX9_go_8 : decode cX9_go 8 = .ok (.invokevirtual 237, 3) := by decide +kernel
theorem dX9_go_11 : decode cX9_go 11 = .ok (.ifCond .ne 5, 3) := by decide +kernel
theorem dX9_go_14 : decode cX9_go 14 = .ok (.iconst (-1), 1) := by decide +kernel
theorem dX9_go_15 : decode cX9_go 15 = .ok (.ireturn, 1) := by decide +kernel
theorem dX9_go_16 : decode cX9_go 16 = .ok (.aload_n 0, 1) := by decide +kernel
theorem dX9_go_17 : decode cX9_go 17 = .ok (.iconst 0, 1) := by decide +kernel
theorem dX9_go_18 : decode cX9_go 18 = .ok (.putfield 69, 3) := by decide +kernel
theorem dX9_go_21 : decode cX9_go 21 = .ok (.iload_n 1, 1) := by decide +kernel
theorem dX9_go_22 : decode cX9_go 22 = .ok (.aload_n 0, 1) := by decide +kernel
theorem dX9_go_23 : decode cX9_go 23 = .ok (.getfield 47, 3) := by decide +kernel
theorem dX9_go_26 : decode cX9_go 26 = .ok (.invokevirtual 222, 3) := by decide +kernel
theorem dX9_go_29 : decode cX9_go 29 = .ok (.aload_n 0, 1) := by decide +kernel
theorem dX9_go_30 : decode cX9_go 30 = .ok (.getfield 47, 3) := by decide +kernel
theorem dX9_go_33 : decode cX9_go 33 = .ok (.invokevirtual 240, 3) := by decide +kernel
theorem dX9_go_36 : decode cX9_go 36 = .ok (.isub, 1) := by decide +kernel
theorem dX9_go_37 : decode cX9_go 37 = .ok (.invokestatic 243, 3) := by decide +kernel
theorem dX9_go_40 : decode cX9_go 40 = .ok (.istore_n 2, 1) := by decide +kernel
theorem dX9_go_41 : decode cX9_go 41 = .ok (.iconst 0, 1) := by decide +kernel
theorem dX9_go_42 : decode cX9_go 42 = .ok (.istore_n 3, 1) := by decide +kernel
theorem dX9_go_43 : decode cX9_go 43 = .ok (.iload_n 3, 1) := by decide +kernel
theorem dX9_go_44 : decode cX9_go 44 = .ok (.iload_n 2, 1) := by decide +kernel
theorem dX9_go_45 : decode cX9_go 45 = .ok (.if_icmp .ge 73, 3) := by decide +kernel
theorem dX9_go_48 : decode cX9_go 48 = .ok (.aload_n 0, 1) := by decide +kernel
theorem dX9_go_49 : decode cX9_go 49 = .ok (.getfield 47, 3) := by decide +kernel
theorem dX9_go_52 : decode cX9_go 52 = .ok (.invokevirtual 240, 3) := by decide +kernel
theorem dX9_go_55 : decode cX9_go 55 = .ok (.istore 4, 2) := by decide +kernel
theorem dX9_go_57 : decode cX9_go 57 = .ok (.aload_n 0, 1) := by decide +kernel
theorem dX9_go_58 : decode cX9_go 58 = .ok (.aload_n 0, 1) := by decide +kernel
theorem dX9_go_59 : decode cX9_go 59 = .ok (.aload_n 0, 1) := by decide +kernel
theorem dX9_go_60 : decode cX9_go 60 = .ok (.getfield 47, 3) := by decide +kernel
theorem dX9_go_63 : decode cX9_go 63 = .ok (.iload 4, 2) := by decide +kernel
theorem dX9_go_65 : decode cX9_go 65 = .ok (.invokevirtual 228, 3) := by decide +kernel
theorem dX9_go_68 : decode cX9_go 68 = .ok (.aload_n 0, 1) := by decide +kernel
theorem dX9_go_69 : decode cX9_go 69 = .ok (.getfield 47, 3) := by decide +kernel
theorem dX9_go_72 : decode cX9_go 72 = .ok (.iload 4, 2) := by decide +kernel
theorem dX9_go_74 : decode cX9_go 74 = .ok (.invokevirtual 249, 3) := by decide +kernel
theorem dX9_go_77 : decode cX9_go 77 = .ok (.aload_n 0, 1) := by decide +kernel
theorem dX9_go_78 : decode cX9_go 78 = .ok (.getfield 47, 3) := by decide +kernel
theorem dX9_go_81 : decode cX9_go 81 = .ok (.iload 4, 2) := by decide +kernel
theorem dX9_go_83 : decode cX9_go 83 = .ok (.invokevirtual 252, 3) := by decide +kernel
theorem dX9_go_86 : decode cX9_go 86 = .ok (.invokevirtual 255, 3) := by decide +kernel
theorem dX9_go_89 : decode cX9_go 89 = .ok (.putfield 69, 3) := by decide +kernel
theorem dX9_go_92 : decode cX9_go 92 = .ok (.aload_n 0, 1) := by decide +kernel
theorem dX9_go_93 : decode cX9_go 93 = .ok (.getfield 69, 3) := by decide +kernel
theorem dX9_go_96 : decode cX9_go 96 = .ok (.ifCond .eq 5, 3) := by decide +kernel
theorem dX9_go_99 : decode cX9_go 99 = .ok (.iload_n 3, 1) := by decide +kernel
theorem dX9_go_100 : decode cX9_go 100 = .ok (.ireturn, 1) := by decide +kernel
theorem dX9_go_101 : decode cX9_go 101 = .ok (.aload_n 0, 1) := by decide +kernel
theorem dX9_go_102 : decode cX9_go 102 = .ok (.getfield 47, 3) := by decide +kernel
theorem dX9_go_105 : decode cX9_go 105 = .ok (.iload 4, 2) := by decide +kernel
theorem dX9_go_107 : decode cX9_go 107 = .ok (.iconst 1, 1) := by decide +kernel
theorem dX9_go_108 : decode cX9_go 108 = .ok (.iadd, 1) := by decide +kernel
theorem dX9_go_109 : decode cX9_go 109 = .ok (.invokevirtual 259, 3) := by decide +kernel
theorem dX9_go_112 : decode cX9_go 112 = .ok (.iinc 3 1, 3) := by decide +kernel
theorem dX9_go_115 : decode cX9_go 115 = .ok (.goto (-72), 3) := by decide +kernel
theorem dX9_go_118 : decode cX9_go 118 = .ok (.iload_n 2, 1) := by decide +kernel
theorem dX9_go_119 : decode cX9_go 119 = .ok (.ireturn, 1) := by decide +kernel
set_option maxRecDepth 20000 in
theorem ggX9_back_X3_canRun : GoodIn wsX9_back wsX3_canRun := goodIn_r _ [11, 12, 13, 120, 121, 122, 123, 124, 125, 126, 127, 128] (by decide +kernel) (by decide +kernel)
set_option maxRecDepth 20000 in
theorem gX9_back_X3_canRun : GoodIn wsX9_back (wsV RX9 237 RX3 yX3_canRun wsX3_canRun) := goodIn_app (goodIn_of _ (by decide +kernel)) ggX9_back_X3_canRun
set_option maxRecDepth 20000 in
theorem ggX9_back_X3_done : GoodIn wsX9_back wsX3_done := goodIn_r _ [17, 18, 120, 121, 122, 123, 124, 125, 126, 127, 128] (by decide +kernel) (by decide +kernel)
set_option maxRecDepth 20000 in
theorem gX9_back_X3_done : GoodIn wsX9_back (wsV RX9 240 RX3 yX3_done wsX3_done) := goodIn_app (goodIn_of _ (by decide +kernel)) ggX9_back_X3_done
set_option maxRecDepth 20000 in
theorem ggX9_back_X3_fileOfStep : GoodIn wsX9_back wsX3_fileOfStep := goodIn_r _ [22, 23, 24, 120, 121, 122, 123, 124, 125, 126, 127, 128, 129, 130, 131, 132, 133, 134, 135, 136, 137, 138, 139, 140] (by decide +kernel) (by decide +kernel)
set_option maxRecDepth 20000 in
theorem gX9_back_X3_fileOfStep : GoodIn wsX9_back (wsV RX9 228 RX3 yX3_fileOfStep wsX3_fileOfStep) := goodIn_app (goodIn_of _ (by decide +kernel)) ggX9_back_X3_fileOfStep
set_option maxRecDepth 20000 in
theorem ggX9_back_X3_goalOfStep : GoodIn wsX9_back wsX3_goalOfStep := goodIn_r _ [28, 23, 24, 29, 120, 121, 122, 123, 124, 125, 126, 127, 128, 129, 130, 131, 132, 133, 134, 135, 136, 137, 138, 139, 140] (by decide +kernel) (by decide +kernel)
set_option maxRecDepth 20000 in
theorem gX9_back_X3_goalOfStep : GoodIn wsX9_back (wsV RX9 252 RX3 yX3_goalOfStep wsX3_goalOfStep) := goodIn_app (goodIn_of _ (by decide +kernel)) ggX9_back_X3_goalOfStep
set_option maxRecDepth 20000 in
theorem ggX9_back_X3_startOfStep : GoodIn wsX9_back wsX3_startOfStep := goodIn_r _ [33, 23, 24, 34, 120, 121, 122, 123, 124, 125, 126, 127, 128, 129, 130, 131, 132, 133, 134, 135, 136, 137, 138, 139, 140] (by decide +kernel) (by decide +kernel)
set_option maxRecDepth 20000 in
theorem gX9_back_X3_startOfStep : GoodIn wsX9_back (wsV RX9 249 RX3 yX3_startOfStep wsX3_startOfStep) := goodIn_app (goodIn_of _ (by decide +kernel)) ggX9_back_X3_startOfStep
set_option maxRecDepth 20000 in
theorem ggX9_back_X9_tryMove : GoodIn wsX9_back wsX9_tryMove := goodIn_r _ [39, 40, 41, 42, 43, 44, 45, 46, 47, 48, 49, 50, 51, 52, 53, 54, 55, 56, 57, 58, 59, 60, 61, 62, 63, 64, 65, 66, 67, 68, 69, 70, 71, 72, 73, 74, 75, 76, 77, 78, 79, 80, 81, 38, 82, 83, 84, 85, 86, 87, 88, 89, 90, 91, 92, 93, 94, 95, 96, 97, 98, 99, 100, 101, 102, 103, 104, 109, 110, 111, 112, 113, 114, 115, 116, 117, 118, 119, 141, 142, 143, 144, 145, 146, 147, 148, 149, 150, 151] (by decide +kernel) (by decide +kernel)
set_option maxRecDepth 20000 in
theorem gX9_back_X9_tryMove : GoodIn wsX9_back (wsV RX9 255 RX9 yX9_tryMove wsX9_tryMove) := goodIn_app (goodIn_of _ (by decide +kernel)) ggX9_back_X9_tryMove
set_option maxRecDepth 20000 in
theorem ggX9_back_X3_setDone : GoodIn wsX9_back wsX3_setDone := goodIn_r _ [108, 18, 120, 121, 122, 123, 124, 125, 126, 127, 128] (by decide +kernel) (by decide +kernel)
set_option maxRecDepth 20000 in
theorem gX9_back_X3_setDone : GoodIn wsX9_back (wsV RX9 259 RX3 yX3_setDone wsX3_setDone) := goodIn_app (goodIn_of _ (by decide +kernel)) ggX9_back_X3_setDone
theorem dX9_back_0 : decode cX9_back 0 = .ok (.iload_n 1, 1) := by decide +kernel
theorem dX9_back_1 : decode cX9_back 1 = .ok (.ifCond .lt 13, 3) := by decide +kernel
theorem dX9_back_4 : decode cX9_back 4 = .ok (.aload_n 0, 1) := by decide +kernel
theorem dX9_back_5 : decode cX9_back 5 = .ok (.getfield 47, 3) := by decide +kernel
theorem dX9_back_8 : decode cX9_back 8 = .ok (.invokevirtual 237, 3) := by decide +kernel
theorem dX9_back_11 : decode cX9_back 11 = .ok (.ifCond .ne 5, 3) := by decide +kernel
theorem dX9_back_14 : decode cX9_back 14 = .ok (.iconst (-1), 1) := by decide +kernel
theorem dX9_back_15 : decode cX9_back 15 = .ok (.ireturn, 1) := by decide +kernel
theorem dX9_back_16 : decode cX9_back 16 = .ok (.aload_n 0, 1) := by decide +kernel
theorem dX9_back_17 : decode cX9_back 17 = .ok (.iconst 0, 1) := by decide +kernel
theorem dX9_back_18 : decode cX9_back 18 = .ok (.putfield 69, 3) := by decide +kernel
theorem dX9_back_21 : decode cX9_back 21 = .ok (.iload_n 1, 1) := by decide +kernel
theorem dX9_back_22 : decode cX9_back 22 = .ok (.aload_n 0, 1) := by decide +kernel
theorem dX9_back_23 : decode cX9_back 23 = .ok (.getfield 47, 3) := by decide +kernel
theorem dX9_back_26 : decode cX9_back 26 = .ok (.invokevirtual 240, 3) := by decide +kernel
theorem dX9_back_29 : decode cX9_back 29 = .ok (.invokestatic 243, 3) := by decide +kernel
theorem dX9_back_32 : decode cX9_back 32 = .ok (.istore_n 2, 1) := by decide +kernel
theorem dX9_back_33 : decode cX9_back 33 = .ok (.iconst 0, 1) := by decide +kernel
theorem dX9_back_34 : decode cX9_back 34 = .ok (.istore_n 3, 1) := by decide +kernel
theorem dX9_back_35 : decode cX9_back 35 = .ok (.iload_n 3, 1) := by decide +kernel
theorem dX9_back_36 : decode cX9_back 36 = .ok (.iload_n 2, 1) := by decide +kernel
theorem dX9_back_37 : decode cX9_back 37 = .ok (.if_icmp .ge 73, 3) := by decide +kernel
theorem dX9_back_40 : decode cX9_back 40 = .ok (.aload_n 0, 1) := by decide +kernel
theorem dX9_back_41 : decode cX9_back 41 = .ok (.getfield 47, 3) := by decide +kernel
theorem dX9_back_44 : decode cX9_back 44 = .ok (.invokevirtual 240, 3) := by decide +kernel
theorem dX9_back_47 : decode cX9_back 47 = .ok (.iconst 1, 1) := by decide +kernel
theorem dX9_back_48 : decode cX9_back 48 = .ok (.isub, 1) := by decide +kernel
theorem dX9_back_49 : decode cX9_back 49 = .ok (.istore 4, 2) := by decide +kernel
theorem dX9_back_51 : decode cX9_back 51 = .ok (.aload_n 0, 1) := by decide +kernel
theorem dX9_back_52 : decode cX9_back 52 = .ok (.aload_n 0, 1) := by decide +kernel
theorem dX9_back_53 : decode cX9_back 53 = .ok (.aload_n 0, 1) := by decide +kernel
theorem dX9_back_54 : decode cX9_back 54 = .ok (.getfield 47, 3) := by decide +kernel
theorem dX9_back_57 : decode cX9_back 57 = .ok (.iload 4, 2) := by decide +kernel
theorem dX9_back_59 : decode cX9_back 59 = .ok (.invokevirtual 228, 3) := by decide +kernel
theorem dX9_back_62 : decode cX9_back 62 = .ok (.aload_n 0, 1) := by decide +kernel
theorem dX9_back_63 : decode cX9_back 63 = .ok (.getfield 47, 3) := by decide +kernel
theorem dX9_back_66 : decode cX9_back 66 = .ok (.iload 4, 2) := by decide +kernel
theorem dX9_back_68 : decode cX9_back 68 = .ok (.invokevirtual 252, 3) := by decide +kernel
theorem dX9_back_71 : decode cX9_back 71 = .ok (.aload_n 0, 1) := by decide +kernel
theorem dX9_back_72 : decode cX9_back 72 = .ok (.getfield 47, 3) := by decide +kernel
theorem dX9_back_75 : decode cX9_back 75 = .ok (.iload 4, 2) := by decide +kernel
theorem dX9_back_77 : decode cX9_back 77 = .ok (.invokevirtual 249, 3) := by decide +kernel
theorem dX9_back_80 : decode cX9_back 80 = .ok (.invokevirtual 255, 3) := by decide +kernel
theorem dX9_back_83 : decode cX9_back 83 = .ok (.putfield 69, 3) := by decide +kernel
theorem dX9_back_86 : decode cX9_back 86 = .ok (.aload_n 0, 1) := by decide +kernel
theorem dX9_back_87 : decode cX9_back 87 = .ok (.getfield 69, 3) := by decide +kernel
theorem dX9_back_90 : decode cX9_back 90 = .ok (.ifCond .eq 5, 3) := by decide +kernel
theorem dX9_back_93 : decode cX9_back 93 = .ok (.iload_n 3, 1) := by decide +kernel
theorem dX9_back_94 : decode cX9_back 94 = .ok (.ireturn, 1) := by decide +kernel
theorem dX9_back_95 : decode cX9_back 95 = .ok (.aload_n 0, 1) := by decide +kernel
theorem dX9_back_96 : decode cX9_back 96 = .ok (.getfield 47, 3) := by decide +kernel
theorem dX9_back_99 : decode cX9_back 99 = .ok (.iload 4, 2) := by decide +kernel
theorem dX9_back_101 : decode cX9_back 101 = .ok (.invokevirtual 259, 3) := by decide +kernel
theorem dX9_back_104 : decode cX9_back 104 = .ok (.iinc 3 1, 3) := by decide +kernel
theorem dX9_back_107 : decode cX9_back 107 = .ok (.goto (-72), 3) := by decide +kernel
theorem dX9_back_110 : decode cX9_back 110 = .ok (.iload_n 2, 1) := by decide +kernel
theorem dX9_back_111 : decode cX9_back 111 = .ok (.ireturn, 1) := by decide +kernel
theorem dX9_stuck_0 : decode cX9_stuck 0 = .ok (.aload_n 0, 1) := by decide +kernel
theorem dX9_stuck_1 : decode cX9_stuck 1 = .ok (.getfield 69, 3) := by decide +kernel
theorem dX9_stuck_4 : decode cX9_stuck 4 = .ok (.ireturn, 1) := by decide +kernel
set_option maxRecDepth 20000 in
theorem ggX9_link_X9_takePlace : GoodIn wsX9_link wsX9_takePlace := goodIn_r _ [7, 8, 2, 9, 10, 6, 11, 12, 13, 14, 15, 16, 17, 18, 19, 20, 21, 22, 23, 24, 25, 26, 27, 28, 29, 30, 31, 32, 33, 34, 35, 36, 37, 38, 39, 40, 41, 42, 43, 44, 45, 46, 47, 48, 49, 50, 51, 52, 53, 54, 55, 56, 78, 79, 80, 81, 82, 83, 84, 85, 86, 87, 88, 89, 90, 91, 92, 93] (by decide +kernel) (by decide +kernel)
set_option maxRecDepth 20000 in
theorem gX9_link_X9_takePlace : GoodIn wsX9_link (wsV RX9 94 RX9 yX9_takePlace wsX9_takePlace) := goodIn_app (goodIn_of _ (by decide +kernel)) ggX9_link_X9_takePlace
set_option maxRecDepth 20000 in
theorem ggX9_link_X1_isFull : GoodIn wsX9_link wsX1_isFull := goodIn_r _ [61, 62, 94, 95] (by decide +kernel) (by decide +kernel)
set_option maxRecDepth 20000 in
theorem gX9_link_X1_isFull : GoodIn wsX9_link (wsV RX9 262 RX1 yX1_isFull wsX1_isFull) := goodIn_app (goodIn_of _ (by decide +kernel)) ggX9_link_X1_isFull
set_option maxRecDepth 20000 in
theorem ggX9_link_X1_add : GoodIn wsX9_link wsX1_add := goodIn_r _ [66, 62, 67, 68, 69, 70, 39, 71, 41, 42, 72, 37, 38, 40, 73, 74, 75, 76, 52, 77, 49, 50, 51, 94, 95, 91, 92, 93] (by decide +kernel) (by decide +kernel)
set_option maxRecDepth 20000 in
theorem gX9_link_X1_add : GoodIn wsX9_link (wsV RX9 263 RX1 yX1_add wsX1_add) := goodIn_app (goodIn_of _ (by decide +kernel)) ggX9_link_X1_add
theorem dX9_link_0 : decode cX9_link 0 = .ok (.aload_n 0, 1) := by decide +kernel
theorem dX9_link_1 : decode cX9_link 1 = .ok (.iload_n 1, 1) := by decide +kernel
theorem dX9_link_2 : decode cX9_link 2 = .ok (.invokevirtual 94, 3) := by decide +kernel
theorem dX9_link_5 : decode cX9_link 5 = .ok (.ifCond .eq 27, 3) := by decide +kernel
theorem dX9_link_8 : decode cX9_link 8 = .ok (.aload_n 0, 1) := by decide +kernel
theorem dX9_link_9 : decode cX9_link 9 = .ok (.getfield 33, 3) := by decide +kernel
theorem dX9_link_12 : decode cX9_link 12 = .ok (.invokevirtual 262, 3) := by decide +kernel
theorem dX9_link_15 : decode cX9_link 15 = .ok (.ifCond .ne 17, 3) := by decide +kernel
theorem dX9_link_18 : decode cX9_link 18 = .ok (.aload_n 0, 1) := by decide +kernel
theorem dX9_link_19 : decode cX9_link 19 = .ok (.getfield 33, 3) := by decide +kernel
theorem dX9_link_22 : decode cX9_link 22 = .ok (.aload_n 0, 1) := by decide +kernel
theorem dX9_link_23 : decode cX9_link 23 = .ok (.getfield 19, 3) := by decide +kernel
theorem dX9_link_26 : decode cX9_link 26 = .ok (.invokevirtual 263, 3) := by decide +kernel
theorem dX9_link_29 : decode cX9_link 29 = .ok (.goto 4, 3) := by decide +kernel
theorem dX9_link_32 : decode cX9_link 32 = .ok (.iconst (-1), 1) := by decide +kernel
theorem dX9_link_33 : decode cX9_link 33 = .ok (.ireturn, 1) := by decide +kernel
set_option maxRecDepth 20000 in
theorem ggX9_linkOf_X1_has : GoodIn wsX9_linkOf wsX1_has := goodIn_r _ [7, 8, 57, 58] (by decide +kernel) (by decide +kernel)
set_option maxRecDepth 20000 in
theorem gX9_linkOf_X1_has : GoodIn wsX9_linkOf (wsV RX9 264 RX1 yX1_has wsX1_has) := goodIn_app (goodIn_of _ (by decide +kernel)) ggX9_linkOf_X1_has
set_option maxRecDepth 20000 in
theorem ggX9_linkOf_X1_get : GoodIn wsX9_linkOf wsX1_get := goodIn_r _ [12, 13, 57, 58] (by decide +kernel) (by decide +kernel)
set_option maxRecDepth 20000 in
theorem gX9_linkOf_X1_get : GoodIn wsX9_linkOf (wsV RX9 265 RX1 yX1_get wsX1_get) := goodIn_app (goodIn_of _ (by decide +kernel)) ggX9_linkOf_X1_get
set_option maxRecDepth 20000 in
theorem ggX9_linkOf_X7_findJust : GoodIn wsX9_linkOf wsX7_findJust := goodIn_r _ [18, 19, 20, 21, 22, 23, 24, 25, 26, 27, 28, 29, 30, 31, 32, 33, 34, 35, 36, 37, 38, 39, 40, 41, 59, 60, 61, 62, 63, 64, 54, 55, 56] (by decide +kernel) (by decide +kernel)
set_option maxRecDepth 20000 in
theorem gX9_linkOf_X7_findJust : GoodIn wsX9_linkOf (wsV RX9 267 RX7 yX7_findJust wsX7_findJust) := goodIn_app (goodIn_of _ (by decide +kernel)) ggX9_linkOf_X7_findJust
set_option maxRecDepth 20000 in
theorem ggX9_linkOf_X2_byteAt : GoodIn wsX9_linkOf wsX2_byteAt := goodIn_r _ [36, 32, 37, 54, 55, 56] (by decide +kernel) (by decide +kernel)
set_option maxRecDepth 20000 in
theorem gX9_linkOf_X2_byteAt : GoodIn wsX9_linkOf (wsV RX9 213 RX2 yX2_byteAt wsX2_byteAt) := goodIn_app (goodIn_of _ (by decide +kernel)) ggX9_linkOf_X2_byteAt
theorem dX9_linkOf_0 : decode cX9_linkOf 0 = .ok (.aload_n 0, 1) := by decide +kernel
theorem dX9_linkOf_1 : decode cX9_linkOf 1 = .ok (.getfield 33, 3) := by decide +kernel
theorem dX9_linkOf_4 : decode cX9_linkOf 4 = .ok (.iload_n 1, 1) := by decide +kernel
theorem dX9_linkOf_5 : decode cX9_linkOf 5 = .ok (.invokevirtual 264, 3) := by decide +kernel
theorem dX9_linkOf_8 : decode cX9_linkOf 8 = .ok (.ifCond .ne 5, 3) := by decide +kernel
theorem dX9_linkOf_11 : decode cX9_linkOf 11 = .ok (.iconst (-1), 1) := by decide +kernel
theorem dX9_linkOf_12 : decode cX9_linkOf 12 = .ok (.ireturn, 1) := by decide +kernel
theorem dX9_linkOf_13 : decode cX9_linkOf 13 = .ok (.aload_n 0, 1) := by decide +kernel
theorem dX9_linkOf_14 : decode cX9_linkOf 14 = .ok (.getfield 33, 3) := by decide +kernel
theorem dX9_linkOf_17 : decode cX9_linkOf 17 = .ok (.iload_n 1, 1) := by decide +kernel
theorem dX9_linkOf_18 : decode cX9_linkOf 18 = .ok (.invokevirtual 265, 3) := by decide +kernel
theorem dX9_linkOf_21 : decode cX9_linkOf 21 = .ok (.astore_n 3, 1) := by decide +kernel
theorem dX9_linkOf_22 : decode cX9_linkOf 22 = .ok (.iload_n 2, 1) := by decide +kernel
theorem dX9_linkOf_23 : decode cX9_linkOf 23 = .ok (.tableswitch 44 0 2 #[25, 30, 39], 25) := by decide +kernel
theorem dX9_linkOf_48 : decode cX9_linkOf 48 = .ok (.aload_n 3, 1) := by decide +kernel
theorem dX9_linkOf_49 : decode cX9_linkOf 49 = .ok (.getfield 202, 3) := by decide +kernel
theorem dX9_linkOf_52 : decode cX9_linkOf 52 = .ok (.ireturn, 1) := by decide +kernel
theorem dX9_linkOf_53 : decode cX9_linkOf 53 = .ok (.aload_n 0, 1) := by decide +kernel
theorem dX9_linkOf_54 : decode cX9_linkOf 54 = .ok (.getfield 26, 3) := by decide +kernel
theorem dX9_linkOf_57 : decode cX9_linkOf 57 = .ok (.aload_n 3, 1) := by decide +kernel
theorem dX9_linkOf_58 : decode cX9_linkOf 58 = .ok (.invokevirtual 267, 3) := by decide +kernel
theorem dX9_linkOf_61 : decode cX9_linkOf 61 = .ok (.ireturn, 1) := by decide +kernel
theorem dX9_linkOf_62 : decode cX9_linkOf 62 = .ok (.aload_n 3, 1) := by decide +kernel
theorem dX9_linkOf_63 : decode cX9_linkOf 63 = .ok (.getfield 270, 3) := by decide +kernel
theorem dX9_linkOf_66 : decode cX9_linkOf 66 = .ok (.ireturn, 1) := by decide +kernel
theorem dX9_linkOf_67 : decode cX9_linkOf 67 = .ok (.iload_n 2, 1) := by decide +kernel
theorem dX9_linkOf_68 : decode cX9_linkOf 68 = .ok (.bipush 10, 2) := by decide +kernel
theorem dX9_linkOf_70 : decode cX9_linkOf 70 = .ok (.if_icmp .lt 14, 3) := by decide +kernel
theorem dX9_linkOf_73 : decode cX9_linkOf 73 = .ok (.aload_n 3, 1) := by decide +kernel
theorem dX9_linkOf_74 : decode cX9_linkOf 74 = .ok (.iload_n 2, 1) := by decide +kernel
theorem dX9_linkOf_75 : decode cX9_linkOf 75 = .ok (.bipush 10, 2) := by decide +kernel
theorem dX9_linkOf_77 : decode cX9_linkOf 77 = .ok (.isub, 1) := by decide +kernel
theorem dX9_linkOf_78 : decode cX9_linkOf 78 = .ok (.invokevirtual 213, 3) := by decide +kernel
theorem dX9_linkOf_81 : decode cX9_linkOf 81 = .ok (.goto 4, 3) := by decide +kernel
theorem dX9_linkOf_84 : decode cX9_linkOf 84 = .ok (.iconst (-1), 1) := by decide +kernel
theorem dX9_linkOf_85 : decode cX9_linkOf 85 = .ok (.ireturn, 1) := by decide +kernel
set_option maxRecDepth 20000 in
theorem ggX9_of_X7_has : GoodIn wsX9_of wsX7_has := goodIn_r _ [8, 9, 10, 42, 43, 44, 45, 46, 47] (by decide +kernel) (by decide +kernel)
set_option maxRecDepth 20000 in
theorem gX9_of_X7_has : GoodIn wsX9_of (wsV RX9 109 RX7 yX7_has wsX7_has) := goodIn_app (goodIn_of _ (by decide +kernel)) ggX9_of_X7_has
set_option maxRecDepth 20000 in
theorem ggX9_of_X7_placeOf : GoodIn wsX9_of wsX7_placeOf := goodIn_r _ [14, 15, 42, 43, 44, 45, 46, 47] (by decide +kernel) (by decide +kernel)
set_option maxRecDepth 20000 in
theorem gX9_of_X7_placeOf : GoodIn wsX9_of (wsV RX9 132 RX7 yX7_placeOf wsX7_placeOf) := goodIn_app (goodIn_of _ (by decide +kernel)) ggX9_of_X7_placeOf
set_option maxRecDepth 20000 in
theorem ggX9_of_X2_isSpare : GoodIn wsX9_of wsX2_isSpare := goodIn_r _ [20, 21, 22, 23, 19, 24, 25, 26, 39, 40, 41] (by decide +kernel) (by decide +kernel)
set_option maxRecDepth 20000 in
theorem gX9_of_X2_isSpare : GoodIn wsX9_of (wsV RX9 278 RX2 yX2_isSpare wsX2_isSpare) := goodIn_app (goodIn_of _ (by decide +kernel)) ggX9_of_X2_isSpare
set_option maxRecDepth 20000 in
theorem ggX9_of_X2_byteAt : GoodIn wsX9_of wsX2_byteAt := goodIn_r _ [24, 25, 26, 39, 40, 41] (by decide +kernel) (by decide +kernel)
set_option maxRecDepth 20000 in
theorem gX9_of_X2_byteAt : GoodIn wsX9_of (wsV RX9 213 RX2 yX2_byteAt wsX2_byteAt) := goodIn_app (goodIn_of _ (by decide +kernel)) ggX9_of_X2_byteAt
theorem dX9_of_0 : decode cX9_of 0 = .ok (.aload_n 0, 1) := by decide +kernel
theorem dX9_of_1 : decode cX9_of 1 = .ok (.getfield 26, 3) := by decide +kernel
theorem dX9_of_4 : decode cX9_of 4 = .ok (.iload_n 1, 1) := by decide +kernel
theorem dX9_of_5 : decode cX9_of 5 = .ok (.invokevirtual 109, 3) := by decide +kernel
theorem dX9_of_8 : decode cX9_of 8 = .ok (.ifCond .ne 14, 3) := by decide +kernel
theorem dX9_of_11 : decode cX9_of 11 = .ok (.new 271, 3) := by decide +kernel
theorem dX9_of_14 : decode cX9_of 14 = .ok (.dup, 1) := by decide +kernel
theorem dX9_of_15 : decode cX9_of 15 = .ok (.ldc_w 273, 3) := by decide +kernel
theorem dX9_of_18 : decode cX9_of 18 = .ok (.invokespecial 275, 3) := by decide +kernel
theorem dX9_of_21 : decode cX9_of 21 = .ok (.athrow, 1) := by decide +kernel
theorem dX9_of_22 : decode cX9_of 22 = .ok (.aload_n 0, 1) := by decide +kernel
theorem dX9_of_23 : decode cX9_of 23 = .ok (.getfield 26, 3) := by decide +kernel
theorem dX9_of_26 : decode cX9_of 26 = .ok (.iload_n 1, 1) := by decide +kernel
theorem dX9_of_27 : decode cX9_of 27 = .ok (.invokevirtual 132, 3) := by decide +kernel
theorem dX9_of_30 : decode cX9_of 30 = .ok (.astore_n 3, 1) := by decide +kernel
theorem dX9_of_31 : decode cX9_of 31 = .ok (.iload_n 2, 1) := by decide +kernel
theorem dX9_of_32 : decode cX9_of 32 = .ok (.tableswitch 51 0 2 #[28, 33, 38], 28) := by decide +kernel
theorem dX9_of_60 : decode cX9_of 60 = .ok (.aload_n 3, 1) := by decide +kernel
theorem dX9_of_61 : decode cX9_of 61 = .ok (.getfield 202, 3) := by decide +kernel
theorem dX9_of_64 : decode cX9_of 64 = .ok (.ireturn, 1) := by decide +kernel
theorem dX9_of_65 : decode cX9_of 65 = .ok (.aload_n 3, 1) := by decide +kernel
theorem dX9_of_66 : decode cX9_of 66 = .ok (.getfield 270, 3) := by decide +kernel
theorem dX9_of_69 : decode cX9_of 69 = .ok (.ireturn, 1) := by decide +kernel
theorem dX9_of_70 : decode cX9_of 70 = .ok (.aload_n 3, 1) := by decide +kernel
theorem dX9_of_71 : decode cX9_of 71 = .ok (.invokevirtual 278, 3) := by decide +kernel
theorem dX9_of_74 : decode cX9_of 74 = .ok (.ifCond .eq 7, 3) := by decide +kernel
theorem dX9_of_77 : decode cX9_of 77 = .ok (.iconst 1, 1) := by decide +kernel
theorem dX9_of_78 : decode cX9_of 78 = .ok (.goto 4, 3) := by decide +kernel
theorem dX9_of_81 : decode cX9_of 81 = .ok (.iconst 0, 1) := by decide +kernel
theorem dX9_of_82 : decode cX9_of 82 = .ok (.ireturn, 1) := by decide +kernel
theorem dX9_of_83 : decode cX9_of 83 = .ok (.iload_n 2, 1) := by decide +kernel
theorem dX9_of_84 : decode cX9_of 84 = .ok (.bipush 10, 2) := by decide +kernel
theorem dX9_of_86 : decode cX9_of 86 = .ok (.if_icmp .lt 14, 3) := by decide +kernel
theorem dX9_of_89 : decode cX9_of 89 = .ok (.iload_n 2, 1) := by decide +kernel
theorem dX9_of_90 : decode cX9_of 90 = .ok (.bipush 10, 2) := by decide +kernel
theorem dX9_of_92 : decode cX9_of 92 = .ok (.isub, 1) := by decide +kernel
theorem dX9_of_93 : decode cX9_of 93 = .ok (.aload_n 3, 1) := by decide +kernel
theorem dX9_of_94 : decode cX9_of 94 = .ok (.getfield 270, 3) := by decide +kernel
theorem dX9_of_97 : decode cX9_of 97 = .ok (.if_icmp .lt 14, 3) := by decide +kernel
theorem dX9_of_100 : decode cX9_of 100 = .ok (.new 271, 3) := by decide +kernel
theorem dX9_of_103 : decode cX9_of 103 = .ok (.dup, 1) := by decide +kernel
theorem dX9_of_104 : decode cX9_of 104 = .ok (.ldc_w 281, 3) := by decide +kernel
theorem dX9_of_107 : decode cX9_of 107 = .ok (.invokespecial 275, 3) := by decide +kernel
theorem dX9_of_110 : decode cX9_of 110 = .ok (.athrow, 1) := by decide +kernel
theorem dX9_of_111 : decode cX9_of 111 = .ok (.aload_n 3, 1) := by decide +kernel
theorem dX9_of_112 : decode cX9_of 112 = .ok (.iload_n 2, 1) := by decide +kernel
theorem dX9_of_113 : decode cX9_of 113 = .ok (.bipush 10, 2) := by decide +kernel
theorem dX9_of_115 : decode cX9_of 115 = .ok (.isub, 1) := by decide +kernel
theorem dX9_of_116 : decode cX9_of 116 = .ok (.invokevirtual 213, 3) := by decide +kernel
theorem dX9_of_119 : decode cX9_of 119 = .ok (.ireturn, 1) := by decide +kernel
set_option maxRecDepth 20000 in
theorem ggX9_count_X7_howManyCame : GoodIn wsX9_count wsX7_howManyCame := goodIn_r _ [9, 10, 82, 83, 84, 85, 86, 87] (by decide +kernel) (by decide +kernel)
set_option maxRecDepth 20000 in
theorem gX9_count_X7_howManyCame : GoodIn wsX9_count (wsV RX9 283 RX7 yX7_howManyCame wsX7_howManyCame) := goodIn_app (goodIn_of _ (by decide +kernel)) ggX9_count_X7_howManyCame
set_option maxRecDepth 20000 in
theorem ggX9_count_X7_howManyAre : GoodIn wsX9_count wsX7_howManyAre := goodIn_r _ [14, 15, 82, 83, 84, 85, 86, 87] (by decide +kernel) (by decide +kernel)
set_option maxRecDepth 20000 in
theorem gX9_count_X7_howManyAre : GoodIn wsX9_count (wsV RX9 72 RX7 yX7_howManyAre wsX7_howManyAre) := goodIn_app (goodIn_of _ (by decide +kernel)) ggX9_count_X7_howManyAre
set_option maxRecDepth 20000 in
theorem ggX9_count_X7_isFolding : GoodIn wsX9_count wsX7_isFolding := goodIn_r _ [19, 20, 82, 83, 84, 85, 86, 87] (by decide +kernel) (by decide +kernel)
set_option maxRecDepth 20000 in
theorem gX9_count_X7_isFolding : GoodIn wsX9_count (wsV RX9 286 RX7 yX7_isFolding wsX7_isFolding) := goodIn_app (goodIn_of _ (by decide +kernel)) ggX9_count_X7_isFolding
set_option maxRecDepth 20000 in
theorem ggX9_count_X8_length : GoodIn wsX9_count wsX8_length := goodIn_r _ [25, 26, 88, 89] (by decide +kernel) (by decide +kernel)
set_option maxRecDepth 20000 in
theorem gX9_count_X8_length : GoodIn wsX9_count (wsV RX9 88 RX8 yX8_length wsX8_length) := goodIn_app (goodIn_of _ (by decide +kernel)) ggX9_count_X8_length
set_option maxRecDepth 20000 in
theorem ggX9_count_X3_size : GoodIn wsX9_count wsX3_size := goodIn_r _ [31, 32, 90, 91, 92, 93, 94, 95, 96, 97, 98] (by decide +kernel) (by decide +kernel)
set_option maxRecDepth 20000 in
theorem gX9_count_X3_size : GoodIn wsX9_count (wsV RX9 164 RX3 yX3_size wsX3_size) := goodIn_app (goodIn_of _ (by decide +kernel)) ggX9_count_X3_size
set_option maxRecDepth 20000 in
theorem ggX9_count_X3_troubles : GoodIn wsX9_count wsX3_troubles := goodIn_r _ [36, 37, 90, 91, 92, 93, 94, 95, 96, 97, 98] (by decide +kernel) (by decide +kernel)
set_option maxRecDepth 20000 in
theorem gX9_count_X3_troubles : GoodIn wsX9_count (wsV RX9 219 RX3 yX3_troubles wsX3_troubles) := goodIn_app (goodIn_of _ (by decide +kernel)) ggX9_count_X3_troubles
set_option maxRecDepth 20000 in
theorem ggX9_count_X3_done : GoodIn wsX9_count wsX3_done := goodIn_r _ [41, 42, 90, 91, 92, 93, 94, 95, 96, 97, 98] (by decide +kernel) (by decide +kernel)
set_option maxRecDepth 20000 in
theorem gX9_count_X3_done : GoodIn wsX9_count (wsV RX9 240 RX3 yX3_done wsX3_done) := goodIn_app (goodIn_of _ (by decide +kernel)) ggX9_count_X3_done
set_option maxRecDepth 20000 in
theorem ggX9_count_X1_size : GoodIn wsX9_count wsX1_size := goodIn_r _ [47, 48, 99, 100] (by decide +kernel) (by decide +kernel)
set_option maxRecDepth 20000 in
theorem gX9_count_X1_size : GoodIn wsX9_count (wsV RX9 289 RX1 yX1_size wsX1_size) := goodIn_app (goodIn_of _ (by decide +kernel)) ggX9_count_X1_size
set_option maxRecDepth 20000 in
theorem ggX9_count_X3_isUnderWay : GoodIn wsX9_count wsX3_isUnderWay := goodIn_r _ [52, 42, 53, 90, 91, 92, 93, 94, 95, 96, 97, 98] (by decide +kernel) (by decide +kernel)
set_option maxRecDepth 20000 in
theorem gX9_count_X3_isUnderWay : GoodIn wsX9_count (wsV RX9 150 RX3 yX3_isUnderWay wsX3_isUnderWay) := goodIn_app (goodIn_of _ (by decide +kernel)) ggX9_count_X3_isUnderWay
set_option maxRecDepth 20000 in
theorem ggX9_count_X7_howManySpare : GoodIn wsX9_count wsX7_howManySpare := goodIn_r _ [57, 10, 58, 59, 60, 61, 62, 63, 64, 65, 66, 67, 68, 69, 70, 82, 83, 84, 85, 86, 87, 101, 102, 103] (by decide +kernel) (by decide +kernel)
set_option maxRecDepth 20000 in
theorem gX9_count_X7_howManySpare : GoodIn wsX9_count (wsV RX9 290 RX7 yX7_howManySpare wsX7_howManySpare) := goodIn_app (goodIn_of _ (by decide +kernel)) ggX9_count_X7_howManySpare
theorem dX9_count_0 : decode cX9_count 0 = .ok (.iload_n 1, 1) := by decide +kernel
theorem dX9_count_1 : decode cX9_count 1 = .ok (.tableswitch 151 0 9 #[55, 63, 71, 87, 95, 103, 111, 119, 127, 143], 55) := by decide +kernel
theorem dX9_count_56 : decode cX9_count 56 = .ok (.aload_n 0, 1) := by decide +kernel
theorem dX9_count_57 : decode cX9_count 57 = .ok (.getfield 26, 3) := by decide +kernel
theorem dX9_count_60 : decode cX9_count 60 = .ok (.invokevirtual 283, 3) := by decide +kernel
theorem dX9_count_63 : decode cX9_count 63 = .ok (.ireturn, 1) := by decide +kernel
theorem dX9_count_64 : decode cX9_count 64 = .ok (.aload_n 0, 1) := by decide +kernel
theorem dX9_count_65 : decode cX9_count 65 = .ok (.getfield 26, 3) := by decide +kernel
theorem dX9_count_68 : decode cX9_count 68 = .ok (.invokevirtual 72, 3) := by decide +kernel
theorem dX9_count_71 : decode cX9_count 71 = .ok (.ireturn, 1) := by decide +kernel
theorem dX9_count_72 : decode cX9_count 72 = .ok (.aload_n 0, 1) := by decide +kernel
theorem dX9_count_73 : decode cX9_count 73 = .ok (.getfield 26, 3) := by decide +kernel
theorem dX9_count_76 : decode cX9_count 76 = .ok (.invokevirtual 286, 3) := by decide +kernel
theorem dX9_count_79 : decode cX9_count 79 = .ok (.ifCond .eq 7, 3) := by decide +kernel
theorem dX9_count_82 : decode cX9_count 82 = .ok (.iconst 1, 1) := by decide +kernel
theorem dX9_count_83 : decode cX9_count 83 = .ok (.goto 4, 3) := by decide +kernel
theorem dX9_count_86 : decode cX9_count 86 = .ok (.iconst 0, 1) := by decide +kernel
theorem dX9_count_87 : decode cX9_count 87 = .ok (.ireturn, 1) := by decide +kernel
theorem dX9_count_88 : decode cX9_count 88 = .ok (.aload_n 0, 1) := by decide +kernel
theorem dX9_count_89 : decode cX9_count 89 = .ok (.getfield 12, 3) := by decide +kernel
theorem dX9_count_92 : decode cX9_count 92 = .ok (.invokevirtual 88, 3) := by decide +kernel
theorem dX9_count_95 : decode cX9_count 95 = .ok (.ireturn, 1) := by decide +kernel
theorem dX9_count_96 : decode cX9_count 96 = .ok (.aload_n 0, 1) := by decide +kernel
theorem dX9_count_97 : decode cX9_count 97 = .ok (.getfield 47, 3) := by decide +kernel
theorem dX9_count_100 : decode cX9_count 100 = .ok (.invokevirtual 164, 3) := by decide +kernel
theorem dX9_count_103 : decode cX9_count 103 = .ok (.ireturn, 1) := by decide +kernel
theorem dX9_count_104 : decode cX9_count 104 = .ok (.aload_n 0, 1) := by decide +kernel
theorem dX9_count_105 : decode cX9_count 105 = .ok (.getfield 47, 3) := by decide +kernel
theorem dX9_count_108 : decode cX9_count 108 = .ok (.invokevirtual 219, 3) := by decide +kernel
theorem dX9_count_111 : decode cX9_count 111 = .ok (.ireturn, 1) := by decide +kernel
theorem dX9_count_112 : decode cX9_count 112 = .ok (.aload_n 0, 1) := by decide +kernel
theorem dX9_count_113 : decode cX9_count 113 = .ok (.getfield 47, 3) := by decide +kernel
theorem dX9_count_116 : decode cX9_count 116 = .ok (.invokevirtual 240, 3) := by decide +kernel
theorem dX9_count_119 : decode cX9_count 119 = .ok (.ireturn, 1) := by decide +kernel
theorem dX9_count_120 : decode cX9_count 120 = .ok (.aload_n 0, 1) := by decide +kernel
theorem dX9_count_121 : decode cX9_count 121 = .ok (.getfield 33, 3) := by decide +kernel
theorem dX9_count_124 : decode cX9_count 124 = .ok (.invokevirtual 289, 3) := by decide +kernel
theorem dX9_count_127 : decode cX9_count 127 = .ok (.ireturn, 1) := by decide +kernel
theorem dX9_count_128 : decode cX9_count 128 = .ok (.aload_n 0, 1) := by decide +kernel
theorem dX9_count_129 : decode cX9_count 129 = .ok (.getfield 47, 3) := by decide +kernel
theorem dX9_count_132 : decode cX9_count 132 = .ok (.invokevirtual 150, 3) := by decide +kernel
theorem dX9_count_135 : decode cX9_count 135 = .ok (.ifCond .eq 7, 3) := by decide +kernel
theorem dX9_count_138 : decode cX9_count 138 = .ok (.iconst 1, 1) := by decide +kernel
theorem dX9_count_139 : decode cX9_count 139 = .ok (.goto 4, 3) := by decide +kernel
theorem dX9_count_142 : decode cX9_count 142 = .ok (.iconst 0, 1) := by decide +kernel
theorem dX9_count_143 : decode cX9_count 143 = .ok (.ireturn, 1) := by decide +kernel
theorem dX9_count_144 : decode cX9_count 144 = .ok (.aload_n 0, 1) := by decide +kernel
theorem dX9_count_145 : decode cX9_count 145 = .ok (.getfield 26, 3) := by decide +kernel
theorem dX9_count_148 : decode cX9_count 148 = .ok (.invokevirtual 290, 3) := by decide +kernel
theorem dX9_count_151 : decode cX9_count 151 = .ok (.ireturn, 1) := by decide +kernel
theorem dX9_count_152 : decode cX9_count 152 = .ok (.iconst (-1), 1) := by decide +kernel
theorem dX9_count_153 : decode cX9_count 153 = .ok (.ireturn, 1) := by decide +kernel
theorem dX9_isFolder_0 : decode cX9_isFolder 0 = .ok (.iload_n 0, 1) := by decide +kernel
theorem dX9_isFolder_1 : decode cX9_isFolder 1 = .ok (.ifCond .lt 13, 3) := by decide +kernel
theorem dX9_isFolder_4 : decode cX9_isFolder 4 = .ok (.iload_n 0, 1) := by decide +kernel
theorem dX9_isFolder_5 : decode cX9_isFolder 5 = .ok (.bipush 6, 2) := by decide +kernel
theorem dX9_isFolder_7 : decode cX9_isFolder 7 = .ok (.if_icmp .ge 7, 3) := by decide +kernel
theorem dX9_isFolder_10 : decode cX9_isFolder 10 = .ok (.iconst 1, 1) := by decide +kernel
theorem dX9_isFolder_11 : decode cX9_isFolder 11 = .ok (.goto 4, 3) := by decide +kernel
theorem dX9_isFolder_14 : decode cX9_isFolder 14 = .ok (.iconst 0, 1) := by decide +kernel
theorem dX9_isFolder_15 : decode cX9_isFolder 15 = .ok (.ireturn, 1) := by decide +kernel
set_option maxRecDepth 20000 in
theorem ggX9_takePlace_X9_isFolder : GoodIn wsX9_takePlace wsX9_isFolder := goodIn_r _ [6] (by decide +kernel) (by decide +kernel)
set_option maxRecDepth 20000 in
theorem gX9_takePlace_X9_isFolder : GoodIn wsX9_takePlace (va_wsS RX9 147 yX9_isFolder wsX9_isFolder) := goodIn_app (goodIn_of _ (by decide +kernel)) ggX9_takePlace_X9_isFolder
set_option maxRecDepth 20000 in
theorem ggX9_takePlace_X8_isName : GoodIn wsX9_takePlace wsX8_isName := goodIn_r _ [11, 12, 13, 14, 15, 10, 16, 17, 18, 19, 20, 21, 22, 23, 24, 25, 26, 27, 28, 29, 30, 63, 64] (by decide +kernel) (by decide +kernel)
set_option maxRecDepth 20000 in
theorem gX9_takePlace_X8_isName : GoodIn wsX9_takePlace (wsV RX9 293 RX8 yX8_isName wsX8_isName) := goodIn_app (goodIn_of _ (by decide +kernel)) ggX9_takePlace_X8_isName
set_option maxRecDepth 20000 in
theorem ggX9_takePlace_X2_begin : GoodIn wsX9_takePlace wsX2_begin := goodIn_r _ [35, 36, 37, 65, 66, 67] (by decide +kernel) (by decide +kernel)
set_option maxRecDepth 20000 in
theorem gX9_takePlace_X2_begin : GoodIn wsX9_takePlace (wsV RX9 296 RX2 yX2_begin wsX2_begin) := goodIn_app (goodIn_of _ (by decide +kernel)) ggX9_takePlace_X2_begin
set_option maxRecDepth 20000 in
theorem ggX9_takePlace_X8_length : GoodIn wsX9_takePlace wsX8_length := goodIn_r _ [41, 12, 63, 64] (by decide +kernel) (by decide +kernel)
set_option maxRecDepth 20000 in
theorem gX9_takePlace_X8_length : GoodIn wsX9_takePlace (wsV RX9 88 RX8 yX8_length wsX8_length) := goodIn_app (goodIn_of _ (by decide +kernel)) ggX9_takePlace_X8_length
set_option maxRecDepth 20000 in
theorem ggX9_takePlace_X8_byteAt : GoodIn wsX9_takePlace wsX8_byteAt := goodIn_r _ [16, 12, 17, 63, 64] (by decide +kernel) (by decide +kernel)
set_option maxRecDepth 20000 in
theorem gX9_takePlace_X8_byteAt : GoodIn wsX9_takePlace (wsV RX9 298 RX8 yX8_byteAt wsX8_byteAt) := goodIn_app (goodIn_of _ (by decide +kernel)) ggX9_takePlace_X8_byteAt
set_option maxRecDepth 20000 in
theorem ggX9_takePlace_X2_add : GoodIn wsX9_takePlace wsX2_add := goodIn_r _ [46, 37, 47, 65, 66, 67] (by decide +kernel) (by decide +kernel)
set_option maxRecDepth 20000 in
theorem gX9_takePlace_X2_add : GoodIn wsX9_takePlace (wsV RX9 299 RX2 yX2_add wsX2_add) := goodIn_app (goodIn_of _ (by decide +kernel)) ggX9_takePlace_X2_add
set_option maxRecDepth 20000 in
theorem ggX9_takePlace_X8_clear : GoodIn wsX9_takePlace wsX8_clear := goodIn_r _ [51, 12, 63, 64] (by decide +kernel) (by decide +kernel)
set_option maxRecDepth 20000 in
theorem gX9_takePlace_X8_clear : GoodIn wsX9_takePlace (wsV RX9 123 RX8 yX8_clear wsX8_clear) := goodIn_app (goodIn_of _ (by decide +kernel)) ggX9_takePlace_X8_clear
theorem dX9_takePlace_0 : decode cX9_takePlace 0 = .ok (.iload_n 1, 1) := by decide +kernel
theorem dX9_takePlace_1 : decode cX9_takePlace 1 = .ok (.invokestatic 147, 3) := by decide +kernel
theorem dX9_takePlace_4 : decode cX9_takePlace 4 = .ok (.ifCond .eq 17, 3) := by decide +kernel
theorem dX9_takePlace_7 : decode cX9_takePlace 7 = .ok (.aload_n 0, 1) := by decide +kernel
theorem dX9_takePlace_8 : decode cX9_takePlace 8 = .ok (.getfield 12, 3) := by decide +kernel
theorem dX9_takePlace_11 : decode cX9_takePlace 11 = .ok (.invokevirtual 293, 3) := by decide +kernel
theorem dX9_takePlace_14 : decode cX9_takePlace 14 = .ok (.ifCond .eq 7, 3) := by decide +kernel
theorem dX9_takePlace_17 : decode cX9_takePlace 17 = .ok (.iconst 1, 1) := by decide +kernel
theorem dX9_takePlace_18 : decode cX9_takePlace 18 = .ok (.goto 4, 3) := by decide +kernel
theorem dX9_takePlace_21 : decode cX9_takePlace 21 = .ok (.iconst 0, 1) := by decide +kernel
theorem dX9_takePlace_22 : decode cX9_takePlace 22 = .ok (.istore_n 2, 1) := by decide +kernel
theorem dX9_takePlace_23 : decode cX9_takePlace 23 = .ok (.iload_n 2, 1) := by decide +kernel
theorem dX9_takePlace_24 : decode cX9_takePlace 24 = .ok (.ifCond .eq 45, 3) := by decide +kernel
theorem dX9_takePlace_27 : decode cX9_takePlace 27 = .ok (.aload_n 0, 1) := by decide +kernel
theorem dX9_takePlace_28 : decode cX9_takePlace 28 = .ok (.getfield 19, 3) := by decide +kernel
theorem dX9_takePlace_31 : decode cX9_takePlace 31 = .ok (.iload_n 1, 1) := by decide +kernel
theorem dX9_takePlace_32 : decode cX9_takePlace 32 = .ok (.invokevirtual 296, 3) := by decide +kernel
theorem dX9_takePlace_35 : decode cX9_takePlace 35 = .ok (.iconst 0, 1) := by decide +kernel
theorem dX9_takePlace_36 : decode cX9_takePlace 36 = .ok (.istore_n 3, 1) := by decide +kernel
theorem dX9_takePlace_37 : decode cX9_takePlace 37 = .ok (.iload_n 3, 1) := by decide +kernel
theorem dX9_takePlace_38 : decode cX9_takePlace 38 = .ok (.aload_n 0, 1) := by decide +kernel
theorem dX9_takePlace_39 : decode cX9_takePlace 39 = .ok (.getfield 12, 3) := by decide +kernel
theorem dX9_takePlace_42 : decode cX9_takePlace 42 = .ok (.invokevirtual 88, 3) := by decide +kernel
theorem dX9_takePlace_45 : decode cX9_takePlace 45 = .ok (.if_icmp .ge 24, 3) := by decide +kernel
theorem dX9_takePlace_48 : decode cX9_takePlace 48 = .ok (.aload_n 0, 1) := by decide +kernel
theorem dX9_takePlace_49 : decode cX9_takePlace 49 = .ok (.getfield 19, 3) := by decide +kernel
theorem dX9_takePlace_52 : decode cX9_takePlace 52 = .ok (.aload_n 0, 1) := by decide +kernel
theorem dX9_takePlace_53 : decode cX9_takePlace 53 = .ok (.getfield 12, 3) := by decide +kernel
theorem dX9_takePlace_56 : decode cX9_takePlace 56 = .ok (.iload_n 3, 1) := by decide +kernel
theorem dX9_takePlace_57 : decode cX9_takePlace 57 = .ok (.invokevirtual 298, 3) := by decide +kernel
theorem dX9_takePlace_60 : decode cX9_takePlace 60 = .ok (.invokevirtual 299, 3) := by decide +kernel
theorem dX9_takePlace_63 : decode cX9_takePlace 63 = .ok (.iinc 3 1, 3) := by decide +kernel
theorem dX9_takePlace_66 : decode cX9_takePlace 66 = .ok (.goto (-29), 3) := by decide +kernel
theorem dX9_takePlace_69 : decode cX9_takePlace 69 = .ok (.aload_n 0, 1) := by decide +kernel
theorem dX9_takePlace_70 : decode cX9_takePlace 70 = .ok (.getfield 12, 3) := by decide +kernel
theorem dX9_takePlace_73 : decode cX9_takePlace 73 = .ok (.invokevirtual 123, 3) := by decide +kernel
theorem dX9_takePlace_76 : decode cX9_takePlace 76 = .ok (.iload_n 2, 1) := by decide +kernel
theorem dX9_takePlace_77 : decode cX9_takePlace 77 = .ok (.ireturn, 1) := by decide +kernel
set_option maxRecDepth 20000 in
theorem ggX9_tryMove_X7_has : GoodIn wsX9_tryMove wsX7_has := goodIn_r _ [6, 7, 8, 78, 79, 80, 81, 82, 83] (by decide +kernel) (by decide +kernel)
set_option maxRecDepth 20000 in
theorem gX9_tryMove_X7_has : GoodIn wsX9_tryMove (wsV RX9 109 RX7 yX7_has wsX7_has) := goodIn_app (goodIn_of _ (by decide +kernel)) ggX9_tryMove_X7_has
set_option maxRecDepth 20000 in
theorem ggX9_tryMove_X7_placeOf : GoodIn wsX9_tryMove wsX7_placeOf := goodIn_r _ [12, 13, 78, 79, 80, 81, 82, 83] (by decide +kernel) (by decide +kernel)
set_option maxRecDepth 20000 in
theorem gX9_tryMove_X7_placeOf : GoodIn wsX9_tryMove (wsV RX9 132 RX7 yX7_placeOf wsX7_placeOf) := goodIn_app (goodIn_of _ (by decide +kernel)) ggX9_tryMove_X7_placeOf
set_option maxRecDepth 20000 in
theorem ggX9_tryMove_X2_isJust : GoodIn wsX9_tryMove wsX2_isJust := goodIn_r _ [18, 19, 20, 21, 17, 22, 23, 24, 25, 26, 27, 28, 29, 30, 31, 32, 33, 84, 85, 86] (by decide +kernel) (by decide +kernel)
set_option maxRecDepth 20000 in
theorem gX9_tryMove_X2_isJust : GoodIn wsX9_tryMove (wsV RX9 301 RX2 yX2_isJust wsX2_isJust) := goodIn_app (goodIn_of _ (by decide +kernel)) ggX9_tryMove_X2_isJust
set_option maxRecDepth 20000 in
theorem ggX9_tryMove_X7_findAlike : GoodIn wsX9_tryMove wsX7_findAlike := goodIn_r _ [37, 7, 8, 13, 38, 39, 20, 21, 17, 22, 23, 24, 25, 26, 27, 28, 29, 30, 31, 32, 33, 78, 79, 80, 81, 82, 83, 84, 85, 86] (by decide +kernel) (by decide +kernel)
set_option maxRecDepth 20000 in
theorem gX9_tryMove_X7_findAlike : GoodIn wsX9_tryMove (wsV RX9 101 RX7 yX7_findAlike wsX7_findAlike) := goodIn_app (goodIn_of _ (by decide +kernel)) ggX9_tryMove_X7_findAlike
set_option maxRecDepth 20000 in
theorem ggX9_tryMove_X9_move : GoodIn wsX9_tryMove wsX9_move := goodIn_r _ [44, 1, 45, 9, 10, 11, 5, 12, 13, 46, 47, 48, 49, 50, 51, 52, 53, 15, 16, 17, 18, 19, 20, 21, 22, 23, 24, 25, 26, 27, 28, 29, 30, 31, 32, 33, 54, 55, 56, 57, 58, 59, 60, 61, 62, 63, 64, 65, 66, 67, 68, 69, 70, 71, 72, 73, 74, 75, 76, 77, 78, 79, 80, 81, 82, 83, 87, 88, 84, 85, 86] (by decide +kernel) (by decide +kernel)
set_option maxRecDepth 20000 in
theorem gX9_tryMove_X9_move : GoodIn wsX9_tryMove (wsV RX9 115 RX9 yX9_move wsX9_move) := goodIn_app (goodIn_of _ (by decide +kernel)) ggX9_tryMove_X9_move
theorem dX9_tryMove_0 : decode cX9_tryMove 0 = .ok (.aload_n 0, 1) := by decide +kernel
theorem dX9_tryMove_1 : decode cX9_tryMove 1 = .ok (.getfield 26, 3) := by decide +kernel
theorem dX9_tryMove_4 : decode cX9_tryMove 4 = .ok (.iload_n 1, 1) := by decide +kernel
theorem dX9_tryMove_5 : decode cX9_tryMove 5 = .ok (.invokevirtual 109, 3) := by decide +kernel
theorem dX9_tryMove_8 : decode cX9_tryMove 8 = .ok (.ifCond .ne 5, 3) := by decide +kernel
theorem dX9_tryMove_11 : decode cX9_tryMove 11 = .ok (.iconst 1, 1) := by decide +kernel
theorem dX9_tryMove_12 : decode cX9_tryMove 12 = .ok (.ireturn, 1) := by decide +kernel
theorem dX9_tryMove_13 : decode cX9_tryMove 13 = .ok (.aload_n 0, 1) := by decide +kernel
theorem dX9_tryMove_14 : decode cX9_tryMove 14 = .ok (.getfield 26, 3) := by decide +kernel
theorem dX9_tryMove_17 : decode cX9_tryMove 17 = .ok (.iload_n 1, 1) := by decide +kernel
theorem dX9_tryMove_18 : decode cX9_tryMove 18 = .ok (.invokevirtual 132, 3) := by decide +kernel
theorem dX9_tryMove_21 : decode cX9_tryMove 21 = .ok (.aload_n 2, 1) := by decide +kernel
theorem dX9_tryMove_22 : decode cX9_tryMove 22 = .ok (.invokevirtual 301, 3) := by decide +kernel
theorem dX9_tryMove_25 : decode cX9_tryMove 25 = .ok (.ifCond .ne 5, 3) := by decide +kernel
theorem dX9_tryMove_28 : decode cX9_tryMove 28 = .ok (.iconst 2, 1) := by decide +kernel
theorem dX9_tryMove_29 : decode cX9_tryMove 29 = .ok (.ireturn, 1) := by decide +kernel
theorem dX9_tryMove_30 : decode cX9_tryMove 30 = .ok (.aload_n 0, 1) := by decide +kernel
theorem dX9_tryMove_31 : decode cX9_tryMove 31 = .ok (.getfield 26, 3) := by decide +kernel
theorem dX9_tryMove_34 : decode cX9_tryMove 34 = .ok (.aload_n 3, 1) := by decide +kernel
theorem dX9_tryMove_35 : decode cX9_tryMove 35 = .ok (.iload_n 1, 1) := by decide +kernel
theorem dX9_tryMove_36 : decode cX9_tryMove 36 = .ok (.invokevirtual 101, 3) := by decide +kernel
theorem dX9_tryMove_39 : decode cX9_tryMove 39 = .ok (.iconst (-1), 1) := by decide +kernel
theorem dX9_tryMove_40 : decode cX9_tryMove 40 = .ok (.if_icmp .eq 5, 3) := by decide +kernel
theorem dX9_tryMove_43 : decode cX9_tryMove 43 = .ok (.iconst 3, 1) := by decide +kernel
theorem dX9_tryMove_44 : decode cX9_tryMove 44 = .ok (.ireturn, 1) := by decide +kernel
theorem dX9_tryMove_45 : decode cX9_tryMove 45 = .ok (.aload_n 0, 1) := by decide +kernel
theorem dX9_tryMove_46 : decode cX9_tryMove 46 = .ok (.iload_n 1, 1) := by decide +kernel
theorem dX9_tryMove_47 : decode cX9_tryMove 47 = .ok (.aload_n 3, 1) := by decide +kernel
theorem dX9_tryMove_48 : decode cX9_tryMove 48 = .ok (.invokevirtual 115, 3) := by decide +kernel
theorem dX9_tryMove_51 : decode cX9_tryMove 51 = .ok (.iconst 0, 1) := by decide +kernel
theorem dX9_tryMove_52 : decode cX9_tryMove 52 = .ok (.ireturn, 1) := by decide +kernel
set_option maxRecDepth 20000 in
theorem ggX9_move_X7_placeOf : GoodIn wsX9_move wsX7_placeOf := goodIn_r _ [7, 8, 60, 61, 62, 63, 64, 65] (by decide +kernel) (by decide +kernel)
set_option maxRecDepth 20000 in
theorem gX9_move_X7_placeOf : GoodIn wsX9_move (wsV RX9 132 RX7 yX7_placeOf wsX7_placeOf) := goodIn_app (goodIn_of _ (by decide +kernel)) ggX9_move_X7_placeOf
set_option maxRecDepth 20000 in
theorem ggX9_move_X1_follow : GoodIn wsX9_move wsX1_follow := goodIn_r _ [13, 14, 15, 16, 17, 18, 19, 20, 21, 22, 23, 24, 25, 26, 27, 28, 29, 30, 31, 32, 33, 34, 35, 36, 37, 38, 39, 40, 41, 42, 43, 44, 45, 46, 47, 66, 67, 68, 69, 70] (by decide +kernel) (by decide +kernel)
set_option maxRecDepth 20000 in
theorem gX9_move_X1_follow : GoodIn wsX9_move (wsV RX9 305 RX1 yX1_follow wsX1_follow) := goodIn_app (goodIn_of _ (by decide +kernel)) ggX9_move_X1_follow
set_option maxRecDepth 20000 in
theorem ggX9_move_X2_become : GoodIn wsX9_move wsX2_become := goodIn_r _ [39, 25, 26, 40, 41, 42, 19, 43, 27, 28, 29, 30, 31, 44, 45, 46, 47, 68, 69, 70] (by decide +kernel) (by decide +kernel)
set_option maxRecDepth 20000 in
theorem gX9_move_X2_become : GoodIn wsX9_move (wsV RX9 309 RX2 yX2_become wsX2_become) := goodIn_app (goodIn_of _ (by decide +kernel)) ggX9_move_X2_become
theorem dX9_move_0 : decode cX9_move 0 = .ok (.aload_n 0, 1) := by decide +kernel
theorem dX9_move_1 : decode cX9_move 1 = .ok (.getfield 26, 3) := by decide +kernel
theorem dX9_move_4 : decode cX9_move 4 = .ok (.iload_n 1, 1) := by decide +kernel
theorem dX9_move_5 : decode cX9_move 5 = .ok (.invokevirtual 132, 3) := by decide +kernel
theorem dX9_move_8 : decode cX9_move 8 = .ok (.astore_n 3, 1) := by decide +kernel
theorem dX9_move_9 : decode cX9_move 9 = .ok (.aload_n 0, 1) := by decide +kernel
theorem dX9_move_10 : decode cX9_move 10 = .ok (.getfield 33, 3) := by decide +kernel
theorem dX9_move_13 : decode cX9_move 13 = .ok (.aload_n 3, 1) := by decide +kernel
theorem dX9_move_14 : decode cX9_move 14 = .ok (.aload_n 2, 1) := by decide +kernel
theorem dX9_move_15 : decode cX9_move 15 = .ok (.invokevirtual 305, 3) := by decide +kernel
theorem dX9_move_18 : decode cX9_move 18 = .ok (.aload_n 3, 1) := by decide +kernel
theorem dX9_move_19 : decode cX9_move 19 = .ok (.aload_n 2, 1) := by decide +kernel
theorem dX9_move_20 : decode cX9_move 20 = .ok (.invokevirtual 309, 3) := by decide +kernel
theorem dX9_move_23 : decode cX9_move 23 = .ok (.return_, 1) := by decide +kernel
theorem dX10_thrown_0 : decode cX10_thrown 0 = .ok (.aload_n 0, 1) := by decide +kernel
theorem dX10_thrown_1 : decode cX10_thrown 1 = .ok (.getfield 1, 3) := by decide +kernel
theorem dX10_thrown_4 : decode cX10_thrown 4 = .ok (.ireturn, 1) := by decide +kernel
theorem dX10_within_0 : decode cX10_within 0 = .ok (.iload_n 0, 1) := by decide +kernel
theorem dX10_within_1 : decode cX10_within 1 = .ok (.iload_n 1, 1) := by decide +kernel
theorem dX10_within_2 : decode cX10_within 2 = .ok (.if_icmp .lt 12, 3) := by decide +kernel
theorem dX10_within_5 : decode cX10_within 5 = .ok (.iload_n 0, 1) := by decide +kernel
theorem dX10_within_6 : decode cX10_within 6 = .ok (.iload_n 2, 1) := by decide +kernel
theorem dX10_within_7 : decode cX10_within 7 = .ok (.if_icmp .gt 7, 3) := by decide +kernel
theorem dX10_within_10 : decode cX10_within 10 = .ok (.iconst 1, 1) := by decide +kernel
theorem dX10_within_11 : decode cX10_within 11 = .ok (.goto 4, 3) := by decide +kernel
theorem dX10_within_14 : decode cX10_within 14 = .ok (.iconst 0, 1) := by decide +kernel
theorem dX10_within_15 : decode cX10_within 15 = .ok (.ireturn, 1) := by decide +kernel
theorem dX10_init_0 : decode cX10_init 0 = .ok (.aload_n 0, 1) := by decide +kernel
theorem dX10_init_1 : decode cX10_init 1 = .ok (.invokespecial 7, 3) := by decide +kernel
theorem dX10_init_4 : decode cX10_init 4 = .ok (.aload_n 0, 1) := by decide +kernel
theorem dX10_init_5 : decode cX10_init 5 = .ok (.sipush 1920, 3) := by decide +kernel
theorem dX10_init_8 : decode cX10_init 8 = .ok (.newarray .byte, 2) := by decide +kernel
theorem dX10_init_10 : decode cX10_init 10 = .ok (.putfield 13, 3) := by decide +kernel
theorem dX10_init_13 : decode cX10_init 13 = .ok (.aload_n 0, 1) := by decide +kernel
theorem dX10_init_14 : decode cX10_init 14 = .ok (.sipush 160, 3) := by decide +kernel
theorem dX10_init_17 : decode cX10_init 17 = .ok (.newarray .int, 2) := by decide +kernel
theorem dX10_init_19 : decode cX10_init 19 = .ok (.putfield 17, 3) := by decide +kernel
theorem dX10_init_22 : decode cX10_init 22 = .ok (.aload_n 0, 1) := by decide +kernel
theorem dX10_init_23 : decode cX10_init 23 = .ok (.sipush 160, 3) := by decide +kernel
theorem dX10_init_26 : decode cX10_init 26 = .ok (.newarray .int, 2) := by decide +kernel
theorem dX10_init_28 : decode cX10_init 28 = .ok (.putfield 21, 3) := by decide +kernel
theorem dX10_init_31 : decode cX10_init 31 = .ok (.aload_n 0, 1) := by decide +kernel
theorem dX10_init_32 : decode cX10_init 32 = .ok (.bipush 40, 2) := by decide +kernel
theorem dX10_init_34 : decode cX10_init 34 = .ok (.newarray .boolean, 2) := by decide +kernel
theorem dX10_init_36 : decode cX10_init 36 = .ok (.putfield 24, 3) := by decide +kernel
theorem dX10_init_39 : decode cX10_init 39 = .ok (.aload_n 0, 1) := by decide +kernel
theorem dX10_init_40 : decode cX10_init 40 = .ok (.bipush 80, 2) := by decide +kernel
theorem dX10_init_42 : decode cX10_init 42 = .ok (.newarray .byte, 2) := by decide +kernel
theorem dX10_init_44 : decode cX10_init 44 = .ok (.putfield 28, 3) := by decide +kernel
theorem dX10_init_47 : decode cX10_init 47 = .ok (.aload_n 0, 1) := by decide +kernel
theorem dX10_init_48 : decode cX10_init 48 = .ok (.bipush 12, 2) := by decide +kernel
theorem dX10_init_50 : decode cX10_init 50 = .ok (.newarray .int, 2) := by decide +kernel
theorem dX10_init_52 : decode cX10_init 52 = .ok (.putfield 31, 3) := by decide +kernel
theorem dX10_init_55 : decode cX10_init 55 = .ok (.aload_n 0, 1) := by decide +kernel
theorem dX10_init_56 : decode cX10_init 56 = .ok (.bipush 12, 2) := by decide +kernel
theorem dX10_init_58 : decode cX10_init 58 = .ok (.newarray .int, 2) := by decide +kernel
theorem dX10_init_60 : decode cX10_init 60 = .ok (.putfield 34, 3) := by decide +kernel
theorem dX10_init_63 : decode cX10_init 63 = .ok (.aload_n 0, 1) := by decide +kernel
theorem dX10_init_64 : decode cX10_init 64 = .ok (.bipush 12, 2) := by decide +kernel
theorem dX10_init_66 : decode cX10_init 66 = .ok (.newarray .int, 2) := by decide +kernel
theorem dX10_init_68 : decode cX10_init 68 = .ok (.putfield 37, 3) := by decide +kernel
theorem dX10_init_71 : decode cX10_init 71 = .ok (.aload_n 0, 1) := by decide +kernel
theorem dX10_init_72 : decode cX10_init 72 = .ok (.bipush 12, 2) := by decide +kernel
theorem dX10_init_74 : decode cX10_init 74 = .ok (.newarray .int, 2) := by decide +kernel
theorem dX10_init_76 : decode cX10_init 76 = .ok (.putfield 40, 3) := by decide +kernel
theorem dX10_init_79 : decode cX10_init 79 = .ok (.aload_n 0, 1) := by decide +kernel
theorem dX10_init_80 : decode cX10_init 80 = .ok (.bipush 12, 2) := by decide +kernel
theorem dX10_init_82 : decode cX10_init 82 = .ok (.newarray .int, 2) := by decide +kernel
theorem dX10_init_84 : decode cX10_init 84 = .ok (.putfield 43, 3) := by decide +kernel
theorem dX10_init_87 : decode cX10_init 87 = .ok (.aload_n 0, 1) := by decide +kernel
theorem dX10_init_88 : decode cX10_init 88 = .ok (.bipush 12, 2) := by decide +kernel
theorem dX10_init_90 : decode cX10_init 90 = .ok (.newarray .int, 2) := by decide +kernel
theorem dX10_init_92 : decode cX10_init 92 = .ok (.putfield 46, 3) := by decide +kernel
theorem dX10_init_95 : decode cX10_init 95 = .ok (.aload_n 0, 1) := by decide +kernel
theorem dX10_init_96 : decode cX10_init 96 = .ok (.iconst (-1), 1) := by decide +kernel
theorem dX10_init_97 : decode cX10_init 97 = .ok (.putfield 49, 3) := by decide +kernel
theorem dX10_init_100 : decode cX10_init 100 = .ok (.aload_n 0, 1) := by decide +kernel
theorem dX10_init_101 : decode cX10_init 101 = .ok (.bipush 12, 2) := by decide +kernel
theorem dX10_init_103 : decode cX10_init 103 = .ok (.newarray .int, 2) := by decide +kernel
theorem dX10_init_105 : decode cX10_init 105 = .ok (.putfield 52, 3) := by decide +kernel
theorem dX10_init_108 : decode cX10_init 108 = .ok (.aload_n 0, 1) := by decide +kernel
theorem dX10_init_109 : decode cX10_init 109 = .ok (.sipush 169, 3) := by decide +kernel
theorem dX10_init_112 : decode cX10_init 112 = .ok (.newarray .boolean, 2) := by decide +kernel
theorem dX10_init_114 : decode cX10_init 114 = .ok (.putfield 55, 3) := by decide +kernel
theorem dX10_init_117 : decode cX10_init 117 = .ok (.aload_n 0, 1) := by decide +kernel
theorem dX10_init_118 : decode cX10_init 118 = .ok (.bipush 40, 2) := by decide +kernel
theorem dX10_init_120 : decode cX10_init 120 = .ok (.newarray .int, 2) := by decide +kernel
theorem dX10_init_122 : decode cX10_init 122 = .ok (.putfield 58, 3) := by decide +kernel
theorem dX10_init_125 : decode cX10_init 125 = .ok (.aload_n 0, 1) := by decide +kernel
theorem dX10_init_126 : decode cX10_init 126 = .ok (.bipush 40, 2) := by decide +kernel
theorem dX10_init_128 : decode cX10_init 128 = .ok (.newarray .int, 2) := by decide +kernel
theorem dX10_init_130 : decode cX10_init 130 = .ok (.putfield 61, 3) := by decide +kernel
theorem dX10_init_133 : decode cX10_init 133 = .ok (.aload_n 0, 1) := by decide +kernel
theorem dX10_init_134 : decode cX10_init 134 = .ok (.bipush 40, 2) := by decide +kernel
theorem dX10_init_136 : decode cX10_init 136 = .ok (.newarray .int, 2) := by decide +kernel
theorem dX10_init_138 : decode cX10_init 138 = .ok (.putfield 64, 3) := by decide +kernel
theorem dX10_init_141 : decode cX10_init 141 = .ok (.aload_n 0, 1) := by decide +kernel
theorem dX10_init_142 : decode cX10_init 142 = .ok (.bipush 40, 2) := by decide +kernel
theorem dX10_init_144 : decode cX10_init 144 = .ok (.newarray .int, 2) := by decide +kernel
theorem dX10_init_146 : decode cX10_init 146 = .ok (.putfield 67, 3) := by decide +kernel
theorem dX10_init_149 : decode cX10_init 149 = .ok (.aload_n 0, 1) := by decide +kernel
theorem dX10_init_150 : decode cX10_init 150 = .ok (.bipush 40, 2) := by decide +kernel
theorem dX10_init_152 : decode cX10_init 152 = .ok (.newarray .int, 2) := by decide +kernel
theorem dX10_init_154 : decode cX10_init 154 = .ok (.putfield 70, 3) := by decide +kernel
theorem dX10_init_157 : decode cX10_init 157 = .ok (.aload_n 0, 1) := by decide +kernel
theorem dX10_init_158 : decode cX10_init 158 = .ok (.bipush 40, 2) := by decide +kernel
theorem dX10_init_160 : decode cX10_init 160 = .ok (.newarray .boolean, 2) := by decide +kernel
theorem dX10_init_162 : decode cX10_init 162 = .ok (.putfield 73, 3) := by decide +kernel
theorem dX10_init_165 : decode cX10_init 165 = .ok (.aload_n 0, 1) := by decide +kernel
theorem dX10_init_166 : decode cX10_init 166 = .ok (.bipush 80, 2) := by decide +kernel
theorem dX10_init_168 : decode cX10_init 168 = .ok (.newarray .int, 2) := by decide +kernel
theorem dX10_init_170 : decode cX10_init 170 = .ok (.putfield 76, 3) := by decide +kernel
theorem dX10_init_173 : decode cX10_init 173 = .ok (.aload_n 0, 1) := by decide +kernel
theorem dX10_init_174 : decode cX10_init 174 = .ok (.bipush 80, 2) := by decide +kernel
theorem dX10_init_176 : decode cX10_init 176 = .ok (.newarray .boolean, 2) := by decide +kernel
theorem dX10_init_178 : decode cX10_init 178 = .ok (.putfield 79, 3) := by decide +kernel
theorem dX10_init_181 : decode cX10_init 181 = .ok (.aload_n 0, 1) := by decide +kernel
theorem dX10_init_182 : decode cX10_init 182 = .ok (.bipush 80, 2) := by decide +kernel
theorem dX10_init_184 : decode cX10_init 184 = .ok (.newarray .boolean, 2) := by decide +kernel
theorem dX10_init_186 : decode cX10_init 186 = .ok (.putfield 82, 3) := by decide +kernel
theorem dX10_init_189 : decode cX10_init 189 = .ok (.aload_n 0, 1) := by decide +kernel
theorem dX10_init_190 : decode cX10_init 190 = .ok (.sipush 1920, 3) := by decide +kernel
theorem dX10_init_193 : decode cX10_init 193 = .ok (.newarray .byte, 2) := by decide +kernel
theorem dX10_init_195 : decode cX10_init 195 = .ok (.putfield 85, 3) := by decide +kernel
theorem dX10_init_198 : decode cX10_init 198 = .ok (.aload_n 0, 1) := by decide +kernel
theorem dX10_init_199 : decode cX10_init 199 = .ok (.sipush 160, 3) := by decide +kernel
theorem dX10_init_202 : decode cX10_init 202 = .ok (.newarray .int, 2) := by decide +kernel
theorem dX10_init_204 : decode cX10_init 204 = .ok (.putfield 88, 3) := by decide +kernel
theorem dX10_init_207 : decode cX10_init 207 = .ok (.aload_n 0, 1) := by decide +kernel
theorem dX10_init_208 : decode cX10_init 208 = .ok (.sipush 160, 3) := by decide +kernel
theorem dX10_init_211 : decode cX10_init 211 = .ok (.newarray .int, 2) := by decide +kernel
theorem dX10_init_213 : decode cX10_init 213 = .ok (.putfield 91, 3) := by decide +kernel
theorem dX10_init_216 : decode cX10_init 216 = .ok (.aload_n 0, 1) := by decide +kernel
theorem dX10_init_217 : decode cX10_init 217 = .ok (.bipush 40, 2) := by decide +kernel
theorem dX10_init_219 : decode cX10_init 219 = .ok (.newarray .boolean, 2) := by decide +kernel
theorem dX10_init_221 : decode cX10_init 221 = .ok (.putfield 94, 3) := by decide +kernel
theorem dX10_init_224 : decode cX10_init 224 = .ok (.aload_n 0, 1) := by decide +kernel
theorem dX10_init_225 : decode cX10_init 225 = .ok (.bipush 40, 2) := by decide +kernel
theorem dX10_init_227 : decode cX10_init 227 = .ok (.newarray .boolean, 2) := by decide +kernel
theorem dX10_init_229 : decode cX10_init 229 = .ok (.putfield 97, 3) := by decide +kernel
theorem dX10_init_232 : decode cX10_init 232 = .ok (.return_, 1) := by decide +kernel
theorem dX10_low_0 : decode cX10_low 0 = .ok (.iload_n 0, 1) := by decide +kernel
theorem dX10_low_1 : decode cX10_low 1 = .ok (.bipush 65, 2) := by decide +kernel
theorem dX10_low_3 : decode cX10_low 3 = .ok (.if_icmp .lt 16, 3) := by decide +kernel
theorem dX10_low_6 : decode cX10_low 6 = .ok (.iload_n 0, 1) := by decide +kernel
theorem dX10_low_7 : decode cX10_low 7 = .ok (.bipush 90, 2) := by decide +kernel
theorem dX10_low_9 : decode cX10_low 9 = .ok (.if_icmp .gt 10, 3) := by decide +kernel
theorem dX10_low_12 : decode cX10_low 12 = .ok (.iload_n 0, 1) := by decide +kernel
theorem dX10_low_13 : decode cX10_low 13 = .ok (.bipush 32, 2) := by decide +kernel
theorem dX10_low_15 : decode cX10_low 15 = .ok (.iadd, 1) := by decide +kernel
theorem dX10_low_16 : decode cX10_low 16 = .ok (.goto 4, 3) := by decide +kernel
theorem dX10_low_19 : decode cX10_low 19 = .ok (.iload_n 0, 1) := by decide +kernel
theorem dX10_low_20 : decode cX10_low 20 = .ok (.ireturn, 1) := by decide +kernel
theorem dX10_high_0 : decode cX10_high 0 = .ok (.iload_n 0, 1) := by decide +kernel
theorem dX10_high_1 : decode cX10_high 1 = .ok (.bipush 97, 2) := by decide +kernel
theorem dX10_high_3 : decode cX10_high 3 = .ok (.if_icmp .lt 16, 3) := by decide +kernel
theorem dX10_high_6 : decode cX10_high 6 = .ok (.iload_n 0, 1) := by decide +kernel
theorem dX10_high_7 : decode cX10_high 7 = .ok (.bipush 122, 2) := by decide +kernel
theorem dX10_high_9 : decode cX10_high 9 = .ok (.if_icmp .gt 10, 3) := by decide +kernel
theorem dX10_high_12 : decode cX10_high 12 = .ok (.iload_n 0, 1) := by decide +kernel
theorem dX10_high_13 : decode cX10_high 13 = .ok (.bipush 32, 2) := by decide +kernel
theorem dX10_high_15 : decode cX10_high 15 = .ok (.isub, 1) := by decide +kernel
theorem dX10_high_16 : decode cX10_high 16 = .ok (.goto 4, 3) := by decide +kernel
theorem dX10_high_19 : decode cX10_high 19 = .ok (.iload_n 0, 1) := by decide +kernel
theorem dX10_high_20 : decode cX10_high 20 = .ok (.ireturn, 1) := by decide +kernel
theorem dX10_isJust_0 : decode cX10_isJust 0 = .ok (.aload_n 0, 1) := by decide +kernel
theorem dX10_isJust_1 : decode cX10_isJust 1 = .ok (.getfield 21, 3) := by decide +kernel
theorem dX10_isJust_4 : decode cX10_isJust 4 = .ok (.iload_n 1, 1) := by decide +kernel
theorem dX10_isJust_5 : decode cX10_isJust 5 = .ok (.iaload, 1) := by decide +kernel
theorem dX10_isJust_6 : decode cX10_isJust 6 = .ok (.aload_n 0, 1) := by decide +kernel
theorem dX10_isJust_7 : decode cX10_isJust 7 = .ok (.getfield 21, 3) := by decide +kernel
theorem dX10_isJust_10 : decode cX10_isJust 10 = .ok (.iload_n 2, 1) := by decide +kernel
theorem dX10_isJust_11 : decode cX10_isJust 11 = .ok (.iaload, 1) := by decide +kernel
theorem dX10_isJust_12 : decode cX10_isJust 12 = .ok (.if_icmp .ne 18, 3) := by decide +kernel
theorem dX10_isJust_15 : decode cX10_isJust 15 = .ok (.aload_n 0, 1) := by decide +kernel
theorem dX10_isJust_16 : decode cX10_isJust 16 = .ok (.getfield 17, 3) := by decide +kernel
theorem dX10_isJust_19 : decode cX10_isJust 19 = .ok (.iload_n 1, 1) := by decide +kernel
theorem dX10_isJust_20 : decode cX10_isJust 20 = .ok (.iaload, 1) := by decide +kernel
theorem dX10_isJust_21 : decode cX10_isJust 21 = .ok (.aload_n 0, 1) := by decide +kernel
theorem dX10_isJust_22 : decode cX10_isJust 22 = .ok (.getfield 17, 3) := by decide +kernel
theorem dX10_isJust_25 : decode cX10_isJust 25 = .ok (.iload_n 2, 1) := by decide +kernel
theorem dX10_isJust_26 : decode cX10_isJust 26 = .ok (.iaload, 1) := by decide +kernel
theorem dX10_isJust_27 : decode cX10_isJust 27 = .ok (.if_icmp .eq 5, 3) := by decide +kernel
theorem dX10_isJust_30 : decode cX10_isJust 30 = .ok (.iconst 0, 1) := by decide +kernel
theorem dX10_isJust_31 : decode cX10_isJust 31 = .ok (.ireturn, 1) := by decide +kernel
theorem dX10_isJust_32 : decode cX10_isJust 32 = .ok (.iconst 0, 1) := by decide +kernel
theorem dX10_isJust_33 : decode cX10_isJust 33 = .ok (.istore_n 3, 1) := by decide +kernel
theorem dX10_isJust_34 : decode cX10_isJust 34 = .ok (.iload_n 3, 1) := by decide +kernel
theorem dX10_isJust_35 : decode cX10_isJust 35 = .ok (.aload_n 0, 1) := by decide +kernel
theorem dX10_isJust_36 : decode cX10_isJust 36 = .ok (.getfield 17, 3) := by decide +kernel
theorem dX10_isJust_39 : decode cX10_isJust 39 = .ok (.iload_n 1, 1) := by decide +kernel
theorem dX10_isJust_40 : decode cX10_isJust 40 = .ok (.iaload, 1) := by decide +kernel
theorem dX10_isJust_41 : decode cX10_isJust 41 = .ok (.if_icmp .ge 36, 3) := by decide +kernel
theorem dX10_isJust_44 : decode cX10_isJust 44 = .ok (.aload_n 0, 1) := by decide +kernel
theorem dX10_isJust_45 : decode cX10_isJust 45 = .ok (.getfield 13, 3) := by decide +kernel
theorem dX10_isJust_48 : decode cX10_isJust 48 = .ok (.bipush 12, 2) := by decide +kernel
theorem dX10_isJust_50 : decode cX10_isJust 50 = .ok (.iload_n 1, 1) := by decide +kernel
theorem dX10_isJust_51 : decode cX10_isJust 51 = .ok (.imul, 1) := by decide +kernel
theorem dX10_isJust_52 : decode cX10_isJust 52 = .ok (.iload_n 3, 1) := by decide +kernel
theorem dX10_isJust_53 : decode cX10_isJust 53 = .ok (.iadd, 1) := by decide +kernel
theorem dX10_isJust_54 : decode cX10_isJust 54 = .ok (.baload, 1) := by decide +kernel
theorem dX10_isJust_55 : decode cX10_isJust 55 = .ok (.aload_n 0, 1) := by decide +kernel
theorem dX10_isJust_56 : decode cX10_isJust 56 = .ok (.getfield 13, 3) := by decide +kernel
theorem dX10_isJust_59 : decode cX10_isJust 59 = .ok (.bipush 12, 2) := by decide +kernel
theorem dX10_isJust_61 : decode cX10_isJust 61 = .ok (.iload_n 2, 1) := by decide +kernel
theorem dX10_isJust_62 : decode cX10_isJust 62 = .ok (.imul, 1) := by decide +kernel
theorem dX10_isJust_63 : decode cX10_isJust 63 = .ok (.iload_n 3, 1) := by decide +kernel
theorem dX10_isJust_64 : decode cX10_isJust 64 = .ok (.iadd, 1) := by decide +kernel
theorem dX10_isJust_65 : decode cX10_isJust 65 = .ok (.baload, 1) := by decide +kernel
theorem dX10_isJust_66 : decode cX10_isJust 66 = .ok (.if_icmp .eq 5, 3) := by decide +kernel
theorem dX10_isJust_69 : decode cX10_isJust 69 = .ok (.iconst 0, 1) := by decide +kernel
theorem dX10_isJust_70 : decode cX10_isJust 70 = .ok (.ireturn, 1) := by decide +kernel
theorem dX10_isJust_71 : decode cX10_isJust 71 = .ok (.iinc 3 1, 3) := by decide +kernel
theorem dX10_isJust_74 : decode cX10_isJust 74 = .ok (.goto (-40), 3) := by decide +kernel
theorem dX10_isJust_77 : decode cX10_isJust 77 = .ok (.iconst 1, 1) := by decide +kernel
theorem dX10_isJust_78 : decode cX10_isJust 78 = .ok (.ireturn, 1) := by decide +kernel
set_option maxRecDepth 20000 in
theorem ggX10_isAlike_X10_isJust : GoodIn wsX10_isAlike wsX10_isJust := goodIn_r _ [9, 2, 3, 4, 13, 14, 15, 16, 17, 18, 19, 20, 21, 22, 23, 24, 25, 26, 27, 28, 29, 30, 31, 32, 33, 34, 35, 36, 37, 38, 39, 40, 41, 42, 43, 44, 45, 46, 47, 48, 49, 50, 51, 52, 53, 54, 55, 56] (by decide +kernel) (by decide +kernel)
set_option maxRecDepth 20000 in
theorem gX10_isAlike_X10_isJust : GoodIn wsX10_isAlike (wsV RX10 104 RX10 yX10_isJust wsX10_isJust) := goodIn_app (goodIn_of _ (by decide +kernel)) ggX10_isAlike_X10_isJust
set_option maxRecDepth 20000 in
theorem ggX10_isAlike_X10_low : GoodIn wsX10_isAlike wsX10_low := goodIn_r _ [12] (by decide +kernel) (by decide +kernel)
set_option maxRecDepth 20000 in
theorem gX10_isAlike_X10_low : GoodIn wsX10_isAlike (va_wsS RX10 108 yX10_low wsX10_low) := goodIn_app (goodIn_of _ (by decide +kernel)) ggX10_isAlike_X10_low
theorem dX10_isAlike_0 : decode cX10_isAlike 0 = .ok (.aload_n 0, 1) := by decide +kernel
theorem dX10_isAlike_1 : decode cX10_isAlike 1 = .ok (.getfield 100, 3) := by decide +kernel
theorem dX10_isAlike_4 : decode cX10_isAlike 4 = .ok (.ifCond .ne 10, 3) := by decide +kernel
theorem dX10_isAlike_7 : decode cX10_isAlike 7 = .ok (.aload_n 0, 1) := by decide +kernel
theorem dX10_isAlike_8 : decode cX10_isAlike 8 = .ok (.iload_n 1, 1) := by decide +kernel
theorem dX10_isAlike_9 : decode cX10_isAlike 9 = .ok (.iload_n 2, 1) := by decide +kernel
theorem dX10_isAlike_10 : decode cX10_isAlike 10 = .ok (.invokevirtual 104, 3) := by decide +kernel
theorem dX10_isAlike_13 : decode cX10_isAlike 13 = .ok (.ireturn, 1) := by decide +kernel
theorem dX10_isAlike_14 : decode cX10_isAlike 14 = .ok (.aload_n 0, 1) := by decide +kernel
theorem dX10_isAlike_15 : decode cX10_isAlike 15 = .ok (.getfield 21, 3) := by decide +kernel
theorem dX10_isAlike_18 : decode cX10_isAlike 18 = .ok (.iload_n 1, 1) := by decide +kernel
theorem dX10_isAlike_19 : decode cX10_isAlike 19 = .ok (.iaload, 1) := by decide +kernel
theorem dX10_isAlike_20 : decode cX10_isAlike 20 = .ok (.aload_n 0, 1) := by decide +kernel
theorem dX10_isAlike_21 : decode cX10_isAlike 21 = .ok (.getfield 21, 3) := by decide +kernel
theorem dX10_isAlike_24 : decode cX10_isAlike 24 = .ok (.iload_n 2, 1) := by decide +kernel
theorem dX10_isAlike_25 : decode cX10_isAlike 25 = .ok (.iaload, 1) := by decide +kernel
theorem dX10_isAlike_26 : decode cX10_isAlike 26 = .ok (.if_icmp .ne 18, 3) := by decide +kernel
theorem dX10_isAlike_29 : decode cX10_isAlike 29 = .ok (.aload_n 0, 1) := by decide +kernel
theorem dX10_isAlike_30 : decode cX10_isAlike 30 = .ok (.getfield 17, 3) := by decide +kernel
theorem dX10_isAlike_33 : decode cX10_isAlike 33 = .ok (.iload_n 1, 1) := by decide +kernel
theorem dX10_isAlike_34 : decode cX10_isAlike 34 = .ok (.iaload, 1) := by decide +kernel
theorem dX10_isAlike_35 : decode cX10_isAlike 35 = .ok (.aload_n 0, 1) := by decide +kernel
theorem dX10_isAlike_36 : decode cX10_isAlike 36 = .ok (.getfield 17, 3) := by decide +kernel
theorem dX10_isAlike_39 : decode cX10_isAlike 39 = .ok (.iload_n 2, 1) := by decide +kernel
theorem dX10_isAlike_40 : decode cX10_isAlike 40 = .ok (.iaload, 1) := by decide +kernel
theorem dX10_isAlike_41 : decode cX10_isAlike 41 = .ok (.if_icmp .eq 5, 3) := by decide +kernel
theorem dX10_isAlike_44 : decode cX10_isAlike 44 = .ok (.iconst 0, 1) := by decide +kernel
theorem dX10_isAlike_45 : decode cX10_isAlike 45 = .ok (.ireturn, 1) := by decide +kernel
theorem dX10_isAlike_46 : decode cX10_isAlike 46 = .ok (.iconst 0, 1) := by decide +kernel
theorem dX10_isAlike_47 : decode cX10_isAlike 47 = .ok (.istore_n 3, 1) := by decide +kernel
theorem dX10_isAlike_48 : decode cX10_isAlike 48 = .ok (.iload_n 3, 1) := by decide +kernel
theorem dX10_isAlike_49 : decode cX10_isAlike 49 = .ok (.aload_n 0, 1) := by decide +kernel
theorem dX10_isAlike_50 : decode cX10_isAlike 50 = .ok (.getfield 17, 3) := by decide +kernel
theorem dX10_isAlike_53 : decode cX10_isAlike 53 = .ok (.iload_n 1, 1) := by decide +kernel
theorem dX10_isAlike_54 : decode cX10_isAlike 54 = .ok (.iaload, 1) := by decide +kernel
theorem dX10_isAlike_55 : decode cX10_isAlike 55 = .ok (.if_icmp .ge 42, 3) := by decide +kernel
theorem dX10_isAlike_58 : decode cX10_isAlike 58 = .ok (.aload_n 0, 1) := by decide +kernel
theorem dX10_isAlike_59 : decode cX10_isAlike 59 = .ok (.getfield 13, 3) := by decide +kernel
theorem dX10_isAlike_62 : decode cX10_isAlike 62 = .ok (.bipush 12, 2) := by decide +kernel
theorem dX10_isAlike_64 : decode cX10_isAlike 64 = .ok (.iload_n 1, 1) := by decide +kernel
theorem dX10_isAlike_65 : decode cX10_isAlike 65 = .ok (.imul, 1) := by decide +kernel
theorem dX10_isAlike_66 : decode cX10_isAlike 66 = .ok (.iload_n 3, 1) := by decide +kernel
theorem dX10_isAlike_67 : decode cX10_isAlike 67 = .ok (.iadd, 1) := by decide +kernel
theorem dX10_isAlike_68 : decode cX10_isAlike 68 = .ok (.baload, 1) := by decide +kernel
theorem dX10_isAlike_69 : decode cX10_isAlike 69 = .ok (.invokestatic 108, 3) := by decide +kernel
theorem dX10_isAlike_72 : decode cX10_isAlike 72 = .ok (.aload_n 0, 1) := by decide +kernel
theorem dX10_isAlike_73 : decode cX10_isAlike 73 = .ok (.getfield 13, 3) := by decide +kernel
theorem dX10_isAlike_76 : decode cX10_isAlike 76 = .ok (.bipush 12, 2) := by decide +kernel
theorem dX10_isAlike_78 : decode cX10_isAlike 78 = .ok (.iload_n 2, 1) := by decide +kernel
theorem dX10_isAlike_79 : decode cX10_isAlike 79 = .ok (.imul, 1) := by decide +kernel
theorem dX10_isAlike_80 : decode cX10_isAlike 80 = .ok (.iload_n 3, 1) := by decide +kernel
theorem dX10_isAlike_81 : decode cX10_isAlike 81 = .ok (.iadd, 1) := by decide +kernel
theorem dX10_isAlike_82 : decode cX10_isAlike 82 = .ok (.baload, 1) := by decide +kernel
theorem dX10_isAlike_83 : decode cX10_isAlike 83 = .ok (.invokestatic 108, 3) := by decide +kernel
theorem dX10_isAlike_86 : decode cX10_isAlike 86 = .ok (.if_icmp .eq 5, 3) := by decide +kernel
theorem dX10_isAlike_89 : decode cX10_isAlike 89 = .ok (.iconst 0, 1) := by decide +kernel
theorem dX10_isAlike_90 : decode cX10_isAlike 90 = .ok (.ireturn, 1) := by decide +kernel
theorem dX10_isAlike_91 : decode cX10_isAlike 91 = .ok (.iinc 3 1, 3) := by decide +kernel
theorem dX10_isAlike_94 : decode cX10_isAlike 94 = .ok (.goto (-46), 3) := by decide +kernel
theorem dX10_isAlike_97 : decode cX10_isAlike 97 = .ok (.iconst 1, 1) := by decide +kernel
theorem dX10_isAlike_98 : decode cX10_isAlike 98 = .ok (.ireturn, 1) := by decide +kernel
theorem dX10_copies_0 : decode cX10_copies 0 = .ok (.aload_n 0, 1) := by decide +kernel
theorem dX10_copies_1 : decode cX10_copies 1 = .ok (.getfield 21, 3) := by decide +kernel
theorem dX10_copies_4 : decode cX10_copies 4 = .ok (.iload_n 2, 1) := by decide +kernel
theorem dX10_copies_5 : decode cX10_copies 5 = .ok (.aload_n 0, 1) := by decide +kernel
theorem dX10_copies_6 : decode cX10_copies 6 = .ok (.getfield 21, 3) := by decide +kernel
theorem dX10_copies_9 : decode cX10_copies 9 = .ok (.iload_n 1, 1) := by decide +kernel
theorem dX10_copies_10 : decode cX10_copies 10 = .ok (.iaload, 1) := by decide +kernel
theorem dX10_copies_11 : decode cX10_copies 11 = .ok (.iastore, 1) := by decide +kernel
theorem dX10_copies_12 : decode cX10_copies 12 = .ok (.aload_n 0, 1) := by decide +kernel
theorem dX10_copies_13 : decode cX10_copies 13 = .ok (.getfield 17, 3) := by decide +kernel
theorem dX10_copies_16 : decode cX10_copies 16 = .ok (.iload_n 2, 1) := by decide +kernel
theorem dX10_copies_17 : decode cX10_copies 17 = .ok (.aload_n 0, 1) := by decide +kernel
theorem dX10_copies_18 : decode cX10_copies 18 = .ok (.getfield 17, 3) := by decide +kernel
theorem dX10_copies_21 : decode cX10_copies 21 = .ok (.iload_n 1, 1) := by decide +kernel
theorem dX10_copies_22 : decode cX10_copies 22 = .ok (.iaload, 1) := by decide +kernel
theorem dX10_copies_23 : decode cX10_copies 23 = .ok (.iastore, 1) := by decide +kernel
theorem dX10_copies_24 : decode cX10_copies 24 = .ok (.iconst 0, 1) := by decide +kernel
theorem dX10_copies_25 : decode cX10_copies 25 = .ok (.istore_n 3, 1) := by decide +kernel
theorem dX10_copies_26 : decode cX10_copies 26 = .ok (.iload_n 3, 1) := by decide +kernel
theorem dX10_copies_27 : decode cX10_copies 27 = .ok (.aload_n 0, 1) := by decide +kernel
theorem dX10_copies_28 : decode cX10_copies 28 = .ok (.getfield 17, 3) := by decide +kernel
theorem dX10_copies_31 : decode cX10_copies 31 = .ok (.iload_n 1, 1) := by decide +kernel
theorem dX10_copies_32 : decode cX10_copies 32 = .ok (.iaload, 1) := by decide +kernel
theorem dX10_copies_33 : decode cX10_copies 33 = .ok (.if_icmp .ge 31, 3) := by decide +kernel
theorem dX10_copies_36 : decode cX10_copies 36 = .ok (.aload_n 0, 1) := by decide +kernel
theorem dX10_copies_37 : decode cX10_copies 37 = .ok (.getfield 13, 3) := by decide +kernel
theorem dX10_copies_40 : decode cX10_copies 40 = .ok (.bipush 12, 2) := by decide +kernel
theorem dX10_copies_42 : decode cX10_copies 42 = .ok (.iload_n 2, 1) := by decide +kernel
theorem dX10_copies_43 : decode cX10_copies 43 = .ok (.imul, 1) := by decide +kernel
theorem dX10_copies_44 : decode cX10_copies 44 = .ok (.iload_n 3, 1) := by decide +kernel
theorem dX10_copies_45 : decode cX10_copies 45 = .ok (.iadd, 1) := by decide +kernel
theorem dX10_copies_46 : decode cX10_copies 46 = .ok (.aload_n 0, 1) := by decide +kernel
theorem dX10_copies_47 : decode cX10_copies 47 = .ok (.getfield 13, 3) := by decide +kernel
theorem dX10_copies_50 : decode cX10_copies 50 = .ok (.bipush 12, 2) := by decide +kernel
theorem dX10_copies_52 : decode cX10_copies 52 = .ok (.iload_n 1, 1) := by decide +kernel
theorem dX10_copies_53 : decode cX10_copies 53 = .ok (.imul, 1) := by decide +kernel
theorem dX10_copies_54 : decode cX10_copies 54 = .ok (.iload_n 3, 1) := by decide +kernel
theorem dX10_copies_55 : decode cX10_copies 55 = .ok (.iadd, 1) := by decide +kernel
theorem dX10_copies_56 : decode cX10_copies 56 = .ok (.baload, 1) := by decide +kernel
theorem dX10_copies_57 : decode cX10_copies 57 = .ok (.bastore, 1) := by decide +kernel
theorem dX10_copies_58 : decode cX10_copies 58 = .ok (.iinc 3 1, 3) := by decide +kernel
theorem dX10_copies_61 : decode cX10_copies 61 = .ok (.goto (-35), 3) := by decide +kernel
theorem dX10_copies_64 : decode cX10_copies 64 = .ok (.return_, 1) := by decide +kernel
set_option maxRecDepth 20000 in
theorem ggX10_alikeTo_X10_isAlike : GoodIn wsX10_alikeTo wsX10_isAlike := goodIn_r _ [7, 8, 9, 10, 11, 12, 13, 14, 6, 15, 16, 17, 18, 19, 20, 21, 22, 23, 24, 25, 26, 27, 28, 29, 30, 31, 32, 33, 34, 35, 36, 37, 38, 39, 40, 41, 42, 43, 44, 45, 46, 47, 48, 49, 50, 51, 52, 53, 54, 55, 56, 57, 58, 59, 60, 61, 62] (by decide +kernel) (by decide +kernel)
set_option maxRecDepth 20000 in
theorem gX10_alikeTo_X10_isAlike : GoodIn wsX10_alikeTo (wsV RX10 115 RX10 yX10_isAlike wsX10_isAlike) := goodIn_app (goodIn_of _ (by decide +kernel)) ggX10_alikeTo_X10_isAlike
theorem dX10_alikeTo_0 : decode cX10_alikeTo 0 = .ok (.iconst 0, 1) := by decide +kernel
theorem dX10_alikeTo_1 : decode cX10_alikeTo 1 = .ok (.istore_n 3, 1) := by decide +kernel
theorem dX10_alikeTo_2 : decode cX10_alikeTo 2 = .ok (.iload_n 3, 1) := by decide +kernel
theorem dX10_alikeTo_3 : decode cX10_alikeTo 3 = .ok (.aload_n 0, 1) := by decide +kernel
theorem dX10_alikeTo_4 : decode cX10_alikeTo 4 = .ok (.getfield 112, 3) := by decide +kernel
theorem dX10_alikeTo_7 : decode cX10_alikeTo 7 = .ok (.if_icmp .ge 34, 3) := by decide +kernel
theorem dX10_alikeTo_10 : decode cX10_alikeTo 10 = .ok (.iload_n 3, 1) := by decide +kernel
theorem dX10_alikeTo_11 : decode cX10_alikeTo 11 = .ok (.iload_n 2, 1) := by decide +kernel
theorem dX10_alikeTo_12 : decode cX10_alikeTo 12 = .ok (.if_icmp .eq 23, 3) := by decide +kernel
theorem dX10_alikeTo_15 : decode cX10_alikeTo 15 = .ok (.aload_n 0, 1) := by decide +kernel
theorem dX10_alikeTo_16 : decode cX10_alikeTo 16 = .ok (.getfield 24, 3) := by decide +kernel
theorem dX10_alikeTo_19 : decode cX10_alikeTo 19 = .ok (.iload_n 3, 1) := by decide +kernel
theorem dX10_alikeTo_20 : decode cX10_alikeTo 20 = .ok (.baload, 1) := by decide +kernel
theorem dX10_alikeTo_21 : decode cX10_alikeTo 21 = .ok (.ifCond .eq 14, 3) := by decide +kernel
theorem dX10_alikeTo_24 : decode cX10_alikeTo 24 = .ok (.aload_n 0, 1) := by decide +kernel
theorem dX10_alikeTo_25 : decode cX10_alikeTo 25 = .ok (.iload_n 3, 1) := by decide +kernel
theorem dX10_alikeTo_26 : decode cX10_alikeTo 26 = .ok (.iload_n 1, 1) := by decide +kernel
theorem dX10_alikeTo_27 : decode cX10_alikeTo 27 = .ok (.invokevirtual 115, 3) := by decide +kernel
theorem dX10_alikeTo_30 : decode cX10_alikeTo 30 = .ok (.ifCond .eq 5, 3) := by decide +kernel
theorem dX10_alikeTo_33 : decode cX10_alikeTo 33 = .ok (.iload_n 3, 1) := by decide +kernel
theorem dX10_alikeTo_34 : decode cX10_alikeTo 34 = .ok (.ireturn, 1) := by decide +kernel
theorem dX10_alikeTo_35 : decode cX10_alikeTo 35 = .ok (.iinc 3 1, 3) := by decide +kernel
theorem dX10_alikeTo_38 : decode cX10_alikeTo 38 = .ok (.goto (-36), 3) := by decide +kernel
theorem dX10_alikeTo_41 : decode cX10_alikeTo 41 = .ok (.iconst (-1), 1) := by decide +kernel
theorem dX10_alikeTo_42 : decode cX10_alikeTo 42 = .ok (.ireturn, 1) := by decide +kernel
set_option maxRecDepth 20000 in
theorem ggX10_goesTo_X10_isJust : GoodIn wsX10_goesTo wsX10_isJust := goodIn_r _ [6, 7, 8, 9, 14, 15, 16, 17, 18, 19, 20, 21, 22, 23, 24, 25, 26, 27, 28, 29, 30, 31, 32, 33, 34, 35, 36, 37, 38, 39, 40, 41, 42, 43, 44, 45, 46, 47, 48, 49, 50, 51, 52, 53, 54, 55, 56, 57] (by decide +kernel) (by decide +kernel)
set_option maxRecDepth 20000 in
theorem gX10_goesTo_X10_isJust : GoodIn wsX10_goesTo (wsV RX10 104 RX10 yX10_isJust wsX10_isJust) := goodIn_app (goodIn_of _ (by decide +kernel)) ggX10_goesTo_X10_isJust
set_option maxRecDepth 20000 in
theorem ggX10_goesTo_X10_copies : GoodIn wsX10_goesTo wsX10_copies := goodIn_r _ [13, 7, 8, 9, 14, 15, 16, 17, 18, 19, 20, 21, 22, 23, 24, 25, 26, 27, 28, 29, 30, 31, 32, 33, 34, 35, 36, 37, 38, 39, 40, 41, 42, 43, 44, 45, 46, 47, 48, 49, 50, 51, 52, 53, 54, 55, 56, 57] (by decide +kernel) (by decide +kernel)
set_option maxRecDepth 20000 in
theorem gX10_goesTo_X10_copies : GoodIn wsX10_goesTo (wsV RX10 121 RX10 yX10_copies wsX10_copies) := goodIn_app (goodIn_of _ (by decide +kernel)) ggX10_goesTo_X10_copies
theorem dX10_goesTo_0 : decode cX10_goesTo 0 = .ok (.bipush 40, 2) := by decide +kernel
theorem dX10_goesTo_2 : decode cX10_goesTo 2 = .ok (.istore_n 3, 1) := by decide +kernel
theorem dX10_goesTo_3 : decode cX10_goesTo 3 = .ok (.iload_n 3, 1) := by decide +kernel
theorem dX10_goesTo_4 : decode cX10_goesTo 4 = .ok (.bipush 40, 2) := by decide +kernel
theorem dX10_goesTo_6 : decode cX10_goesTo 6 = .ok (.aload_n 0, 1) := by decide +kernel
theorem dX10_goesTo_7 : decode cX10_goesTo 7 = .ok (.getfield 118, 3) := by decide +kernel
theorem dX10_goesTo_10 : decode cX10_goesTo 10 = .ok (.iadd, 1) := by decide +kernel
theorem dX10_goesTo_11 : decode cX10_goesTo 11 = .ok (.if_icmp .ge 24, 3) := by decide +kernel
theorem dX10_goesTo_14 : decode cX10_goesTo 14 = .ok (.aload_n 0, 1) := by decide +kernel
theorem dX10_goesTo_15 : decode cX10_goesTo 15 = .ok (.iload_n 3, 1) := by decide +kernel
theorem dX10_goesTo_16 : decode cX10_goesTo 16 = .ok (.iload_n 1, 1) := by decide +kernel
theorem dX10_goesTo_17 : decode cX10_goesTo 17 = .ok (.invokevirtual 104, 3) := by decide +kernel
theorem dX10_goesTo_20 : decode cX10_goesTo 20 = .ok (.ifCond .eq 9, 3) := by decide +kernel
theorem dX10_goesTo_23 : decode cX10_goesTo 23 = .ok (.aload_n 0, 1) := by decide +kernel
theorem dX10_goesTo_24 : decode cX10_goesTo 24 = .ok (.iload_n 2, 1) := by decide +kernel
theorem dX10_goesTo_25 : decode cX10_goesTo 25 = .ok (.iload_n 3, 1) := by decide +kernel
theorem dX10_goesTo_26 : decode cX10_goesTo 26 = .ok (.invokevirtual 121, 3) := by decide +kernel
theorem dX10_goesTo_29 : decode cX10_goesTo 29 = .ok (.iinc 3 1, 3) := by decide +kernel
theorem dX10_goesTo_32 : decode cX10_goesTo 32 = .ok (.goto (-29), 3) := by decide +kernel
theorem dX10_goesTo_35 : decode cX10_goesTo 35 = .ok (.aload_n 0, 1) := by decide +kernel
theorem dX10_goesTo_36 : decode cX10_goesTo 36 = .ok (.iload_n 2, 1) := by decide +kernel
theorem dX10_goesTo_37 : decode cX10_goesTo 37 = .ok (.iload_n 1, 1) := by decide +kernel
theorem dX10_goesTo_38 : decode cX10_goesTo 38 = .ok (.invokevirtual 121, 3) := by decide +kernel
theorem dX10_goesTo_41 : decode cX10_goesTo 41 = .ok (.return_, 1) := by decide +kernel
set_option maxRecDepth 20000 in
theorem ggX10_folds_X10_there : GoodIn wsX10_folds wsX10_there := goodIn_r _ [7, 8, 9, 10, 11, 12, 13, 14, 15, 16, 17, 18, 19, 20, 21, 22, 23, 24, 25, 26, 27, 28, 29, 30, 31, 32, 33, 34, 35, 36, 37, 38, 39, 40, 41, 42, 43, 44, 45, 46, 47, 48, 49, 50, 51, 52, 53] (by decide +kernel) (by decide +kernel)
set_option maxRecDepth 20000 in
theorem gX10_folds_X10_there : GoodIn wsX10_folds (wsV RX10 125 RX10 yX10_there wsX10_there) := goodIn_app (goodIn_of _ (by decide +kernel)) ggX10_folds_X10_there
theorem dX10_folds_0 : decode cX10_folds 0 = .ok (.aload_n 0, 1) := by decide +kernel
theorem dX10_folds_1 : decode cX10_folds 1 = .ok (.iconst 0, 1) := by decide +kernel
theorem dX10_folds_2 : decode cX10_folds 2 = .ok (.putfield 1, 3) := by decide +kernel
theorem dX10_folds_5 : decode cX10_folds 5 = .ok (.aload_n 0, 1) := by decide +kernel
theorem dX10_folds_6 : decode cX10_folds 6 = .ok (.invokevirtual 125, 3) := by decide +kernel
theorem dX10_folds_9 : decode cX10_folds 9 = .ok (.ifCond .le 5, 3) := by decide +kernel
theorem dX10_folds_12 : decode cX10_folds 12 = .ok (.iconst 0, 1) := by decide +kernel
theorem dX10_folds_13 : decode cX10_folds 13 = .ok (.ireturn, 1) := by decide +kernel
theorem dX10_folds_14 : decode cX10_folds 14 = .ok (.aload_n 0, 1) := by decide +kernel
theorem dX10_folds_15 : decode cX10_folds 15 = .ok (.iload_n 1, 1) := by decide +kernel
theorem dX10_folds_16 : decode cX10_folds 16 = .ok (.putfield 100, 3) := by decide +kernel
theorem dX10_folds_19 : decode cX10_folds 19 = .ok (.iconst 1, 1) := by decide +kernel
theorem dX10_folds_20 : decode cX10_folds 20 = .ok (.ireturn, 1) := by decide +kernel
theorem dX10_there_0 : decode cX10_there 0 = .ok (.iconst 0, 1) := by decide +kernel
theorem dX10_there_1 : decode cX10_there 1 = .ok (.istore_n 1, 1) := by decide +kernel
theorem dX10_there_2 : decode cX10_there 2 = .ok (.iconst 0, 1) := by decide +kernel
theorem dX10_there_3 : decode cX10_there 3 = .ok (.istore_n 2, 1) := by decide +kernel
theorem dX10_there_4 : decode cX10_there 4 = .ok (.iload_n 2, 1) := by decide +kernel
theorem dX10_there_5 : decode cX10_there 5 = .ok (.aload_n 0, 1) := by decide +kernel
theorem dX10_there_6 : decode cX10_there 6 = .ok (.getfield 112, 3) := by decide +kernel
theorem dX10_there_9 : decode cX10_there 9 = .ok (.if_icmp .ge 21, 3) := by decide +kernel
theorem dX10_there_12 : decode cX10_there 12 = .ok (.aload_n 0, 1) := by decide +kernel
theorem dX10_there_13 : decode cX10_there 13 = .ok (.getfield 24, 3) := by decide +kernel
theorem dX10_there_16 : decode cX10_there 16 = .ok (.iload_n 2, 1) := by decide +kernel
theorem dX10_there_17 : decode cX10_there 17 = .ok (.baload, 1) := by decide +kernel
theorem dX10_there_18 : decode cX10_there 18 = .ok (.ifCond .eq 6, 3) := by decide +kernel
theorem dX10_there_21 : decode cX10_there 21 = .ok (.iinc 1 1, 3) := by decide +kernel
theorem dX10_there_24 : decode cX10_there 24 = .ok (.iinc 2 1, 3) := by decide +kernel
theorem dX10_there_27 : decode cX10_there 27 = .ok (.goto (-23), 3) := by decide +kernel
theorem dX10_there_30 : decode cX10_there 30 = .ok (.iload_n 1, 1) := by decide +kernel
theorem dX10_there_31 : decode cX10_there 31 = .ok (.ireturn, 1) := by decide +kernel
theorem dX10_feed_0 : decode cX10_feed 0 = .ok (.aload_n 0, 1) := by decide +kernel
theorem dX10_feed_1 : decode cX10_feed 1 = .ok (.iconst 0, 1) := by decide +kernel
theorem dX10_feed_2 : decode cX10_feed 2 = .ok (.putfield 1, 3) := by decide +kernel
theorem dX10_feed_5 : decode cX10_feed 5 = .ok (.aload_n 0, 1) := by decide +kernel
theorem dX10_feed_6 : decode cX10_feed 6 = .ok (.getfield 129, 3) := by decide +kernel
theorem dX10_feed_9 : decode cX10_feed 9 = .ok (.bipush 20, 2) := by decide +kernel
theorem dX10_feed_11 : decode cX10_feed 11 = .ok (.iadd, 1) := by decide +kernel
theorem dX10_feed_12 : decode cX10_feed 12 = .ok (.bipush 80, 2) := by decide +kernel
theorem dX10_feed_14 : decode cX10_feed 14 = .ok (.if_icmp .le 5, 3) := by decide +kernel
theorem dX10_feed_17 : decode cX10_feed 17 = .ok (.iconst (-1), 1) := by decide +kernel
theorem dX10_feed_18 : decode cX10_feed 18 = .ok (.ireturn, 1) := by decide +kernel
theorem dX10_feed_19 : decode cX10_feed 19 = .ok (.iconst 0, 1) := by decide +kernel
theorem dX10_feed_20 : decode cX10_feed 20 = .ok (.istore 6, 2) := by decide +kernel
theorem dX10_feed_22 : decode cX10_feed 22 = .ok (.iload 6, 2) := by decide +kernel
theorem dX10_feed_24 : decode cX10_feed 24 = .ok (.bipush 20, 2) := by decide +kernel
theorem dX10_feed_26 : decode cX10_feed 26 = .ok (.if_icmp .ge 90, 3) := by decide +kernel
theorem dX10_feed_29 : decode cX10_feed 29 = .ok (.iload 6, 2) := by decide +kernel
theorem dX10_feed_31 : decode cX10_feed 31 = .ok (.iconst 4, 1) := by decide +kernel
theorem dX10_feed_32 : decode cX10_feed 32 = .ok (.if_icmp .ge 7, 3) := by decide +kernel
theorem dX10_feed_35 : decode cX10_feed 35 = .ok (.iload_n 1, 1) := by decide +kernel
theorem dX10_feed_36 : decode cX10_feed 36 = .ok (.goto 39, 3) := by decide +kernel
theorem dX10_feed_39 : decode cX10_feed 39 = .ok (.iload 6, 2) := by decide +kernel
theorem dX10_feed_41 : decode cX10_feed 41 = .ok (.bipush 8, 2) := by decide +kernel
theorem dX10_feed_43 : decode cX10_feed 43 = .ok (.if_icmp .ge 7, 3) := by decide +kernel
theorem dX10_feed_46 : decode cX10_feed 46 = .ok (.iload_n 2, 1) := by decide +kernel
theorem dX10_feed_47 : decode cX10_feed 47 = .ok (.goto 28, 3) := by decide +kernel
theorem dX10_feed_50 : decode cX10_feed 50 = .ok (.iload 6, 2) := by decide +kernel
theorem dX10_feed_52 : decode cX10_feed 52 = .ok (.bipush 12, 2) := by decide +kernel
theorem dX10_feed_54 : decode cX10_feed 54 = .ok (.if_icmp .ge 7, 3) := by decide +kernel
theorem dX10_feed_57 : decode cX10_feed 57 = .ok (.iload_n 3, 1) := by decide +kernel
theorem dX10_feed_58 : decode cX10_feed 58 = .ok (.goto 17, 3) := by decide +kernel
theorem dX10_feed_61 : decode cX10_feed 61 = .ok (.iload 6, 2) := by decide +kernel
theorem dX10_feed_63 : decode cX10_feed 63 = .ok (.bipush 16, 2) := by decide +kernel
theorem dX10_feed_65 : decode cX10_feed 65 = .ok (.if_icmp .ge 8, 3) := by decide +kernel
theorem dX10_feed_68 : decode cX10_feed 68 = .ok (.iload 4, 2) := by decide +kernel
theorem dX10_feed_70 : decode cX10_feed 70 = .ok (.goto 5, 3) := by decide +kernel
theorem dX10_feed_73 : decode cX10_feed 73 = .ok (.iload 5, 2) := by decide +kernel
theorem dX10_feed_75 : decode cX10_feed 75 = .ok (.istore 7, 2) := by decide +kernel
theorem dX10_feed_77 : decode cX10_feed 77 = .ok (.aload_n 0, 1) := by decide +kernel
theorem dX10_feed_78 : decode cX10_feed 78 = .ok (.getfield 28, 3) := by decide +kernel
theorem dX10_feed_81 : decode cX10_feed 81 = .ok (.aload_n 0, 1) := by decide +kernel
theorem dX10_feed_82 : decode cX10_feed 82 = .ok (.getfield 129, 3) := by decide +kernel
theorem dX10_feed_85 : decode cX10_feed 85 = .ok (.iload 7, 2) := by decide +kernel
theorem dX10_feed_87 : decode cX10_feed 87 = .ok (.bipush 24, 2) := by decide +kernel
theorem dX10_feed_89 : decode cX10_feed 89 = .ok (.bipush 8, 2) := by decide +kernel
theorem dX10_feed_91 : decode cX10_feed 91 = .ok (.iload 6, 2) := by decide +kernel
theorem dX10_feed_93 : decode cX10_feed 93 = .ok (.iconst 4, 1) := by decide +kernel
theorem dX10_feed_94 : decode cX10_feed 94 = .ok (.irem, 1) := by decide +kernel
theorem dX10_feed_95 : decode cX10_feed 95 = .ok (.imul, 1) := by decide +kernel
theorem dX10_feed_96 : decode cX10_feed 96 = .ok (.isub, 1) := by decide +kernel
theorem dX10_feed_97 : decode cX10_feed 97 = .ok (.ishr, 1) := by decide +kernel
theorem dX10_feed_98 : decode cX10_feed 98 = .ok (.i2b, 1) := by decide +kernel
theorem dX10_feed_99 : decode cX10_feed 99 = .ok (.bastore, 1) := by decide +kernel
theorem dX10_feed_100 : decode cX10_feed 100 = .ok (.aload_n 0, 1) := by decide +kernel
theorem dX10_feed_101 : decode cX10_feed 101 = .ok (.dup, 1) := by decide +kernel
theorem dX10_feed_102 : decode cX10_feed 102 = .ok (.getfield 129, 3) := by decide +kernel
theorem dX10_feed_105 : decode cX10_feed 105 = .ok (.iconst 1, 1) := by decide +kernel
theorem dX10_feed_106 : decode cX10_feed 106 = .ok (.iadd, 1) := by decide +kernel
theorem dX10_feed_107 : decode cX10_feed 107 = .ok (.putfield 129, 3) := by decide +kernel
theorem dX10_feed_110 : decode cX10_feed 110 = .ok (.iinc 6 1, 3) := by decide +kernel
theorem dX10_feed_113 : decode cX10_feed 113 = .ok (.goto (-91), 3) := by decide +kernel
theorem dX10_feed_116 : decode cX10_feed 116 = .ok (.aload_n 0, 1) := by decide +kernel
theorem dX10_feed_117 : decode cX10_feed 117 = .ok (.getfield 129, 3) := by decide +kernel
theorem dX10_feed_120 : decode cX10_feed 120 = .ok (.ireturn, 1) := by decide +kernel
theorem dX10_end_0 : decode cX10_end 0 = .ok (.aload_n 0, 1) := by decide +kernel
theorem dX10_end_1 : decode cX10_end 1 = .ok (.iconst 0, 1) := by decide +kernel
theorem dX10_end_2 : decode cX10_end 2 = .ok (.putfield 1, 3) := by decide +kernel
theorem dX10_end_5 : decode cX10_end 5 = .ok (.iload_n 1, 1) := by decide +kernel
theorem dX10_end_6 : decode cX10_end 6 = .ok (.ifCond .lt 11, 3) := by decide +kernel
theorem dX10_end_9 : decode cX10_end 9 = .ok (.iload_n 1, 1) := by decide +kernel
theorem dX10_end_10 : decode cX10_end 10 = .ok (.aload_n 0, 1) := by decide +kernel
theorem dX10_end_11 : decode cX10_end 11 = .ok (.getfield 129, 3) := by decide +kernel
theorem dX10_end_14 : decode cX10_end 14 = .ok (.if_icmp .le 5, 3) := by decide +kernel
theorem dX10_end_17 : decode cX10_end 17 = .ok (.iconst (-1), 1) := by decide +kernel
theorem dX10_end_18 : decode cX10_end 18 = .ok (.ireturn, 1) := by decide +kernel
theorem dX10_end_19 : decode cX10_end 19 = .ok (.aload_n 0, 1) := by decide +kernel
theorem dX10_end_20 : decode cX10_end 20 = .ok (.iload_n 1, 1) := by decide +kernel
theorem dX10_end_21 : decode cX10_end 21 = .ok (.putfield 129, 3) := by decide +kernel
theorem dX10_end_24 : decode cX10_end 24 = .ok (.iload_n 1, 1) := by decide +kernel
theorem dX10_end_25 : decode cX10_end 25 = .ok (.ireturn, 1) := by decide +kernel
theorem dX10_isFigure_0 : decode cX10_isFigure 0 = .ok (.iload_n 0, 1) := by decide +kernel
theorem dX10_isFigure_1 : decode cX10_isFigure 1 = .ok (.bipush 48, 2) := by decide +kernel
theorem dX10_isFigure_3 : decode cX10_isFigure 3 = .ok (.if_icmp .lt 13, 3) := by decide +kernel
theorem dX10_isFigure_6 : decode cX10_isFigure 6 = .ok (.iload_n 0, 1) := by decide +kernel
theorem dX10_isFigure_7 : decode cX10_isFigure 7 = .ok (.bipush 57, 2) := by decide +kernel
theorem dX10_isFigure_9 : decode cX10_isFigure 9 = .ok (.if_icmp .gt 7, 3) := by decide +kernel
theorem dX10_isFigure_12 : decode cX10_isFigure 12 = .ok (.iconst 1, 1) := by decide +kernel
theorem dX10_isFigure_13 : decode cX10_isFigure 13 = .ok (.goto 4, 3) := by decide +kernel
theorem dX10_isFigure_16 : decode cX10_isFigure 16 = .ok (.iconst 0, 1) := by decide +kernel
theorem dX10_isFigure_17 : decode cX10_isFigure 17 = .ok (.ireturn, 1) := by decide +kernel
set_option maxRecDepth 20000 in
theorem ggX10_isNameByte_X10_isFigure : GoodIn wsX10_isNameByte wsX10_isFigure := goodIn_r _ [4] (by decide +kernel) (by decide +kernel)
set_option maxRecDepth 20000 in
theorem gX10_isNameByte_X10_isFigure : GoodIn wsX10_isNameByte (va_wsS RX10 132 yX10_isFigure wsX10_isFigure) := goodIn_app (goodIn_of _ (by decide +kernel)) ggX10_isNameByte_X10_isFigure
theorem dX10_isNameByte_0 : decode cX10_isNameByte 0 = .ok (.iload_n 0, 1) := by decide +kernel
theorem dX10_isNameByte_1 : decode cX10_isNameByte 1 = .ok (.bipush 97, 2) := by decide +kernel
theorem dX10_isNameByte_3 : decode cX10_isNameByte 3 = .ok (.if_icmp .lt 9, 3) := by decide +kernel
theorem dX10_isNameByte_6 : decode cX10_isNameByte 6 = .ok (.iload_n 0, 1) := by decide +kernel
theorem dX10_isNameByte_7 : decode cX10_isNameByte 7 = .ok (.bipush 122, 2) := by decide +kernel
theorem dX10_isNameByte_9 : decode cX10_isNameByte 9 = .ok (.if_icmp .le 40, 3) := by decide +kernel
theorem dX10_isNameByte_12 : decode cX10_isNameByte 12 = .ok (.iload_n 0, 1) := by decide +kernel
theorem dX10_isNameByte_13 : decode cX10_isNameByte 13 = .ok (.bipush 65, 2) := by decide +kernel
theorem dX10_isNameByte_15 : decode cX10_isNameByte 15 = .ok (.if_icmp .lt 9, 3) := by decide +kernel
theorem dX10_isNameByte_18 : decode cX10_isNameByte 18 = .ok (.iload_n 0, 1) := by decide +kernel
theorem dX10_isNameByte_19 : decode cX10_isNameByte 19 = .ok (.bipush 90, 2) := by decide +kernel
theorem dX10_isNameByte_21 : decode cX10_isNameByte 21 = .ok (.if_icmp .le 28, 3) := by decide +kernel
theorem dX10_isNameByte_24 : decode cX10_isNameByte 24 = .ok (.iload_n 0, 1) := by decide +kernel
theorem dX10_isNameByte_25 : decode cX10_isNameByte 25 = .ok (.invokestatic 132, 3) := by decide +kernel
theorem dX10_isNameByte_28 : decode cX10_isNameByte 28 = .ok (.ifCond .ne 21, 3) := by decide +kernel
theorem dX10_isNameByte_31 : decode cX10_isNameByte 31 = .ok (.iload_n 0, 1) := by decide +kernel
theorem dX10_isNameByte_32 : decode cX10_isNameByte 32 = .ok (.bipush 46, 2) := by decide +kernel
theorem dX10_isNameByte_34 : decode cX10_isNameByte 34 = .ok (.if_icmp .eq 15, 3) := by decide +kernel
theorem dX10_isNameByte_37 : decode cX10_isNameByte 37 = .ok (.iload_n 0, 1) := by decide +kernel
theorem dX10_isNameByte_38 : decode cX10_isNameByte 38 = .ok (.bipush 45, 2) := by decide +kernel
theorem dX10_isNameByte_40 : decode cX10_isNameByte 40 = .ok (.if_icmp .eq 9, 3) := by decide +kernel
theorem dX10_isNameByte_43 : decode cX10_isNameByte 43 = .ok (.iload_n 0, 1) := by decide +kernel
theorem dX10_isNameByte_44 : decode cX10_isNameByte 44 = .ok (.bipush 95, 2) := by decide +kernel
theorem dX10_isNameByte_46 : decode cX10_isNameByte 46 = .ok (.if_icmp .ne 7, 3) := by decide +kernel
theorem dX10_isNameByte_49 : decode cX10_isNameByte 49 = .ok (.iconst 1, 1) := by decide +kernel
theorem dX10_isNameByte_50 : decode cX10_isNameByte 50 = .ok (.goto 4, 3) := by decide +kernel
theorem dX10_isNameByte_53 : decode cX10_isNameByte 53 = .ok (.iconst 0, 1) := by decide +kernel
theorem dX10_isNameByte_54 : decode cX10_isNameByte 54 = .ok (.ireturn, 1) := by decide +kernel
set_option maxRecDepth 20000 in
theorem ggX10_takes_X10_within : GoodIn wsX10_takes wsX10_within := goodIn_r _ [9] (by decide +kernel) (by decide +kernel)
set_option maxRecDepth 20000 in
theorem gX10_takes_X10_within : GoodIn wsX10_takes (va_wsS RX10 136 yX10_within wsX10_within) := goodIn_app (goodIn_of _ (by decide +kernel)) ggX10_takes_X10_within
set_option maxRecDepth 20000 in
theorem ggX10_takes_X10_isNameByte : GoodIn wsX10_takes wsX10_isNameByte := goodIn_r _ [12, 13, 14, 8, 15] (by decide +kernel) (by decide +kernel)
set_option maxRecDepth 20000 in
theorem gX10_takes_X10_isNameByte : GoodIn wsX10_takes (va_wsS RX10 140 yX10_isNameByte wsX10_isNameByte) := goodIn_app (goodIn_of _ (by decide +kernel)) ggX10_takes_X10_isNameByte
theorem dX10_takes_0 : decode cX10_takes 0 = .ok (.iload_n 1, 1) := by decide +kernel
theorem dX10_takes_1 : decode cX10_takes 1 = .ok (.iconst 0, 1) := by decide +kernel
theorem dX10_takes_2 : decode cX10_takes 2 = .ok (.iconst 5, 1) := by decide +kernel
theorem dX10_takes_3 : decode cX10_takes 3 = .ok (.invokestatic 136, 3) := by decide +kernel
theorem dX10_takes_6 : decode cX10_takes 6 = .ok (.ifCond .eq 20, 3) := by decide +kernel
theorem dX10_takes_9 : decode cX10_takes 9 = .ok (.aload_n 0, 1) := by decide +kernel
theorem dX10_takes_10 : decode cX10_takes 10 = .ok (.getfield 129, 3) := by decide +kernel
theorem dX10_takes_13 : decode cX10_takes 13 = .ok (.iconst 1, 1) := by decide +kernel
theorem dX10_takes_14 : decode cX10_takes 14 = .ok (.bipush 12, 2) := by decide +kernel
theorem dX10_takes_16 : decode cX10_takes 16 = .ok (.invokestatic 136, 3) := by decide +kernel
theorem dX10_takes_19 : decode cX10_takes 19 = .ok (.ifCond .eq 7, 3) := by decide +kernel
theorem dX10_takes_22 : decode cX10_takes 22 = .ok (.iconst 1, 1) := by decide +kernel
theorem dX10_takes_23 : decode cX10_takes 23 = .ok (.goto 4, 3) := by decide +kernel
theorem dX10_takes_26 : decode cX10_takes 26 = .ok (.iconst 0, 1) := by decide +kernel
theorem dX10_takes_27 : decode cX10_takes 27 = .ok (.istore_n 2, 1) := by decide +kernel
theorem dX10_takes_28 : decode cX10_takes 28 = .ok (.iconst 0, 1) := by decide +kernel
theorem dX10_takes_29 : decode cX10_takes 29 = .ok (.istore_n 3, 1) := by decide +kernel
theorem dX10_takes_30 : decode cX10_takes 30 = .ok (.iload_n 3, 1) := by decide +kernel
theorem dX10_takes_31 : decode cX10_takes 31 = .ok (.aload_n 0, 1) := by decide +kernel
theorem dX10_takes_32 : decode cX10_takes 32 = .ok (.getfield 129, 3) := by decide +kernel
theorem dX10_takes_35 : decode cX10_takes 35 = .ok (.if_icmp .ge 31, 3) := by decide +kernel
theorem dX10_takes_38 : decode cX10_takes 38 = .ok (.iload_n 2, 1) := by decide +kernel
theorem dX10_takes_39 : decode cX10_takes 39 = .ok (.ifCond .eq 19, 3) := by decide +kernel
theorem dX10_takes_42 : decode cX10_takes 42 = .ok (.aload_n 0, 1) := by decide +kernel
theorem dX10_takes_43 : decode cX10_takes 43 = .ok (.getfield 28, 3) := by decide +kernel
theorem dX10_takes_46 : decode cX10_takes 46 = .ok (.iload_n 3, 1) := by decide +kernel
theorem dX10_takes_47 : decode cX10_takes 47 = .ok (.baload, 1) := by decide +kernel
theorem dX10_takes_48 : decode cX10_takes 48 = .ok (.invokestatic 140, 3) := by decide +kernel
theorem dX10_takes_51 : decode cX10_takes 51 = .ok (.ifCond .eq 7, 3) := by decide +kernel
theorem dX10_takes_54 : decode cX10_takes 54 = .ok (.iconst 1, 1) := by decide +kernel
theorem dX10_takes_55 : decode cX10_takes 55 = .ok (.goto 4, 3) := by decide +kernel
theorem dX10_takes_58 : decode cX10_takes 58 = .ok (.iconst 0, 1) := by decide +kernel
theorem dX10_takes_59 : decode cX10_takes 59 = .ok (.istore_n 2, 1) := by decide +kernel
theorem dX10_takes_60 : decode cX10_takes 60 = .ok (.iinc 3 1, 3) := by decide +kernel
theorem dX10_takes_63 : decode cX10_takes 63 = .ok (.goto (-33), 3) := by decide +kernel
theorem dX10_takes_66 : decode cX10_takes 66 = .ok (.aload_n 0, 1) := by decide +kernel
theorem dX10_takes_67 : decode cX10_takes 67 = .ok (.getfield 21, 3) := by decide +kernel
theorem dX10_takes_70 : decode cX10_takes 70 = .ok (.bipush 70, 2) := by decide +kernel
theorem dX10_takes_72 : decode cX10_takes 72 = .ok (.iload_n 1, 1) := by decide +kernel
theorem dX10_takes_73 : decode cX10_takes 73 = .ok (.iastore, 1) := by decide +kernel
theorem dX10_takes_74 : decode cX10_takes 74 = .ok (.aload_n 0, 1) := by decide +kernel
theorem dX10_takes_75 : decode cX10_takes 75 = .ok (.getfield 17, 3) := by decide +kernel
theorem dX10_takes_78 : decode cX10_takes 78 = .ok (.bipush 70, 2) := by decide +kernel
theorem dX10_takes_80 : decode cX10_takes 80 = .ok (.iload_n 2, 1) := by decide +kernel
theorem dX10_takes_81 : decode cX10_takes 81 = .ok (.ifCond .eq 10, 3) := by decide +kernel
theorem dX10_takes_84 : decode cX10_takes 84 = .ok (.aload_n 0, 1) := by decide +kernel
theorem dX10_takes_85 : decode cX10_takes 85 = .ok (.getfield 129, 3) := by decide +kernel
theorem dX10_takes_88 : decode cX10_takes 88 = .ok (.goto 4, 3) := by decide +kernel
theorem dX10_takes_91 : decode cX10_takes 91 = .ok (.iconst 0, 1) := by decide +kernel
theorem dX10_takes_92 : decode cX10_takes 92 = .ok (.iastore, 1) := by decide +kernel
theorem dX10_takes_93 : decode cX10_takes 93 = .ok (.iconst 0, 1) := by decide +kernel
theorem dX10_takes_94 : decode cX10_takes 94 = .ok (.istore_n 3, 1) := by decide +kernel
theorem dX10_takes_95 : decode cX10_takes 95 = .ok (.iload_n 3, 1) := by decide +kernel
theorem dX10_takes_96 : decode cX10_takes 96 = .ok (.aload_n 0, 1) := by decide +kernel
theorem dX10_takes_97 : decode cX10_takes 97 = .ok (.getfield 17, 3) := by decide +kernel
theorem dX10_takes_100 : decode cX10_takes 100 = .ok (.bipush 70, 2) := by decide +kernel
theorem dX10_takes_102 : decode cX10_takes 102 = .ok (.iaload, 1) := by decide +kernel
theorem dX10_takes_103 : decode cX10_takes 103 = .ok (.if_icmp .ge 25, 3) := by decide +kernel
theorem dX10_takes_106 : decode cX10_takes 106 = .ok (.aload_n 0, 1) := by decide +kernel
theorem dX10_takes_107 : decode cX10_takes 107 = .ok (.getfield 13, 3) := by decide +kernel
theorem dX10_takes_110 : decode cX10_takes 110 = .ok (.sipush 840, 3) := by decide +kernel
theorem dX10_takes_113 : decode cX10_takes 113 = .ok (.iload_n 3, 1) := by decide +kernel
theorem dX10_takes_114 : decode cX10_takes 114 = .ok (.iadd, 1) := by decide +kernel
theorem dX10_takes_115 : decode cX10_takes 115 = .ok (.aload_n 0, 1) := by decide +kernel
theorem dX10_takes_116 : decode cX10_takes 116 = .ok (.getfield 28, 3) := by decide +kernel
theorem dX10_takes_119 : decode cX10_takes 119 = .ok (.iload_n 3, 1) := by decide +kernel
theorem dX10_takes_120 : decode cX10_takes 120 = .ok (.baload, 1) := by decide +kernel
theorem dX10_takes_121 : decode cX10_takes 121 = .ok (.bastore, 1) := by decide +kernel
theorem dX10_takes_122 : decode cX10_takes 122 = .ok (.iinc 3 1, 3) := by decide +kernel
theorem dX10_takes_125 : decode cX10_takes 125 = .ok (.goto (-30), 3) := by decide +kernel
theorem dX10_takes_128 : decode cX10_takes 128 = .ok (.aload_n 0, 1) := by decide +kernel
theorem dX10_takes_129 : decode cX10_takes 129 = .ok (.iconst 0, 1) := by decide +kernel
theorem dX10_takes_130 : decode cX10_takes 130 = .ok (.putfield 129, 3) := by decide +kernel
theorem dX10_takes_133 : decode cX10_takes 133 = .ok (.iload_n 2, 1) := by decide +kernel
theorem dX10_takes_134 : decode cX10_takes 134 = .ok (.ireturn, 1) := by decide +kernel
set_option maxRecDepth 20000 in
theorem ggX10_file_X10_takes : GoodIn wsX10_file wsX10_takes := goodIn_r _ [8, 9, 10, 11, 12, 13, 14, 15, 7, 16, 17, 18, 19, 20, 21, 22, 43, 44, 45, 46, 47, 48, 49, 50, 51, 52, 53, 54, 55, 56, 57, 58, 59, 60, 61, 62, 63, 64, 65, 66, 67, 68, 69, 70, 71, 72, 73, 74, 75, 76, 77, 78, 79, 80, 81, 82, 83, 84, 85, 86] (by decide +kernel) (by decide +kernel)
set_option maxRecDepth 20000 in
theorem gX10_file_X10_takes : GoodIn wsX10_file (wsV RX10 143 RX10 yX10_takes wsX10_takes) := goodIn_app (goodIn_of _ (by decide +kernel)) ggX10_file_X10_takes
set_option maxRecDepth 20000 in
theorem ggX10_file_X10_alikeTo : GoodIn wsX10_file wsX10_alikeTo := goodIn_r _ [26, 2, 3, 27, 28, 29, 7, 30, 31, 11, 12, 13, 32, 33, 34, 35, 36, 37, 38, 43, 44, 45, 46, 47, 48, 49, 50, 51, 52, 53, 54, 55, 56, 57, 58, 59, 60, 61, 62, 63, 64, 65, 66, 67, 68, 69, 70, 71, 72, 73, 74, 75, 76, 77, 78, 79, 80, 81, 82, 83, 84, 85, 86] (by decide +kernel) (by decide +kernel)
set_option maxRecDepth 20000 in
theorem gX10_file_X10_alikeTo : GoodIn wsX10_file (wsV RX10 146 RX10 yX10_alikeTo wsX10_alikeTo) := goodIn_app (goodIn_of _ (by decide +kernel)) ggX10_file_X10_alikeTo
set_option maxRecDepth 20000 in
theorem ggX10_file_X10_copies : GoodIn wsX10_file wsX10_copies := goodIn_r _ [42, 11, 12, 13, 43, 44, 45, 46, 47, 48, 49, 50, 51, 52, 53, 54, 55, 56, 57, 58, 59, 60, 61, 62, 63, 64, 65, 66, 67, 68, 69, 70, 71, 72, 73, 74, 75, 76, 77, 78, 79, 80, 81, 82, 83, 84, 85, 86] (by decide +kernel) (by decide +kernel)
set_option maxRecDepth 20000 in
theorem gX10_file_X10_copies : GoodIn wsX10_file (wsV RX10 121 RX10 yX10_copies wsX10_copies) := goodIn_app (goodIn_of _ (by decide +kernel)) ggX10_file_X10_copies
theorem dX10_file_0 : decode cX10_file 0 = .ok (.aload_n 0, 1) := by decide +kernel
theorem dX10_file_1 : decode cX10_file 1 = .ok (.iconst 0, 1) := by decide +kernel
theorem dX10_file_2 : decode cX10_file 2 = .ok (.putfield 1, 3) := by decide +kernel
theorem dX10_file_5 : decode cX10_file 5 = .ok (.aload_n 0, 1) := by decide +kernel
theorem dX10_file_6 : decode cX10_file 6 = .ok (.iload_n 1, 1) := by decide +kernel
theorem dX10_file_7 : decode cX10_file 7 = .ok (.invokevirtual 143, 3) := by decide +kernel
theorem dX10_file_10 : decode cX10_file 10 = .ok (.ifCond .eq 12, 3) := by decide +kernel
theorem dX10_file_13 : decode cX10_file 13 = .ok (.aload_n 0, 1) := by decide +kernel
theorem dX10_file_14 : decode cX10_file 14 = .ok (.getfield 112, 3) := by decide +kernel
theorem dX10_file_17 : decode cX10_file 17 = .ok (.bipush 40, 2) := by decide +kernel
theorem dX10_file_19 : decode cX10_file 19 = .ok (.if_icmp .ne 5, 3) := by decide +kernel
theorem dX10_file_22 : decode cX10_file 22 = .ok (.iconst (-1), 1) := by decide +kernel
theorem dX10_file_23 : decode cX10_file 23 = .ok (.ireturn, 1) := by decide +kernel
theorem dX10_file_24 : decode cX10_file 24 = .ok (.aload_n 0, 1) := by decide +kernel
theorem dX10_file_25 : decode cX10_file 25 = .ok (.bipush 70, 2) := by decide +kernel
theorem dX10_file_27 : decode cX10_file 27 = .ok (.iconst (-1), 1) := by decide +kernel
theorem dX10_file_28 : decode cX10_file 28 = .ok (.invokevirtual 146, 3) := by decide +kernel
theorem dX10_file_31 : decode cX10_file 31 = .ok (.istore_n 2, 1) := by decide +kernel
theorem dX10_file_32 : decode cX10_file 32 = .ok (.iload_n 2, 1) := by decide +kernel
theorem dX10_file_33 : decode cX10_file 33 = .ok (.iconst (-1), 1) := by decide +kernel
theorem dX10_file_34 : decode cX10_file 34 = .ok (.if_icmp .eq 8, 3) := by decide +kernel
theorem dX10_file_37 : decode cX10_file 37 = .ok (.bipush (-2), 2) := by decide +kernel
theorem dX10_file_39 : decode cX10_file 39 = .ok (.iload_n 2, 1) := by decide +kernel
theorem dX10_file_40 : decode cX10_file 40 = .ok (.isub, 1) := by decide +kernel
theorem dX10_file_41 : decode cX10_file 41 = .ok (.ireturn, 1) := by decide +kernel
theorem dX10_file_42 : decode cX10_file 42 = .ok (.aload_n 0, 1) := by decide +kernel
theorem dX10_file_43 : decode cX10_file 43 = .ok (.bipush 70, 2) := by decide +kernel
theorem dX10_file_45 : decode cX10_file 45 = .ok (.aload_n 0, 1) := by decide +kernel
theorem dX10_file_46 : decode cX10_file 46 = .ok (.getfield 112, 3) := by decide +kernel
theorem dX10_file_49 : decode cX10_file 49 = .ok (.invokevirtual 121, 3) := by decide +kernel
theorem dX10_file_52 : decode cX10_file 52 = .ok (.aload_n 0, 1) := by decide +kernel
theorem dX10_file_53 : decode cX10_file 53 = .ok (.getfield 24, 3) := by decide +kernel
theorem dX10_file_56 : decode cX10_file 56 = .ok (.aload_n 0, 1) := by decide +kernel
theorem dX10_file_57 : decode cX10_file 57 = .ok (.getfield 112, 3) := by decide +kernel
theorem dX10_file_60 : decode cX10_file 60 = .ok (.iconst 1, 1) := by decide +kernel
theorem dX10_file_61 : decode cX10_file 61 = .ok (.bastore, 1) := by decide +kernel
theorem dX10_file_62 : decode cX10_file 62 = .ok (.aload_n 0, 1) := by decide +kernel
theorem dX10_file_63 : decode cX10_file 63 = .ok (.dup, 1) := by decide +kernel
theorem dX10_file_64 : decode cX10_file 64 = .ok (.getfield 112, 3) := by decide +kernel
theorem dX10_file_67 : decode cX10_file 67 = .ok (.iconst 1, 1) := by decide +kernel
theorem dX10_file_68 : decode cX10_file 68 = .ok (.iadd, 1) := by decide +kernel
theorem dX10_file_69 : decode cX10_file 69 = .ok (.putfield 112, 3) := by decide +kernel
theorem dX10_file_72 : decode cX10_file 72 = .ok (.aload_n 0, 1) := by decide +kernel
theorem dX10_file_73 : decode cX10_file 73 = .ok (.getfield 112, 3) := by decide +kernel
theorem dX10_file_76 : decode cX10_file 76 = .ok (.iconst 1, 1) := by decide +kernel
theorem dX10_file_77 : decode cX10_file 77 = .ok (.isub, 1) := by decide +kernel
theorem dX10_file_78 : decode cX10_file 78 = .ok (.ireturn, 1) := by decide +kernel
theorem dX10_isFile_0 : decode cX10_isFile 0 = .ok (.iload_n 1, 1) := by decide +kernel
theorem dX10_isFile_1 : decode cX10_isFile 1 = .ok (.ifCond .lt 24, 3) := by decide +kernel
theorem dX10_isFile_4 : decode cX10_isFile 4 = .ok (.iload_n 1, 1) := by decide +kernel
theorem dX10_isFile_5 : decode cX10_isFile 5 = .ok (.aload_n 0, 1) := by decide +kernel
theorem dX10_isFile_6 : decode cX10_isFile 6 = .ok (.getfield 112, 3) := by decide +kernel
theorem dX10_isFile_9 : decode cX10_isFile 9 = .ok (.if_icmp .ge 16, 3) := by decide +kernel
theorem dX10_isFile_12 : decode cX10_isFile 12 = .ok (.aload_n 0, 1) := by decide +kernel
theorem dX10_isFile_13 : decode cX10_isFile 13 = .ok (.getfield 24, 3) := by decide +kernel
theorem dX10_isFile_16 : decode cX10_isFile 16 = .ok (.iload_n 1, 1) := by decide +kernel
theorem dX10_isFile_17 : decode cX10_isFile 17 = .ok (.baload, 1) := by decide +kernel
theorem dX10_isFile_18 : decode cX10_isFile 18 = .ok (.ifCond .eq 7, 3) := by decide +kernel
theorem dX10_isFile_21 : decode cX10_isFile 21 = .ok (.iconst 1, 1) := by decide +kernel
theorem dX10_isFile_22 : decode cX10_isFile 22 = .ok (.goto 4, 3) := by decide +kernel
theorem dX10_isFile_25 : decode cX10_isFile 25 = .ok (.iconst 0, 1) := by decide +kernel
theorem dX10_isFile_26 : decode cX10_isFile 26 = .ok (.ireturn, 1) := by decide +kernel
set_option maxRecDepth 20000 in
theorem ggX10_remove_X10_isFile : GoodIn wsX10_remove wsX10_isFile := goodIn_r _ [7, 8, 2, 9, 10, 11, 12, 13, 14, 15, 16, 17, 18, 19, 20, 21, 22, 23, 24, 25, 26, 27, 28, 29, 30, 31, 32, 33, 34, 35, 36, 37, 38, 39, 40, 41, 42, 43, 44, 45, 46, 47, 48, 49, 50, 51, 52] (by decide +kernel) (by decide +kernel)
set_option maxRecDepth 20000 in
theorem gX10_remove_X10_isFile : GoodIn wsX10_remove (wsV RX10 150 RX10 yX10_isFile wsX10_isFile) := goodIn_app (goodIn_of _ (by decide +kernel)) ggX10_remove_X10_isFile
theorem dX10_remove_0 : decode cX10_remove 0 = .ok (.aload_n 0, 1) := by decide +kernel
theorem dX10_remove_1 : decode cX10_remove 1 = .ok (.iconst 0, 1) := by decide +kernel
theorem dX10_remove_2 : decode cX10_remove 2 = .ok (.putfield 1, 3) := by decide +kernel
theorem dX10_remove_5 : decode cX10_remove 5 = .ok (.aload_n 0, 1) := by decide +kernel
theorem dX10_remove_6 : decode cX10_remove 6 = .ok (.iload_n 1, 1) := by decide +kernel
theorem dX10_remove_7 : decode cX10_remove 7 = .ok (.invokevirtual 150, 3) := by decide +kernel
theorem dX10_remove_10 : decode cX10_remove 10 = .ok (.ifCond .ne 5, 3) := by decide +kernel
theorem dX10_remove_13 : decode cX10_remove 13 = .ok (.iconst 0, 1) := by decide +kernel
theorem dX10_remove_14 : decode cX10_remove 14 = .ok (.ireturn, 1) := by decide +kernel
theorem dX10_remove_15 : decode cX10_remove 15 = .ok (.aload_n 0, 1) := by decide +kernel
theorem dX10_remove_16 : decode cX10_remove 16 = .ok (.getfield 24, 3) := by decide +kernel
theorem dX10_remove_19 : decode cX10_remove 19 = .ok (.iload_n 1, 1) := by decide +kernel
theorem dX10_remove_20 : decode cX10_remove 20 = .ok (.iconst 0, 1) := by decide +kernel
theorem dX10_remove_21 : decode cX10_remove 21 = .ok (.bastore, 1) := by decide +kernel
theorem dX10_remove_22 : decode cX10_remove 22 = .ok (.iconst 1, 1) := by decide +kernel
theorem dX10_remove_23 : decode cX10_remove 23 = .ok (.ireturn, 1) := by decide +kernel
set_option maxRecDepth 20000 in
theorem ggX10_hand_X10_takes : GoodIn wsX10_hand wsX10_takes := goodIn_r _ [6, 7, 8, 9, 10, 11, 12, 13, 5, 14, 15, 16, 17, 18, 19, 20, 52, 53, 54, 55, 56, 57, 58, 59, 60, 61, 62, 63, 64, 65, 66, 67, 68, 69, 70, 71, 72, 73, 74, 75, 76, 77, 78, 79, 80, 81, 82, 83, 84, 85, 86, 87, 88, 89, 90, 91, 92, 93, 94, 95] (by decide +kernel) (by decide +kernel)
set_option maxRecDepth 20000 in
theorem gX10_hand_X10_takes : GoodIn wsX10_hand (wsV RX10 143 RX10 yX10_takes wsX10_takes) := goodIn_app (goodIn_of _ (by decide +kernel)) ggX10_hand_X10_takes
set_option maxRecDepth 20000 in
theorem ggX10_hand_X10_isFile : GoodIn wsX10_hand wsX10_isFile := goodIn_r _ [24, 25, 26, 52, 53, 54, 55, 56, 57, 58, 59, 60, 61, 62, 63, 64, 65, 66, 67, 68, 69, 70, 71, 72, 73, 74, 75, 76, 77, 78, 79, 80, 81, 82, 83, 84, 85, 86, 87, 88, 89, 90, 91, 92, 93, 94, 95] (by decide +kernel) (by decide +kernel)
set_option maxRecDepth 20000 in
theorem gX10_hand_X10_isFile : GoodIn wsX10_hand (wsV RX10 150 RX10 yX10_isFile wsX10_isFile) := goodIn_app (goodIn_of _ (by decide +kernel)) ggX10_hand_X10_isFile
set_option maxRecDepth 20000 in
theorem ggX10_hand_X10_alikeTo : GoodIn wsX10_hand wsX10_alikeTo := goodIn_r _ [30, 25, 26, 31, 32, 33, 5, 34, 35, 9, 10, 11, 36, 37, 38, 39, 40, 41, 42, 52, 53, 54, 55, 56, 57, 58, 59, 60, 61, 62, 63, 64, 65, 66, 67, 68, 69, 70, 71, 72, 73, 74, 75, 76, 77, 78, 79, 80, 81, 82, 83, 84, 85, 86, 87, 88, 89, 90, 91, 92, 93, 94, 95] (by decide +kernel) (by decide +kernel)
set_option maxRecDepth 20000 in
theorem gX10_hand_X10_alikeTo : GoodIn wsX10_hand (wsV RX10 146 RX10 yX10_alikeTo wsX10_alikeTo) := goodIn_app (goodIn_of _ (by decide +kernel)) ggX10_hand_X10_alikeTo
set_option maxRecDepth 20000 in
theorem ggX10_hand_X10_goesTo : GoodIn wsX10_hand wsX10_goesTo := goodIn_r _ [46, 47, 36, 37, 38, 5, 39, 9, 10, 11, 48, 49, 50, 51, 52, 53, 54, 55, 56, 57, 58, 59, 60, 61, 62, 63, 64, 65, 66, 67, 68, 69, 70, 71, 72, 73, 74, 75, 76, 77, 78, 79, 80, 81, 82, 83, 84, 85, 86, 87, 88, 89, 90, 91, 92, 93, 94, 95] (by decide +kernel) (by decide +kernel)
set_option maxRecDepth 20000 in
theorem gX10_hand_X10_goesTo : GoodIn wsX10_hand (wsV RX10 153 RX10 yX10_goesTo wsX10_goesTo) := goodIn_app (goodIn_of _ (by decide +kernel)) ggX10_hand_X10_goesTo
theorem dX10_hand_0 : decode cX10_hand 0 = .ok (.aload_n 0, 1) := by decide +kernel
theorem dX10_hand_1 : decode cX10_hand 1 = .ok (.iconst 0, 1) := by decide +kernel
theorem dX10_hand_2 : decode cX10_hand 2 = .ok (.putfield 1, 3) := by decide +kernel
theorem dX10_hand_5 : decode cX10_hand 5 = .ok (.aload_n 0, 1) := by decide +kernel
theorem dX10_hand_6 : decode cX10_hand 6 = .ok (.iload_n 2, 1) := by decide +kernel
theorem dX10_hand_7 : decode cX10_hand 7 = .ok (.invokevirtual 143, 3) := by decide +kernel
theorem dX10_hand_10 : decode cX10_hand 10 = .ok (.ifCond .eq 11, 3) := by decide +kernel
theorem dX10_hand_13 : decode cX10_hand 13 = .ok (.aload_n 0, 1) := by decide +kernel
theorem dX10_hand_14 : decode cX10_hand 14 = .ok (.iload_n 1, 1) := by decide +kernel
theorem dX10_hand_15 : decode cX10_hand 15 = .ok (.invokevirtual 150, 3) := by decide +kernel
theorem dX10_hand_18 : decode cX10_hand 18 = .ok (.ifCond .ne 5, 3) := by decide +kernel
theorem dX10_hand_21 : decode cX10_hand 21 = .ok (.iconst (-1), 1) := by decide +kernel
theorem dX10_hand_22 : decode cX10_hand 22 = .ok (.ireturn, 1) := by decide +kernel
theorem dX10_hand_23 : decode cX10_hand 23 = .ok (.aload_n 0, 1) := by decide +kernel
theorem dX10_hand_24 : decode cX10_hand 24 = .ok (.bipush 70, 2) := by decide +kernel
theorem dX10_hand_26 : decode cX10_hand 26 = .ok (.iload_n 1, 1) := by decide +kernel
theorem dX10_hand_27 : decode cX10_hand 27 = .ok (.invokevirtual 146, 3) := by decide +kernel
theorem dX10_hand_30 : decode cX10_hand 30 = .ok (.istore_n 3, 1) := by decide +kernel
theorem dX10_hand_31 : decode cX10_hand 31 = .ok (.iload_n 3, 1) := by decide +kernel
theorem dX10_hand_32 : decode cX10_hand 32 = .ok (.iconst (-1), 1) := by decide +kernel
theorem dX10_hand_33 : decode cX10_hand 33 = .ok (.if_icmp .eq 8, 3) := by decide +kernel
theorem dX10_hand_36 : decode cX10_hand 36 = .ok (.bipush (-2), 2) := by decide +kernel
theorem dX10_hand_38 : decode cX10_hand 38 = .ok (.iload_n 3, 1) := by decide +kernel
theorem dX10_hand_39 : decode cX10_hand 39 = .ok (.isub, 1) := by decide +kernel
theorem dX10_hand_40 : decode cX10_hand 40 = .ok (.ireturn, 1) := by decide +kernel
theorem dX10_hand_41 : decode cX10_hand 41 = .ok (.aload_n 0, 1) := by decide +kernel
theorem dX10_hand_42 : decode cX10_hand 42 = .ok (.iload_n 1, 1) := by decide +kernel
theorem dX10_hand_43 : decode cX10_hand 43 = .ok (.bipush 70, 2) := by decide +kernel
theorem dX10_hand_45 : decode cX10_hand 45 = .ok (.invokevirtual 153, 3) := by decide +kernel
theorem dX10_hand_48 : decode cX10_hand 48 = .ok (.iconst 0, 1) := by decide +kernel
theorem dX10_hand_49 : decode cX10_hand 49 = .ok (.ireturn, 1) := by decide +kernel
set_option maxRecDepth 20000 in
theorem ggX10_at_X10_takes : GoodIn wsX10_at wsX10_takes := goodIn_r _ [6, 7, 8, 9, 10, 11, 12, 13, 5, 14, 15, 16, 17, 18, 19, 20, 39, 40, 41, 42, 43, 44, 45, 46, 47, 48, 49, 50, 51, 52, 53, 54, 55, 56, 57, 58, 59, 60, 61, 62, 63, 64, 65, 66, 67, 68, 69, 70, 71, 72, 73, 74, 75, 76, 77, 78, 79, 80, 81, 82] (by decide +kernel) (by decide +kernel)
set_option maxRecDepth 20000 in
theorem gX10_at_X10_takes : GoodIn wsX10_at (wsV RX10 143 RX10 yX10_takes wsX10_takes) := goodIn_app (goodIn_of _ (by decide +kernel)) ggX10_at_X10_takes
set_option maxRecDepth 20000 in
theorem ggX10_at_X10_alikeTo : GoodIn wsX10_at wsX10_alikeTo := goodIn_r _ [24, 25, 26, 27, 28, 29, 5, 30, 31, 9, 10, 11, 32, 33, 34, 35, 36, 37, 38, 39, 40, 41, 42, 43, 44, 45, 46, 47, 48, 49, 50, 51, 52, 53, 54, 55, 56, 57, 58, 59, 60, 61, 62, 63, 64, 65, 66, 67, 68, 69, 70, 71, 72, 73, 74, 75, 76, 77, 78, 79, 80, 81, 82] (by decide +kernel) (by decide +kernel)
set_option maxRecDepth 20000 in
theorem gX10_at_X10_alikeTo : GoodIn wsX10_at (wsV RX10 146 RX10 yX10_alikeTo wsX10_alikeTo) := goodIn_app (goodIn_of _ (by decide +kernel)) ggX10_at_X10_alikeTo
theorem dX10_at_0 : decode cX10_at 0 = .ok (.aload_n 0, 1) := by decide +kernel
theorem dX10_at_1 : decode cX10_at 1 = .ok (.iconst 0, 1) := by decide +kernel
theorem dX10_at_2 : decode cX10_at 2 = .ok (.putfield 1, 3) := by decide +kernel
theorem dX10_at_5 : decode cX10_at 5 = .ok (.aload_n 0, 1) := by decide +kernel
theorem dX10_at_6 : decode cX10_at 6 = .ok (.iload_n 1, 1) := by decide +kernel
theorem dX10_at_7 : decode cX10_at 7 = .ok (.invokevirtual 143, 3) := by decide +kernel
theorem dX10_at_10 : decode cX10_at 10 = .ok (.ifCond .eq 13, 3) := by decide +kernel
theorem dX10_at_13 : decode cX10_at 13 = .ok (.aload_n 0, 1) := by decide +kernel
theorem dX10_at_14 : decode cX10_at 14 = .ok (.bipush 70, 2) := by decide +kernel
theorem dX10_at_16 : decode cX10_at 16 = .ok (.iconst (-1), 1) := by decide +kernel
theorem dX10_at_17 : decode cX10_at 17 = .ok (.invokevirtual 146, 3) := by decide +kernel
theorem dX10_at_20 : decode cX10_at 20 = .ok (.goto 4, 3) := by decide +kernel
theorem dX10_at_23 : decode cX10_at 23 = .ok (.iconst (-1), 1) := by decide +kernel
theorem dX10_at_24 : decode cX10_at 24 = .ok (.ireturn, 1) := by decide +kernel
theorem dX10_fails_0 : decode cX10_fails 0 = .ok (.aload_n 0, 1) := by decide +kernel
theorem dX10_fails_1 : decode cX10_fails 1 = .ok (.getfield 156, 3) := by decide +kernel
theorem dX10_fails_4 : decode cX10_fails 4 = .ok (.ifCond .eq 4, 3) := by decide +kernel
theorem dX10_fails_7 : decode cX10_fails 7 = .ok (.return_, 1) := by decide +kernel
theorem dX10_fails_8 : decode cX10_fails 8 = .ok (.aload_n 0, 1) := by decide +kernel
theorem dX10_fails_9 : decode cX10_fails 9 = .ok (.iload_n 1, 1) := by decide +kernel
theorem dX10_fails_10 : decode cX10_fails 10 = .ok (.putfield 156, 3) := by decide +kernel
theorem dX10_fails_13 : decode cX10_fails 13 = .ok (.aload_n 0, 1) := by decide +kernel
theorem dX10_fails_14 : decode cX10_fails 14 = .ok (.iload_n 2, 1) := by decide +kernel
theorem dX10_fails_15 : decode cX10_fails 15 = .ok (.putfield 159, 3) := by decide +kernel
theorem dX10_fails_18 : decode cX10_fails 18 = .ok (.return_, 1) := by decide +kernel
set_option maxRecDepth 20000 in
theorem ggX10_readItems_X10_isNameByte : GoodIn wsX10_readItems wsX10_isNameByte := goodIn_r _ [9, 10, 11, 8, 12] (by decide +kernel) (by decide +kernel)
set_option maxRecDepth 20000 in
theorem gX10_readItems_X10_isNameByte : GoodIn wsX10_readItems (va_wsS RX10 140 yX10_isNameByte wsX10_isNameByte) := goodIn_app (goodIn_of _ (by decide +kernel)) ggX10_readItems_X10_isNameByte
set_option maxRecDepth 20000 in
theorem ggX10_readItems_X10_fails : GoodIn wsX10_readItems wsX10_fails := goodIn_r _ [16, 2, 17, 18, 19, 20, 21, 22, 23, 24, 25, 26, 27, 28, 29, 30, 31, 32, 33, 34, 35, 36, 37, 38, 39, 40, 41, 42, 43, 44, 45, 46, 47, 48, 49, 50, 51, 52, 53, 54, 55, 56, 57, 58, 59, 60, 61] (by decide +kernel) (by decide +kernel)
set_option maxRecDepth 20000 in
theorem gX10_readItems_X10_fails : GoodIn wsX10_readItems (wsV RX10 165 RX10 yX10_fails wsX10_fails) := goodIn_app (goodIn_of _ (by decide +kernel)) ggX10_readItems_X10_fails
theorem dX10_readItems_0 : decode cX10_readItems 0 = .ok (.iconst 0, 1) := by decide +kernel
theorem dX10_readItems_1 : decode cX10_readItems 1 = .ok (.istore_n 1, 1) := by decide +kernel
theorem dX10_readItems_2 : decode cX10_readItems 2 = .ok (.aload_n 0, 1) := by decide +kernel
theorem dX10_readItems_3 : decode cX10_readItems 3 = .ok (.iconst 0, 1) := by decide +kernel
theorem dX10_readItems_4 : decode cX10_readItems 4 = .ok (.putfield 162, 3) := by decide +kernel
theorem dX10_readItems_7 : decode cX10_readItems 7 = .ok (.aload_n 0, 1) := by decide +kernel
theorem dX10_readItems_8 : decode cX10_readItems 8 = .ok (.getfield 156, 3) := by decide +kernel
theorem dX10_readItems_11 : decode cX10_readItems 11 = .ok (.ifCond .ne 134, 3) := by decide +kernel
theorem dX10_readItems_14 : decode cX10_readItems 14 = .ok (.iload_n 1, 1) := by decide +kernel
theorem dX10_readItems_15 : decode cX10_readItems 15 = .ok (.aload_n 0, 1) := by decide +kernel
theorem dX10_readItems_16 : decode cX10_readItems 16 = .ok (.getfield 129, 3) := by decide +kernel
theorem dX10_readItems_19 : decode cX10_readItems 19 = .ok (.if_icmp .eq 21, 3) := by decide +kernel
theorem dX10_readItems_22 : decode cX10_readItems 22 = .ok (.aload_n 0, 1) := by decide +kernel
theorem dX10_readItems_23 : decode cX10_readItems 23 = .ok (.getfield 28, 3) := by decide +kernel
theorem dX10_readItems_26 : decode cX10_readItems 26 = .ok (.iload_n 1, 1) := by decide +kernel
theorem dX10_readItems_27 : decode cX10_readItems 27 = .ok (.baload, 1) := by decide +kernel
theorem dX10_readItems_28 : decode cX10_readItems 28 = .ok (.bipush 62, 2) := by decide +kernel
theorem dX10_readItems_30 : decode cX10_readItems 30 = .ok (.if_icmp .ne 10, 3) := by decide +kernel
theorem dX10_readItems_33 : decode cX10_readItems 33 = .ok (.aload_n 0, 1) := by decide +kernel
theorem dX10_readItems_34 : decode cX10_readItems 34 = .ok (.getfield 162, 3) := by decide +kernel
theorem dX10_readItems_37 : decode cX10_readItems 37 = .ok (.ifCond .ne 108, 3) := by decide +kernel
theorem dX10_readItems_40 : decode cX10_readItems 40 = .ok (.iload_n 1, 1) := by decide +kernel
theorem dX10_readItems_41 : decode cX10_readItems 41 = .ok (.aload_n 0, 1) := by decide +kernel
theorem dX10_readItems_42 : decode cX10_readItems 42 = .ok (.getfield 129, 3) := by decide +kernel
theorem dX10_readItems_45 : decode cX10_readItems 45 = .ok (.if_icmp .ge 12, 3) := by decide +kernel
theorem dX10_readItems_48 : decode cX10_readItems 48 = .ok (.aload_n 0, 1) := by decide +kernel
theorem dX10_readItems_49 : decode cX10_readItems 49 = .ok (.getfield 28, 3) := by decide +kernel
theorem dX10_readItems_52 : decode cX10_readItems 52 = .ok (.iload_n 1, 1) := by decide +kernel
theorem dX10_readItems_53 : decode cX10_readItems 53 = .ok (.baload, 1) := by decide +kernel
theorem dX10_readItems_54 : decode cX10_readItems 54 = .ok (.goto 4, 3) := by decide +kernel
theorem dX10_readItems_57 : decode cX10_readItems 57 = .ok (.iconst 0, 1) := by decide +kernel
theorem dX10_readItems_58 : decode cX10_readItems 58 = .ok (.istore_n 2, 1) := by decide +kernel
theorem dX10_readItems_59 : decode cX10_readItems 59 = .ok (.iload_n 1, 1) := by decide +kernel
theorem dX10_readItems_60 : decode cX10_readItems 60 = .ok (.aload_n 0, 1) := by decide +kernel
theorem dX10_readItems_61 : decode cX10_readItems 61 = .ok (.getfield 129, 3) := by decide +kernel
theorem dX10_readItems_64 : decode cX10_readItems 64 = .ok (.if_icmp .eq 28, 3) := by decide +kernel
theorem dX10_readItems_67 : decode cX10_readItems 67 = .ok (.iload_n 2, 1) := by decide +kernel
theorem dX10_readItems_68 : decode cX10_readItems 68 = .ok (.invokestatic 140, 3) := by decide +kernel
theorem dX10_readItems_71 : decode cX10_readItems 71 = .ok (.ifCond .ne 30, 3) := by decide +kernel
theorem dX10_readItems_74 : decode cX10_readItems 74 = .ok (.iload_n 2, 1) := by decide +kernel
theorem dX10_readItems_75 : decode cX10_readItems 75 = .ok (.bipush 63, 2) := by decide +kernel
theorem dX10_readItems_77 : decode cX10_readItems 77 = .ok (.if_icmp .eq 24, 3) := by decide +kernel
theorem dX10_readItems_80 : decode cX10_readItems 80 = .ok (.iload_n 2, 1) := by decide +kernel
theorem dX10_readItems_81 : decode cX10_readItems 81 = .ok (.bipush 42, 2) := by decide +kernel
theorem dX10_readItems_83 : decode cX10_readItems 83 = .ok (.if_icmp .eq 18, 3) := by decide +kernel
theorem dX10_readItems_86 : decode cX10_readItems 86 = .ok (.iload_n 2, 1) := by decide +kernel
theorem dX10_readItems_87 : decode cX10_readItems 87 = .ok (.bipush 35, 2) := by decide +kernel
theorem dX10_readItems_89 : decode cX10_readItems 89 = .ok (.if_icmp .eq 12, 3) := by decide +kernel
theorem dX10_readItems_92 : decode cX10_readItems 92 = .ok (.aload_n 0, 1) := by decide +kernel
theorem dX10_readItems_93 : decode cX10_readItems 93 = .ok (.iconst 1, 1) := by decide +kernel
theorem dX10_readItems_94 : decode cX10_readItems 94 = .ok (.iload_n 1, 1) := by decide +kernel
theorem dX10_readItems_95 : decode cX10_readItems 95 = .ok (.invokevirtual 165, 3) := by decide +kernel
theorem dX10_readItems_98 : decode cX10_readItems 98 = .ok (.goto 44, 3) := by decide +kernel
theorem dX10_readItems_101 : decode cX10_readItems 101 = .ok (.aload_n 0, 1) := by decide +kernel
theorem dX10_readItems_102 : decode cX10_readItems 102 = .ok (.getfield 162, 3) := by decide +kernel
theorem dX10_readItems_105 : decode cX10_readItems 105 = .ok (.bipush 12, 2) := by decide +kernel
theorem dX10_readItems_107 : decode cX10_readItems 107 = .ok (.if_icmp .ne 12, 3) := by decide +kernel
theorem dX10_readItems_110 : decode cX10_readItems 110 = .ok (.aload_n 0, 1) := by decide +kernel
theorem dX10_readItems_111 : decode cX10_readItems 111 = .ok (.iconst 2, 1) := by decide +kernel
theorem dX10_readItems_112 : decode cX10_readItems 112 = .ok (.iload_n 1, 1) := by decide +kernel
theorem dX10_readItems_113 : decode cX10_readItems 113 = .ok (.invokevirtual 165, 3) := by decide +kernel
theorem dX10_readItems_116 : decode cX10_readItems 116 = .ok (.goto 26, 3) := by decide +kernel
theorem dX10_readItems_119 : decode cX10_readItems 119 = .ok (.aload_n 0, 1) := by decide +kernel
theorem dX10_readItems_120 : decode cX10_readItems 120 = .ok (.getfield 40, 3) := by decide +kernel
theorem dX10_readItems_123 : decode cX10_readItems 123 = .ok (.aload_n 0, 1) := by decide +kernel
theorem dX10_readItems_124 : decode cX10_readItems 124 = .ok (.getfield 162, 3) := by decide +kernel
theorem dX10_readItems_127 : decode cX10_readItems 127 = .ok (.iload_n 2, 1) := by decide +kernel
theorem dX10_readItems_128 : decode cX10_readItems 128 = .ok (.iastore, 1) := by decide +kernel
theorem dX10_readItems_129 : decode cX10_readItems 129 = .ok (.aload_n 0, 1) := by decide +kernel
theorem dX10_readItems_130 : decode cX10_readItems 130 = .ok (.dup, 1) := by decide +kernel
theorem dX10_readItems_131 : decode cX10_readItems 131 = .ok (.getfield 162, 3) := by decide +kernel
theorem dX10_readItems_134 : decode cX10_readItems 134 = .ok (.iconst 1, 1) := by decide +kernel
theorem dX10_readItems_135 : decode cX10_readItems 135 = .ok (.iadd, 1) := by decide +kernel
theorem dX10_readItems_136 : decode cX10_readItems 136 = .ok (.putfield 162, 3) := by decide +kernel
theorem dX10_readItems_139 : decode cX10_readItems 139 = .ok (.iinc 1 1, 3) := by decide +kernel
theorem dX10_readItems_142 : decode cX10_readItems 142 = .ok (.goto (-135), 3) := by decide +kernel
theorem dX10_readItems_145 : decode cX10_readItems 145 = .ok (.iload_n 1, 1) := by decide +kernel
theorem dX10_readItems_146 : decode cX10_readItems 146 = .ok (.iconst 1, 1) := by decide +kernel
theorem dX10_readItems_147 : decode cX10_readItems 147 = .ok (.iadd, 1) := by decide +kernel
theorem dX10_readItems_148 : decode cX10_readItems 148 = .ok (.ireturn, 1) := by decide +kernel
theorem dX10_wilds_0 : decode cX10_wilds 0 = .ok (.iconst 0, 1) := by decide +kernel
theorem dX10_wilds_1 : decode cX10_wilds 1 = .ok (.istore_n 3, 1) := by decide +kernel
theorem dX10_wilds_2 : decode cX10_wilds 2 = .ok (.iconst 0, 1) := by decide +kernel
theorem dX10_wilds_3 : decode cX10_wilds 3 = .ok (.istore 4, 2) := by decide +kernel
theorem dX10_wilds_5 : decode cX10_wilds 5 = .ok (.iload 4, 2) := by decide +kernel
theorem dX10_wilds_7 : decode cX10_wilds 7 = .ok (.iload_n 2, 1) := by decide +kernel
theorem dX10_wilds_8 : decode cX10_wilds 8 = .ok (.if_icmp .ge 39, 3) := by decide +kernel
theorem dX10_wilds_11 : decode cX10_wilds 11 = .ok (.aload_n 1, 1) := by decide +kernel
theorem dX10_wilds_12 : decode cX10_wilds 12 = .ok (.iload 4, 2) := by decide +kernel
theorem dX10_wilds_14 : decode cX10_wilds 14 = .ok (.iaload, 1) := by decide +kernel
theorem dX10_wilds_15 : decode cX10_wilds 15 = .ok (.bipush 63, 2) := by decide +kernel
theorem dX10_wilds_17 : decode cX10_wilds 17 = .ok (.if_icmp .eq 21, 3) := by decide +kernel
theorem dX10_wilds_20 : decode cX10_wilds 20 = .ok (.aload_n 1, 1) := by decide +kernel
theorem dX10_wilds_21 : decode cX10_wilds 21 = .ok (.iload 4, 2) := by decide +kernel
theorem dX10_wilds_23 : decode cX10_wilds 23 = .ok (.iaload, 1) := by decide +kernel
theorem dX10_wilds_24 : decode cX10_wilds 24 = .ok (.bipush 42, 2) := by decide +kernel
theorem dX10_wilds_26 : decode cX10_wilds 26 = .ok (.if_icmp .eq 12, 3) := by decide +kernel
theorem dX10_wilds_29 : decode cX10_wilds 29 = .ok (.aload_n 1, 1) := by decide +kernel
theorem dX10_wilds_30 : decode cX10_wilds 30 = .ok (.iload 4, 2) := by decide +kernel
theorem dX10_wilds_32 : decode cX10_wilds 32 = .ok (.iaload, 1) := by decide +kernel
theorem dX10_wilds_33 : decode cX10_wilds 33 = .ok (.bipush 35, 2) := by decide +kernel
theorem dX10_wilds_35 : decode cX10_wilds 35 = .ok (.if_icmp .ne 6, 3) := by decide +kernel
theorem dX10_wilds_38 : decode cX10_wilds 38 = .ok (.iinc 3 1, 3) := by decide +kernel
theorem dX10_wilds_41 : decode cX10_wilds 41 = .ok (.iinc 4 1, 3) := by decide +kernel
theorem dX10_wilds_44 : decode cX10_wilds 44 = .ok (.goto (-39), 3) := by decide +kernel
theorem dX10_wilds_47 : decode cX10_wilds 47 = .ok (.iload_n 3, 1) := by decide +kernel
theorem dX10_wilds_48 : decode cX10_wilds 48 = .ok (.ireturn, 1) := by decide +kernel
set_option maxRecDepth 20000 in
theorem ggX10_readPart_X10_isNameByte : GoodIn wsX10_readPart wsX10_isNameByte := goodIn_r _ [11, 12, 13, 10, 14] (by decide +kernel) (by decide +kernel)
set_option maxRecDepth 20000 in
theorem gX10_readPart_X10_isNameByte : GoodIn wsX10_readPart (va_wsS RX10 140 yX10_isNameByte wsX10_isNameByte) := goodIn_app (goodIn_of _ (by decide +kernel)) ggX10_readPart_X10_isNameByte
set_option maxRecDepth 20000 in
theorem ggX10_readPart_X10_fails : GoodIn wsX10_readPart wsX10_fails := goodIn_r _ [18, 19, 20, 28, 29, 30, 31, 32, 33, 34, 35, 36, 37, 38, 39, 40, 41, 42, 43, 44, 45, 46, 47, 48, 49, 50, 51, 52, 53, 54, 55, 56, 57, 58, 59, 60, 61, 62, 63, 64, 65, 66, 67, 68, 69, 70, 71] (by decide +kernel) (by decide +kernel)
set_option maxRecDepth 20000 in
theorem gX10_readPart_X10_fails : GoodIn wsX10_readPart (wsV RX10 165 RX10 yX10_fails wsX10_fails) := goodIn_app (goodIn_of _ (by decide +kernel)) ggX10_readPart_X10_fails
set_option maxRecDepth 20000 in
theorem ggX10_readPart_X10_isFigure : GoodIn wsX10_readPart wsX10_isFigure := goodIn_r _ [14] (by decide +kernel) (by decide +kernel)
set_option maxRecDepth 20000 in
theorem gX10_readPart_X10_isFigure : GoodIn wsX10_readPart (va_wsS RX10 132 yX10_isFigure wsX10_isFigure) := goodIn_app (goodIn_of _ (by decide +kernel)) ggX10_readPart_X10_isFigure
set_option maxRecDepth 20000 in
theorem ggX10_readPart_X10_within : GoodIn wsX10_readPart wsX10_within := goodIn_r _ [23] (by decide +kernel) (by decide +kernel)
set_option maxRecDepth 20000 in
theorem gX10_readPart_X10_within : GoodIn wsX10_readPart (va_wsS RX10 136 yX10_within wsX10_within) := goodIn_app (goodIn_of _ (by decide +kernel)) ggX10_readPart_X10_within
set_option maxRecDepth 20000 in
theorem ggX10_readPart_X10_wilds : GoodIn wsX10_readPart wsX10_wilds := goodIn_r _ [27] (by decide +kernel) (by decide +kernel)
set_option maxRecDepth 20000 in
theorem gX10_readPart_X10_wilds : GoodIn wsX10_readPart (wsV RX10 170 RX10 yX10_wilds wsX10_wilds) := goodIn_app (goodIn_of _ (by decide +kernel)) ggX10_readPart_X10_wilds
theorem dX10_readPart_0 : decode cX10_readPart 0 = .ok (.iload_n 1, 1) := by decide +kernel
theorem dX10_readPart_1 : decode cX10_readPart 1 = .ok (.aload_n 0, 1) := by decide +kernel
theorem dX10_readPart_2 : decode cX10_readPart 2 = .ok (.getfield 129, 3) := by decide +kernel
theorem dX10_readPart_5 : decode cX10_readPart 5 = .ok (.if_icmp .ge 12, 3) := by decide +kernel
theorem dX10_readPart_8 : decode cX10_readPart 8 = .ok (.aload_n 0, 1) := by decide +kernel
theorem dX10_readPart_9 : decode cX10_readPart 9 = .ok (.getfield 28, 3) := by decide +kernel
theorem dX10_readPart_12 : decode cX10_readPart 12 = .ok (.iload_n 1, 1) := by decide +kernel
theorem dX10_readPart_13 : decode cX10_readPart 13 = .ok (.baload, 1) := by decide +kernel
theorem dX10_readPart_14 : decode cX10_readPart 14 = .ok (.goto 4, 3) := by decide +kernel
theorem dX10_readPart_17 : decode cX10_readPart 17 = .ok (.iconst 0, 1) := by decide +kernel
theorem dX10_readPart_18 : decode cX10_readPart 18 = .ok (.istore_n 2, 1) := by decide +kernel
theorem dX10_readPart_19 : decode cX10_readPart 19 = .ok (.iload_n 2, 1) := by decide +kernel
theorem dX10_readPart_20 : decode cX10_readPart 20 = .ok (.bipush 36, 2) := by decide +kernel
theorem dX10_readPart_22 : decode cX10_readPart 22 = .ok (.if_icmp .eq 21, 3) := by decide +kernel
theorem dX10_readPart_25 : decode cX10_readPart 25 = .ok (.iload_n 2, 1) := by decide +kernel
theorem dX10_readPart_26 : decode cX10_readPart 26 = .ok (.bipush 94, 2) := by decide +kernel
theorem dX10_readPart_28 : decode cX10_readPart 28 = .ok (.if_icmp .eq 15, 3) := by decide +kernel
theorem dX10_readPart_31 : decode cX10_readPart 31 = .ok (.iload_n 2, 1) := by decide +kernel
theorem dX10_readPart_32 : decode cX10_readPart 32 = .ok (.bipush 33, 2) := by decide +kernel
theorem dX10_readPart_34 : decode cX10_readPart 34 = .ok (.if_icmp .eq 9, 3) := by decide +kernel
theorem dX10_readPart_37 : decode cX10_readPart 37 = .ok (.iload_n 2, 1) := by decide +kernel
theorem dX10_readPart_38 : decode cX10_readPart 38 = .ok (.bipush 37, 2) := by decide +kernel
theorem dX10_readPart_40 : decode cX10_readPart 40 = .ok (.if_icmp .ne 7, 3) := by decide +kernel
theorem dX10_readPart_43 : decode cX10_readPart 43 = .ok (.iconst 1, 1) := by decide +kernel
theorem dX10_readPart_44 : decode cX10_readPart 44 = .ok (.goto 4, 3) := by decide +kernel
theorem dX10_readPart_47 : decode cX10_readPart 47 = .ok (.iconst 0, 1) := by decide +kernel
theorem dX10_readPart_48 : decode cX10_readPart 48 = .ok (.istore_n 3, 1) := by decide +kernel
theorem dX10_readPart_49 : decode cX10_readPart 49 = .ok (.iload_n 1, 1) := by decide +kernel
theorem dX10_readPart_50 : decode cX10_readPart 50 = .ok (.aload_n 0, 1) := by decide +kernel
theorem dX10_readPart_51 : decode cX10_readPart 51 = .ok (.getfield 129, 3) := by decide +kernel
theorem dX10_readPart_54 : decode cX10_readPart 54 = .ok (.if_icmp .eq 14, 3) := by decide +kernel
theorem dX10_readPart_57 : decode cX10_readPart 57 = .ok (.iload_n 2, 1) := by decide +kernel
theorem dX10_readPart_58 : decode cX10_readPart 58 = .ok (.invokestatic 140, 3) := by decide +kernel
theorem dX10_readPart_61 : decode cX10_readPart 61 = .ok (.ifCond .ne 15, 3) := by decide +kernel
theorem dX10_readPart_64 : decode cX10_readPart 64 = .ok (.iload_n 3, 1) := by decide +kernel
theorem dX10_readPart_65 : decode cX10_readPart 65 = .ok (.ifCond .ne 11, 3) := by decide +kernel
theorem dX10_readPart_68 : decode cX10_readPart 68 = .ok (.aload_n 0, 1) := by decide +kernel
theorem dX10_readPart_69 : decode cX10_readPart 69 = .ok (.iconst 1, 1) := by decide +kernel
