theorem dX1_has_6 : decode cX1_has 6 = .ok (.getfield 17, 3) := by decide +kernel
theorem dX1_has_9 : decode cX1_has 9 = .ok (.if_icmp .ge 7, 3) := by decide +kernel
theorem dX1_has_12 : decode cX1_has 12 = .ok (.iconst 1, 1) := by decide +kernel
theorem dX1_has_13 : decode cX1_has 13 = .ok (.goto 4, 3) := by decide +kernel
theorem dX1_has_16 : decode cX1_has 16 = .ok (.iconst 0, 1) := by decide +kernel
theorem dX1_has_17 : decode cX1_has 17 = .ok (.ireturn, 1) := by decide +kernel
theorem dX1_get_0 : decode cX1_get 0 = .ok (.aload_n 0, 1) := by decide +kernel
theorem dX1_get_1 : decode cX1_get 1 = .ok (.getfield 11, 3) := by decide +kernel
theorem dX1_get_4 : decode cX1_get 4 = .ok (.iload_n 1, 1) := by decide +kernel
theorem dX1_get_5 : decode cX1_get 5 = .ok (.aaload, 1) := by decide +kernel
theorem dX1_get_6 : decode cX1_get 6 = .ok (.areturn, 1) := by decide +kernel
set_option maxRecDepth 20000 in
theorem ggX1_add_X2_become : GoodIn wsX1_add wsX2_become := goodIn_r _ [7, 8, 9, 10, 11, 12, 6, 13, 14, 15, 16, 17, 18, 19, 20, 21, 22, 25, 26, 27] (by decide +kernel) (by decide +kernel)
set_option maxRecDepth 20000 in
theorem gX1_add_X2_become : GoodIn wsX1_add (wsV RX1 22 RX2 yX2_become wsX2_become) := goodIn_app (goodIn_of _ (by decide +kernel)) ggX1_add_X2_become
theorem dX1_add_0 : decode cX1_add 0 = .ok (.aload_n 0, 1) := by decide +kernel
theorem dX1_add_1 : decode cX1_add 1 = .ok (.getfield 17, 3) := by decide +kernel
theorem dX1_add_4 : decode cX1_add 4 = .ok (.istore_n 2, 1) := by decide +kernel
theorem dX1_add_5 : decode cX1_add 5 = .ok (.aload_n 0, 1) := by decide +kernel
theorem dX1_add_6 : decode cX1_add 6 = .ok (.getfield 11, 3) := by decide +kernel
theorem dX1_add_9 : decode cX1_add 9 = .ok (.iload_n 2, 1) := by decide +kernel
theorem dX1_add_10 : decode cX1_add 10 = .ok (.aaload, 1) := by decide +kernel
theorem dX1_add_11 : decode cX1_add 11 = .ok (.aload_n 1, 1) := by decide +kernel
theorem dX1_add_12 : decode cX1_add 12 = .ok (.invokevirtual 22, 3) := by decide +kernel
theorem dX1_add_15 : decode cX1_add 15 = .ok (.aload_n 0, 1) := by decide +kernel
theorem dX1_add_16 : decode cX1_add 16 = .ok (.dup, 1) := by decide +kernel
theorem dX1_add_17 : decode cX1_add 17 = .ok (.getfield 17, 3) := by decide +kernel
theorem dX1_add_20 : decode cX1_add 20 = .ok (.iconst 1, 1) := by decide +kernel
theorem dX1_add_21 : decode cX1_add 21 = .ok (.iadd, 1) := by decide +kernel
theorem dX1_add_22 : decode cX1_add 22 = .ok (.putfield 17, 3) := by decide +kernel
theorem dX1_add_25 : decode cX1_add 25 = .ok (.iload_n 2, 1) := by decide +kernel
theorem dX1_add_26 : decode cX1_add 26 = .ok (.ireturn, 1) := by decide +kernel
set_option maxRecDepth 20000 in
theorem ggX1_follow_X2_isJust : GoodIn wsX1_follow wsX2_isJust := goodIn_r _ [7, 8, 9, 10, 6, 11, 12, 13, 14, 15, 16, 17, 18, 19, 20, 21, 22, 37, 38, 39] (by decide +kernel) (by decide +kernel)
set_option maxRecDepth 20000 in
theorem gX1_follow_X2_isJust : GoodIn wsX1_follow (wsV RX1 26 RX2 yX2_isJust wsX2_isJust) := goodIn_app (goodIn_of _ (by decide +kernel)) ggX1_follow_X2_isJust
set_option maxRecDepth 20000 in
theorem ggX1_follow_X2_become : GoodIn wsX1_follow wsX2_become := goodIn_r _ [26, 12, 13, 27, 28, 29, 6, 30, 14, 15, 16, 17, 18, 31, 32, 33, 34, 37, 38, 39] (by decide +kernel) (by decide +kernel)
set_option maxRecDepth 20000 in
theorem gX1_follow_X2_become : GoodIn wsX1_follow (wsV RX1 22 RX2 yX2_become wsX2_become) := goodIn_app (goodIn_of _ (by decide +kernel)) ggX1_follow_X2_become
theorem dX1_follow_0 : decode cX1_follow 0 = .ok (.iconst 0, 1) := by decide +kernel
theorem dX1_follow_1 : decode cX1_follow 1 = .ok (.istore_n 3, 1) := by decide +kernel
theorem dX1_follow_2 : decode cX1_follow 2 = .ok (.iload_n 3, 1) := by decide +kernel
theorem dX1_follow_3 : decode cX1_follow 3 = .ok (.aload_n 0, 1) := by decide +kernel
theorem dX1_follow_4 : decode cX1_follow 4 = .ok (.getfield 17, 3) := by decide +kernel
theorem dX1_follow_7 : decode cX1_follow 7 = .ok (.if_icmp .ge 32, 3) := by decide +kernel
theorem dX1_follow_10 : decode cX1_follow 10 = .ok (.aload_n 0, 1) := by decide +kernel
theorem dX1_follow_11 : decode cX1_follow 11 = .ok (.getfield 11, 3) := by decide +kernel
theorem dX1_follow_14 : decode cX1_follow 14 = .ok (.iload_n 3, 1) := by decide +kernel
theorem dX1_follow_15 : decode cX1_follow 15 = .ok (.aaload, 1) := by decide +kernel
theorem dX1_follow_16 : decode cX1_follow 16 = .ok (.aload_n 1, 1) := by decide +kernel
theorem dX1_follow_17 : decode cX1_follow 17 = .ok (.invokevirtual 26, 3) := by decide +kernel
theorem dX1_follow_20 : decode cX1_follow 20 = .ok (.ifCond .eq 13, 3) := by decide +kernel
theorem dX1_follow_23 : decode cX1_follow 23 = .ok (.aload_n 0, 1) := by decide +kernel
theorem dX1_follow_24 : decode cX1_follow 24 = .ok (.getfield 11, 3) := by decide +kernel
theorem dX1_follow_27 : decode cX1_follow 27 = .ok (.iload_n 3, 1) := by decide +kernel
theorem dX1_follow_28 : decode cX1_follow 28 = .ok (.aaload, 1) := by decide +kernel
theorem dX1_follow_29 : decode cX1_follow 29 = .ok (.aload_n 2, 1) := by decide +kernel
theorem dX1_follow_30 : decode cX1_follow 30 = .ok (.invokevirtual 22, 3) := by decide +kernel
theorem dX1_follow_33 : decode cX1_follow 33 = .ok (.iinc 3 1, 3) := by decide +kernel
theorem dX1_follow_36 : decode cX1_follow 36 = .ok (.goto (-34), 3) := by decide +kernel
theorem dX1_follow_39 : decode cX1_follow 39 = .ok (.return_, 1) := by decide +kernel
theorem dX2_init_0 : decode cX2_init 0 = .ok (.aload_n 0, 1) := by decide +kernel
theorem dX2_init_1 : decode cX2_init 1 = .ok (.invokespecial 3, 3) := by decide +kernel
theorem dX2_init_4 : decode cX2_init 4 = .ok (.aload_n 0, 1) := by decide +kernel
theorem dX2_init_5 : decode cX2_init 5 = .ok (.bipush 12, 2) := by decide +kernel
theorem dX2_init_7 : decode cX2_init 7 = .ok (.newarray .int, 2) := by decide +kernel
theorem dX2_init_9 : decode cX2_init 9 = .ok (.putfield 9, 3) := by decide +kernel
theorem dX2_init_12 : decode cX2_init 12 = .ok (.aload_n 0, 1) := by decide +kernel
theorem dX2_init_13 : decode cX2_init 13 = .ok (.iconst 0, 1) := by decide +kernel
theorem dX2_init_14 : decode cX2_init 14 = .ok (.putfield 15, 3) := by decide +kernel
theorem dX2_init_17 : decode cX2_init 17 = .ok (.aload_n 0, 1) := by decide +kernel
theorem dX2_init_18 : decode cX2_init 18 = .ok (.iconst 0, 1) := by decide +kernel
theorem dX2_init_19 : decode cX2_init 19 = .ok (.putfield 19, 3) := by decide +kernel
theorem dX2_init_22 : decode cX2_init 22 = .ok (.return_, 1) := by decide +kernel
theorem dX2_byteAt_0 : decode cX2_byteAt 0 = .ok (.iload_n 1, 1) := by decide +kernel
theorem dX2_byteAt_1 : decode cX2_byteAt 1 = .ok (.ifCond .lt 29, 3) := by decide +kernel
theorem dX2_byteAt_4 : decode cX2_byteAt 4 = .ok (.iload_n 1, 1) := by decide +kernel
theorem dX2_byteAt_5 : decode cX2_byteAt 5 = .ok (.aload_n 0, 1) := by decide +kernel
theorem dX2_byteAt_6 : decode cX2_byteAt 6 = .ok (.getfield 19, 3) := by decide +kernel
theorem dX2_byteAt_9 : decode cX2_byteAt 9 = .ok (.if_icmp .ge 21, 3) := by decide +kernel
theorem dX2_byteAt_12 : decode cX2_byteAt 12 = .ok (.iload_n 1, 1) := by decide +kernel
theorem dX2_byteAt_13 : decode cX2_byteAt 13 = .ok (.aload_n 0, 1) := by decide +kernel
theorem dX2_byteAt_14 : decode cX2_byteAt 14 = .ok (.getfield 9, 3) := by decide +kernel
theorem dX2_byteAt_17 : decode cX2_byteAt 17 = .ok (.arraylength, 1) := by decide +kernel
theorem dX2_byteAt_18 : decode cX2_byteAt 18 = .ok (.if_icmp .ge 12, 3) := by decide +kernel
theorem dX2_byteAt_21 : decode cX2_byteAt 21 = .ok (.aload_n 0, 1) := by decide +kernel
theorem dX2_byteAt_22 : decode cX2_byteAt 22 = .ok (.getfield 9, 3) := by decide +kernel
theorem dX2_byteAt_25 : decode cX2_byteAt 25 = .ok (.iload_n 1, 1) := by decide +kernel
theorem dX2_byteAt_26 : decode cX2_byteAt 26 = .ok (.iaload, 1) := by decide +kernel
theorem dX2_byteAt_27 : decode cX2_byteAt 27 = .ok (.goto 4, 3) := by decide +kernel
theorem dX2_byteAt_30 : decode cX2_byteAt 30 = .ok (.iconst (-1), 1) := by decide +kernel
theorem dX2_byteAt_31 : decode cX2_byteAt 31 = .ok (.ireturn, 1) := by decide +kernel
theorem dX2_begin_0 : decode cX2_begin 0 = .ok (.aload_n 0, 1) := by decide +kernel
theorem dX2_begin_1 : decode cX2_begin 1 = .ok (.iload_n 1, 1) := by decide +kernel
theorem dX2_begin_2 : decode cX2_begin 2 = .ok (.putfield 15, 3) := by decide +kernel
theorem dX2_begin_5 : decode cX2_begin 5 = .ok (.aload_n 0, 1) := by decide +kernel
theorem dX2_begin_6 : decode cX2_begin 6 = .ok (.iconst 0, 1) := by decide +kernel
theorem dX2_begin_7 : decode cX2_begin 7 = .ok (.putfield 19, 3) := by decide +kernel
theorem dX2_begin_10 : decode cX2_begin 10 = .ok (.return_, 1) := by decide +kernel
theorem dX2_add_0 : decode cX2_add 0 = .ok (.aload_n 0, 1) := by decide +kernel
theorem dX2_add_1 : decode cX2_add 1 = .ok (.getfield 19, 3) := by decide +kernel
theorem dX2_add_4 : decode cX2_add 4 = .ok (.aload_n 0, 1) := by decide +kernel
theorem dX2_add_5 : decode cX2_add 5 = .ok (.getfield 9, 3) := by decide +kernel
theorem dX2_add_8 : decode cX2_add 8 = .ok (.arraylength, 1) := by decide +kernel
theorem dX2_add_9 : decode cX2_add 9 = .ok (.if_icmp .ge 23, 3) := by decide +kernel
theorem dX2_add_12 : decode cX2_add 12 = .ok (.aload_n 0, 1) := by decide +kernel
theorem dX2_add_13 : decode cX2_add 13 = .ok (.getfield 9, 3) := by decide +kernel
theorem dX2_add_16 : decode cX2_add 16 = .ok (.aload_n 0, 1) := by decide +kernel
theorem dX2_add_17 : decode cX2_add 17 = .ok (.getfield 19, 3) := by decide +kernel
theorem dX2_add_20 : decode cX2_add 20 = .ok (.iload_n 1, 1) := by decide +kernel
theorem dX2_add_21 : decode cX2_add 21 = .ok (.iastore, 1) := by decide +kernel
theorem dX2_add_22 : decode cX2_add 22 = .ok (.aload_n 0, 1) := by decide +kernel
theorem dX2_add_23 : decode cX2_add 23 = .ok (.dup, 1) := by decide +kernel
theorem dX2_add_24 : decode cX2_add 24 = .ok (.getfield 19, 3) := by decide +kernel
theorem dX2_add_27 : decode cX2_add 27 = .ok (.iconst 1, 1) := by decide +kernel
theorem dX2_add_28 : decode cX2_add 28 = .ok (.iadd, 1) := by decide +kernel
theorem dX2_add_29 : decode cX2_add 29 = .ok (.putfield 19, 3) := by decide +kernel
theorem dX2_add_32 : decode cX2_add 32 = .ok (.return_, 1) := by decide +kernel
set_option maxRecDepth 20000 in
theorem ggX2_become_X2_begin : GoodIn wsX2_become wsX2_begin := goodIn_r _ [7, 1, 2, 17, 18, 19] (by decide +kernel) (by decide +kernel)
set_option maxRecDepth 20000 in
theorem gX2_become_X2_begin : GoodIn wsX2_become (wsV RX2 22 RX2 yX2_begin wsX2_begin) := goodIn_app (goodIn_of _ (by decide +kernel)) ggX2_become_X2_begin
set_option maxRecDepth 20000 in
theorem ggX2_become_X2_byteAt : GoodIn wsX2_become wsX2_byteAt := goodIn_r _ [11, 2, 12, 17, 18, 19] (by decide +kernel) (by decide +kernel)
set_option maxRecDepth 20000 in
theorem gX2_become_X2_byteAt : GoodIn wsX2_become (wsV RX2 26 RX2 yX2_byteAt wsX2_byteAt) := goodIn_app (goodIn_of _ (by decide +kernel)) ggX2_become_X2_byteAt
set_option maxRecDepth 20000 in
theorem ggX2_become_X2_add : GoodIn wsX2_become wsX2_add := goodIn_r _ [16, 2, 12, 17, 18, 19] (by decide +kernel) (by decide +kernel)
set_option maxRecDepth 20000 in
theorem gX2_become_X2_add : GoodIn wsX2_become (wsV RX2 30 RX2 yX2_add wsX2_add) := goodIn_app (goodIn_of _ (by decide +kernel)) ggX2_become_X2_add
theorem dX2_become_0 : decode cX2_become 0 = .ok (.aload_n 0, 1) := by decide +kernel
theorem dX2_become_1 : decode cX2_become 1 = .ok (.aload_n 1, 1) := by decide +kernel
theorem dX2_become_2 : decode cX2_become 2 = .ok (.getfield 15, 3) := by decide +kernel
theorem dX2_become_5 : decode cX2_become 5 = .ok (.invokevirtual 22, 3) := by decide +kernel
theorem dX2_become_8 : decode cX2_become 8 = .ok (.iconst 0, 1) := by decide +kernel
theorem dX2_become_9 : decode cX2_become 9 = .ok (.istore_n 2, 1) := by decide +kernel
theorem dX2_become_10 : decode cX2_become 10 = .ok (.iload_n 2, 1) := by decide +kernel
theorem dX2_become_11 : decode cX2_become 11 = .ok (.aload_n 1, 1) := by decide +kernel
theorem dX2_become_12 : decode cX2_become 12 = .ok (.getfield 19, 3) := by decide +kernel
theorem dX2_become_15 : decode cX2_become 15 = .ok (.if_icmp .ge 18, 3) := by decide +kernel
theorem dX2_become_18 : decode cX2_become 18 = .ok (.aload_n 0, 1) := by decide +kernel
theorem dX2_become_19 : decode cX2_become 19 = .ok (.aload_n 1, 1) := by decide +kernel
theorem dX2_become_20 : decode cX2_become 20 = .ok (.iload_n 2, 1) := by decide +kernel
theorem dX2_become_21 : decode cX2_become 21 = .ok (.invokevirtual 26, 3) := by decide +kernel
theorem dX2_become_24 : decode cX2_become 24 = .ok (.invokevirtual 30, 3) := by decide +kernel
theorem dX2_become_27 : decode cX2_become 27 = .ok (.iinc 2 1, 3) := by decide +kernel
theorem dX2_become_30 : decode cX2_become 30 = .ok (.goto (-20), 3) := by decide +kernel
theorem dX2_become_33 : decode cX2_become 33 = .ok (.return_, 1) := by decide +kernel
set_option maxRecDepth 20000 in
theorem ggX2_becomeSpare_X2_begin : GoodIn wsX2_becomeSpare wsX2_begin := goodIn_r _ [5, 6, 7, 13, 14, 15] (by decide +kernel) (by decide +kernel)
set_option maxRecDepth 20000 in
theorem gX2_becomeSpare_X2_begin : GoodIn wsX2_becomeSpare (wsV RX2 22 RX2 yX2_begin wsX2_begin) := goodIn_app (goodIn_of _ (by decide +kernel)) ggX2_becomeSpare_X2_begin
set_option maxRecDepth 20000 in
theorem ggX2_becomeSpare_X2_add : GoodIn wsX2_becomeSpare wsX2_add := goodIn_r _ [11, 7, 12, 13, 14, 15] (by decide +kernel) (by decide +kernel)
set_option maxRecDepth 20000 in
theorem gX2_becomeSpare_X2_add : GoodIn wsX2_becomeSpare (wsV RX2 30 RX2 yX2_add wsX2_add) := goodIn_app (goodIn_of _ (by decide +kernel)) ggX2_becomeSpare_X2_add
theorem dX2_becomeSpare_0 : decode cX2_becomeSpare 0 = .ok (.aload_n 0, 1) := by decide +kernel
theorem dX2_becomeSpare_1 : decode cX2_becomeSpare 1 = .ok (.iload_n 1, 1) := by decide +kernel
theorem dX2_becomeSpare_2 : decode cX2_becomeSpare 2 = .ok (.invokevirtual 22, 3) := by decide +kernel
theorem dX2_becomeSpare_5 : decode cX2_becomeSpare 5 = .ok (.aload_n 0, 1) := by decide +kernel
theorem dX2_becomeSpare_6 : decode cX2_becomeSpare 6 = .ok (.bipush 126, 2) := by decide +kernel
theorem dX2_becomeSpare_8 : decode cX2_becomeSpare 8 = .ok (.invokevirtual 30, 3) := by decide +kernel
theorem dX2_becomeSpare_11 : decode cX2_becomeSpare 11 = .ok (.iload_n 2, 1) := by decide +kernel
theorem dX2_becomeSpare_12 : decode cX2_becomeSpare 12 = .ok (.bipush 10, 2) := by decide +kernel
theorem dX2_becomeSpare_14 : decode cX2_becomeSpare 14 = .ok (.if_icmp .lt 14, 3) := by decide +kernel
theorem dX2_becomeSpare_17 : decode cX2_becomeSpare 17 = .ok (.aload_n 0, 1) := by decide +kernel
theorem dX2_becomeSpare_18 : decode cX2_becomeSpare 18 = .ok (.bipush 48, 2) := by decide +kernel
theorem dX2_becomeSpare_20 : decode cX2_becomeSpare 20 = .ok (.iload_n 2, 1) := by decide +kernel
theorem dX2_becomeSpare_21 : decode cX2_becomeSpare 21 = .ok (.bipush 10, 2) := by decide +kernel
theorem dX2_becomeSpare_23 : decode cX2_becomeSpare 23 = .ok (.idiv, 1) := by decide +kernel
theorem dX2_becomeSpare_24 : decode cX2_becomeSpare 24 = .ok (.iadd, 1) := by decide +kernel
theorem dX2_becomeSpare_25 : decode cX2_becomeSpare 25 = .ok (.invokevirtual 30, 3) := by decide +kernel
theorem dX2_becomeSpare_28 : decode cX2_becomeSpare 28 = .ok (.aload_n 0, 1) := by decide +kernel
theorem dX2_becomeSpare_29 : decode cX2_becomeSpare 29 = .ok (.bipush 48, 2) := by decide +kernel
theorem dX2_becomeSpare_31 : decode cX2_becomeSpare 31 = .ok (.iload_n 2, 1) := by decide +kernel
theorem dX2_becomeSpare_32 : decode cX2_becomeSpare 32 = .ok (.bipush 10, 2) := by decide +kernel
theorem dX2_becomeSpare_34 : decode cX2_becomeSpare 34 = .ok (.irem, 1) := by decide +kernel
theorem dX2_becomeSpare_35 : decode cX2_becomeSpare 35 = .ok (.iadd, 1) := by decide +kernel
theorem dX2_becomeSpare_36 : decode cX2_becomeSpare 36 = .ok (.invokevirtual 30, 3) := by decide +kernel
theorem dX2_becomeSpare_39 : decode cX2_becomeSpare 39 = .ok (.return_, 1) := by decide +kernel
set_option maxRecDepth 20000 in
theorem ggX2_isSpare_X2_byteAt : GoodIn wsX2_isSpare wsX2_byteAt := goodIn_r _ [5, 6, 7, 8, 9, 10] (by decide +kernel) (by decide +kernel)
set_option maxRecDepth 20000 in
theorem gX2_isSpare_X2_byteAt : GoodIn wsX2_isSpare (wsV RX2 26 RX2 yX2_byteAt wsX2_byteAt) := goodIn_app (goodIn_of _ (by decide +kernel)) ggX2_isSpare_X2_byteAt
theorem dX2_isSpare_0 : decode cX2_isSpare 0 = .ok (.aload_n 0, 1) := by decide +kernel
theorem dX2_isSpare_1 : decode cX2_isSpare 1 = .ok (.iconst 0, 1) := by decide +kernel
theorem dX2_isSpare_2 : decode cX2_isSpare 2 = .ok (.invokevirtual 26, 3) := by decide +kernel
theorem dX2_isSpare_5 : decode cX2_isSpare 5 = .ok (.bipush 126, 2) := by decide +kernel
theorem dX2_isSpare_7 : decode cX2_isSpare 7 = .ok (.if_icmp .ne 7, 3) := by decide +kernel
theorem dX2_isSpare_10 : decode cX2_isSpare 10 = .ok (.iconst 1, 1) := by decide +kernel
theorem dX2_isSpare_11 : decode cX2_isSpare 11 = .ok (.goto 4, 3) := by decide +kernel
theorem dX2_isSpare_14 : decode cX2_isSpare 14 = .ok (.iconst 0, 1) := by decide +kernel
theorem dX2_isSpare_15 : decode cX2_isSpare 15 = .ok (.ireturn, 1) := by decide +kernel
set_option maxRecDepth 20000 in
theorem ggX2_isJust_X2_isAlike : GoodIn wsX2_isJust wsX2_isAlike := goodIn_r _ [5, 6, 7, 8, 9, 10, 4, 11, 12, 13, 14, 15, 16, 17, 18, 19] (by decide +kernel) (by decide +kernel)
set_option maxRecDepth 20000 in
theorem gX2_isJust_X2_isAlike : GoodIn wsX2_isJust (wsV RX2 33 RX2 yX2_isAlike wsX2_isAlike) := goodIn_app (goodIn_of _ (by decide +kernel)) ggX2_isJust_X2_isAlike
theorem dX2_isJust_0 : decode cX2_isJust 0 = .ok (.aload_n 0, 1) := by decide +kernel
theorem dX2_isJust_1 : decode cX2_isJust 1 = .ok (.aload_n 1, 1) := by decide +kernel
theorem dX2_isJust_2 : decode cX2_isJust 2 = .ok (.iconst 0, 1) := by decide +kernel
theorem dX2_isJust_3 : decode cX2_isJust 3 = .ok (.invokevirtual 33, 3) := by decide +kernel
theorem dX2_isJust_6 : decode cX2_isJust 6 = .ok (.ireturn, 1) := by decide +kernel
set_option maxRecDepth 20000 in
theorem ggX2_isAlike_X2_byteAt : GoodIn wsX2_isAlike wsX2_byteAt := goodIn_r _ [7, 2, 8, 13, 14, 15] (by decide +kernel) (by decide +kernel)
set_option maxRecDepth 20000 in
theorem gX2_isAlike_X2_byteAt : GoodIn wsX2_isAlike (wsV RX2 26 RX2 yX2_byteAt wsX2_byteAt) := goodIn_app (goodIn_of _ (by decide +kernel)) ggX2_isAlike_X2_byteAt
set_option maxRecDepth 20000 in
theorem ggX2_isAlike_X6_small : GoodIn wsX2_isAlike wsX6_small := goodIn_r _ [12] (by decide +kernel) (by decide +kernel)
set_option maxRecDepth 20000 in
theorem gX2_isAlike_X6_small : GoodIn wsX2_isAlike (va_wsS RX2 37 yX6_small wsX6_small) := goodIn_app (goodIn_of _ (by decide +kernel)) ggX2_isAlike_X6_small
theorem dX2_isAlike_0 : decode cX2_isAlike 0 = .ok (.aload_n 0, 1) := by decide +kernel
theorem dX2_isAlike_1 : decode cX2_isAlike 1 = .ok (.getfield 15, 3) := by decide +kernel
theorem dX2_isAlike_4 : decode cX2_isAlike 4 = .ok (.aload_n 1, 1) := by decide +kernel
theorem dX2_isAlike_5 : decode cX2_isAlike 5 = .ok (.getfield 15, 3) := by decide +kernel
theorem dX2_isAlike_8 : decode cX2_isAlike 8 = .ok (.if_icmp .ne 14, 3) := by decide +kernel
theorem dX2_isAlike_11 : decode cX2_isAlike 11 = .ok (.aload_n 0, 1) := by decide +kernel
theorem dX2_isAlike_12 : decode cX2_isAlike 12 = .ok (.getfield 19, 3) := by decide +kernel
theorem dX2_isAlike_15 : decode cX2_isAlike 15 = .ok (.aload_n 1, 1) := by decide +kernel
theorem dX2_isAlike_16 : decode cX2_isAlike 16 = .ok (.getfield 19, 3) := by decide +kernel
theorem dX2_isAlike_19 : decode cX2_isAlike 19 = .ok (.if_icmp .eq 5, 3) := by decide +kernel
theorem dX2_isAlike_22 : decode cX2_isAlike 22 = .ok (.iconst 0, 1) := by decide +kernel
theorem dX2_isAlike_23 : decode cX2_isAlike 23 = .ok (.ireturn, 1) := by decide +kernel
theorem dX2_isAlike_24 : decode cX2_isAlike 24 = .ok (.iconst 0, 1) := by decide +kernel
theorem dX2_isAlike_25 : decode cX2_isAlike 25 = .ok (.istore_n 3, 1) := by decide +kernel
theorem dX2_isAlike_26 : decode cX2_isAlike 26 = .ok (.iload_n 3, 1) := by decide +kernel
theorem dX2_isAlike_27 : decode cX2_isAlike 27 = .ok (.aload_n 0, 1) := by decide +kernel
theorem dX2_isAlike_28 : decode cX2_isAlike 28 = .ok (.getfield 19, 3) := by decide +kernel
theorem dX2_isAlike_31 : decode cX2_isAlike 31 = .ok (.if_icmp .ge 49, 3) := by decide +kernel
theorem dX2_isAlike_34 : decode cX2_isAlike 34 = .ok (.aload_n 0, 1) := by decide +kernel
theorem dX2_isAlike_35 : decode cX2_isAlike 35 = .ok (.iload_n 3, 1) := by decide +kernel
theorem dX2_isAlike_36 : decode cX2_isAlike 36 = .ok (.invokevirtual 26, 3) := by decide +kernel
theorem dX2_isAlike_39 : decode cX2_isAlike 39 = .ok (.istore 4, 2) := by decide +kernel
theorem dX2_isAlike_41 : decode cX2_isAlike 41 = .ok (.aload_n 1, 1) := by decide +kernel
theorem dX2_isAlike_42 : decode cX2_isAlike 42 = .ok (.iload_n 3, 1) := by decide +kernel
theorem dX2_isAlike_43 : decode cX2_isAlike 43 = .ok (.invokevirtual 26, 3) := by decide +kernel
theorem dX2_isAlike_46 : decode cX2_isAlike 46 = .ok (.istore 5, 2) := by decide +kernel
theorem dX2_isAlike_48 : decode cX2_isAlike 48 = .ok (.iload 4, 2) := by decide +kernel
theorem dX2_isAlike_50 : decode cX2_isAlike 50 = .ok (.iload 5, 2) := by decide +kernel
theorem dX2_isAlike_52 : decode cX2_isAlike 52 = .ok (.if_icmp .eq 22, 3) := by decide +kernel
theorem dX2_isAlike_55 : decode cX2_isAlike 55 = .ok (.iload_n 2, 1) := by decide +kernel
theorem dX2_isAlike_56 : decode cX2_isAlike 56 = .ok (.ifCond .eq 16, 3) := by decide +kernel
theorem dX2_isAlike_59 : decode cX2_isAlike 59 = .ok (.iload 4, 2) := by decide +kernel
theorem dX2_isAlike_61 : decode cX2_isAlike 61 = .ok (.invokestatic 37, 3) := by decide +kernel
theorem dX2_isAlike_64 : decode cX2_isAlike 64 = .ok (.iload 5, 2) := by decide +kernel
theorem dX2_isAlike_66 : decode cX2_isAlike 66 = .ok (.invokestatic 37, 3) := by decide +kernel
theorem dX2_isAlike_69 : decode cX2_isAlike 69 = .ok (.if_icmp .eq 5, 3) := by decide +kernel
theorem dX2_isAlike_72 : decode cX2_isAlike 72 = .ok (.iconst 0, 1) := by decide +kernel
theorem dX2_isAlike_73 : decode cX2_isAlike 73 = .ok (.ireturn, 1) := by decide +kernel
theorem dX2_isAlike_74 : decode cX2_isAlike 74 = .ok (.iinc 3 1, 3) := by decide +kernel
theorem dX2_isAlike_77 : decode cX2_isAlike 77 = .ok (.goto (-51), 3) := by decide +kernel
theorem dX2_isAlike_80 : decode cX2_isAlike 80 = .ok (.iconst 1, 1) := by decide +kernel
theorem dX2_isAlike_81 : decode cX2_isAlike 81 = .ok (.ireturn, 1) := by decide +kernel
set_option maxRecDepth 20000 in
theorem ggX2_isNamedBefore_X2_byteAt : GoodIn wsX2_isNamedBefore wsX2_byteAt := goodIn_r _ [10, 1, 11, 12, 13, 14] (by decide +kernel) (by decide +kernel)
set_option maxRecDepth 20000 in
theorem gX2_isNamedBefore_X2_byteAt : GoodIn wsX2_isNamedBefore (wsV RX2 26 RX2 yX2_byteAt wsX2_byteAt) := goodIn_app (goodIn_of _ (by decide +kernel)) ggX2_isNamedBefore_X2_byteAt
theorem dX2_isNamedBefore_0 : decode cX2_isNamedBefore 0 = .ok (.aload_n 0, 1) := by decide +kernel
theorem dX2_isNamedBefore_1 : decode cX2_isNamedBefore 1 = .ok (.getfield 19, 3) := by decide +kernel
theorem dX2_isNamedBefore_4 : decode cX2_isNamedBefore 4 = .ok (.aload_n 1, 1) := by decide +kernel
theorem dX2_isNamedBefore_5 : decode cX2_isNamedBefore 5 = .ok (.getfield 19, 3) := by decide +kernel
theorem dX2_isNamedBefore_8 : decode cX2_isNamedBefore 8 = .ok (.invokestatic 42, 3) := by decide +kernel
theorem dX2_isNamedBefore_11 : decode cX2_isNamedBefore 11 = .ok (.istore_n 2, 1) := by decide +kernel
theorem dX2_isNamedBefore_12 : decode cX2_isNamedBefore 12 = .ok (.iconst 0, 1) := by decide +kernel
theorem dX2_isNamedBefore_13 : decode cX2_isNamedBefore 13 = .ok (.istore_n 3, 1) := by decide +kernel
theorem dX2_isNamedBefore_14 : decode cX2_isNamedBefore 14 = .ok (.iload_n 3, 1) := by decide +kernel
theorem dX2_isNamedBefore_15 : decode cX2_isNamedBefore 15 = .ok (.iload_n 2, 1) := by decide +kernel
theorem dX2_isNamedBefore_16 : decode cX2_isNamedBefore 16 = .ok (.if_icmp .ge 41, 3) := by decide +kernel
theorem dX2_isNamedBefore_19 : decode cX2_isNamedBefore 19 = .ok (.aload_n 0, 1) := by decide +kernel
theorem dX2_isNamedBefore_20 : decode cX2_isNamedBefore 20 = .ok (.iload_n 3, 1) := by decide +kernel
theorem dX2_isNamedBefore_21 : decode cX2_isNamedBefore 21 = .ok (.invokevirtual 26, 3) := by decide +kernel
theorem dX2_isNamedBefore_24 : decode cX2_isNamedBefore 24 = .ok (.aload_n 1, 1) := by decide +kernel
theorem dX2_isNamedBefore_25 : decode cX2_isNamedBefore 25 = .ok (.iload_n 3, 1) := by decide +kernel
theorem dX2_isNamedBefore_26 : decode cX2_isNamedBefore 26 = .ok (.invokevirtual 26, 3) := by decide +kernel
theorem dX2_isNamedBefore_29 : decode cX2_isNamedBefore 29 = .ok (.if_icmp .eq 22, 3) := by decide +kernel
theorem dX2_isNamedBefore_32 : decode cX2_isNamedBefore 32 = .ok (.aload_n 0, 1) := by decide +kernel
theorem dX2_isNamedBefore_33 : decode cX2_isNamedBefore 33 = .ok (.iload_n 3, 1) := by decide +kernel
theorem dX2_isNamedBefore_34 : decode cX2_isNamedBefore 34 = .ok (.invokevirtual 26, 3) := by decide +kernel
theorem dX2_isNamedBefore_37 : decode cX2_isNamedBefore 37 = .ok (.aload_n 1, 1) := by decide +kernel
theorem dX2_isNamedBefore_38 : decode cX2_isNamedBefore 38 = .ok (.iload_n 3, 1) := by decide +kernel
theorem dX2_isNamedBefore_39 : decode cX2_isNamedBefore 39 = .ok (.invokevirtual 26, 3) := by decide +kernel
theorem dX2_isNamedBefore_42 : decode cX2_isNamedBefore 42 = .ok (.if_icmp .ge 7, 3) := by decide +kernel
theorem dX2_isNamedBefore_45 : decode cX2_isNamedBefore 45 = .ok (.iconst 1, 1) := by decide +kernel
theorem dX2_isNamedBefore_46 : decode cX2_isNamedBefore 46 = .ok (.goto 4, 3) := by decide +kernel
theorem dX2_isNamedBefore_49 : decode cX2_isNamedBefore 49 = .ok (.iconst 0, 1) := by decide +kernel
theorem dX2_isNamedBefore_50 : decode cX2_isNamedBefore 50 = .ok (.ireturn, 1) := by decide +kernel
theorem dX2_isNamedBefore_51 : decode cX2_isNamedBefore 51 = .ok (.iinc 3 1, 3) := by decide +kernel
theorem dX2_isNamedBefore_54 : decode cX2_isNamedBefore 54 = .ok (.goto (-40), 3) := by decide +kernel
theorem dX2_isNamedBefore_57 : decode cX2_isNamedBefore 57 = .ok (.aload_n 0, 1) := by decide +kernel
theorem dX2_isNamedBefore_58 : decode cX2_isNamedBefore 58 = .ok (.getfield 19, 3) := by decide +kernel
theorem dX2_isNamedBefore_61 : decode cX2_isNamedBefore 61 = .ok (.aload_n 1, 1) := by decide +kernel
theorem dX2_isNamedBefore_62 : decode cX2_isNamedBefore 62 = .ok (.getfield 19, 3) := by decide +kernel
theorem dX2_isNamedBefore_65 : decode cX2_isNamedBefore 65 = .ok (.if_icmp .ge 7, 3) := by decide +kernel
theorem dX2_isNamedBefore_68 : decode cX2_isNamedBefore 68 = .ok (.iconst 1, 1) := by decide +kernel
theorem dX2_isNamedBefore_69 : decode cX2_isNamedBefore 69 = .ok (.goto 4, 3) := by decide +kernel
theorem dX2_isNamedBefore_72 : decode cX2_isNamedBefore 72 = .ok (.iconst 0, 1) := by decide +kernel
theorem dX2_isNamedBefore_73 : decode cX2_isNamedBefore 73 = .ok (.ireturn, 1) := by decide +kernel
set_option maxRecDepth 20000 in
theorem ggX3_init_X4_init : GoodIn wsX3_init wsX4_init := goodIn_r _ [19, 20, 2, 3, 21, 22, 23, 24, 25, 26, 27, 28, 29, 30, 31, 32, 33, 34, 35, 36, 37, 38, 6, 39, 40, 41, 63, 64, 65, 51, 52, 53, 54, 55, 56, 57, 58, 59, 60, 61, 62] (by decide +kernel) (by decide +kernel)
set_option maxRecDepth 20000 in
theorem gX3_init_X4_init_n45 : GoodIn wsX3_init (wsX4_init) := ggX3_init_X4_init
theorem dX3_init_0 : decode cX3_init 0 = .ok (.aload_n 0, 1) := by decide +kernel
theorem dX3_init_1 : decode cX3_init 1 = .ok (.invokespecial 3, 3) := by decide +kernel
theorem dX3_init_4 : decode cX3_init 4 = .ok (.aload_n 0, 1) := by decide +kernel
theorem dX3_init_5 : decode cX3_init 5 = .ok (.bipush 40, 2) := by decide +kernel
theorem dX3_init_7 : decode cX3_init 7 = .ok (.anewarray 9, 3) := by decide +kernel
theorem dX3_init_10 : decode cX3_init 10 = .ok (.putfield 11, 3) := by decide +kernel
theorem dX3_init_13 : decode cX3_init 13 = .ok (.aload_n 0, 1) := by decide +kernel
theorem dX3_init_14 : decode cX3_init 14 = .ok (.bipush 80, 2) := by decide +kernel
theorem dX3_init_16 : decode cX3_init 16 = .ok (.newarray .int, 2) := by decide +kernel
theorem dX3_init_18 : decode cX3_init 18 = .ok (.putfield 17, 3) := by decide +kernel
theorem dX3_init_21 : decode cX3_init 21 = .ok (.aload_n 0, 1) := by decide +kernel
theorem dX3_init_22 : decode cX3_init 22 = .ok (.bipush 80, 2) := by decide +kernel
theorem dX3_init_24 : decode cX3_init 24 = .ok (.newarray .boolean, 2) := by decide +kernel
theorem dX3_init_26 : decode cX3_init 26 = .ok (.putfield 21, 3) := by decide +kernel
theorem dX3_init_29 : decode cX3_init 29 = .ok (.aload_n 0, 1) := by decide +kernel
theorem dX3_init_30 : decode cX3_init 30 = .ok (.bipush 80, 2) := by decide +kernel
theorem dX3_init_32 : decode cX3_init 32 = .ok (.newarray .boolean, 2) := by decide +kernel
theorem dX3_init_34 : decode cX3_init 34 = .ok (.putfield 25, 3) := by decide +kernel
theorem dX3_init_37 : decode cX3_init 37 = .ok (.aload_n 0, 1) := by decide +kernel
theorem dX3_init_38 : decode cX3_init 38 = .ok (.iconst 0, 1) := by decide +kernel
theorem dX3_init_39 : decode cX3_init 39 = .ok (.putfield 28, 3) := by decide +kernel
theorem dX3_init_42 : decode cX3_init 42 = .ok (.aload_n 0, 1) := by decide +kernel
theorem dX3_init_43 : decode cX3_init 43 = .ok (.iconst 0, 1) := by decide +kernel
theorem dX3_init_44 : decode cX3_init 44 = .ok (.putfield 32, 3) := by decide +kernel
theorem dX3_init_47 : decode cX3_init 47 = .ok (.aload_n 0, 1) := by decide +kernel
theorem dX3_init_48 : decode cX3_init 48 = .ok (.iconst 0, 1) := by decide +kernel
theorem dX3_init_49 : decode cX3_init 49 = .ok (.putfield 36, 3) := by decide +kernel
theorem dX3_init_52 : decode cX3_init 52 = .ok (.aload_n 0, 1) := by decide +kernel
theorem dX3_init_53 : decode cX3_init 53 = .ok (.iconst 0, 1) := by decide +kernel
theorem dX3_init_54 : decode cX3_init 54 = .ok (.putfield 39, 3) := by decide +kernel
theorem dX3_init_57 : decode cX3_init 57 = .ok (.aload_n 0, 1) := by decide +kernel
theorem dX3_init_58 : decode cX3_init 58 = .ok (.iconst 0, 1) := by decide +kernel
theorem dX3_init_59 : decode cX3_init 59 = .ok (.putfield 42, 3) := by decide +kernel
theorem dX3_init_62 : decode cX3_init 62 = .ok (.iconst 0, 1) := by decide +kernel
theorem dX3_init_63 : decode cX3_init 63 = .ok (.istore_n 1, 1) := by decide +kernel
theorem dX3_init_64 : decode cX3_init 64 = .ok (.iload_n 1, 1) := by decide +kernel
theorem dX3_init_65 : decode cX3_init 65 = .ok (.bipush 40, 2) := by decide +kernel
theorem dX3_init_67 : decode cX3_init 67 = .ok (.if_icmp .ge 22, 3) := by decide +kernel
theorem dX3_init_70 : decode cX3_init 70 = .ok (.aload_n 0, 1) := by decide +kernel
theorem dX3_init_71 : decode cX3_init 71 = .ok (.getfield 11, 3) := by decide +kernel
theorem dX3_init_74 : decode cX3_init 74 = .ok (.iload_n 1, 1) := by decide +kernel
theorem dX3_init_75 : decode cX3_init 75 = .ok (.new 9, 3) := by decide +kernel
theorem dX3_init_78 : decode cX3_init 78 = .ok (.dup, 1) := by decide +kernel
theorem dX3_init_79 : decode cX3_init 79 = .ok (.invokespecial 45, 3) := by decide +kernel
theorem dX3_init_82 : decode cX3_init 82 = .ok (.aastore, 1) := by decide +kernel
theorem dX3_init_83 : decode cX3_init 83 = .ok (.iinc 1 1, 3) := by decide +kernel
theorem dX3_init_86 : decode cX3_init 86 = .ok (.goto (-22), 3) := by decide +kernel
theorem dX3_init_89 : decode cX3_init 89 = .ok (.return_, 1) := by decide +kernel
theorem dX3_isMade_0 : decode cX3_isMade 0 = .ok (.aload_n 0, 1) := by decide +kernel
theorem dX3_isMade_1 : decode cX3_isMade 1 = .ok (.getfield 28, 3) := by decide +kernel
theorem dX3_isMade_4 : decode cX3_isMade 4 = .ok (.ireturn, 1) := by decide +kernel
theorem dX3_isUnderWay_0 : decode cX3_isUnderWay 0 = .ok (.aload_n 0, 1) := by decide +kernel
theorem dX3_isUnderWay_1 : decode cX3_isUnderWay 1 = .ok (.getfield 42, 3) := by decide +kernel
theorem dX3_isUnderWay_4 : decode cX3_isUnderWay 4 = .ok (.ifCond .le 18, 3) := by decide +kernel
theorem dX3_isUnderWay_7 : decode cX3_isUnderWay 7 = .ok (.aload_n 0, 1) := by decide +kernel
theorem dX3_isUnderWay_8 : decode cX3_isUnderWay 8 = .ok (.getfield 42, 3) := by decide +kernel
theorem dX3_isUnderWay_11 : decode cX3_isUnderWay 11 = .ok (.aload_n 0, 1) := by decide +kernel
theorem dX3_isUnderWay_12 : decode cX3_isUnderWay 12 = .ok (.getfield 39, 3) := by decide +kernel
theorem dX3_isUnderWay_15 : decode cX3_isUnderWay 15 = .ok (.if_icmp .ge 7, 3) := by decide +kernel
theorem dX3_isUnderWay_18 : decode cX3_isUnderWay 18 = .ok (.iconst 1, 1) := by decide +kernel
theorem dX3_isUnderWay_19 : decode cX3_isUnderWay 19 = .ok (.goto 4, 3) := by decide +kernel
theorem dX3_isUnderWay_22 : decode cX3_isUnderWay 22 = .ok (.iconst 0, 1) := by decide +kernel
theorem dX3_isUnderWay_23 : decode cX3_isUnderWay 23 = .ok (.ireturn, 1) := by decide +kernel
theorem dX3_canRun_0 : decode cX3_canRun 0 = .ok (.aload_n 0, 1) := by decide +kernel
theorem dX3_canRun_1 : decode cX3_canRun 1 = .ok (.getfield 28, 3) := by decide +kernel
theorem dX3_canRun_4 : decode cX3_canRun 4 = .ok (.ifCond .eq 14, 3) := by decide +kernel
theorem dX3_canRun_7 : decode cX3_canRun 7 = .ok (.aload_n 0, 1) := by decide +kernel
theorem dX3_canRun_8 : decode cX3_canRun 8 = .ok (.getfield 36, 3) := by decide +kernel
theorem dX3_canRun_11 : decode cX3_canRun 11 = .ok (.ifCond .ne 7, 3) := by decide +kernel
theorem dX3_canRun_14 : decode cX3_canRun 14 = .ok (.iconst 1, 1) := by decide +kernel
theorem dX3_canRun_15 : decode cX3_canRun 15 = .ok (.goto 4, 3) := by decide +kernel
theorem dX3_canRun_18 : decode cX3_canRun 18 = .ok (.iconst 0, 1) := by decide +kernel
theorem dX3_canRun_19 : decode cX3_canRun 19 = .ok (.ireturn, 1) := by decide +kernel
theorem dX3_size_0 : decode cX3_size 0 = .ok (.aload_n 0, 1) := by decide +kernel
theorem dX3_size_1 : decode cX3_size 1 = .ok (.getfield 32, 3) := by decide +kernel
theorem dX3_size_4 : decode cX3_size 4 = .ok (.ireturn, 1) := by decide +kernel
theorem dX3_troubles_0 : decode cX3_troubles 0 = .ok (.aload_n 0, 1) := by decide +kernel
theorem dX3_troubles_1 : decode cX3_troubles 1 = .ok (.getfield 36, 3) := by decide +kernel
theorem dX3_troubles_4 : decode cX3_troubles 4 = .ok (.ireturn, 1) := by decide +kernel
theorem dX3_stepCount_0 : decode cX3_stepCount 0 = .ok (.aload_n 0, 1) := by decide +kernel
theorem dX3_stepCount_1 : decode cX3_stepCount 1 = .ok (.getfield 39, 3) := by decide +kernel
theorem dX3_stepCount_4 : decode cX3_stepCount 4 = .ok (.ireturn, 1) := by decide +kernel
theorem dX3_done_0 : decode cX3_done 0 = .ok (.aload_n 0, 1) := by decide +kernel
theorem dX3_done_1 : decode cX3_done 1 = .ok (.getfield 42, 3) := by decide +kernel
theorem dX3_done_4 : decode cX3_done 4 = .ok (.ireturn, 1) := by decide +kernel
theorem dX3_setDone_0 : decode cX3_setDone 0 = .ok (.aload_n 0, 1) := by decide +kernel
theorem dX3_setDone_1 : decode cX3_setDone 1 = .ok (.iload_n 1, 1) := by decide +kernel
theorem dX3_setDone_2 : decode cX3_setDone 2 = .ok (.putfield 42, 3) := by decide +kernel
theorem dX3_setDone_5 : decode cX3_setDone 5 = .ok (.return_, 1) := by decide +kernel
theorem dX3_hasPlanned_0 : decode cX3_hasPlanned 0 = .ok (.iload_n 1, 1) := by decide +kernel
theorem dX3_hasPlanned_1 : decode cX3_hasPlanned 1 = .ok (.ifCond .lt 15, 3) := by decide +kernel
theorem dX3_hasPlanned_4 : decode cX3_hasPlanned 4 = .ok (.iload_n 1, 1) := by decide +kernel
theorem dX3_hasPlanned_5 : decode cX3_hasPlanned 5 = .ok (.aload_n 0, 1) := by decide +kernel
theorem dX3_hasPlanned_6 : decode cX3_hasPlanned 6 = .ok (.getfield 32, 3) := by decide +kernel
theorem dX3_hasPlanned_9 : decode cX3_hasPlanned 9 = .ok (.if_icmp .ge 7, 3) := by decide +kernel
theorem dX3_hasPlanned_12 : decode cX3_hasPlanned 12 = .ok (.iconst 1, 1) := by decide +kernel
theorem dX3_hasPlanned_13 : decode cX3_hasPlanned 13 = .ok (.goto 4, 3) := by decide +kernel
theorem dX3_hasPlanned_16 : decode cX3_hasPlanned 16 = .ok (.iconst 0, 1) := by decide +kernel
theorem dX3_hasPlanned_17 : decode cX3_hasPlanned 17 = .ok (.ireturn, 1) := by decide +kernel
theorem dX3_get_0 : decode cX3_get 0 = .ok (.aload_n 0, 1) := by decide +kernel
theorem dX3_get_1 : decode cX3_get 1 = .ok (.getfield 11, 3) := by decide +kernel
theorem dX3_get_4 : decode cX3_get 4 = .ok (.iload_n 1, 1) := by decide +kernel
theorem dX3_get_5 : decode cX3_get 5 = .ok (.aaload, 1) := by decide +kernel
theorem dX3_get_6 : decode cX3_get 6 = .ok (.areturn, 1) := by decide +kernel
theorem dX3_begin_0 : decode cX3_begin 0 = .ok (.aload_n 0, 1) := by decide +kernel
theorem dX3_begin_1 : decode cX3_begin 1 = .ok (.iconst 1, 1) := by decide +kernel
theorem dX3_begin_2 : decode cX3_begin 2 = .ok (.putfield 28, 3) := by decide +kernel
theorem dX3_begin_5 : decode cX3_begin 5 = .ok (.aload_n 0, 1) := by decide +kernel
theorem dX3_begin_6 : decode cX3_begin 6 = .ok (.iconst 0, 1) := by decide +kernel
theorem dX3_begin_7 : decode cX3_begin 7 = .ok (.putfield 32, 3) := by decide +kernel
theorem dX3_begin_10 : decode cX3_begin 10 = .ok (.aload_n 0, 1) := by decide +kernel
theorem dX3_begin_11 : decode cX3_begin 11 = .ok (.iconst 0, 1) := by decide +kernel
theorem dX3_begin_12 : decode cX3_begin 12 = .ok (.putfield 36, 3) := by decide +kernel
theorem dX3_begin_15 : decode cX3_begin 15 = .ok (.aload_n 0, 1) := by decide +kernel
theorem dX3_begin_16 : decode cX3_begin 16 = .ok (.iconst 0, 1) := by decide +kernel
theorem dX3_begin_17 : decode cX3_begin 17 = .ok (.putfield 39, 3) := by decide +kernel
theorem dX3_begin_20 : decode cX3_begin 20 = .ok (.aload_n 0, 1) := by decide +kernel
theorem dX3_begin_21 : decode cX3_begin 21 = .ok (.iconst 0, 1) := by decide +kernel
theorem dX3_begin_22 : decode cX3_begin 22 = .ok (.putfield 42, 3) := by decide +kernel
theorem dX3_begin_25 : decode cX3_begin 25 = .ok (.return_, 1) := by decide +kernel
theorem dX3_isFull_0 : decode cX3_isFull 0 = .ok (.aload_n 0, 1) := by decide +kernel
theorem dX3_isFull_1 : decode cX3_isFull 1 = .ok (.getfield 32, 3) := by decide +kernel
theorem dX3_isFull_4 : decode cX3_isFull 4 = .ok (.aload_n 0, 1) := by decide +kernel
theorem dX3_isFull_5 : decode cX3_isFull 5 = .ok (.getfield 11, 3) := by decide +kernel
theorem dX3_isFull_8 : decode cX3_isFull 8 = .ok (.arraylength, 1) := by decide +kernel
theorem dX3_isFull_9 : decode cX3_isFull 9 = .ok (.if_icmp .lt 7, 3) := by decide +kernel
theorem dX3_isFull_12 : decode cX3_isFull 12 = .ok (.iconst 1, 1) := by decide +kernel
theorem dX3_isFull_13 : decode cX3_isFull 13 = .ok (.goto 4, 3) := by decide +kernel
theorem dX3_isFull_16 : decode cX3_isFull 16 = .ok (.iconst 0, 1) := by decide +kernel
theorem dX3_isFull_17 : decode cX3_isFull 17 = .ok (.ireturn, 1) := by decide +kernel
set_option maxRecDepth 20000 in
theorem ggX3_add_X4_begin : GoodIn wsX3_add wsX4_begin := goodIn_r _ [7, 8, 9, 10, 11, 12, 13, 14, 15, 16, 17, 18, 19, 20, 21, 22, 23, 24, 25, 26, 27, 28, 29, 30, 31, 32, 33, 34, 35, 36, 37, 38, 39, 40, 50, 51, 52, 53, 54, 55, 56, 57, 58, 59, 60, 61, 62, 63, 64] (by decide +kernel) (by decide +kernel)
set_option maxRecDepth 20000 in
theorem gX3_add_X4_begin : GoodIn wsX3_add (wsV RX3 46 RX4 yX4_begin wsX4_begin) := goodIn_app (goodIn_of _ (by decide +kernel)) ggX3_add_X4_begin
theorem dX3_add_0 : decode cX3_add 0 = .ok (.aload_n 0, 1) := by decide +kernel
theorem dX3_add_1 : decode cX3_add 1 = .ok (.getfield 11, 3) := by decide +kernel
theorem dX3_add_4 : decode cX3_add 4 = .ok (.aload_n 0, 1) := by decide +kernel
theorem dX3_add_5 : decode cX3_add 5 = .ok (.getfield 32, 3) := by decide +kernel
theorem dX3_add_8 : decode cX3_add 8 = .ok (.aaload, 1) := by decide +kernel
theorem dX3_add_9 : decode cX3_add 9 = .ok (.astore 4, 2) := by decide +kernel
theorem dX3_add_11 : decode cX3_add 11 = .ok (.aload 4, 2) := by decide +kernel
theorem dX3_add_13 : decode cX3_add 13 = .ok (.iload_n 1, 1) := by decide +kernel
theorem dX3_add_14 : decode cX3_add 14 = .ok (.aload_n 2, 1) := by decide +kernel
theorem dX3_add_15 : decode cX3_add 15 = .ok (.iload_n 3, 1) := by decide +kernel
theorem dX3_add_16 : decode cX3_add 16 = .ok (.invokevirtual 46, 3) := by decide +kernel
theorem dX3_add_19 : decode cX3_add 19 = .ok (.aload_n 0, 1) := by decide +kernel
theorem dX3_add_20 : decode cX3_add 20 = .ok (.dup, 1) := by decide +kernel
theorem dX3_add_21 : decode cX3_add 21 = .ok (.getfield 32, 3) := by decide +kernel
theorem dX3_add_24 : decode cX3_add 24 = .ok (.iconst 1, 1) := by decide +kernel
theorem dX3_add_25 : decode cX3_add 25 = .ok (.iadd, 1) := by decide +kernel
theorem dX3_add_26 : decode cX3_add 26 = .ok (.putfield 32, 3) := by decide +kernel
theorem dX3_add_29 : decode cX3_add 29 = .ok (.aload 4, 2) := by decide +kernel
theorem dX3_add_31 : decode cX3_add 31 = .ok (.areturn, 1) := by decide +kernel
set_option maxRecDepth 20000 in
theorem ggX3_findTroubles_X4_findOwnTrouble : GoodIn wsX3_findTroubles wsX4_findOwnTrouble := goodIn_r _ [8, 9, 10, 68, 69, 70, 71, 72, 73, 74, 75, 76, 77, 78, 79] (by decide +kernel) (by decide +kernel)
set_option maxRecDepth 20000 in
theorem gX3_findTroubles_X4_findOwnTrouble : GoodIn wsX3_findTroubles (wsV RX3 50 RX4 yX4_findOwnTrouble wsX4_findOwnTrouble) := goodIn_app (goodIn_of _ (by decide +kernel)) ggX3_findTroubles_X4_findOwnTrouble
set_option maxRecDepth 20000 in
theorem ggX3_findTroubles_X4_hasName : GoodIn wsX3_findTroubles wsX4_hasName := goodIn_r _ [14, 10, 68, 69, 70, 71, 72, 73, 74, 75, 76, 77, 78, 79] (by decide +kernel) (by decide +kernel)
set_option maxRecDepth 20000 in
theorem gX3_findTroubles_X4_hasName : GoodIn wsX3_findTroubles (wsV RX3 53 RX4 yX4_hasName wsX4_hasName) := goodIn_app (goodIn_of _ (by decide +kernel)) ggX3_findTroubles_X4_hasName
set_option maxRecDepth 20000 in
theorem ggX3_findTroubles_X3_findTroubleWithOthers : GoodIn wsX3_findTroubles wsX3_findTroubleWithOthers := goodIn_r _ [19, 2, 1, 11, 12, 13, 7, 14, 10, 20, 21, 22, 23, 24, 25, 26, 27, 28, 29, 30, 31, 32, 33, 34, 35, 36, 37, 38, 39, 40, 41, 42, 43, 44, 45, 46, 47, 48, 49, 50, 51, 52, 53, 54, 55, 56, 57, 18, 58, 59, 60, 61, 62, 63, 64, 65, 66, 67, 68, 69, 70, 71, 72, 73, 74, 75, 76, 77, 78, 79, 80, 81, 82, 83, 84, 85, 86, 87, 88] (by decide +kernel) (by decide +kernel)
set_option maxRecDepth 20000 in
theorem gX3_findTroubles_X3_findTroubleWithOthers : GoodIn wsX3_findTroubles (wsV RX3 57 RX3 yX3_findTroubleWithOthers wsX3_findTroubleWithOthers) := goodIn_app (goodIn_of _ (by decide +kernel)) ggX3_findTroubles_X3_findTroubleWithOthers
theorem dX3_findTroubles_0 : decode cX3_findTroubles 0 = .ok (.iconst 0, 1) := by decide +kernel
theorem dX3_findTroubles_1 : decode cX3_findTroubles 1 = .ok (.istore_n 2, 1) := by decide +kernel
theorem dX3_findTroubles_2 : decode cX3_findTroubles 2 = .ok (.iload_n 2, 1) := by decide +kernel
theorem dX3_findTroubles_3 : decode cX3_findTroubles 3 = .ok (.aload_n 0, 1) := by decide +kernel
theorem dX3_findTroubles_4 : decode cX3_findTroubles 4 = .ok (.getfield 32, 3) := by decide +kernel
theorem dX3_findTroubles_7 : decode cX3_findTroubles 7 = .ok (.if_icmp .ge 18, 3) := by decide +kernel
theorem dX3_findTroubles_10 : decode cX3_findTroubles 10 = .ok (.aload_n 0, 1) := by decide +kernel
theorem dX3_findTroubles_11 : decode cX3_findTroubles 11 = .ok (.getfield 11, 3) := by decide +kernel
theorem dX3_findTroubles_14 : decode cX3_findTroubles 14 = .ok (.iload_n 2, 1) := by decide +kernel
theorem dX3_findTroubles_15 : decode cX3_findTroubles 15 = .ok (.aaload, 1) := by decide +kernel
theorem dX3_findTroubles_16 : decode cX3_findTroubles 16 = .ok (.invokevirtual 50, 3) := by decide +kernel
theorem dX3_findTroubles_19 : decode cX3_findTroubles 19 = .ok (.iinc 2 1, 3) := by decide +kernel
theorem dX3_findTroubles_22 : decode cX3_findTroubles 22 = .ok (.goto (-20), 3) := by decide +kernel
theorem dX3_findTroubles_25 : decode cX3_findTroubles 25 = .ok (.iconst 0, 1) := by decide +kernel
theorem dX3_findTroubles_26 : decode cX3_findTroubles 26 = .ok (.istore_n 2, 1) := by decide +kernel
theorem dX3_findTroubles_27 : decode cX3_findTroubles 27 = .ok (.iload_n 2, 1) := by decide +kernel
theorem dX3_findTroubles_28 : decode cX3_findTroubles 28 = .ok (.aload_n 0, 1) := by decide +kernel
theorem dX3_findTroubles_29 : decode cX3_findTroubles 29 = .ok (.getfield 32, 3) := by decide +kernel
theorem dX3_findTroubles_32 : decode cX3_findTroubles 32 = .ok (.if_icmp .ge 49, 3) := by decide +kernel
theorem dX3_findTroubles_35 : decode cX3_findTroubles 35 = .ok (.aload_n 0, 1) := by decide +kernel
theorem dX3_findTroubles_36 : decode cX3_findTroubles 36 = .ok (.getfield 11, 3) := by decide +kernel
theorem dX3_findTroubles_39 : decode cX3_findTroubles 39 = .ok (.iload_n 2, 1) := by decide +kernel
theorem dX3_findTroubles_40 : decode cX3_findTroubles 40 = .ok (.aaload, 1) := by decide +kernel
theorem dX3_findTroubles_41 : decode cX3_findTroubles 41 = .ok (.invokevirtual 53, 3) := by decide +kernel
theorem dX3_findTroubles_44 : decode cX3_findTroubles 44 = .ok (.ifCond .eq 9, 3) := by decide +kernel
theorem dX3_findTroubles_47 : decode cX3_findTroubles 47 = .ok (.aload_n 0, 1) := by decide +kernel
theorem dX3_findTroubles_48 : decode cX3_findTroubles 48 = .ok (.iload_n 2, 1) := by decide +kernel
theorem dX3_findTroubles_49 : decode cX3_findTroubles 49 = .ok (.aload_n 1, 1) := by decide +kernel
theorem dX3_findTroubles_50 : decode cX3_findTroubles 50 = .ok (.invokevirtual 57, 3) := by decide +kernel
theorem dX3_findTroubles_53 : decode cX3_findTroubles 53 = .ok (.aload_n 0, 1) := by decide +kernel
theorem dX3_findTroubles_54 : decode cX3_findTroubles 54 = .ok (.getfield 11, 3) := by decide +kernel
theorem dX3_findTroubles_57 : decode cX3_findTroubles 57 = .ok (.iload_n 2, 1) := by decide +kernel
theorem dX3_findTroubles_58 : decode cX3_findTroubles 58 = .ok (.aaload, 1) := by decide +kernel
theorem dX3_findTroubles_59 : decode cX3_findTroubles 59 = .ok (.getfield 61, 3) := by decide +kernel
theorem dX3_findTroubles_62 : decode cX3_findTroubles 62 = .ok (.ifCond .eq 13, 3) := by decide +kernel
theorem dX3_findTroubles_65 : decode cX3_findTroubles 65 = .ok (.aload_n 0, 1) := by decide +kernel
theorem dX3_findTroubles_66 : decode cX3_findTroubles 66 = .ok (.dup, 1) := by decide +kernel
theorem dX3_findTroubles_67 : decode cX3_findTroubles 67 = .ok (.getfield 36, 3) := by decide +kernel
theorem dX3_findTroubles_70 : decode cX3_findTroubles 70 = .ok (.iconst 1, 1) := by decide +kernel
theorem dX3_findTroubles_71 : decode cX3_findTroubles 71 = .ok (.iadd, 1) := by decide +kernel
theorem dX3_findTroubles_72 : decode cX3_findTroubles 72 = .ok (.putfield 36, 3) := by decide +kernel
theorem dX3_findTroubles_75 : decode cX3_findTroubles 75 = .ok (.iinc 2 1, 3) := by decide +kernel
theorem dX3_findTroubles_78 : decode cX3_findTroubles 78 = .ok (.goto (-51), 3) := by decide +kernel
theorem dX3_findTroubles_81 : decode cX3_findTroubles 81 = .ok (.return_, 1) := by decide +kernel
set_option maxRecDepth 20000 in
theorem ggX3_findTroubleWithOthers_X4_hasName : GoodIn wsX3_findTroubleWithOthers wsX4_hasName := goodIn_r _ [7, 8, 58, 59, 60, 61, 62, 63, 64, 65, 66, 67, 68, 69] (by decide +kernel) (by decide +kernel)
set_option maxRecDepth 20000 in
theorem gX3_findTroubleWithOthers_X4_hasName : GoodIn wsX3_findTroubleWithOthers (wsV RX3 53 RX4 yX4_hasName wsX4_hasName) := goodIn_app (goodIn_of _ (by decide +kernel)) ggX3_findTroubleWithOthers_X4_hasName
set_option maxRecDepth 20000 in
theorem ggX3_findTroubleWithOthers_X7_isFolding : GoodIn wsX3_findTroubleWithOthers wsX7_isFolding := goodIn_r _ [13, 14, 70, 71, 72, 73, 74, 75] (by decide +kernel) (by decide +kernel)
set_option maxRecDepth 20000 in
theorem gX3_findTroubleWithOthers_X7_isFolding : GoodIn wsX3_findTroubleWithOthers (wsV RX3 68 RX7 yX7_isFolding wsX7_isFolding) := goodIn_app (goodIn_of _ (by decide +kernel)) ggX3_findTroubleWithOthers_X7_isFolding
set_option maxRecDepth 20000 in
theorem ggX3_findTroubleWithOthers_X2_isAlike : GoodIn wsX3_findTroubleWithOthers wsX2_isAlike := goodIn_r _ [19, 20, 21, 22, 23, 24, 18, 25, 26, 27, 28, 29, 30, 76, 77, 78] (by decide +kernel) (by decide +kernel)
set_option maxRecDepth 20000 in
theorem gX3_findTroubleWithOthers_X2_isAlike : GoodIn wsX3_findTroubleWithOthers (wsV RX3 73 RX2 yX2_isAlike wsX2_isAlike) := goodIn_app (goodIn_of _ (by decide +kernel)) ggX3_findTroubleWithOthers_X2_isAlike
set_option maxRecDepth 20000 in
theorem ggX3_findTroubleWithOthers_X4_setTrouble : GoodIn wsX3_findTroubleWithOthers wsX4_setTrouble := goodIn_r _ [34, 8, 35, 58, 59, 60, 61, 62, 63, 64, 65, 66, 67, 68, 69] (by decide +kernel) (by decide +kernel)
set_option maxRecDepth 20000 in
theorem gX3_findTroubleWithOthers_X4_setTrouble : GoodIn wsX3_findTroubleWithOthers (wsV RX3 82 RX4 yX4_setTrouble wsX4_setTrouble) := goodIn_app (goodIn_of _ (by decide +kernel)) ggX3_findTroubleWithOthers_X4_setTrouble
set_option maxRecDepth 20000 in
theorem ggX3_findTroubleWithOthers_X7_findAlike : GoodIn wsX3_findTroubleWithOthers wsX7_findAlike := goodIn_r _ [39, 40, 41, 42, 14, 43, 16, 17, 18, 19, 20, 21, 22, 23, 24, 25, 26, 27, 28, 29, 30, 70, 71, 72, 73, 74, 75, 76, 77, 78] (by decide +kernel) (by decide +kernel)
set_option maxRecDepth 20000 in
theorem gX3_findTroubleWithOthers_X7_findAlike : GoodIn wsX3_findTroubleWithOthers (wsV RX3 86 RX7 yX7_findAlike wsX7_findAlike) := goodIn_app (goodIn_of _ (by decide +kernel)) ggX3_findTroubleWithOthers_X7_findAlike
set_option maxRecDepth 20000 in
theorem ggX3_findTroubleWithOthers_X3_find : GoodIn wsX3_findTroubleWithOthers wsX3_find := goodIn_r _ [48, 2, 1, 49, 50, 51, 52, 53, 54, 55, 56, 57, 58, 59, 60, 61, 62, 63, 64, 65, 66, 67, 68, 69] (by decide +kernel) (by decide +kernel)
set_option maxRecDepth 20000 in
theorem gX3_findTroubleWithOthers_X3_find : GoodIn wsX3_findTroubleWithOthers (wsV RX3 90 RX3 yX3_find wsX3_find) := goodIn_app (goodIn_of _ (by decide +kernel)) ggX3_findTroubleWithOthers_X3_find
theorem dX3_findTroubleWithOthers_0 : decode cX3_findTroubleWithOthers 0 = .ok (.aload_n 0, 1) := by decide +kernel
theorem dX3_findTroubleWithOthers_1 : decode cX3_findTroubleWithOthers 1 = .ok (.getfield 11, 3) := by decide +kernel
theorem dX3_findTroubleWithOthers_4 : decode cX3_findTroubleWithOthers 4 = .ok (.iload_n 1, 1) := by decide +kernel
theorem dX3_findTroubleWithOthers_5 : decode cX3_findTroubleWithOthers 5 = .ok (.aaload, 1) := by decide +kernel
theorem dX3_findTroubleWithOthers_6 : decode cX3_findTroubleWithOthers 6 = .ok (.astore_n 3, 1) := by decide +kernel
theorem dX3_findTroubleWithOthers_7 : decode cX3_findTroubleWithOthers 7 = .ok (.iconst 0, 1) := by decide +kernel
theorem dX3_findTroubleWithOthers_8 : decode cX3_findTroubleWithOthers 8 = .ok (.istore 4, 2) := by decide +kernel
theorem dX3_findTroubleWithOthers_10 : decode cX3_findTroubleWithOthers 10 = .ok (.iload 4, 2) := by decide +kernel
theorem dX3_findTroubleWithOthers_12 : decode cX3_findTroubleWithOthers 12 = .ok (.aload_n 0, 1) := by decide +kernel
theorem dX3_findTroubleWithOthers_13 : decode cX3_findTroubleWithOthers 13 = .ok (.getfield 32, 3) := by decide +kernel
theorem dX3_findTroubleWithOthers_16 : decode cX3_findTroubleWithOthers 16 = .ok (.if_icmp .ge 68, 3) := by decide +kernel
theorem dX3_findTroubleWithOthers_19 : decode cX3_findTroubleWithOthers 19 = .ok (.iload 4, 2) := by decide +kernel
theorem dX3_findTroubleWithOthers_21 : decode cX3_findTroubleWithOthers 21 = .ok (.iload_n 1, 1) := by decide +kernel
theorem dX3_findTroubleWithOthers_22 : decode cX3_findTroubleWithOthers 22 = .ok (.if_icmp .eq 56, 3) := by decide +kernel
theorem dX3_findTroubleWithOthers_25 : decode cX3_findTroubleWithOthers 25 = .ok (.aload_n 0, 1) := by decide +kernel
theorem dX3_findTroubleWithOthers_26 : decode cX3_findTroubleWithOthers 26 = .ok (.getfield 11, 3) := by decide +kernel
theorem dX3_findTroubleWithOthers_29 : decode cX3_findTroubleWithOthers 29 = .ok (.iload 4, 2) := by decide +kernel
theorem dX3_findTroubleWithOthers_31 : decode cX3_findTroubleWithOthers 31 = .ok (.aaload, 1) := by decide +kernel
theorem dX3_findTroubleWithOthers_32 : decode cX3_findTroubleWithOthers 32 = .ok (.invokevirtual 53, 3) := by decide +kernel
theorem dX3_findTroubleWithOthers_35 : decode cX3_findTroubleWithOthers 35 = .ok (.ifCond .eq 43, 3) := by decide +kernel
theorem dX3_findTroubleWithOthers_38 : decode cX3_findTroubleWithOthers 38 = .ok (.aload_n 0, 1) := by decide +kernel
theorem dX3_findTroubleWithOthers_39 : decode cX3_findTroubleWithOthers 39 = .ok (.getfield 11, 3) := by decide +kernel
theorem dX3_findTroubleWithOthers_42 : decode cX3_findTroubleWithOthers 42 = .ok (.iload 4, 2) := by decide +kernel
theorem dX3_findTroubleWithOthers_44 : decode cX3_findTroubleWithOthers 44 = .ok (.aaload, 1) := by decide +kernel
theorem dX3_findTroubleWithOthers_45 : decode cX3_findTroubleWithOthers 45 = .ok (.getfield 64, 3) := by decide +kernel
theorem dX3_findTroubleWithOthers_48 : decode cX3_findTroubleWithOthers 48 = .ok (.aload_n 3, 1) := by decide +kernel
theorem dX3_findTroubleWithOthers_49 : decode cX3_findTroubleWithOthers 49 = .ok (.getfield 64, 3) := by decide +kernel
theorem dX3_findTroubleWithOthers_52 : decode cX3_findTroubleWithOthers 52 = .ok (.aload_n 2, 1) := by decide +kernel
theorem dX3_findTroubleWithOthers_53 : decode cX3_findTroubleWithOthers 53 = .ok (.invokevirtual 68, 3) := by decide +kernel
theorem dX3_findTroubleWithOthers_56 : decode cX3_findTroubleWithOthers 56 = .ok (.invokevirtual 73, 3) := by decide +kernel
theorem dX3_findTroubleWithOthers_59 : decode cX3_findTroubleWithOthers 59 = .ok (.ifCond .eq 19, 3) := by decide +kernel
theorem dX3_findTroubleWithOthers_62 : decode cX3_findTroubleWithOthers 62 = .ok (.aload_n 3, 1) := by decide +kernel
theorem dX3_findTroubleWithOthers_63 : decode cX3_findTroubleWithOthers 63 = .ok (.iconst 2, 1) := by decide +kernel
theorem dX3_findTroubleWithOthers_64 : decode cX3_findTroubleWithOthers 64 = .ok (.aload_n 0, 1) := by decide +kernel
theorem dX3_findTroubleWithOthers_65 : decode cX3_findTroubleWithOthers 65 = .ok (.getfield 11, 3) := by decide +kernel
theorem dX3_findTroubleWithOthers_68 : decode cX3_findTroubleWithOthers 68 = .ok (.iload 4, 2) := by decide +kernel
theorem dX3_findTroubleWithOthers_70 : decode cX3_findTroubleWithOthers 70 = .ok (.aaload, 1) := by decide +kernel
theorem dX3_findTroubleWithOthers_71 : decode cX3_findTroubleWithOthers 71 = .ok (.getfield 79, 3) := by decide +kernel
theorem dX3_findTroubleWithOthers_74 : decode cX3_findTroubleWithOthers 74 = .ok (.invokevirtual 82, 3) := by decide +kernel
theorem dX3_findTroubleWithOthers_77 : decode cX3_findTroubleWithOthers 77 = .ok (.return_, 1) := by decide +kernel
theorem dX3_findTroubleWithOthers_78 : decode cX3_findTroubleWithOthers 78 = .ok (.iinc 4 1, 3) := by decide +kernel
theorem dX3_findTroubleWithOthers_81 : decode cX3_findTroubleWithOthers 81 = .ok (.goto (-71), 3) := by decide +kernel
theorem dX3_findTroubleWithOthers_84 : decode cX3_findTroubleWithOthers 84 = .ok (.aload_n 2, 1) := by decide +kernel
theorem dX3_findTroubleWithOthers_85 : decode cX3_findTroubleWithOthers 85 = .ok (.aload_n 3, 1) := by decide +kernel
theorem dX3_findTroubleWithOthers_86 : decode cX3_findTroubleWithOthers 86 = .ok (.getfield 64, 3) := by decide +kernel
theorem dX3_findTroubleWithOthers_89 : decode cX3_findTroubleWithOthers 89 = .ok (.aload_n 3, 1) := by decide +kernel
theorem dX3_findTroubleWithOthers_90 : decode cX3_findTroubleWithOthers 90 = .ok (.getfield 79, 3) := by decide +kernel
theorem dX3_findTroubleWithOthers_93 : decode cX3_findTroubleWithOthers 93 = .ok (.invokevirtual 86, 3) := by decide +kernel
theorem dX3_findTroubleWithOthers_96 : decode cX3_findTroubleWithOthers 96 = .ok (.istore 4, 2) := by decide +kernel
theorem dX3_findTroubleWithOthers_98 : decode cX3_findTroubleWithOthers 98 = .ok (.iload 4, 2) := by decide +kernel
theorem dX3_findTroubleWithOthers_100 : decode cX3_findTroubleWithOthers 100 = .ok (.iconst (-1), 1) := by decide +kernel
theorem dX3_findTroubleWithOthers_101 : decode cX3_findTroubleWithOthers 101 = .ok (.if_icmp .ne 4, 3) := by decide +kernel
theorem dX3_findTroubleWithOthers_104 : decode cX3_findTroubleWithOthers 104 = .ok (.return_, 1) := by decide +kernel
theorem dX3_findTroubleWithOthers_105 : decode cX3_findTroubleWithOthers 105 = .ok (.aload_n 0, 1) := by decide +kernel
theorem dX3_findTroubleWithOthers_106 : decode cX3_findTroubleWithOthers 106 = .ok (.iload 4, 2) := by decide +kernel
theorem dX3_findTroubleWithOthers_108 : decode cX3_findTroubleWithOthers 108 = .ok (.invokevirtual 90, 3) := by decide +kernel
theorem dX3_findTroubleWithOthers_111 : decode cX3_findTroubleWithOthers 111 = .ok (.istore 5, 2) := by decide +kernel
theorem dX3_findTroubleWithOthers_113 : decode cX3_findTroubleWithOthers 113 = .ok (.iload 5, 2) := by decide +kernel
theorem dX3_findTroubleWithOthers_115 : decode cX3_findTroubleWithOthers 115 = .ok (.iconst (-1), 1) := by decide +kernel
theorem dX3_findTroubleWithOthers_116 : decode cX3_findTroubleWithOthers 116 = .ok (.if_icmp .eq 29, 3) := by decide +kernel
theorem dX3_findTroubleWithOthers_119 : decode cX3_findTroubleWithOthers 119 = .ok (.aload_n 0, 1) := by decide +kernel
theorem dX3_findTroubleWithOthers_120 : decode cX3_findTroubleWithOthers 120 = .ok (.getfield 11, 3) := by decide +kernel
theorem dX3_findTroubleWithOthers_123 : decode cX3_findTroubleWithOthers 123 = .ok (.iload 5, 2) := by decide +kernel
theorem dX3_findTroubleWithOthers_125 : decode cX3_findTroubleWithOthers 125 = .ok (.aaload, 1) := by decide +kernel
theorem dX3_findTroubleWithOthers_126 : decode cX3_findTroubleWithOthers 126 = .ok (.invokevirtual 53, 3) := by decide +kernel
theorem dX3_findTroubleWithOthers_129 : decode cX3_findTroubleWithOthers 129 = .ok (.ifCond .eq 16, 3) := by decide +kernel
theorem dX3_findTroubleWithOthers_132 : decode cX3_findTroubleWithOthers 132 = .ok (.aload_n 0, 1) := by decide +kernel
theorem dX3_findTroubleWithOthers_133 : decode cX3_findTroubleWithOthers 133 = .ok (.getfield 11, 3) := by decide +kernel
theorem dX3_findTroubleWithOthers_136 : decode cX3_findTroubleWithOthers 136 = .ok (.iload 5, 2) := by decide +kernel
theorem dX3_findTroubleWithOthers_138 : decode cX3_findTroubleWithOthers 138 = .ok (.aaload, 1) := by decide +kernel
theorem dX3_findTroubleWithOthers_139 : decode cX3_findTroubleWithOthers 139 = .ok (.getfield 94, 3) := by decide +kernel
theorem dX3_findTroubleWithOthers_142 : decode cX3_findTroubleWithOthers 142 = .ok (.ifCond .eq 13, 3) := by decide +kernel
theorem dX3_findTroubleWithOthers_145 : decode cX3_findTroubleWithOthers 145 = .ok (.aload_n 3, 1) := by decide +kernel
theorem dX3_findTroubleWithOthers_146 : decode cX3_findTroubleWithOthers 146 = .ok (.iconst 3, 1) := by decide +kernel
theorem dX3_findTroubleWithOthers_147 : decode cX3_findTroubleWithOthers 147 = .ok (.iload 4, 2) := by decide +kernel
theorem dX3_findTroubleWithOthers_149 : decode cX3_findTroubleWithOthers 149 = .ok (.invokevirtual 82, 3) := by decide +kernel
theorem dX3_findTroubleWithOthers_152 : decode cX3_findTroubleWithOthers 152 = .ok (.goto 9, 3) := by decide +kernel
theorem dX3_findTroubleWithOthers_155 : decode cX3_findTroubleWithOthers 155 = .ok (.aload_n 3, 1) := by decide +kernel
theorem dX3_findTroubleWithOthers_156 : decode cX3_findTroubleWithOthers 156 = .ok (.iload 5, 2) := by decide +kernel
theorem dX3_findTroubleWithOthers_158 : decode cX3_findTroubleWithOthers 158 = .ok (.putfield 97, 3) := by decide +kernel
theorem dX3_findTroubleWithOthers_161 : decode cX3_findTroubleWithOthers 161 = .ok (.return_, 1) := by decide +kernel
theorem dX3_find_0 : decode cX3_find 0 = .ok (.iconst 0, 1) := by decide +kernel
theorem dX3_find_1 : decode cX3_find 1 = .ok (.istore_n 2, 1) := by decide +kernel
theorem dX3_find_2 : decode cX3_find 2 = .ok (.iload_n 2, 1) := by decide +kernel
theorem dX3_find_3 : decode cX3_find 3 = .ok (.aload_n 0, 1) := by decide +kernel
theorem dX3_find_4 : decode cX3_find 4 = .ok (.getfield 32, 3) := by decide +kernel
theorem dX3_find_7 : decode cX3_find 7 = .ok (.if_icmp .ge 24, 3) := by decide +kernel
theorem dX3_find_10 : decode cX3_find 10 = .ok (.aload_n 0, 1) := by decide +kernel
theorem dX3_find_11 : decode cX3_find 11 = .ok (.getfield 11, 3) := by decide +kernel
theorem dX3_find_14 : decode cX3_find 14 = .ok (.iload_n 2, 1) := by decide +kernel
theorem dX3_find_15 : decode cX3_find 15 = .ok (.aaload, 1) := by decide +kernel
theorem dX3_find_16 : decode cX3_find 16 = .ok (.getfield 79, 3) := by decide +kernel
theorem dX3_find_19 : decode cX3_find 19 = .ok (.iload_n 1, 1) := by decide +kernel
theorem dX3_find_20 : decode cX3_find 20 = .ok (.if_icmp .ne 5, 3) := by decide +kernel
theorem dX3_find_23 : decode cX3_find 23 = .ok (.iload_n 2, 1) := by decide +kernel
theorem dX3_find_24 : decode cX3_find 24 = .ok (.ireturn, 1) := by decide +kernel
theorem dX3_find_25 : decode cX3_find 25 = .ok (.iinc 2 1, 3) := by decide +kernel
theorem dX3_find_28 : decode cX3_find 28 = .ok (.goto (-26), 3) := by decide +kernel
theorem dX3_find_31 : decode cX3_find 31 = .ok (.iconst (-1), 1) := by decide +kernel
theorem dX3_find_32 : decode cX3_find 32 = .ok (.ireturn, 1) := by decide +kernel
set_option maxRecDepth 20000 in
theorem ggX3_findSteps_X3_leastThatCanGo : GoodIn wsX3_findSteps wsX3_leastThatCanGo := goodIn_r _ [7, 8, 2, 9, 10, 11, 6, 12, 13, 14, 15, 16, 17, 18, 19, 20, 21, 22, 23, 24, 25, 26, 27, 28, 41, 42, 43, 44, 45, 46, 47, 48, 49, 50, 51, 52, 53, 54, 55, 56, 57, 58, 59, 60, 61] (by decide +kernel) (by decide +kernel)
set_option maxRecDepth 20000 in
theorem gX3_findSteps_X3_leastThatCanGo : GoodIn wsX3_findSteps (wsV RX3 100 RX3 yX3_leastThatCanGo wsX3_leastThatCanGo) := goodIn_app (goodIn_of _ (by decide +kernel)) ggX3_findSteps_X3_leastThatCanGo
set_option maxRecDepth 20000 in
theorem ggX3_findSteps_X3_addStep : GoodIn wsX3_findSteps wsX3_addStep := goodIn_r _ [32, 33, 34, 35, 36, 2, 41, 42, 43, 44, 45, 46, 47, 48, 49, 50, 51, 52, 53, 54, 55, 56, 57, 58, 59, 60, 61] (by decide +kernel) (by decide +kernel)
set_option maxRecDepth 20000 in
theorem gX3_findSteps_X3_addStep : GoodIn wsX3_findSteps (wsV RX3 104 RX3 yX3_addStep wsX3_addStep) := goodIn_app (goodIn_of _ (by decide +kernel)) ggX3_findSteps_X3_addStep
set_option maxRecDepth 20000 in
theorem ggX3_findSteps_X3_leastToSpare : GoodIn wsX3_findSteps wsX3_leastToSpare := goodIn_r _ [40, 8, 2, 13, 14, 15, 16, 17, 18, 19, 41, 42, 43, 44, 45, 46, 47, 48, 49, 50, 51, 52, 53, 54, 55, 56, 57, 58, 59, 60, 61] (by decide +kernel) (by decide +kernel)
set_option maxRecDepth 20000 in
theorem gX3_findSteps_X3_leastToSpare : GoodIn wsX3_findSteps (wsV RX3 111 RX3 yX3_leastToSpare wsX3_leastToSpare) := goodIn_app (goodIn_of _ (by decide +kernel)) ggX3_findSteps_X3_leastToSpare
theorem dX3_findSteps_0 : decode cX3_findSteps 0 = .ok (.aload_n 0, 1) := by decide +kernel
theorem dX3_findSteps_1 : decode cX3_findSteps 1 = .ok (.getfield 36, 3) := by decide +kernel
theorem dX3_findSteps_4 : decode cX3_findSteps 4 = .ok (.ifCond .le 4, 3) := by decide +kernel
theorem dX3_findSteps_7 : decode cX3_findSteps 7 = .ok (.return_, 1) := by decide +kernel
theorem dX3_findSteps_8 : decode cX3_findSteps 8 = .ok (.iconst 0, 1) := by decide +kernel
theorem dX3_findSteps_9 : decode cX3_findSteps 9 = .ok (.istore_n 1, 1) := by decide +kernel
theorem dX3_findSteps_10 : decode cX3_findSteps 10 = .ok (.iload_n 1, 1) := by decide +kernel
theorem dX3_findSteps_11 : decode cX3_findSteps 11 = .ok (.bipush 80, 2) := by decide +kernel
theorem dX3_findSteps_13 : decode cX3_findSteps 13 = .ok (.if_icmp .ge 65, 3) := by decide +kernel
theorem dX3_findSteps_16 : decode cX3_findSteps 16 = .ok (.aload_n 0, 1) := by decide +kernel
theorem dX3_findSteps_17 : decode cX3_findSteps 17 = .ok (.invokevirtual 100, 3) := by decide +kernel
theorem dX3_findSteps_20 : decode cX3_findSteps 20 = .ok (.istore_n 2, 1) := by decide +kernel
theorem dX3_findSteps_21 : decode cX3_findSteps 21 = .ok (.iload_n 2, 1) := by decide +kernel
theorem dX3_findSteps_22 : decode cX3_findSteps 22 = .ok (.iconst (-1), 1) := by decide +kernel
theorem dX3_findSteps_23 : decode cX3_findSteps 23 = .ok (.if_icmp .eq 22, 3) := by decide +kernel
theorem dX3_findSteps_26 : decode cX3_findSteps 26 = .ok (.aload_n 0, 1) := by decide +kernel
theorem dX3_findSteps_27 : decode cX3_findSteps 27 = .ok (.iload_n 2, 1) := by decide +kernel
theorem dX3_findSteps_28 : decode cX3_findSteps 28 = .ok (.iconst 0, 1) := by decide +kernel
theorem dX3_findSteps_29 : decode cX3_findSteps 29 = .ok (.invokevirtual 104, 3) := by decide +kernel
theorem dX3_findSteps_32 : decode cX3_findSteps 32 = .ok (.aload_n 0, 1) := by decide +kernel
theorem dX3_findSteps_33 : decode cX3_findSteps 33 = .ok (.getfield 11, 3) := by decide +kernel
theorem dX3_findSteps_36 : decode cX3_findSteps 36 = .ok (.iload_n 2, 1) := by decide +kernel
theorem dX3_findSteps_37 : decode cX3_findSteps 37 = .ok (.aaload, 1) := by decide +kernel
theorem dX3_findSteps_38 : decode cX3_findSteps 38 = .ok (.iconst 1, 1) := by decide +kernel
theorem dX3_findSteps_39 : decode cX3_findSteps 39 = .ok (.putfield 108, 3) := by decide +kernel
theorem dX3_findSteps_42 : decode cX3_findSteps 42 = .ok (.goto 30, 3) := by decide +kernel
theorem dX3_findSteps_45 : decode cX3_findSteps 45 = .ok (.aload_n 0, 1) := by decide +kernel
theorem dX3_findSteps_46 : decode cX3_findSteps 46 = .ok (.invokevirtual 111, 3) := by decide +kernel
theorem dX3_findSteps_49 : decode cX3_findSteps 49 = .ok (.istore_n 2, 1) := by decide +kernel
theorem dX3_findSteps_50 : decode cX3_findSteps 50 = .ok (.iload_n 2, 1) := by decide +kernel
theorem dX3_findSteps_51 : decode cX3_findSteps 51 = .ok (.iconst (-1), 1) := by decide +kernel
theorem dX3_findSteps_52 : decode cX3_findSteps 52 = .ok (.if_icmp .ne 4, 3) := by decide +kernel
theorem dX3_findSteps_55 : decode cX3_findSteps 55 = .ok (.return_, 1) := by decide +kernel
theorem dX3_findSteps_56 : decode cX3_findSteps 56 = .ok (.aload_n 0, 1) := by decide +kernel
theorem dX3_findSteps_57 : decode cX3_findSteps 57 = .ok (.iload_n 2, 1) := by decide +kernel
theorem dX3_findSteps_58 : decode cX3_findSteps 58 = .ok (.iconst 1, 1) := by decide +kernel
theorem dX3_findSteps_59 : decode cX3_findSteps 59 = .ok (.invokevirtual 104, 3) := by decide +kernel
theorem dX3_findSteps_62 : decode cX3_findSteps 62 = .ok (.aload_n 0, 1) := by decide +kernel
theorem dX3_findSteps_63 : decode cX3_findSteps 63 = .ok (.getfield 11, 3) := by decide +kernel
theorem dX3_findSteps_66 : decode cX3_findSteps 66 = .ok (.iload_n 2, 1) := by decide +kernel
theorem dX3_findSteps_67 : decode cX3_findSteps 67 = .ok (.aaload, 1) := by decide +kernel
theorem dX3_findSteps_68 : decode cX3_findSteps 68 = .ok (.iconst 1, 1) := by decide +kernel
theorem dX3_findSteps_69 : decode cX3_findSteps 69 = .ok (.putfield 114, 3) := by decide +kernel
theorem dX3_findSteps_72 : decode cX3_findSteps 72 = .ok (.iinc 1 1, 3) := by decide +kernel
theorem dX3_findSteps_75 : decode cX3_findSteps 75 = .ok (.goto (-65), 3) := by decide +kernel
theorem dX3_findSteps_78 : decode cX3_findSteps 78 = .ok (.return_, 1) := by decide +kernel
theorem dX3_addStep_0 : decode cX3_addStep 0 = .ok (.aload_n 0, 1) := by decide +kernel
theorem dX3_addStep_1 : decode cX3_addStep 1 = .ok (.getfield 17, 3) := by decide +kernel
theorem dX3_addStep_4 : decode cX3_addStep 4 = .ok (.aload_n 0, 1) := by decide +kernel
theorem dX3_addStep_5 : decode cX3_addStep 5 = .ok (.getfield 39, 3) := by decide +kernel
theorem dX3_addStep_8 : decode cX3_addStep 8 = .ok (.iload_n 1, 1) := by decide +kernel
theorem dX3_addStep_9 : decode cX3_addStep 9 = .ok (.iastore, 1) := by decide +kernel
theorem dX3_addStep_10 : decode cX3_addStep 10 = .ok (.aload_n 0, 1) := by decide +kernel
theorem dX3_addStep_11 : decode cX3_addStep 11 = .ok (.getfield 21, 3) := by decide +kernel
theorem dX3_addStep_14 : decode cX3_addStep 14 = .ok (.aload_n 0, 1) := by decide +kernel
theorem dX3_addStep_15 : decode cX3_addStep 15 = .ok (.getfield 39, 3) := by decide +kernel
theorem dX3_addStep_18 : decode cX3_addStep 18 = .ok (.iload_n 2, 1) := by decide +kernel
theorem dX3_addStep_19 : decode cX3_addStep 19 = .ok (.bastore, 1) := by decide +kernel
theorem dX3_addStep_20 : decode cX3_addStep 20 = .ok (.aload_n 0, 1) := by decide +kernel
theorem dX3_addStep_21 : decode cX3_addStep 21 = .ok (.getfield 25, 3) := by decide +kernel
theorem dX3_addStep_24 : decode cX3_addStep 24 = .ok (.aload_n 0, 1) := by decide +kernel
theorem dX3_addStep_25 : decode cX3_addStep 25 = .ok (.getfield 39, 3) := by decide +kernel
theorem dX3_addStep_28 : decode cX3_addStep 28 = .ok (.aload_n 0, 1) := by decide +kernel
theorem dX3_addStep_29 : decode cX3_addStep 29 = .ok (.getfield 11, 3) := by decide +kernel
theorem dX3_addStep_32 : decode cX3_addStep 32 = .ok (.iload_n 1, 1) := by decide +kernel
theorem dX3_addStep_33 : decode cX3_addStep 33 = .ok (.aaload, 1) := by decide +kernel
theorem dX3_addStep_34 : decode cX3_addStep 34 = .ok (.getfield 114, 3) := by decide +kernel
theorem dX3_addStep_37 : decode cX3_addStep 37 = .ok (.bastore, 1) := by decide +kernel
theorem dX3_addStep_38 : decode cX3_addStep 38 = .ok (.aload_n 0, 1) := by decide +kernel
theorem dX3_addStep_39 : decode cX3_addStep 39 = .ok (.dup, 1) := by decide +kernel
theorem dX3_addStep_40 : decode cX3_addStep 40 = .ok (.getfield 39, 3) := by decide +kernel
theorem dX3_addStep_43 : decode cX3_addStep 43 = .ok (.iconst 1, 1) := by decide +kernel
theorem dX3_addStep_44 : decode cX3_addStep 44 = .ok (.iadd, 1) := by decide +kernel
theorem dX3_addStep_45 : decode cX3_addStep 45 = .ok (.putfield 39, 3) := by decide +kernel
theorem dX3_addStep_48 : decode cX3_addStep 48 = .ok (.return_, 1) := by decide +kernel
set_option maxRecDepth 20000 in
theorem ggX3_canGo_X4_isLeft : GoodIn wsX3_canGo wsX4_isLeft := goodIn_r _ [6, 7, 8, 29, 30, 31, 32, 33, 34, 35, 36, 37, 38, 39, 40] (by decide +kernel) (by decide +kernel)
set_option maxRecDepth 20000 in
theorem gX3_canGo_X4_isLeft : GoodIn wsX3_canGo (wsV RX3 117 RX4 yX4_isLeft wsX4_isLeft) := goodIn_app (goodIn_of _ (by decide +kernel)) ggX3_canGo_X4_isLeft
set_option maxRecDepth 20000 in
theorem ggX3_canGo_X3_hasPlanned : GoodIn wsX3_canGo wsX3_hasPlanned := goodIn_r _ [13, 14, 20, 21, 22, 23, 24, 25, 26, 27, 28] (by decide +kernel) (by decide +kernel)
set_option maxRecDepth 20000 in
theorem gX3_canGo_X3_hasPlanned : GoodIn wsX3_canGo (wsV RX3 120 RX3 yX3_hasPlanned wsX3_hasPlanned) := goodIn_app (goodIn_of _ (by decide +kernel)) ggX3_canGo_X3_hasPlanned
set_option maxRecDepth 20000 in
theorem ggX3_canGo_X4_hasLeftOldPlace : GoodIn wsX3_canGo wsX4_hasLeftOldPlace := goodIn_r _ [18, 19, 8, 29, 30, 31, 32, 33, 34, 35, 36, 37, 38, 39, 40] (by decide +kernel) (by decide +kernel)
set_option maxRecDepth 20000 in
theorem gX3_canGo_X4_hasLeftOldPlace : GoodIn wsX3_canGo (wsV RX3 124 RX4 yX4_hasLeftOldPlace wsX4_hasLeftOldPlace) := goodIn_app (goodIn_of _ (by decide +kernel)) ggX3_canGo_X4_hasLeftOldPlace
theorem dX3_canGo_0 : decode cX3_canGo 0 = .ok (.aload_n 0, 1) := by decide +kernel
theorem dX3_canGo_1 : decode cX3_canGo 1 = .ok (.getfield 11, 3) := by decide +kernel
theorem dX3_canGo_4 : decode cX3_canGo 4 = .ok (.iload_n 1, 1) := by decide +kernel
theorem dX3_canGo_5 : decode cX3_canGo 5 = .ok (.aaload, 1) := by decide +kernel
theorem dX3_canGo_6 : decode cX3_canGo 6 = .ok (.getfield 97, 3) := by decide +kernel
theorem dX3_canGo_9 : decode cX3_canGo 9 = .ok (.istore_n 2, 1) := by decide +kernel
theorem dX3_canGo_10 : decode cX3_canGo 10 = .ok (.aload_n 0, 1) := by decide +kernel
theorem dX3_canGo_11 : decode cX3_canGo 11 = .ok (.getfield 11, 3) := by decide +kernel
theorem dX3_canGo_14 : decode cX3_canGo 14 = .ok (.iload_n 1, 1) := by decide +kernel
theorem dX3_canGo_15 : decode cX3_canGo 15 = .ok (.aaload, 1) := by decide +kernel
theorem dX3_canGo_16 : decode cX3_canGo 16 = .ok (.invokevirtual 117, 3) := by decide +kernel
theorem dX3_canGo_19 : decode cX3_canGo 19 = .ok (.ifCond .eq 27, 3) := by decide +kernel
theorem dX3_canGo_22 : decode cX3_canGo 22 = .ok (.aload_n 0, 1) := by decide +kernel
theorem dX3_canGo_23 : decode cX3_canGo 23 = .ok (.iload_n 2, 1) := by decide +kernel
theorem dX3_canGo_24 : decode cX3_canGo 24 = .ok (.invokevirtual 120, 3) := by decide +kernel
theorem dX3_canGo_27 : decode cX3_canGo 27 = .ok (.ifCond .eq 15, 3) := by decide +kernel
theorem dX3_canGo_30 : decode cX3_canGo 30 = .ok (.aload_n 0, 1) := by decide +kernel
theorem dX3_canGo_31 : decode cX3_canGo 31 = .ok (.getfield 11, 3) := by decide +kernel
theorem dX3_canGo_34 : decode cX3_canGo 34 = .ok (.iload_n 2, 1) := by decide +kernel
theorem dX3_canGo_35 : decode cX3_canGo 35 = .ok (.aaload, 1) := by decide +kernel
theorem dX3_canGo_36 : decode cX3_canGo 36 = .ok (.invokevirtual 124, 3) := by decide +kernel
theorem dX3_canGo_39 : decode cX3_canGo 39 = .ok (.ifCond .eq 7, 3) := by decide +kernel
theorem dX3_canGo_42 : decode cX3_canGo 42 = .ok (.iconst 1, 1) := by decide +kernel
theorem dX3_canGo_43 : decode cX3_canGo 43 = .ok (.goto 4, 3) := by decide +kernel
theorem dX3_canGo_46 : decode cX3_canGo 46 = .ok (.iconst 0, 1) := by decide +kernel
theorem dX3_canGo_47 : decode cX3_canGo 47 = .ok (.ireturn, 1) := by decide +kernel
set_option maxRecDepth 20000 in
theorem ggX3_leastThatCanGo_X3_canGo : GoodIn wsX3_leastThatCanGo wsX3_canGo := goodIn_r _ [7, 2, 8, 9, 10, 11, 12, 13, 14, 15, 16, 17, 6, 18, 1, 19, 20, 21, 22, 23, 24, 25, 26, 27, 28, 29, 30, 31, 32, 33, 34, 35, 36, 37, 38, 39, 40, 41, 42, 43, 44] (by decide +kernel) (by decide +kernel)
set_option maxRecDepth 20000 in
theorem gX3_leastThatCanGo_X3_canGo : GoodIn wsX3_leastThatCanGo (wsV RX3 127 RX3 yX3_canGo wsX3_canGo) := goodIn_app (goodIn_of _ (by decide +kernel)) ggX3_leastThatCanGo_X3_canGo
theorem dX3_leastThatCanGo_0 : decode cX3_leastThatCanGo 0 = .ok (.iconst (-1), 1) := by decide +kernel
theorem dX3_leastThatCanGo_1 : decode cX3_leastThatCanGo 1 = .ok (.istore_n 1, 1) := by decide +kernel
theorem dX3_leastThatCanGo_2 : decode cX3_leastThatCanGo 2 = .ok (.iconst 0, 1) := by decide +kernel
theorem dX3_leastThatCanGo_3 : decode cX3_leastThatCanGo 3 = .ok (.istore_n 2, 1) := by decide +kernel
theorem dX3_leastThatCanGo_4 : decode cX3_leastThatCanGo 4 = .ok (.iload_n 2, 1) := by decide +kernel
theorem dX3_leastThatCanGo_5 : decode cX3_leastThatCanGo 5 = .ok (.aload_n 0, 1) := by decide +kernel
theorem dX3_leastThatCanGo_6 : decode cX3_leastThatCanGo 6 = .ok (.getfield 32, 3) := by decide +kernel
theorem dX3_leastThatCanGo_9 : decode cX3_leastThatCanGo 9 = .ok (.if_icmp .ge 45, 3) := by decide +kernel
theorem dX3_leastThatCanGo_12 : decode cX3_leastThatCanGo 12 = .ok (.aload_n 0, 1) := by decide +kernel
theorem dX3_leastThatCanGo_13 : decode cX3_leastThatCanGo 13 = .ok (.iload_n 2, 1) := by decide +kernel
theorem dX3_leastThatCanGo_14 : decode cX3_leastThatCanGo 14 = .ok (.invokevirtual 127, 3) := by decide +kernel
theorem dX3_leastThatCanGo_17 : decode cX3_leastThatCanGo 17 = .ok (.ifCond .eq 31, 3) := by decide +kernel
theorem dX3_leastThatCanGo_20 : decode cX3_leastThatCanGo 20 = .ok (.iload_n 1, 1) := by decide +kernel
theorem dX3_leastThatCanGo_21 : decode cX3_leastThatCanGo 21 = .ok (.iconst (-1), 1) := by decide +kernel
theorem dX3_leastThatCanGo_22 : decode cX3_leastThatCanGo 22 = .ok (.if_icmp .eq 24, 3) := by decide +kernel
theorem dX3_leastThatCanGo_25 : decode cX3_leastThatCanGo 25 = .ok (.aload_n 0, 1) := by decide +kernel
theorem dX3_leastThatCanGo_26 : decode cX3_leastThatCanGo 26 = .ok (.getfield 11, 3) := by decide +kernel
theorem dX3_leastThatCanGo_29 : decode cX3_leastThatCanGo 29 = .ok (.iload_n 2, 1) := by decide +kernel
theorem dX3_leastThatCanGo_30 : decode cX3_leastThatCanGo 30 = .ok (.aaload, 1) := by decide +kernel
theorem dX3_leastThatCanGo_31 : decode cX3_leastThatCanGo 31 = .ok (.getfield 79, 3) := by decide +kernel
theorem dX3_leastThatCanGo_34 : decode cX3_leastThatCanGo 34 = .ok (.aload_n 0, 1) := by decide +kernel
theorem dX3_leastThatCanGo_35 : decode cX3_leastThatCanGo 35 = .ok (.getfield 11, 3) := by decide +kernel
theorem dX3_leastThatCanGo_38 : decode cX3_leastThatCanGo 38 = .ok (.iload_n 1, 1) := by decide +kernel
theorem dX3_leastThatCanGo_39 : decode cX3_leastThatCanGo 39 = .ok (.aaload, 1) := by decide +kernel
theorem dX3_leastThatCanGo_40 : decode cX3_leastThatCanGo 40 = .ok (.getfield 79, 3) := by decide +kernel
theorem dX3_leastThatCanGo_43 : decode cX3_leastThatCanGo 43 = .ok (.if_icmp .ge 5, 3) := by decide +kernel
theorem dX3_leastThatCanGo_46 : decode cX3_leastThatCanGo 46 = .ok (.iload_n 2, 1) := by decide +kernel
theorem dX3_leastThatCanGo_47 : decode cX3_leastThatCanGo 47 = .ok (.istore_n 1, 1) := by decide +kernel
theorem dX3_leastThatCanGo_48 : decode cX3_leastThatCanGo 48 = .ok (.iinc 2 1, 3) := by decide +kernel
theorem dX3_leastThatCanGo_51 : decode cX3_leastThatCanGo 51 = .ok (.goto (-47), 3) := by decide +kernel
theorem dX3_leastThatCanGo_54 : decode cX3_leastThatCanGo 54 = .ok (.iload_n 1, 1) := by decide +kernel
theorem dX3_leastThatCanGo_55 : decode cX3_leastThatCanGo 55 = .ok (.ireturn, 1) := by decide +kernel
set_option maxRecDepth 20000 in
theorem ggX3_leastToSpare_X4_isLeft : GoodIn wsX3_leastToSpare wsX4_isLeft := goodIn_r _ [7, 8, 9, 19, 20, 21, 22, 23, 24, 25, 26, 27, 28, 29, 30] (by decide +kernel) (by decide +kernel)
set_option maxRecDepth 20000 in
theorem gX3_leastToSpare_X4_isLeft : GoodIn wsX3_leastToSpare (wsV RX3 117 RX4 yX4_isLeft wsX4_isLeft) := goodIn_app (goodIn_of _ (by decide +kernel)) ggX3_leastToSpare_X4_isLeft
theorem dX3_leastToSpare_0 : decode cX3_leastToSpare 0 = .ok (.iconst (-1), 1) := by decide +kernel
theorem dX3_leastToSpare_1 : decode cX3_leastToSpare 1 = .ok (.istore_n 1, 1) := by decide +kernel
theorem dX3_leastToSpare_2 : decode cX3_leastToSpare 2 = .ok (.iconst 0, 1) := by decide +kernel
theorem dX3_leastToSpare_3 : decode cX3_leastToSpare 3 = .ok (.istore_n 2, 1) := by decide +kernel
theorem dX3_leastToSpare_4 : decode cX3_leastToSpare 4 = .ok (.iload_n 2, 1) := by decide +kernel
theorem dX3_leastToSpare_5 : decode cX3_leastToSpare 5 = .ok (.aload_n 0, 1) := by decide +kernel
theorem dX3_leastToSpare_6 : decode cX3_leastToSpare 6 = .ok (.getfield 32, 3) := by decide +kernel
theorem dX3_leastToSpare_9 : decode cX3_leastToSpare 9 = .ok (.if_icmp .ge 71, 3) := by decide +kernel
theorem dX3_leastToSpare_12 : decode cX3_leastToSpare 12 = .ok (.aload_n 0, 1) := by decide +kernel
theorem dX3_leastToSpare_13 : decode cX3_leastToSpare 13 = .ok (.getfield 11, 3) := by decide +kernel
theorem dX3_leastToSpare_16 : decode cX3_leastToSpare 16 = .ok (.iload_n 2, 1) := by decide +kernel
theorem dX3_leastToSpare_17 : decode cX3_leastToSpare 17 = .ok (.aaload, 1) := by decide +kernel
theorem dX3_leastToSpare_18 : decode cX3_leastToSpare 18 = .ok (.invokevirtual 117, 3) := by decide +kernel
theorem dX3_leastToSpare_21 : decode cX3_leastToSpare 21 = .ok (.ifCond .eq 19, 3) := by decide +kernel
theorem dX3_leastToSpare_24 : decode cX3_leastToSpare 24 = .ok (.aload_n 0, 1) := by decide +kernel
theorem dX3_leastToSpare_25 : decode cX3_leastToSpare 25 = .ok (.getfield 11, 3) := by decide +kernel
theorem dX3_leastToSpare_28 : decode cX3_leastToSpare 28 = .ok (.iload_n 2, 1) := by decide +kernel
theorem dX3_leastToSpare_29 : decode cX3_leastToSpare 29 = .ok (.aaload, 1) := by decide +kernel
theorem dX3_leastToSpare_30 : decode cX3_leastToSpare 30 = .ok (.getfield 114, 3) := by decide +kernel
theorem dX3_leastToSpare_33 : decode cX3_leastToSpare 33 = .ok (.ifCond .ne 7, 3) := by decide +kernel
theorem dX3_leastToSpare_36 : decode cX3_leastToSpare 36 = .ok (.iconst 1, 1) := by decide +kernel
theorem dX3_leastToSpare_37 : decode cX3_leastToSpare 37 = .ok (.goto 4, 3) := by decide +kernel
theorem dX3_leastToSpare_40 : decode cX3_leastToSpare 40 = .ok (.iconst 0, 1) := by decide +kernel
theorem dX3_leastToSpare_41 : decode cX3_leastToSpare 41 = .ok (.istore_n 3, 1) := by decide +kernel
theorem dX3_leastToSpare_42 : decode cX3_leastToSpare 42 = .ok (.iload_n 3, 1) := by decide +kernel
theorem dX3_leastToSpare_43 : decode cX3_leastToSpare 43 = .ok (.ifCond .eq 31, 3) := by decide +kernel
theorem dX3_leastToSpare_46 : decode cX3_leastToSpare 46 = .ok (.iload_n 1, 1) := by decide +kernel
theorem dX3_leastToSpare_47 : decode cX3_leastToSpare 47 = .ok (.iconst (-1), 1) := by decide +kernel
theorem dX3_leastToSpare_48 : decode cX3_leastToSpare 48 = .ok (.if_icmp .eq 24, 3) := by decide +kernel
theorem dX3_leastToSpare_51 : decode cX3_leastToSpare 51 = .ok (.aload_n 0, 1) := by decide +kernel
theorem dX3_leastToSpare_52 : decode cX3_leastToSpare 52 = .ok (.getfield 11, 3) := by decide +kernel
theorem dX3_leastToSpare_55 : decode cX3_leastToSpare 55 = .ok (.iload_n 2, 1) := by decide +kernel
theorem dX3_leastToSpare_56 : decode cX3_leastToSpare 56 = .ok (.aaload, 1) := by decide +kernel
theorem dX3_leastToSpare_57 : decode cX3_leastToSpare 57 = .ok (.getfield 79, 3) := by decide +kernel
theorem dX3_leastToSpare_60 : decode cX3_leastToSpare 60 = .ok (.aload_n 0, 1) := by decide +kernel
theorem dX3_leastToSpare_61 : decode cX3_leastToSpare 61 = .ok (.getfield 11, 3) := by decide +kernel
theorem dX3_leastToSpare_64 : decode cX3_leastToSpare 64 = .ok (.iload_n 1, 1) := by decide +kernel
theorem dX3_leastToSpare_65 : decode cX3_leastToSpare 65 = .ok (.aaload, 1) := by decide +kernel
theorem dX3_leastToSpare_66 : decode cX3_leastToSpare 66 = .ok (.getfield 79, 3) := by decide +kernel
theorem dX3_leastToSpare_69 : decode cX3_leastToSpare 69 = .ok (.if_icmp .ge 5, 3) := by decide +kernel
theorem dX3_leastToSpare_72 : decode cX3_leastToSpare 72 = .ok (.iload_n 2, 1) := by decide +kernel
theorem dX3_leastToSpare_73 : decode cX3_leastToSpare 73 = .ok (.istore_n 1, 1) := by decide +kernel
theorem dX3_leastToSpare_74 : decode cX3_leastToSpare 74 = .ok (.iinc 2 1, 3) := by decide +kernel
theorem dX3_leastToSpare_77 : decode cX3_leastToSpare 77 = .ok (.goto (-73), 3) := by decide +kernel
theorem dX3_leastToSpare_80 : decode cX3_leastToSpare 80 = .ok (.iload_n 1, 1) := by decide +kernel
theorem dX3_leastToSpare_81 : decode cX3_leastToSpare 81 = .ok (.ireturn, 1) := by decide +kernel
theorem dX3_hasStep_0 : decode cX3_hasStep 0 = .ok (.iload_n 1, 1) := by decide +kernel
theorem dX3_hasStep_1 : decode cX3_hasStep 1 = .ok (.ifCond .lt 15, 3) := by decide +kernel
theorem dX3_hasStep_4 : decode cX3_hasStep 4 = .ok (.iload_n 1, 1) := by decide +kernel
theorem dX3_hasStep_5 : decode cX3_hasStep 5 = .ok (.aload_n 0, 1) := by decide +kernel
theorem dX3_hasStep_6 : decode cX3_hasStep 6 = .ok (.getfield 39, 3) := by decide +kernel
theorem dX3_hasStep_9 : decode cX3_hasStep 9 = .ok (.if_icmp .ge 7, 3) := by decide +kernel
theorem dX3_hasStep_12 : decode cX3_hasStep 12 = .ok (.iconst 1, 1) := by decide +kernel
theorem dX3_hasStep_13 : decode cX3_hasStep 13 = .ok (.goto 4, 3) := by decide +kernel
theorem dX3_hasStep_16 : decode cX3_hasStep 16 = .ok (.iconst 0, 1) := by decide +kernel
theorem dX3_hasStep_17 : decode cX3_hasStep 17 = .ok (.ireturn, 1) := by decide +kernel
theorem dX3_fileOfStep_0 : decode cX3_fileOfStep 0 = .ok (.aload_n 0, 1) := by decide +kernel
theorem dX3_fileOfStep_1 : decode cX3_fileOfStep 1 = .ok (.getfield 11, 3) := by decide +kernel
theorem dX3_fileOfStep_4 : decode cX3_fileOfStep 4 = .ok (.aload_n 0, 1) := by decide +kernel
theorem dX3_fileOfStep_5 : decode cX3_fileOfStep 5 = .ok (.getfield 17, 3) := by decide +kernel
theorem dX3_fileOfStep_8 : decode cX3_fileOfStep 8 = .ok (.iload_n 1, 1) := by decide +kernel
theorem dX3_fileOfStep_9 : decode cX3_fileOfStep 9 = .ok (.iaload, 1) := by decide +kernel
theorem dX3_fileOfStep_10 : decode cX3_fileOfStep 10 = .ok (.aaload, 1) := by decide +kernel
theorem dX3_fileOfStep_11 : decode cX3_fileOfStep 11 = .ok (.getfield 79, 3) := by decide +kernel
theorem dX3_fileOfStep_14 : decode cX3_fileOfStep 14 = .ok (.ireturn, 1) := by decide +kernel
theorem dX3_goesToSpare_0 : decode cX3_goesToSpare 0 = .ok (.aload_n 0, 1) := by decide +kernel
theorem dX3_goesToSpare_1 : decode cX3_goesToSpare 1 = .ok (.getfield 21, 3) := by decide +kernel
theorem dX3_goesToSpare_4 : decode cX3_goesToSpare 4 = .ok (.iload_n 1, 1) := by decide +kernel
theorem dX3_goesToSpare_5 : decode cX3_goesToSpare 5 = .ok (.baload, 1) := by decide +kernel
theorem dX3_goesToSpare_6 : decode cX3_goesToSpare 6 = .ok (.ireturn, 1) := by decide +kernel
theorem dX3_comesFromSpare_0 : decode cX3_comesFromSpare 0 = .ok (.aload_n 0, 1) := by decide +kernel
theorem dX3_comesFromSpare_1 : decode cX3_comesFromSpare 1 = .ok (.getfield 25, 3) := by decide +kernel
theorem dX3_comesFromSpare_4 : decode cX3_comesFromSpare 4 = .ok (.iload_n 1, 1) := by decide +kernel
theorem dX3_comesFromSpare_5 : decode cX3_comesFromSpare 5 = .ok (.baload, 1) := by decide +kernel
theorem dX3_comesFromSpare_6 : decode cX3_comesFromSpare 6 = .ok (.ireturn, 1) := by decide +kernel
theorem dX3_startOfStep_0 : decode cX3_startOfStep 0 = .ok (.aload_n 0, 1) := by decide +kernel
theorem dX3_startOfStep_1 : decode cX3_startOfStep 1 = .ok (.getfield 11, 3) := by decide +kernel
theorem dX3_startOfStep_4 : decode cX3_startOfStep 4 = .ok (.aload_n 0, 1) := by decide +kernel
theorem dX3_startOfStep_5 : decode cX3_startOfStep 5 = .ok (.getfield 17, 3) := by decide +kernel
theorem dX3_startOfStep_8 : decode cX3_startOfStep 8 = .ok (.iload_n 1, 1) := by decide +kernel
theorem dX3_startOfStep_9 : decode cX3_startOfStep 9 = .ok (.iaload, 1) := by decide +kernel
theorem dX3_startOfStep_10 : decode cX3_startOfStep 10 = .ok (.aaload, 1) := by decide +kernel
theorem dX3_startOfStep_11 : decode cX3_startOfStep 11 = .ok (.astore_n 2, 1) := by decide +kernel
theorem dX3_startOfStep_12 : decode cX3_startOfStep 12 = .ok (.aload_n 0, 1) := by decide +kernel
theorem dX3_startOfStep_13 : decode cX3_startOfStep 13 = .ok (.getfield 25, 3) := by decide +kernel
theorem dX3_startOfStep_16 : decode cX3_startOfStep 16 = .ok (.iload_n 1, 1) := by decide +kernel
theorem dX3_startOfStep_17 : decode cX3_startOfStep 17 = .ok (.baload, 1) := by decide +kernel
theorem dX3_startOfStep_18 : decode cX3_startOfStep 18 = .ok (.ifCond .eq 10, 3) := by decide +kernel
theorem dX3_startOfStep_21 : decode cX3_startOfStep 21 = .ok (.aload_n 2, 1) := by decide +kernel
theorem dX3_startOfStep_22 : decode cX3_startOfStep 22 = .ok (.getfield 130, 3) := by decide +kernel
theorem dX3_startOfStep_25 : decode cX3_startOfStep 25 = .ok (.goto 7, 3) := by decide +kernel
theorem dX3_startOfStep_28 : decode cX3_startOfStep 28 = .ok (.aload_n 2, 1) := by decide +kernel
theorem dX3_startOfStep_29 : decode cX3_startOfStep 29 = .ok (.getfield 133, 3) := by decide +kernel
theorem dX3_startOfStep_32 : decode cX3_startOfStep 32 = .ok (.areturn, 1) := by decide +kernel
theorem dX3_goalOfStep_0 : decode cX3_goalOfStep 0 = .ok (.aload_n 0, 1) := by decide +kernel
theorem dX3_goalOfStep_1 : decode cX3_goalOfStep 1 = .ok (.getfield 11, 3) := by decide +kernel
theorem dX3_goalOfStep_4 : decode cX3_goalOfStep 4 = .ok (.aload_n 0, 1) := by decide +kernel
theorem dX3_goalOfStep_5 : decode cX3_goalOfStep 5 = .ok (.getfield 17, 3) := by decide +kernel
theorem dX3_goalOfStep_8 : decode cX3_goalOfStep 8 = .ok (.iload_n 1, 1) := by decide +kernel
theorem dX3_goalOfStep_9 : decode cX3_goalOfStep 9 = .ok (.iaload, 1) := by decide +kernel
theorem dX3_goalOfStep_10 : decode cX3_goalOfStep 10 = .ok (.aaload, 1) := by decide +kernel
theorem dX3_goalOfStep_11 : decode cX3_goalOfStep 11 = .ok (.astore_n 2, 1) := by decide +kernel
theorem dX3_goalOfStep_12 : decode cX3_goalOfStep 12 = .ok (.aload_n 0, 1) := by decide +kernel
theorem dX3_goalOfStep_13 : decode cX3_goalOfStep 13 = .ok (.getfield 21, 3) := by decide +kernel
theorem dX3_goalOfStep_16 : decode cX3_goalOfStep 16 = .ok (.iload_n 1, 1) := by decide +kernel
theorem dX3_goalOfStep_17 : decode cX3_goalOfStep 17 = .ok (.baload, 1) := by decide +kernel
theorem dX3_goalOfStep_18 : decode cX3_goalOfStep 18 = .ok (.ifCond .eq 10, 3) := by decide +kernel
theorem dX3_goalOfStep_21 : decode cX3_goalOfStep 21 = .ok (.aload_n 2, 1) := by decide +kernel
theorem dX3_goalOfStep_22 : decode cX3_goalOfStep 22 = .ok (.getfield 130, 3) := by decide +kernel
theorem dX3_goalOfStep_25 : decode cX3_goalOfStep 25 = .ok (.goto 7, 3) := by decide +kernel
theorem dX3_goalOfStep_28 : decode cX3_goalOfStep 28 = .ok (.aload_n 2, 1) := by decide +kernel
theorem dX3_goalOfStep_29 : decode cX3_goalOfStep 29 = .ok (.getfield 64, 3) := by decide +kernel
theorem dX3_goalOfStep_32 : decode cX3_goalOfStep 32 = .ok (.areturn, 1) := by decide +kernel
set_option maxRecDepth 20000 in
theorem ggX4_init_X2_init : GoodIn wsX4_init wsX2_init := goodIn_r _ [20, 21, 2, 3, 22, 23, 24, 25, 26, 27, 28] (by decide +kernel) (by decide +kernel)
set_option maxRecDepth 20000 in
theorem gX4_init_X2_init_n11 : GoodIn wsX4_init (wsX2_init) := ggX4_init_X2_init
theorem dX4_init_0 : decode cX4_init 0 = .ok (.aload_n 0, 1) := by decide +kernel
theorem dX4_init_1 : decode cX4_init 1 = .ok (.invokespecial 3, 3) := by decide +kernel
theorem dX4_init_4 : decode cX4_init 4 = .ok (.aload_n 0, 1) := by decide +kernel
theorem dX4_init_5 : decode cX4_init 5 = .ok (.new 9, 3) := by decide +kernel
theorem dX4_init_8 : decode cX4_init 8 = .ok (.dup, 1) := by decide +kernel
theorem dX4_init_9 : decode cX4_init 9 = .ok (.invokespecial 11, 3) := by decide +kernel
theorem dX4_init_12 : decode cX4_init 12 = .ok (.putfield 12, 3) := by decide +kernel
theorem dX4_init_15 : decode cX4_init 15 = .ok (.aload_n 0, 1) := by decide +kernel
theorem dX4_init_16 : decode cX4_init 16 = .ok (.new 9, 3) := by decide +kernel
theorem dX4_init_19 : decode cX4_init 19 = .ok (.dup, 1) := by decide +kernel
theorem dX4_init_20 : decode cX4_init 20 = .ok (.invokespecial 11, 3) := by decide +kernel
theorem dX4_init_23 : decode cX4_init 23 = .ok (.putfield 18, 3) := by decide +kernel
theorem dX4_init_26 : decode cX4_init 26 = .ok (.aload_n 0, 1) := by decide +kernel
theorem dX4_init_27 : decode cX4_init 27 = .ok (.new 9, 3) := by decide +kernel
theorem dX4_init_30 : decode cX4_init 30 = .ok (.dup, 1) := by decide +kernel
theorem dX4_init_31 : decode cX4_init 31 = .ok (.invokespecial 11, 3) := by decide +kernel
theorem dX4_init_34 : decode cX4_init 34 = .ok (.putfield 21, 3) := by decide +kernel
theorem dX4_init_37 : decode cX4_init 37 = .ok (.aload_n 0, 1) := by decide +kernel
theorem dX4_init_38 : decode cX4_init 38 = .ok (.iconst (-1), 1) := by decide +kernel
theorem dX4_init_39 : decode cX4_init 39 = .ok (.putfield 24, 3) := by decide +kernel
theorem dX4_init_42 : decode cX4_init 42 = .ok (.aload_n 0, 1) := by decide +kernel
theorem dX4_init_43 : decode cX4_init 43 = .ok (.iconst 0, 1) := by decide +kernel
theorem dX4_init_44 : decode cX4_init 44 = .ok (.putfield 28, 3) := by decide +kernel
theorem dX4_init_47 : decode cX4_init 47 = .ok (.aload_n 0, 1) := by decide +kernel
theorem dX4_init_48 : decode cX4_init 48 = .ok (.iconst 0, 1) := by decide +kernel
theorem dX4_init_49 : decode cX4_init 49 = .ok (.putfield 31, 3) := by decide +kernel
theorem dX4_init_52 : decode cX4_init 52 = .ok (.aload_n 0, 1) := by decide +kernel
theorem dX4_init_53 : decode cX4_init 53 = .ok (.iconst 0, 1) := by decide +kernel
theorem dX4_init_54 : decode cX4_init 54 = .ok (.putfield 34, 3) := by decide +kernel
theorem dX4_init_57 : decode cX4_init 57 = .ok (.aload_n 0, 1) := by decide +kernel
theorem dX4_init_58 : decode cX4_init 58 = .ok (.iconst 0, 1) := by decide +kernel
theorem dX4_init_59 : decode cX4_init 59 = .ok (.putfield 38, 3) := by decide +kernel
theorem dX4_init_62 : decode cX4_init 62 = .ok (.aload_n 0, 1) := by decide +kernel
theorem dX4_init_63 : decode cX4_init 63 = .ok (.iconst (-1), 1) := by decide +kernel
theorem dX4_init_64 : decode cX4_init 64 = .ok (.putfield 41, 3) := by decide +kernel
theorem dX4_init_67 : decode cX4_init 67 = .ok (.aload_n 0, 1) := by decide +kernel
theorem dX4_init_68 : decode cX4_init 68 = .ok (.iconst (-1), 1) := by decide +kernel
theorem dX4_init_69 : decode cX4_init 69 = .ok (.putfield 44, 3) := by decide +kernel
theorem dX4_init_72 : decode cX4_init 72 = .ok (.aload_n 0, 1) := by decide +kernel
theorem dX4_init_73 : decode cX4_init 73 = .ok (.iconst 0, 1) := by decide +kernel
theorem dX4_init_74 : decode cX4_init 74 = .ok (.putfield 47, 3) := by decide +kernel
theorem dX4_init_77 : decode cX4_init 77 = .ok (.aload_n 0, 1) := by decide +kernel
theorem dX4_init_78 : decode cX4_init 78 = .ok (.iconst 0, 1) := by decide +kernel
theorem dX4_init_79 : decode cX4_init 79 = .ok (.putfield 50, 3) := by decide +kernel
theorem dX4_init_82 : decode cX4_init 82 = .ok (.return_, 1) := by decide +kernel
set_option maxRecDepth 20000 in
theorem ggX4_begin_X2_become : GoodIn wsX4_begin wsX2_become := goodIn_r _ [14, 15, 16, 17, 18, 19, 13, 20, 21, 22, 23, 24, 25, 26, 27, 28, 29, 46, 47, 48] (by decide +kernel) (by decide +kernel)
set_option maxRecDepth 20000 in
theorem gX4_begin_X2_become : GoodIn wsX4_begin (wsV RX4 53 RX2 yX2_become wsX2_become) := goodIn_app (goodIn_of _ (by decide +kernel)) ggX4_begin_X2_become
set_option maxRecDepth 20000 in
theorem ggX4_begin_X2_becomeSpare : GoodIn wsX4_begin wsX2_becomeSpare := goodIn_r _ [33, 17, 18, 19, 13, 20, 15, 16, 26, 27, 28, 29, 25, 46, 47, 48] (by decide +kernel) (by decide +kernel)
set_option maxRecDepth 20000 in
theorem gX4_begin_X2_becomeSpare : GoodIn wsX4_begin (wsV RX4 60 RX2 yX2_becomeSpare wsX2_becomeSpare) := goodIn_app (goodIn_of _ (by decide +kernel)) ggX4_begin_X2_becomeSpare
theorem dX4_begin_0 : decode cX4_begin 0 = .ok (.aload_n 0, 1) := by decide +kernel
theorem dX4_begin_1 : decode cX4_begin 1 = .ok (.iload_n 1, 1) := by decide +kernel
theorem dX4_begin_2 : decode cX4_begin 2 = .ok (.putfield 24, 3) := by decide +kernel
theorem dX4_begin_5 : decode cX4_begin 5 = .ok (.aload_n 0, 1) := by decide +kernel
theorem dX4_begin_6 : decode cX4_begin 6 = .ok (.iload_n 3, 1) := by decide +kernel
theorem dX4_begin_7 : decode cX4_begin 7 = .ok (.putfield 28, 3) := by decide +kernel
theorem dX4_begin_10 : decode cX4_begin 10 = .ok (.aload_n 0, 1) := by decide +kernel
theorem dX4_begin_11 : decode cX4_begin 11 = .ok (.getfield 12, 3) := by decide +kernel
theorem dX4_begin_14 : decode cX4_begin 14 = .ok (.aload_n 2, 1) := by decide +kernel
theorem dX4_begin_15 : decode cX4_begin 15 = .ok (.invokevirtual 53, 3) := by decide +kernel
theorem dX4_begin_18 : decode cX4_begin 18 = .ok (.aload_n 0, 1) := by decide +kernel
theorem dX4_begin_19 : decode cX4_begin 19 = .ok (.getfield 21, 3) := by decide +kernel
theorem dX4_begin_22 : decode cX4_begin 22 = .ok (.aload_n 2, 1) := by decide +kernel
theorem dX4_begin_23 : decode cX4_begin 23 = .ok (.getfield 57, 3) := by decide +kernel
theorem dX4_begin_26 : decode cX4_begin 26 = .ok (.iload_n 1, 1) := by decide +kernel
theorem dX4_begin_27 : decode cX4_begin 27 = .ok (.invokevirtual 60, 3) := by decide +kernel
theorem dX4_begin_30 : decode cX4_begin 30 = .ok (.aload_n 0, 1) := by decide +kernel
theorem dX4_begin_31 : decode cX4_begin 31 = .ok (.iconst 0, 1) := by decide +kernel
theorem dX4_begin_32 : decode cX4_begin 32 = .ok (.putfield 38, 3) := by decide +kernel
theorem dX4_begin_35 : decode cX4_begin 35 = .ok (.aload_n 0, 1) := by decide +kernel
theorem dX4_begin_36 : decode cX4_begin 36 = .ok (.iconst (-1), 1) := by decide +kernel
theorem dX4_begin_37 : decode cX4_begin 37 = .ok (.putfield 41, 3) := by decide +kernel
theorem dX4_begin_40 : decode cX4_begin 40 = .ok (.aload_n 0, 1) := by decide +kernel
theorem dX4_begin_41 : decode cX4_begin 41 = .ok (.iconst (-1), 1) := by decide +kernel
theorem dX4_begin_42 : decode cX4_begin 42 = .ok (.putfield 44, 3) := by decide +kernel
theorem dX4_begin_45 : decode cX4_begin 45 = .ok (.aload_n 0, 1) := by decide +kernel
theorem dX4_begin_46 : decode cX4_begin 46 = .ok (.iconst 0, 1) := by decide +kernel
theorem dX4_begin_47 : decode cX4_begin 47 = .ok (.putfield 47, 3) := by decide +kernel
theorem dX4_begin_50 : decode cX4_begin 50 = .ok (.aload_n 0, 1) := by decide +kernel
theorem dX4_begin_51 : decode cX4_begin 51 = .ok (.iconst 0, 1) := by decide +kernel
theorem dX4_begin_52 : decode cX4_begin 52 = .ok (.putfield 50, 3) := by decide +kernel
theorem dX4_begin_55 : decode cX4_begin 55 = .ok (.return_, 1) := by decide +kernel
set_option maxRecDepth 20000 in
theorem ggX4_nameBy_X2_begin : GoodIn wsX4_nameBy wsX2_begin := goodIn_r _ [9, 10, 11, 100, 101, 102] (by decide +kernel) (by decide +kernel)
set_option maxRecDepth 20000 in
theorem gX4_nameBy_X2_begin : GoodIn wsX4_nameBy (wsV RX4 64 RX2 yX2_begin wsX2_begin) := goodIn_app (goodIn_of _ (by decide +kernel)) ggX4_nameBy_X2_begin
set_option maxRecDepth 20000 in
theorem ggX4_nameBy_X5_partCount : GoodIn wsX4_nameBy wsX5_partCount := goodIn_r _ [16, 17, 103, 104, 105, 106, 107, 108, 109, 110] (by decide +kernel) (by decide +kernel)
set_option maxRecDepth 20000 in
theorem gX4_nameBy_X5_partCount : GoodIn wsX4_nameBy (wsV RX4 68 RX5 yX5_partCount wsX5_partCount) := goodIn_app (goodIn_of _ (by decide +kernel)) ggX4_nameBy_X5_partCount
set_option maxRecDepth 20000 in
theorem ggX4_nameBy_X5_partSign : GoodIn wsX4_nameBy wsX5_partSign := goodIn_r _ [21, 17, 22, 103, 104, 105, 106, 107, 108, 109, 110] (by decide +kernel) (by decide +kernel)
set_option maxRecDepth 20000 in
theorem gX4_nameBy_X5_partSign : GoodIn wsX4_nameBy (wsV RX4 74 RX5 yX5_partSign wsX5_partSign) := goodIn_app (goodIn_of _ (by decide +kernel)) ggX4_nameBy_X5_partSign
set_option maxRecDepth 20000 in
theorem ggX4_nameBy_X5_partFigure : GoodIn wsX4_nameBy wsX5_partFigure := goodIn_r _ [26, 17, 27, 103, 104, 105, 106, 107, 108, 109, 110] (by decide +kernel) (by decide +kernel)
set_option maxRecDepth 20000 in
theorem gX4_nameBy_X5_partFigure : GoodIn wsX4_nameBy (wsV RX4 78 RX5 yX5_partFigure wsX5_partFigure) := goodIn_app (goodIn_of _ (by decide +kernel)) ggX4_nameBy_X5_partFigure
set_option maxRecDepth 20000 in
theorem ggX4_nameBy_X4_addCounter : GoodIn wsX4_nameBy wsX4_addCounter := goodIn_r _ [32, 33, 34, 35, 36, 31, 37, 1, 2, 38, 39, 40, 8, 41, 11, 42, 88, 89, 90, 91, 92, 93, 94, 95, 96, 97, 98, 99, 100, 101, 102] (by decide +kernel) (by decide +kernel)
set_option maxRecDepth 20000 in
theorem gX4_nameBy_X4_addCounter : GoodIn wsX4_nameBy (wsV RX4 81 RX4 yX4_addCounter wsX4_addCounter) := goodIn_app (goodIn_of _ (by decide +kernel)) ggX4_nameBy_X4_addCounter
set_option maxRecDepth 20000 in
theorem ggX4_nameBy_X6_isTaken : GoodIn wsX4_nameBy wsX6_isTaken := goodIn_r _ [46] (by decide +kernel) (by decide +kernel)
set_option maxRecDepth 20000 in
theorem gX4_nameBy_X6_isTaken : GoodIn wsX4_nameBy (va_wsS RX4 84 yX6_isTaken wsX6_isTaken) := goodIn_app (goodIn_of _ (by decide +kernel)) ggX4_nameBy_X6_isTaken
set_option maxRecDepth 20000 in
theorem ggX4_nameBy_X5_wildItem : GoodIn wsX4_nameBy wsX5_wildItem := goodIn_r _ [50, 51, 52, 103, 104, 105, 106, 107, 108, 109, 110] (by decide +kernel) (by decide +kernel)
set_option maxRecDepth 20000 in
theorem gX4_nameBy_X5_wildItem : GoodIn wsX4_nameBy (wsV RX4 90 RX5 yX5_wildItem wsX5_wildItem) := goodIn_app (goodIn_of _ (by decide +kernel)) ggX4_nameBy_X5_wildItem
set_option maxRecDepth 20000 in
theorem ggX4_nameBy_X0_startOf : GoodIn wsX4_nameBy wsX0_startOf := goodIn_r _ [57, 58, 111, 112, 113] (by decide +kernel) (by decide +kernel)
set_option maxRecDepth 20000 in
theorem gX4_nameBy_X0_startOf : GoodIn wsX4_nameBy (wsV RX4 93 RX0 yX0_startOf wsX0_startOf) := goodIn_app (goodIn_of _ (by decide +kernel)) ggX4_nameBy_X0_startOf
set_option maxRecDepth 20000 in
theorem ggX4_nameBy_X0_tookBy : GoodIn wsX4_nameBy wsX0_tookBy := goodIn_r _ [62, 63, 111, 112, 113] (by decide +kernel) (by decide +kernel)
set_option maxRecDepth 20000 in
theorem gX4_nameBy_X0_tookBy : GoodIn wsX4_nameBy (wsV RX4 98 RX0 yX0_tookBy wsX0_tookBy) := goodIn_app (goodIn_of _ (by decide +kernel)) ggX4_nameBy_X0_tookBy
set_option maxRecDepth 20000 in
theorem ggX4_nameBy_X4_addTaken : GoodIn wsX4_nameBy wsX4_addTaken := goodIn_r _ [67, 3, 68, 69, 70, 8, 71, 11, 42, 72, 73, 45, 74, 75, 76, 77, 34, 35, 36, 31, 37, 1, 2, 38, 39, 40, 41, 88, 89, 90, 91, 92, 93, 94, 95, 96, 97, 98, 99, 100, 101, 102] (by decide +kernel) (by decide +kernel)
set_option maxRecDepth 20000 in
theorem gX4_nameBy_X4_addTaken : GoodIn wsX4_nameBy (wsV RX4 101 RX4 yX4_addTaken wsX4_addTaken) := goodIn_app (goodIn_of _ (by decide +kernel)) ggX4_nameBy_X4_addTaken
set_option maxRecDepth 20000 in
theorem ggX4_nameBy_X4_addByte : GoodIn wsX4_nameBy wsX4_addByte := goodIn_r _ [37, 1, 2, 38, 39, 40, 8, 41, 11, 42, 88, 89, 90, 91, 92, 93, 94, 95, 96, 97, 98, 99, 100, 101, 102] (by decide +kernel) (by decide +kernel)
set_option maxRecDepth 20000 in
theorem gX4_nameBy_X4_addByte : GoodIn wsX4_nameBy (wsV RX4 105 RX4 yX4_addByte wsX4_addByte) := goodIn_app (goodIn_of _ (by decide +kernel)) ggX4_nameBy_X4_addByte
set_option maxRecDepth 20000 in
theorem ggX4_nameBy_X2_isJust : GoodIn wsX4_nameBy wsX2_isJust := goodIn_r _ [81, 82, 83, 84, 8, 85, 10, 11, 86, 69, 70, 71, 42, 87, 76, 45, 77, 100, 101, 102] (by decide +kernel) (by decide +kernel)
set_option maxRecDepth 20000 in
theorem gX4_nameBy_X2_isJust : GoodIn wsX4_nameBy (wsV RX4 109 RX2 yX2_isJust wsX2_isJust) := goodIn_app (goodIn_of _ (by decide +kernel)) ggX4_nameBy_X2_isJust
theorem dX4_nameBy_0 : decode cX4_nameBy 0 = .ok (.aload_n 0, 1) := by decide +kernel
theorem dX4_nameBy_1 : decode cX4_nameBy 1 = .ok (.getfield 18, 3) := by decide +kernel
theorem dX4_nameBy_4 : decode cX4_nameBy 4 = .ok (.iload_n 3, 1) := by decide +kernel
theorem dX4_nameBy_5 : decode cX4_nameBy 5 = .ok (.invokevirtual 64, 3) := by decide +kernel
theorem dX4_nameBy_8 : decode cX4_nameBy 8 = .ok (.aload_n 0, 1) := by decide +kernel
theorem dX4_nameBy_9 : decode cX4_nameBy 9 = .ok (.iconst 0, 1) := by decide +kernel
theorem dX4_nameBy_10 : decode cX4_nameBy 10 = .ok (.putfield 31, 3) := by decide +kernel
theorem dX4_nameBy_13 : decode cX4_nameBy 13 = .ok (.iconst 0, 1) := by decide +kernel
theorem dX4_nameBy_14 : decode cX4_nameBy 14 = .ok (.istore 4, 2) := by decide +kernel
theorem dX4_nameBy_16 : decode cX4_nameBy 16 = .ok (.iload 4, 2) := by decide +kernel
theorem dX4_nameBy_18 : decode cX4_nameBy 18 = .ok (.aload_n 1, 1) := by decide +kernel
theorem dX4_nameBy_19 : decode cX4_nameBy 19 = .ok (.invokevirtual 68, 3) := by decide +kernel
theorem dX4_nameBy_22 : decode cX4_nameBy 22 = .ok (.if_icmp .ge 84, 3) := by decide +kernel
theorem dX4_nameBy_25 : decode cX4_nameBy 25 = .ok (.aload_n 1, 1) := by decide +kernel
theorem dX4_nameBy_26 : decode cX4_nameBy 26 = .ok (.iload 4, 2) := by decide +kernel
theorem dX4_nameBy_28 : decode cX4_nameBy 28 = .ok (.invokevirtual 74, 3) := by decide +kernel
theorem dX4_nameBy_31 : decode cX4_nameBy 31 = .ok (.istore 5, 2) := by decide +kernel
theorem dX4_nameBy_33 : decode cX4_nameBy 33 = .ok (.aload_n 1, 1) := by decide +kernel
theorem dX4_nameBy_34 : decode cX4_nameBy 34 = .ok (.iload 4, 2) := by decide +kernel
theorem dX4_nameBy_36 : decode cX4_nameBy 36 = .ok (.invokevirtual 78, 3) := by decide +kernel
theorem dX4_nameBy_39 : decode cX4_nameBy 39 = .ok (.istore 6, 2) := by decide +kernel
theorem dX4_nameBy_41 : decode cX4_nameBy 41 = .ok (.iload 5, 2) := by decide +kernel
theorem dX4_nameBy_43 : decode cX4_nameBy 43 = .ok (.bipush 37, 2) := by decide +kernel
theorem dX4_nameBy_45 : decode cX4_nameBy 45 = .ok (.if_icmp .ne 12, 3) := by decide +kernel
theorem dX4_nameBy_48 : decode cX4_nameBy 48 = .ok (.aload_n 0, 1) := by decide +kernel
theorem dX4_nameBy_49 : decode cX4_nameBy 49 = .ok (.iload 6, 2) := by decide +kernel
theorem dX4_nameBy_51 : decode cX4_nameBy 51 = .ok (.invokevirtual 81, 3) := by decide +kernel
theorem dX4_nameBy_54 : decode cX4_nameBy 54 = .ok (.goto 46, 3) := by decide +kernel
theorem dX4_nameBy_57 : decode cX4_nameBy 57 = .ok (.iload 5, 2) := by decide +kernel
theorem dX4_nameBy_59 : decode cX4_nameBy 59 = .ok (.invokestatic 84, 3) := by decide +kernel
theorem dX4_nameBy_62 : decode cX4_nameBy 62 = .ok (.ifCond .eq 32, 3) := by decide +kernel
theorem dX4_nameBy_65 : decode cX4_nameBy 65 = .ok (.aload_n 1, 1) := by decide +kernel
theorem dX4_nameBy_66 : decode cX4_nameBy 66 = .ok (.iload 6, 2) := by decide +kernel
theorem dX4_nameBy_68 : decode cX4_nameBy 68 = .ok (.invokevirtual 90, 3) := by decide +kernel
theorem dX4_nameBy_71 : decode cX4_nameBy 71 = .ok (.istore 7, 2) := by decide +kernel
theorem dX4_nameBy_73 : decode cX4_nameBy 73 = .ok (.aload_n 0, 1) := by decide +kernel
theorem dX4_nameBy_74 : decode cX4_nameBy 74 = .ok (.iload 5, 2) := by decide +kernel
theorem dX4_nameBy_76 : decode cX4_nameBy 76 = .ok (.aload_n 2, 1) := by decide +kernel
theorem dX4_nameBy_77 : decode cX4_nameBy 77 = .ok (.iload 7, 2) := by decide +kernel
theorem dX4_nameBy_79 : decode cX4_nameBy 79 = .ok (.invokevirtual 93, 3) := by decide +kernel
theorem dX4_nameBy_82 : decode cX4_nameBy 82 = .ok (.aload_n 2, 1) := by decide +kernel
theorem dX4_nameBy_83 : decode cX4_nameBy 83 = .ok (.iload 7, 2) := by decide +kernel
theorem dX4_nameBy_85 : decode cX4_nameBy 85 = .ok (.invokevirtual 98, 3) := by decide +kernel
theorem dX4_nameBy_88 : decode cX4_nameBy 88 = .ok (.invokevirtual 101, 3) := by decide +kernel
theorem dX4_nameBy_91 : decode cX4_nameBy 91 = .ok (.goto 9, 3) := by decide +kernel
theorem dX4_nameBy_94 : decode cX4_nameBy 94 = .ok (.aload_n 0, 1) := by decide +kernel
theorem dX4_nameBy_95 : decode cX4_nameBy 95 = .ok (.iload 5, 2) := by decide +kernel
theorem dX4_nameBy_97 : decode cX4_nameBy 97 = .ok (.invokevirtual 105, 3) := by decide +kernel
theorem dX4_nameBy_100 : decode cX4_nameBy 100 = .ok (.iinc 4 1, 3) := by decide +kernel
theorem dX4_nameBy_103 : decode cX4_nameBy 103 = .ok (.goto (-87), 3) := by decide +kernel
theorem dX4_nameBy_106 : decode cX4_nameBy 106 = .ok (.aload_n 0, 1) := by decide +kernel
theorem dX4_nameBy_107 : decode cX4_nameBy 107 = .ok (.aload_n 0, 1) := by decide +kernel
theorem dX4_nameBy_108 : decode cX4_nameBy 108 = .ok (.getfield 31, 3) := by decide +kernel
theorem dX4_nameBy_111 : decode cX4_nameBy 111 = .ok (.aload_n 0, 1) := by decide +kernel
theorem dX4_nameBy_112 : decode cX4_nameBy 112 = .ok (.getfield 18, 3) := by decide +kernel
theorem dX4_nameBy_115 : decode cX4_nameBy 115 = .ok (.getfield 108, 3) := by decide +kernel
theorem dX4_nameBy_118 : decode cX4_nameBy 118 = .ok (.if_icmp .ne 21, 3) := by decide +kernel
theorem dX4_nameBy_121 : decode cX4_nameBy 121 = .ok (.aload_n 0, 1) := by decide +kernel
theorem dX4_nameBy_122 : decode cX4_nameBy 122 = .ok (.getfield 18, 3) := by decide +kernel
theorem dX4_nameBy_125 : decode cX4_nameBy 125 = .ok (.aload_n 0, 1) := by decide +kernel
theorem dX4_nameBy_126 : decode cX4_nameBy 126 = .ok (.getfield 12, 3) := by decide +kernel
theorem dX4_nameBy_129 : decode cX4_nameBy 129 = .ok (.invokevirtual 109, 3) := by decide +kernel
theorem dX4_nameBy_132 : decode cX4_nameBy 132 = .ok (.ifCond .eq 7, 3) := by decide +kernel
theorem dX4_nameBy_135 : decode cX4_nameBy 135 = .ok (.iconst 1, 1) := by decide +kernel
theorem dX4_nameBy_136 : decode cX4_nameBy 136 = .ok (.goto 4, 3) := by decide +kernel
theorem dX4_nameBy_139 : decode cX4_nameBy 139 = .ok (.iconst 0, 1) := by decide +kernel
theorem dX4_nameBy_140 : decode cX4_nameBy 140 = .ok (.putfield 34, 3) := by decide +kernel
theorem dX4_nameBy_143 : decode cX4_nameBy 143 = .ok (.return_, 1) := by decide +kernel
set_option maxRecDepth 20000 in
theorem ggX4_addByte_X2_add : GoodIn wsX4_addByte wsX2_add := goodIn_r _ [7, 8, 9, 22, 23, 24] (by decide +kernel) (by decide +kernel)
set_option maxRecDepth 20000 in
theorem gX4_addByte_X2_add : GoodIn wsX4_addByte (wsV RX4 113 RX2 yX2_add wsX2_add) := goodIn_app (goodIn_of _ (by decide +kernel)) ggX4_addByte_X2_add
theorem dX4_addByte_0 : decode cX4_addByte 0 = .ok (.aload_n 0, 1) := by decide +kernel
theorem dX4_addByte_1 : decode cX4_addByte 1 = .ok (.getfield 18, 3) := by decide +kernel
theorem dX4_addByte_4 : decode cX4_addByte 4 = .ok (.iload_n 1, 1) := by decide +kernel
theorem dX4_addByte_5 : decode cX4_addByte 5 = .ok (.invokevirtual 113, 3) := by decide +kernel
theorem dX4_addByte_8 : decode cX4_addByte 8 = .ok (.aload_n 0, 1) := by decide +kernel
theorem dX4_addByte_9 : decode cX4_addByte 9 = .ok (.dup, 1) := by decide +kernel
theorem dX4_addByte_10 : decode cX4_addByte 10 = .ok (.getfield 31, 3) := by decide +kernel
theorem dX4_addByte_13 : decode cX4_addByte 13 = .ok (.iconst 1, 1) := by decide +kernel
theorem dX4_addByte_14 : decode cX4_addByte 14 = .ok (.iadd, 1) := by decide +kernel
theorem dX4_addByte_15 : decode cX4_addByte 15 = .ok (.putfield 31, 3) := by decide +kernel
theorem dX4_addByte_18 : decode cX4_addByte 18 = .ok (.return_, 1) := by decide +kernel
set_option maxRecDepth 20000 in
theorem ggX4_addTaken_X2_byteAt : GoodIn wsX4_addTaken wsX2_byteAt := goodIn_r _ [6, 7, 8, 39, 40, 41] (by decide +kernel) (by decide +kernel)
set_option maxRecDepth 20000 in
theorem gX4_addTaken_X2_byteAt : GoodIn wsX4_addTaken (wsV RX4 116 RX2 yX2_byteAt wsX2_byteAt) := goodIn_app (goodIn_of _ (by decide +kernel)) ggX4_addTaken_X2_byteAt
set_option maxRecDepth 20000 in
theorem ggX4_addTaken_X6_capital : GoodIn wsX4_addTaken wsX6_capital := goodIn_r _ [12] (by decide +kernel) (by decide +kernel)
set_option maxRecDepth 20000 in
theorem gX4_addTaken_X6_capital : GoodIn wsX4_addTaken (va_wsS RX4 119 yX6_capital wsX6_capital) := goodIn_app (goodIn_of _ (by decide +kernel)) ggX4_addTaken_X6_capital
set_option maxRecDepth 20000 in
theorem ggX4_addTaken_X6_small : GoodIn wsX4_addTaken wsX6_small := goodIn_r _ [15] (by decide +kernel) (by decide +kernel)
set_option maxRecDepth 20000 in
theorem gX4_addTaken_X6_small : GoodIn wsX4_addTaken (va_wsS RX4 122 yX6_small wsX6_small) := goodIn_app (goodIn_of _ (by decide +kernel)) ggX4_addTaken_X6_small
set_option maxRecDepth 20000 in
theorem ggX4_addTaken_X4_addByte : GoodIn wsX4_addTaken wsX4_addByte := goodIn_r _ [20, 21, 22, 23, 24, 25, 5, 26, 7, 8, 27, 28, 29, 30, 31, 32, 33, 34, 35, 36, 37, 38, 39, 40, 41] (by decide +kernel) (by decide +kernel)
set_option maxRecDepth 20000 in
theorem gX4_addTaken_X4_addByte : GoodIn wsX4_addTaken (wsV RX4 105 RX4 yX4_addByte wsX4_addByte) := goodIn_app (goodIn_of _ (by decide +kernel)) ggX4_addTaken_X4_addByte
theorem dX4_addTaken_0 : decode cX4_addTaken 0 = .ok (.iconst 0, 1) := by decide +kernel
theorem dX4_addTaken_1 : decode cX4_addTaken 1 = .ok (.istore 4, 2) := by decide +kernel
theorem dX4_addTaken_3 : decode cX4_addTaken 3 = .ok (.iload 4, 2) := by decide +kernel
theorem dX4_addTaken_5 : decode cX4_addTaken 5 = .ok (.iload_n 3, 1) := by decide +kernel
theorem dX4_addTaken_6 : decode cX4_addTaken 6 = .ok (.if_icmp .ge 57, 3) := by decide +kernel
theorem dX4_addTaken_9 : decode cX4_addTaken 9 = .ok (.aload_n 0, 1) := by decide +kernel
theorem dX4_addTaken_10 : decode cX4_addTaken 10 = .ok (.getfield 12, 3) := by decide +kernel
theorem dX4_addTaken_13 : decode cX4_addTaken 13 = .ok (.iload_n 2, 1) := by decide +kernel
theorem dX4_addTaken_14 : decode cX4_addTaken 14 = .ok (.iload 4, 2) := by decide +kernel
theorem dX4_addTaken_16 : decode cX4_addTaken 16 = .ok (.iadd, 1) := by decide +kernel
theorem dX4_addTaken_17 : decode cX4_addTaken 17 = .ok (.invokevirtual 116, 3) := by decide +kernel
theorem dX4_addTaken_20 : decode cX4_addTaken 20 = .ok (.istore 5, 2) := by decide +kernel
theorem dX4_addTaken_22 : decode cX4_addTaken 22 = .ok (.iload_n 1, 1) := by decide +kernel
theorem dX4_addTaken_23 : decode cX4_addTaken 23 = .ok (.bipush 94, 2) := by decide +kernel
theorem dX4_addTaken_25 : decode cX4_addTaken 25 = .ok (.if_icmp .ne 13, 3) := by decide +kernel
theorem dX4_addTaken_28 : decode cX4_addTaken 28 = .ok (.iload 5, 2) := by decide +kernel
theorem dX4_addTaken_30 : decode cX4_addTaken 30 = .ok (.invokestatic 119, 3) := by decide +kernel
theorem dX4_addTaken_33 : decode cX4_addTaken 33 = .ok (.istore 5, 2) := by decide +kernel
theorem dX4_addTaken_35 : decode cX4_addTaken 35 = .ok (.goto 16, 3) := by decide +kernel
theorem dX4_addTaken_38 : decode cX4_addTaken 38 = .ok (.iload_n 1, 1) := by decide +kernel
theorem dX4_addTaken_39 : decode cX4_addTaken 39 = .ok (.bipush 33, 2) := by decide +kernel
theorem dX4_addTaken_41 : decode cX4_addTaken 41 = .ok (.if_icmp .ne 10, 3) := by decide +kernel
theorem dX4_addTaken_44 : decode cX4_addTaken 44 = .ok (.iload 5, 2) := by decide +kernel
theorem dX4_addTaken_46 : decode cX4_addTaken 46 = .ok (.invokestatic 122, 3) := by decide +kernel
theorem dX4_addTaken_49 : decode cX4_addTaken 49 = .ok (.istore 5, 2) := by decide +kernel
theorem dX4_addTaken_51 : decode cX4_addTaken 51 = .ok (.aload_n 0, 1) := by decide +kernel
theorem dX4_addTaken_52 : decode cX4_addTaken 52 = .ok (.iload 5, 2) := by decide +kernel
theorem dX4_addTaken_54 : decode cX4_addTaken 54 = .ok (.invokevirtual 105, 3) := by decide +kernel
theorem dX4_addTaken_57 : decode cX4_addTaken 57 = .ok (.iinc 4 1, 3) := by decide +kernel
theorem dX4_addTaken_60 : decode cX4_addTaken 60 = .ok (.goto (-57), 3) := by decide +kernel
theorem dX4_addTaken_63 : decode cX4_addTaken 63 = .ok (.return_, 1) := by decide +kernel
set_option maxRecDepth 20000 in
theorem ggX4_addCounter_X4_addByte : GoodIn wsX4_addCounter wsX4_addByte := goodIn_r _ [6, 7, 8, 9, 10, 11, 12, 13, 14, 15, 16, 17, 18, 19, 20, 21, 22, 23, 24, 25, 26, 27, 28, 29, 30] (by decide +kernel) (by decide +kernel)
set_option maxRecDepth 20000 in
theorem gX4_addCounter_X4_addByte : GoodIn wsX4_addCounter (wsV RX4 105 RX4 yX4_addByte wsX4_addByte) := goodIn_app (goodIn_of _ (by decide +kernel)) ggX4_addCounter_X4_addByte
theorem dX4_addCounter_0 : decode cX4_addCounter 0 = .ok (.iconst 4, 1) := by decide +kernel
theorem dX4_addCounter_1 : decode cX4_addCounter 1 = .ok (.istore_n 2, 1) := by decide +kernel
theorem dX4_addCounter_2 : decode cX4_addCounter 2 = .ok (.sipush 1000, 3) := by decide +kernel
theorem dX4_addCounter_5 : decode cX4_addCounter 5 = .ok (.istore_n 3, 1) := by decide +kernel
theorem dX4_addCounter_6 : decode cX4_addCounter 6 = .ok (.iload_n 3, 1) := by decide +kernel
theorem dX4_addCounter_7 : decode cX4_addCounter 7 = .ok (.iconst 1, 1) := by decide +kernel
theorem dX4_addCounter_8 : decode cX4_addCounter 8 = .ok (.if_icmp .lt 43, 3) := by decide +kernel
theorem dX4_addCounter_11 : decode cX4_addCounter 11 = .ok (.iload_n 2, 1) := by decide +kernel
theorem dX4_addCounter_12 : decode cX4_addCounter 12 = .ok (.iload_n 1, 1) := by decide +kernel
theorem dX4_addCounter_13 : decode cX4_addCounter 13 = .ok (.if_icmp .le 11, 3) := by decide +kernel
theorem dX4_addCounter_16 : decode cX4_addCounter 16 = .ok (.aload_n 0, 1) := by decide +kernel
theorem dX4_addCounter_17 : decode cX4_addCounter 17 = .ok (.getfield 28, 3) := by decide +kernel
theorem dX4_addCounter_20 : decode cX4_addCounter 20 = .ok (.iload_n 3, 1) := by decide +kernel
theorem dX4_addCounter_21 : decode cX4_addCounter 21 = .ok (.if_icmp .lt 19, 3) := by decide +kernel
theorem dX4_addCounter_24 : decode cX4_addCounter 24 = .ok (.aload_n 0, 1) := by decide +kernel
theorem dX4_addCounter_25 : decode cX4_addCounter 25 = .ok (.bipush 48, 2) := by decide +kernel
theorem dX4_addCounter_27 : decode cX4_addCounter 27 = .ok (.aload_n 0, 1) := by decide +kernel
theorem dX4_addCounter_28 : decode cX4_addCounter 28 = .ok (.getfield 28, 3) := by decide +kernel
theorem dX4_addCounter_31 : decode cX4_addCounter 31 = .ok (.iload_n 3, 1) := by decide +kernel
theorem dX4_addCounter_32 : decode cX4_addCounter 32 = .ok (.idiv, 1) := by decide +kernel
theorem dX4_addCounter_33 : decode cX4_addCounter 33 = .ok (.bipush 10, 2) := by decide +kernel
theorem dX4_addCounter_35 : decode cX4_addCounter 35 = .ok (.irem, 1) := by decide +kernel
theorem dX4_addCounter_36 : decode cX4_addCounter 36 = .ok (.iadd, 1) := by decide +kernel
theorem dX4_addCounter_37 : decode cX4_addCounter 37 = .ok (.invokevirtual 105, 3) := by decide +kernel
theorem dX4_addCounter_40 : decode cX4_addCounter 40 = .ok (.iinc 2 (-1), 3) := by decide +kernel
theorem dX4_addCounter_43 : decode cX4_addCounter 43 = .ok (.iload_n 3, 1) := by decide +kernel
theorem dX4_addCounter_44 : decode cX4_addCounter 44 = .ok (.bipush 10, 2) := by decide +kernel
theorem dX4_addCounter_46 : decode cX4_addCounter 46 = .ok (.idiv, 1) := by decide +kernel
theorem dX4_addCounter_47 : decode cX4_addCounter 47 = .ok (.istore_n 3, 1) := by decide +kernel
theorem dX4_addCounter_48 : decode cX4_addCounter 48 = .ok (.goto (-42), 3) := by decide +kernel
theorem dX4_addCounter_51 : decode cX4_addCounter 51 = .ok (.return_, 1) := by decide +kernel
theorem dX4_findOwnTrouble_0 : decode cX4_findOwnTrouble 0 = .ok (.aload_n 0, 1) := by decide +kernel
theorem dX4_findOwnTrouble_1 : decode cX4_findOwnTrouble 1 = .ok (.getfield 31, 3) := by decide +kernel
theorem dX4_findOwnTrouble_4 : decode cX4_findOwnTrouble 4 = .ok (.iconst 1, 1) := by decide +kernel
theorem dX4_findOwnTrouble_5 : decode cX4_findOwnTrouble 5 = .ok (.if_icmp .lt 12, 3) := by decide +kernel
theorem dX4_findOwnTrouble_8 : decode cX4_findOwnTrouble 8 = .ok (.aload_n 0, 1) := by decide +kernel
theorem dX4_findOwnTrouble_9 : decode cX4_findOwnTrouble 9 = .ok (.getfield 31, 3) := by decide +kernel
theorem dX4_findOwnTrouble_12 : decode cX4_findOwnTrouble 12 = .ok (.bipush 12, 2) := by decide +kernel
theorem dX4_findOwnTrouble_14 : decode cX4_findOwnTrouble 14 = .ok (.if_icmp .le 8, 3) := by decide +kernel
theorem dX4_findOwnTrouble_17 : decode cX4_findOwnTrouble 17 = .ok (.aload_n 0, 1) := by decide +kernel
theorem dX4_findOwnTrouble_18 : decode cX4_findOwnTrouble 18 = .ok (.iconst 1, 1) := by decide +kernel
theorem dX4_findOwnTrouble_19 : decode cX4_findOwnTrouble 19 = .ok (.putfield 38, 3) := by decide +kernel
theorem dX4_findOwnTrouble_22 : decode cX4_findOwnTrouble 22 = .ok (.return_, 1) := by decide +kernel
theorem dX4_hasName_0 : decode cX4_hasName 0 = .ok (.aload_n 0, 1) := by decide +kernel
theorem dX4_hasName_1 : decode cX4_hasName 1 = .ok (.getfield 38, 3) := by decide +kernel
theorem dX4_hasName_4 : decode cX4_hasName 4 = .ok (.iconst 1, 1) := by decide +kernel
theorem dX4_hasName_5 : decode cX4_hasName 5 = .ok (.if_icmp .eq 7, 3) := by decide +kernel
theorem dX4_hasName_8 : decode cX4_hasName 8 = .ok (.iconst 1, 1) := by decide +kernel
theorem dX4_hasName_9 : decode cX4_hasName 9 = .ok (.goto 4, 3) := by decide +kernel
theorem dX4_hasName_12 : decode cX4_hasName 12 = .ok (.iconst 0, 1) := by decide +kernel
theorem dX4_hasName_13 : decode cX4_hasName 13 = .ok (.ireturn, 1) := by decide +kernel
theorem dX4_setTrouble_0 : decode cX4_setTrouble 0 = .ok (.aload_n 0, 1) := by decide +kernel
theorem dX4_setTrouble_1 : decode cX4_setTrouble 1 = .ok (.iload_n 1, 1) := by decide +kernel
theorem dX4_setTrouble_2 : decode cX4_setTrouble 2 = .ok (.putfield 38, 3) := by decide +kernel
theorem dX4_setTrouble_5 : decode cX4_setTrouble 5 = .ok (.aload_n 0, 1) := by decide +kernel
theorem dX4_setTrouble_6 : decode cX4_setTrouble 6 = .ok (.iload_n 2, 1) := by decide +kernel
theorem dX4_setTrouble_7 : decode cX4_setTrouble 7 = .ok (.putfield 41, 3) := by decide +kernel
theorem dX4_setTrouble_10 : decode cX4_setTrouble 10 = .ok (.return_, 1) := by decide +kernel
theorem dX4_isLeft_0 : decode cX4_isLeft 0 = .ok (.aload_n 0, 1) := by decide +kernel
theorem dX4_isLeft_1 : decode cX4_isLeft 1 = .ok (.getfield 34, 3) := by decide +kernel
theorem dX4_isLeft_4 : decode cX4_isLeft 4 = .ok (.ifCond .ne 14, 3) := by decide +kernel
theorem dX4_isLeft_7 : decode cX4_isLeft 7 = .ok (.aload_n 0, 1) := by decide +kernel
theorem dX4_isLeft_8 : decode cX4_isLeft 8 = .ok (.getfield 50, 3) := by decide +kernel
theorem dX4_isLeft_11 : decode cX4_isLeft 11 = .ok (.ifCond .ne 7, 3) := by decide +kernel
theorem dX4_isLeft_14 : decode cX4_isLeft 14 = .ok (.iconst 1, 1) := by decide +kernel
theorem dX4_isLeft_15 : decode cX4_isLeft 15 = .ok (.goto 4, 3) := by decide +kernel
theorem dX4_isLeft_18 : decode cX4_isLeft 18 = .ok (.iconst 0, 1) := by decide +kernel
theorem dX4_isLeft_19 : decode cX4_isLeft 19 = .ok (.ireturn, 1) := by decide +kernel
theorem dX4_hasLeftOldPlace_0 : decode cX4_hasLeftOldPlace 0 = .ok (.aload_n 0, 1) := by decide +kernel
theorem dX4_hasLeftOldPlace_1 : decode cX4_hasLeftOldPlace 1 = .ok (.getfield 47, 3) := by decide +kernel
theorem dX4_hasLeftOldPlace_4 : decode cX4_hasLeftOldPlace 4 = .ok (.ifCond .ne 10, 3) := by decide +kernel
theorem dX4_hasLeftOldPlace_7 : decode cX4_hasLeftOldPlace 7 = .ok (.aload_n 0, 1) := by decide +kernel
theorem dX4_hasLeftOldPlace_8 : decode cX4_hasLeftOldPlace 8 = .ok (.getfield 50, 3) := by decide +kernel
theorem dX4_hasLeftOldPlace_11 : decode cX4_hasLeftOldPlace 11 = .ok (.ifCond .eq 7, 3) := by decide +kernel
theorem dX4_hasLeftOldPlace_14 : decode cX4_hasLeftOldPlace 14 = .ok (.iconst 1, 1) := by decide +kernel
theorem dX4_hasLeftOldPlace_15 : decode cX4_hasLeftOldPlace 15 = .ok (.goto 4, 3) := by decide +kernel
theorem dX4_hasLeftOldPlace_18 : decode cX4_hasLeftOldPlace 18 = .ok (.iconst 0, 1) := by decide +kernel
theorem dX4_hasLeftOldPlace_19 : decode cX4_hasLeftOldPlace 19 = .ok (.ireturn, 1) := by decide +kernel
theorem dX5_init_0 : decode cX5_init 0 = .ok (.aload_n 0, 1) := by decide +kernel
theorem dX5_init_1 : decode cX5_init 1 = .ok (.invokespecial 3, 3) := by decide +kernel
theorem dX5_init_4 : decode cX5_init 4 = .ok (.aload_n 0, 1) := by decide +kernel
theorem dX5_init_5 : decode cX5_init 5 = .ok (.bipush 12, 2) := by decide +kernel
theorem dX5_init_7 : decode cX5_init 7 = .ok (.newarray .int, 2) := by decide +kernel
theorem dX5_init_9 : decode cX5_init 9 = .ok (.putfield 9, 3) := by decide +kernel
theorem dX5_init_12 : decode cX5_init 12 = .ok (.aload_n 0, 1) := by decide +kernel
theorem dX5_init_13 : decode cX5_init 13 = .ok (.bipush 12, 2) := by decide +kernel
theorem dX5_init_15 : decode cX5_init 15 = .ok (.newarray .int, 2) := by decide +kernel
theorem dX5_init_17 : decode cX5_init 17 = .ok (.putfield 15, 3) := by decide +kernel
theorem dX5_init_20 : decode cX5_init 20 = .ok (.aload_n 0, 1) := by decide +kernel
theorem dX5_init_21 : decode cX5_init 21 = .ok (.bipush 12, 2) := by decide +kernel
theorem dX5_init_23 : decode cX5_init 23 = .ok (.newarray .int, 2) := by decide +kernel
theorem dX5_init_25 : decode cX5_init 25 = .ok (.putfield 18, 3) := by decide +kernel
theorem dX5_init_28 : decode cX5_init 28 = .ok (.aload_n 0, 1) := by decide +kernel
theorem dX5_init_29 : decode cX5_init 29 = .ok (.bipush 12, 2) := by decide +kernel
theorem dX5_init_31 : decode cX5_init 31 = .ok (.newarray .int, 2) := by decide +kernel
theorem dX5_init_33 : decode cX5_init 33 = .ok (.putfield 21, 3) := by decide +kernel
theorem dX5_init_36 : decode cX5_init 36 = .ok (.aload_n 0, 1) := by decide +kernel
theorem dX5_init_37 : decode cX5_init 37 = .ok (.iconst 0, 1) := by decide +kernel
theorem dX5_init_38 : decode cX5_init 38 = .ok (.putfield 24, 3) := by decide +kernel
theorem dX5_init_41 : decode cX5_init 41 = .ok (.aload_n 0, 1) := by decide +kernel
theorem dX5_init_42 : decode cX5_init 42 = .ok (.iconst 0, 1) := by decide +kernel
theorem dX5_init_43 : decode cX5_init 43 = .ok (.putfield 28, 3) := by decide +kernel
theorem dX5_init_46 : decode cX5_init 46 = .ok (.aload_n 0, 1) := by decide +kernel
theorem dX5_init_47 : decode cX5_init 47 = .ok (.iconst 0, 1) := by decide +kernel
theorem dX5_init_48 : decode cX5_init 48 = .ok (.putfield 31, 3) := by decide +kernel
theorem dX5_init_51 : decode cX5_init 51 = .ok (.aload_n 0, 1) := by decide +kernel
theorem dX5_init_52 : decode cX5_init 52 = .ok (.iconst (-1), 1) := by decide +kernel
theorem dX5_init_53 : decode cX5_init 53 = .ok (.putfield 34, 3) := by decide +kernel
theorem dX5_init_56 : decode cX5_init 56 = .ok (.return_, 1) := by decide +kernel
theorem dX5_itemCount_0 : decode cX5_itemCount 0 = .ok (.aload_n 0, 1) := by decide +kernel
theorem dX5_itemCount_1 : decode cX5_itemCount 1 = .ok (.getfield 24, 3) := by decide +kernel
theorem dX5_itemCount_4 : decode cX5_itemCount 4 = .ok (.ireturn, 1) := by decide +kernel
theorem dX5_partCount_0 : decode cX5_partCount 0 = .ok (.aload_n 0, 1) := by decide +kernel
theorem dX5_partCount_1 : decode cX5_partCount 1 = .ok (.getfield 31, 3) := by decide +kernel
theorem dX5_partCount_4 : decode cX5_partCount 4 = .ok (.ireturn, 1) := by decide +kernel
theorem dX5_placeOfFault_0 : decode cX5_placeOfFault 0 = .ok (.aload_n 0, 1) := by decide +kernel
theorem dX5_placeOfFault_1 : decode cX5_placeOfFault 1 = .ok (.getfield 34, 3) := by decide +kernel
theorem dX5_placeOfFault_4 : decode cX5_placeOfFault 4 = .ok (.ireturn, 1) := by decide +kernel
theorem dX5_item_0 : decode cX5_item 0 = .ok (.iload_n 1, 1) := by decide +kernel
theorem dX5_item_1 : decode cX5_item 1 = .ok (.ifCond .lt 20, 3) := by decide +kernel
theorem dX5_item_4 : decode cX5_item 4 = .ok (.iload_n 1, 1) := by decide +kernel
theorem dX5_item_5 : decode cX5_item 5 = .ok (.aload_n 0, 1) := by decide +kernel
theorem dX5_item_6 : decode cX5_item 6 = .ok (.getfield 24, 3) := by decide +kernel
theorem dX5_item_9 : decode cX5_item 9 = .ok (.if_icmp .ge 12, 3) := by decide +kernel
theorem dX5_item_12 : decode cX5_item 12 = .ok (.aload_n 0, 1) := by decide +kernel
theorem dX5_item_13 : decode cX5_item 13 = .ok (.getfield 9, 3) := by decide +kernel
theorem dX5_item_16 : decode cX5_item 16 = .ok (.iload_n 1, 1) := by decide +kernel
theorem dX5_item_17 : decode cX5_item 17 = .ok (.iaload, 1) := by decide +kernel
theorem dX5_item_18 : decode cX5_item 18 = .ok (.goto 4, 3) := by decide +kernel
theorem dX5_item_21 : decode cX5_item 21 = .ok (.iconst (-1), 1) := by decide +kernel
theorem dX5_item_22 : decode cX5_item 22 = .ok (.ireturn, 1) := by decide +kernel
theorem dX5_partSign_0 : decode cX5_partSign 0 = .ok (.iload_n 1, 1) := by decide +kernel
theorem dX5_partSign_1 : decode cX5_partSign 1 = .ok (.ifCond .lt 20, 3) := by decide +kernel
theorem dX5_partSign_4 : decode cX5_partSign 4 = .ok (.iload_n 1, 1) := by decide +kernel
theorem dX5_partSign_5 : decode cX5_partSign 5 = .ok (.aload_n 0, 1) := by decide +kernel
theorem dX5_partSign_6 : decode cX5_partSign 6 = .ok (.getfield 31, 3) := by decide +kernel
theorem dX5_partSign_9 : decode cX5_partSign 9 = .ok (.if_icmp .ge 12, 3) := by decide +kernel
theorem dX5_partSign_12 : decode cX5_partSign 12 = .ok (.aload_n 0, 1) := by decide +kernel
theorem dX5_partSign_13 : decode cX5_partSign 13 = .ok (.getfield 18, 3) := by decide +kernel
theorem dX5_partSign_16 : decode cX5_partSign 16 = .ok (.iload_n 1, 1) := by decide +kernel
theorem dX5_partSign_17 : decode cX5_partSign 17 = .ok (.iaload, 1) := by decide +kernel
theorem dX5_partSign_18 : decode cX5_partSign 18 = .ok (.goto 4, 3) := by decide +kernel
theorem dX5_partSign_21 : decode cX5_partSign 21 = .ok (.iconst (-1), 1) := by decide +kernel
theorem dX5_partSign_22 : decode cX5_partSign 22 = .ok (.ireturn, 1) := by decide +kernel
theorem dX5_partFigure_0 : decode cX5_partFigure 0 = .ok (.iload_n 1, 1) := by decide +kernel
theorem dX5_partFigure_1 : decode cX5_partFigure 1 = .ok (.ifCond .lt 20, 3) := by decide +kernel
theorem dX5_partFigure_4 : decode cX5_partFigure 4 = .ok (.iload_n 1, 1) := by decide +kernel
theorem dX5_partFigure_5 : decode cX5_partFigure 5 = .ok (.aload_n 0, 1) := by decide +kernel
theorem dX5_partFigure_6 : decode cX5_partFigure 6 = .ok (.getfield 31, 3) := by decide +kernel
theorem dX5_partFigure_9 : decode cX5_partFigure 9 = .ok (.if_icmp .ge 12, 3) := by decide +kernel
theorem dX5_partFigure_12 : decode cX5_partFigure 12 = .ok (.aload_n 0, 1) := by decide +kernel
theorem dX5_partFigure_13 : decode cX5_partFigure 13 = .ok (.getfield 21, 3) := by decide +kernel
theorem dX5_partFigure_16 : decode cX5_partFigure 16 = .ok (.iload_n 1, 1) := by decide +kernel
theorem dX5_partFigure_17 : decode cX5_partFigure 17 = .ok (.iaload, 1) := by decide +kernel
theorem dX5_partFigure_18 : decode cX5_partFigure 18 = .ok (.goto 4, 3) := by decide +kernel
theorem dX5_partFigure_21 : decode cX5_partFigure 21 = .ok (.iconst (-1), 1) := by decide +kernel
theorem dX5_partFigure_22 : decode cX5_partFigure 22 = .ok (.ireturn, 1) := by decide +kernel
theorem dX5_wildItem_0 : decode cX5_wildItem 0 = .ok (.iload_n 1, 1) := by decide +kernel
theorem dX5_wildItem_1 : decode cX5_wildItem 1 = .ok (.iconst 1, 1) := by decide +kernel
theorem dX5_wildItem_2 : decode cX5_wildItem 2 = .ok (.if_icmp .lt 22, 3) := by decide +kernel
theorem dX5_wildItem_5 : decode cX5_wildItem 5 = .ok (.iload_n 1, 1) := by decide +kernel
theorem dX5_wildItem_6 : decode cX5_wildItem 6 = .ok (.aload_n 0, 1) := by decide +kernel
theorem dX5_wildItem_7 : decode cX5_wildItem 7 = .ok (.getfield 28, 3) := by decide +kernel
theorem dX5_wildItem_10 : decode cX5_wildItem 10 = .ok (.if_icmp .gt 14, 3) := by decide +kernel
theorem dX5_wildItem_13 : decode cX5_wildItem 13 = .ok (.aload_n 0, 1) := by decide +kernel
theorem dX5_wildItem_14 : decode cX5_wildItem 14 = .ok (.getfield 15, 3) := by decide +kernel
theorem dX5_wildItem_17 : decode cX5_wildItem 17 = .ok (.iload_n 1, 1) := by decide +kernel
theorem dX5_wildItem_18 : decode cX5_wildItem 18 = .ok (.iconst 1, 1) := by decide +kernel
theorem dX5_wildItem_19 : decode cX5_wildItem 19 = .ok (.isub, 1) := by decide +kernel
theorem dX5_wildItem_20 : decode cX5_wildItem 20 = .ok (.iaload, 1) := by decide +kernel
theorem dX5_wildItem_21 : decode cX5_wildItem 21 = .ok (.goto 4, 3) := by decide +kernel
theorem dX5_wildItem_24 : decode cX5_wildItem 24 = .ok (.iconst (-1), 1) := by decide +kernel
theorem dX5_wildItem_25 : decode cX5_wildItem 25 = .ok (.ireturn, 1) := by decide +kernel
set_option maxRecDepth 20000 in
theorem ggX5_read_X5_readItems : GoodIn wsX5_read wsX5_readItems := goodIn_r _ [9, 1, 10, 11, 12, 13, 14, 15, 16, 17, 18, 19, 20, 21, 22, 23, 24, 25, 26, 27, 28, 29, 30, 31, 32, 33, 34, 35, 36, 37, 38, 39, 8, 40, 4, 41, 42, 43, 44, 45, 2, 46, 65, 66, 67, 68, 69, 70, 71, 72, 73, 74] (by decide +kernel) (by decide +kernel)
set_option maxRecDepth 20000 in
theorem gX5_read_X5_readItems : GoodIn wsX5_read (wsV RX5 37 RX5 yX5_readItems wsX5_readItems) := goodIn_app (goodIn_of _ (by decide +kernel)) ggX5_read_X5_readItems
set_option maxRecDepth 20000 in
theorem ggX5_read_X5_readParts : GoodIn wsX5_read wsX5_readParts := goodIn_r _ [50, 3, 10, 11, 12, 13, 14, 15, 16, 17, 18, 19, 20, 51, 52, 23, 53, 21, 22, 24, 25, 26, 27, 28, 29, 30, 31, 32, 33, 37, 38, 39, 8, 40, 4, 54, 55, 56, 57, 2, 58, 59, 60, 61, 62, 63, 64, 65, 66, 67, 68, 69, 70, 71, 72, 73, 74] (by decide +kernel) (by decide +kernel)
set_option maxRecDepth 20000 in
theorem gX5_read_X5_readParts : GoodIn wsX5_read (wsV RX5 41 RX5 yX5_readParts wsX5_readParts) := goodIn_app (goodIn_of _ (by decide +kernel)) ggX5_read_X5_readParts
theorem dX5_read_0 : decode cX5_read 0 = .ok (.aload_n 0, 1) := by decide +kernel
theorem dX5_read_1 : decode cX5_read 1 = .ok (.iconst 0, 1) := by decide +kernel
theorem dX5_read_2 : decode cX5_read 2 = .ok (.putfield 24, 3) := by decide +kernel
theorem dX5_read_5 : decode cX5_read 5 = .ok (.aload_n 0, 1) := by decide +kernel
theorem dX5_read_6 : decode cX5_read 6 = .ok (.iconst 0, 1) := by decide +kernel
theorem dX5_read_7 : decode cX5_read 7 = .ok (.putfield 28, 3) := by decide +kernel
theorem dX5_read_10 : decode cX5_read 10 = .ok (.aload_n 0, 1) := by decide +kernel
theorem dX5_read_11 : decode cX5_read 11 = .ok (.iconst 0, 1) := by decide +kernel
theorem dX5_read_12 : decode cX5_read 12 = .ok (.putfield 31, 3) := by decide +kernel
theorem dX5_read_15 : decode cX5_read 15 = .ok (.aload_n 0, 1) := by decide +kernel
theorem dX5_read_16 : decode cX5_read 16 = .ok (.iconst (-1), 1) := by decide +kernel
theorem dX5_read_17 : decode cX5_read 17 = .ok (.putfield 34, 3) := by decide +kernel
theorem dX5_read_20 : decode cX5_read 20 = .ok (.aload_n 0, 1) := by decide +kernel
theorem dX5_read_21 : decode cX5_read 21 = .ok (.aload_n 1, 1) := by decide +kernel
theorem dX5_read_22 : decode cX5_read 22 = .ok (.invokevirtual 37, 3) := by decide +kernel
theorem dX5_read_25 : decode cX5_read 25 = .ok (.istore_n 2, 1) := by decide +kernel
theorem dX5_read_26 : decode cX5_read 26 = .ok (.iload_n 2, 1) := by decide +kernel
theorem dX5_read_27 : decode cX5_read 27 = .ok (.ifCond .eq 7, 3) := by decide +kernel
theorem dX5_read_30 : decode cX5_read 30 = .ok (.iload_n 2, 1) := by decide +kernel
theorem dX5_read_31 : decode cX5_read 31 = .ok (.goto 14, 3) := by decide +kernel
theorem dX5_read_34 : decode cX5_read 34 = .ok (.aload_n 0, 1) := by decide +kernel
theorem dX5_read_35 : decode cX5_read 35 = .ok (.aload_n 1, 1) := by decide +kernel
theorem dX5_read_36 : decode cX5_read 36 = .ok (.aload_n 0, 1) := by decide +kernel
theorem dX5_read_37 : decode cX5_read 37 = .ok (.getfield 24, 3) := by decide +kernel
theorem dX5_read_40 : decode cX5_read 40 = .ok (.iconst 1, 1) := by decide +kernel
theorem dX5_read_41 : decode cX5_read 41 = .ok (.iadd, 1) := by decide +kernel
theorem dX5_read_42 : decode cX5_read 42 = .ok (.invokevirtual 41, 3) := by decide +kernel
theorem dX5_read_45 : decode cX5_read 45 = .ok (.ireturn, 1) := by decide +kernel
theorem dX5_fault_0 : decode cX5_fault 0 = .ok (.aload_n 0, 1) := by decide +kernel
theorem dX5_fault_1 : decode cX5_fault 1 = .ok (.iload_n 2, 1) := by decide +kernel
theorem dX5_fault_2 : decode cX5_fault 2 = .ok (.putfield 34, 3) := by decide +kernel
theorem dX5_fault_5 : decode cX5_fault 5 = .ok (.iload_n 1, 1) := by decide +kernel
theorem dX5_fault_6 : decode cX5_fault 6 = .ok (.ireturn, 1) := by decide +kernel
set_option maxRecDepth 20000 in
theorem ggX5_readItems_X8_length : GoodIn wsX5_readItems wsX8_length := goodIn_r _ [6, 7, 50, 51] (by decide +kernel) (by decide +kernel)
set_option maxRecDepth 20000 in
theorem gX5_readItems_X8_length : GoodIn wsX5_readItems (wsV RX5 45 RX8 yX8_length wsX8_length) := goodIn_app (goodIn_of _ (by decide +kernel)) ggX5_readItems_X8_length
set_option maxRecDepth 20000 in
theorem ggX5_readItems_X8_byteAt : GoodIn wsX5_readItems wsX8_byteAt := goodIn_r _ [11, 7, 12, 50, 51] (by decide +kernel) (by decide +kernel)
set_option maxRecDepth 20000 in
theorem gX5_readItems_X8_byteAt : GoodIn wsX5_readItems (wsV RX5 51 RX8 yX8_byteAt wsX8_byteAt) := goodIn_app (goodIn_of _ (by decide +kernel)) ggX5_readItems_X8_byteAt
set_option maxRecDepth 20000 in
theorem ggX5_readItems_X6_isOfNames : GoodIn wsX5_readItems wsX6_isOfNames := goodIn_r _ [16, 17, 18, 15, 19, 20, 21, 22, 23, 24, 25] (by decide +kernel) (by decide +kernel)
set_option maxRecDepth 20000 in
theorem gX5_readItems_X6_isOfNames : GoodIn wsX5_readItems (va_wsS RX5 55 yX6_isOfNames wsX6_isOfNames) := goodIn_app (goodIn_of _ (by decide +kernel)) ggX5_readItems_X6_isOfNames
set_option maxRecDepth 20000 in
theorem ggX5_readItems_X6_isWild : GoodIn wsX5_readItems wsX6_isWild := goodIn_r _ [28] (by decide +kernel) (by decide +kernel)
set_option maxRecDepth 20000 in
theorem gX5_readItems_X6_isWild : GoodIn wsX5_readItems (va_wsS RX5 61 yX6_isWild wsX6_isWild) := goodIn_app (goodIn_of _ (by decide +kernel)) ggX5_readItems_X6_isWild
set_option maxRecDepth 20000 in
theorem ggX5_readItems_X5_fault : GoodIn wsX5_readItems wsX5_fault := goodIn_r _ [33, 34, 42, 43, 44, 45, 46, 47, 48, 49] (by decide +kernel) (by decide +kernel)
set_option maxRecDepth 20000 in
theorem gX5_readItems_X5_fault : GoodIn wsX5_readItems (wsV RX5 64 RX5 yX5_fault wsX5_fault) := goodIn_app (goodIn_of _ (by decide +kernel)) ggX5_readItems_X5_fault
set_option maxRecDepth 20000 in
theorem ggX5_readItems_X5_addItem : GoodIn wsX5_readItems wsX5_addItem := goodIn_r _ [38, 39, 40, 1, 41, 26, 27, 15, 28, 42, 43, 44, 45, 46, 47, 48, 49] (by decide +kernel) (by decide +kernel)
set_option maxRecDepth 20000 in
theorem gX5_readItems_X5_addItem : GoodIn wsX5_readItems (wsV RX5 68 RX5 yX5_addItem wsX5_addItem) := goodIn_app (goodIn_of _ (by decide +kernel)) ggX5_readItems_X5_addItem
theorem dX5_readItems_0 : decode cX5_readItems 0 = .ok (.iconst 0, 1) := by decide +kernel
theorem dX5_readItems_1 : decode cX5_readItems 1 = .ok (.istore_n 2, 1) := by decide +kernel
theorem dX5_readItems_2 : decode cX5_readItems 2 = .ok (.iload_n 2, 1) := by decide +kernel
theorem dX5_readItems_3 : decode cX5_readItems 3 = .ok (.aload_n 1, 1) := by decide +kernel
theorem dX5_readItems_4 : decode cX5_readItems 4 = .ok (.invokevirtual 45, 3) := by decide +kernel
theorem dX5_readItems_7 : decode cX5_readItems 7 = .ok (.if_icmp .ge 72, 3) := by decide +kernel
theorem dX5_readItems_10 : decode cX5_readItems 10 = .ok (.aload_n 1, 1) := by decide +kernel
theorem dX5_readItems_11 : decode cX5_readItems 11 = .ok (.iload_n 2, 1) := by decide +kernel
theorem dX5_readItems_12 : decode cX5_readItems 12 = .ok (.invokevirtual 51, 3) := by decide +kernel
theorem dX5_readItems_15 : decode cX5_readItems 15 = .ok (.istore_n 3, 1) := by decide +kernel
theorem dX5_readItems_16 : decode cX5_readItems 16 = .ok (.iload_n 3, 1) := by decide +kernel
theorem dX5_readItems_17 : decode cX5_readItems 17 = .ok (.bipush 62, 2) := by decide +kernel
theorem dX5_readItems_19 : decode cX5_readItems 19 = .ok (.if_icmp .ne 12, 3) := by decide +kernel
theorem dX5_readItems_22 : decode cX5_readItems 22 = .ok (.aload_n 0, 1) := by decide +kernel
theorem dX5_readItems_23 : decode cX5_readItems 23 = .ok (.getfield 24, 3) := by decide +kernel
theorem dX5_readItems_26 : decode cX5_readItems 26 = .ok (.ifCond .le 5, 3) := by decide +kernel
theorem dX5_readItems_29 : decode cX5_readItems 29 = .ok (.iconst 0, 1) := by decide +kernel
theorem dX5_readItems_30 : decode cX5_readItems 30 = .ok (.ireturn, 1) := by decide +kernel
theorem dX5_readItems_31 : decode cX5_readItems 31 = .ok (.iload_n 3, 1) := by decide +kernel
theorem dX5_readItems_32 : decode cX5_readItems 32 = .ok (.invokestatic 55, 3) := by decide +kernel
theorem dX5_readItems_35 : decode cX5_readItems 35 = .ok (.ifCond .ne 17, 3) := by decide +kernel
theorem dX5_readItems_38 : decode cX5_readItems 38 = .ok (.iload_n 3, 1) := by decide +kernel
theorem dX5_readItems_39 : decode cX5_readItems 39 = .ok (.invokestatic 61, 3) := by decide +kernel
theorem dX5_readItems_42 : decode cX5_readItems 42 = .ok (.ifCond .ne 10, 3) := by decide +kernel
theorem dX5_readItems_45 : decode cX5_readItems 45 = .ok (.aload_n 0, 1) := by decide +kernel
theorem dX5_readItems_46 : decode cX5_readItems 46 = .ok (.iconst 1, 1) := by decide +kernel
theorem dX5_readItems_47 : decode cX5_readItems 47 = .ok (.iload_n 2, 1) := by decide +kernel
theorem dX5_readItems_48 : decode cX5_readItems 48 = .ok (.invokevirtual 64, 3) := by decide +kernel
theorem dX5_readItems_51 : decode cX5_readItems 51 = .ok (.ireturn, 1) := by decide +kernel
theorem dX5_readItems_52 : decode cX5_readItems 52 = .ok (.aload_n 0, 1) := by decide +kernel
theorem dX5_readItems_53 : decode cX5_readItems 53 = .ok (.getfield 24, 3) := by decide +kernel
theorem dX5_readItems_56 : decode cX5_readItems 56 = .ok (.bipush 12, 2) := by decide +kernel
theorem dX5_readItems_58 : decode cX5_readItems 58 = .ok (.if_icmp .lt 10, 3) := by decide +kernel
theorem dX5_readItems_61 : decode cX5_readItems 61 = .ok (.aload_n 0, 1) := by decide +kernel
theorem dX5_readItems_62 : decode cX5_readItems 62 = .ok (.iconst 2, 1) := by decide +kernel
theorem dX5_readItems_63 : decode cX5_readItems 63 = .ok (.iload_n 2, 1) := by decide +kernel
theorem dX5_readItems_64 : decode cX5_readItems 64 = .ok (.invokevirtual 64, 3) := by decide +kernel
theorem dX5_readItems_67 : decode cX5_readItems 67 = .ok (.ireturn, 1) := by decide +kernel
theorem dX5_readItems_68 : decode cX5_readItems 68 = .ok (.aload_n 0, 1) := by decide +kernel
theorem dX5_readItems_69 : decode cX5_readItems 69 = .ok (.iload_n 3, 1) := by decide +kernel
theorem dX5_readItems_70 : decode cX5_readItems 70 = .ok (.invokevirtual 68, 3) := by decide +kernel
theorem dX5_readItems_73 : decode cX5_readItems 73 = .ok (.iinc 2 1, 3) := by decide +kernel
theorem dX5_readItems_76 : decode cX5_readItems 76 = .ok (.goto (-74), 3) := by decide +kernel
theorem dX5_readItems_79 : decode cX5_readItems 79 = .ok (.aload_n 0, 1) := by decide +kernel
theorem dX5_readItems_80 : decode cX5_readItems 80 = .ok (.iconst 1, 1) := by decide +kernel
theorem dX5_readItems_81 : decode cX5_readItems 81 = .ok (.aload_n 1, 1) := by decide +kernel
theorem dX5_readItems_82 : decode cX5_readItems 82 = .ok (.invokevirtual 45, 3) := by decide +kernel
theorem dX5_readItems_85 : decode cX5_readItems 85 = .ok (.invokevirtual 64, 3) := by decide +kernel
theorem dX5_readItems_88 : decode cX5_readItems 88 = .ok (.ireturn, 1) := by decide +kernel
set_option maxRecDepth 20000 in
theorem ggX5_addItem_X6_isWild : GoodIn wsX5_addItem wsX6_isWild := goodIn_r _ [8] (by decide +kernel) (by decide +kernel)
set_option maxRecDepth 20000 in
theorem gX5_addItem_X6_isWild : GoodIn wsX5_addItem (va_wsS RX5 61 yX6_isWild wsX6_isWild) := goodIn_app (goodIn_of _ (by decide +kernel)) ggX5_addItem_X6_isWild
theorem dX5_addItem_0 : decode cX5_addItem 0 = .ok (.iload_n 1, 1) := by decide +kernel
theorem dX5_addItem_1 : decode cX5_addItem 1 = .ok (.invokestatic 61, 3) := by decide +kernel
theorem dX5_addItem_4 : decode cX5_addItem 4 = .ok (.ifCond .eq 26, 3) := by decide +kernel
theorem dX5_addItem_7 : decode cX5_addItem 7 = .ok (.aload_n 0, 1) := by decide +kernel
theorem dX5_addItem_8 : decode cX5_addItem 8 = .ok (.getfield 15, 3) := by decide +kernel
theorem dX5_addItem_11 : decode cX5_addItem 11 = .ok (.aload_n 0, 1) := by decide +kernel
theorem dX5_addItem_12 : decode cX5_addItem 12 = .ok (.getfield 28, 3) := by decide +kernel
theorem dX5_addItem_15 : decode cX5_addItem 15 = .ok (.aload_n 0, 1) := by decide +kernel
theorem dX5_addItem_16 : decode cX5_addItem 16 = .ok (.getfield 24, 3) := by decide +kernel
theorem dX5_addItem_19 : decode cX5_addItem 19 = .ok (.iastore, 1) := by decide +kernel
theorem dX5_addItem_20 : decode cX5_addItem 20 = .ok (.aload_n 0, 1) := by decide +kernel
theorem dX5_addItem_21 : decode cX5_addItem 21 = .ok (.dup, 1) := by decide +kernel
theorem dX5_addItem_22 : decode cX5_addItem 22 = .ok (.getfield 28, 3) := by decide +kernel
theorem dX5_addItem_25 : decode cX5_addItem 25 = .ok (.iconst 1, 1) := by decide +kernel
theorem dX5_addItem_26 : decode cX5_addItem 26 = .ok (.iadd, 1) := by decide +kernel
theorem dX5_addItem_27 : decode cX5_addItem 27 = .ok (.putfield 28, 3) := by decide +kernel
theorem dX5_addItem_30 : decode cX5_addItem 30 = .ok (.aload_n 0, 1) := by decide +kernel
theorem dX5_addItem_31 : decode cX5_addItem 31 = .ok (.getfield 9, 3) := by decide +kernel
theorem dX5_addItem_34 : decode cX5_addItem 34 = .ok (.aload_n 0, 1) := by decide +kernel
theorem dX5_addItem_35 : decode cX5_addItem 35 = .ok (.getfield 24, 3) := by decide +kernel
theorem dX5_addItem_38 : decode cX5_addItem 38 = .ok (.iload_n 1, 1) := by decide +kernel
theorem dX5_addItem_39 : decode cX5_addItem 39 = .ok (.iastore, 1) := by decide +kernel
theorem dX5_addItem_40 : decode cX5_addItem 40 = .ok (.aload_n 0, 1) := by decide +kernel
theorem dX5_addItem_41 : decode cX5_addItem 41 = .ok (.dup, 1) := by decide +kernel
theorem dX5_addItem_42 : decode cX5_addItem 42 = .ok (.getfield 24, 3) := by decide +kernel
theorem dX5_addItem_45 : decode cX5_addItem 45 = .ok (.iconst 1, 1) := by decide +kernel
