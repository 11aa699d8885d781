theorem dX0_init_0 : decode cX0_init 0 = .ok (.aload_n 0, 1) := by decide +kernel
theorem dX0_init_1 : decode cX0_init 1 = .ok (.invokespecial 3, 3) := by decide +kernel
theorem dX0_init_4 : decode cX0_init 4 = .ok (.aload_n 0, 1) := by decide +kernel
theorem dX0_init_5 : decode cX0_init 5 = .ok (.bipush 6, 2) := by decide +kernel
theorem dX0_init_7 : decode cX0_init 7 = .ok (.anewarray 9, 3) := by decide +kernel
theorem dX0_init_10 : decode cX0_init 10 = .ok (.putfield 11, 3) := by decide +kernel
theorem dX0_init_13 : decode cX0_init 13 = .ok (.aload_n 0, 1) := by decide +kernel
theorem dX0_init_14 : decode cX0_init 14 = .ok (.bipush 6, 2) := by decide +kernel
theorem dX0_init_16 : decode cX0_init 16 = .ok (.newarray .int, 2) := by decide +kernel
theorem dX0_init_18 : decode cX0_init 18 = .ok (.putfield 17, 3) := by decide +kernel
theorem dX0_init_21 : decode cX0_init 21 = .ok (.aload_n 0, 1) := by decide +kernel
theorem dX0_init_22 : decode cX0_init 22 = .ok (.bipush 6, 2) := by decide +kernel
theorem dX0_init_24 : decode cX0_init 24 = .ok (.newarray .int, 2) := by decide +kernel
theorem dX0_init_26 : decode cX0_init 26 = .ok (.putfield 21, 3) := by decide +kernel
theorem dX0_init_29 : decode cX0_init 29 = .ok (.aload_n 0, 1) := by decide +kernel
theorem dX0_init_30 : decode cX0_init 30 = .ok (.aload_n 1, 1) := by decide +kernel
theorem dX0_init_31 : decode cX0_init 31 = .ok (.putfield 24, 3) := by decide +kernel
theorem dX0_init_34 : decode cX0_init 34 = .ok (.return_, 1) := by decide +kernel
theorem dX0_put_0 : decode cX0_put 0 = .ok (.aload_n 0, 1) := by decide +kernel
theorem dX0_put_1 : decode cX0_put 1 = .ok (.getfield 28, 3) := by decide +kernel
theorem dX0_put_4 : decode cX0_put 4 = .ok (.istore_n 2, 1) := by decide +kernel
theorem dX0_put_5 : decode cX0_put 5 = .ok (.aload_n 0, 1) := by decide +kernel
theorem dX0_put_6 : decode cX0_put 6 = .ok (.getfield 11, 3) := by decide +kernel
theorem dX0_put_9 : decode cX0_put 9 = .ok (.iload_n 2, 1) := by decide +kernel
theorem dX0_put_10 : decode cX0_put 10 = .ok (.aload_n 1, 1) := by decide +kernel
theorem dX0_put_11 : decode cX0_put 11 = .ok (.aastore, 1) := by decide +kernel
theorem dX0_put_12 : decode cX0_put 12 = .ok (.aload_n 0, 1) := by decide +kernel
theorem dX0_put_13 : decode cX0_put 13 = .ok (.dup, 1) := by decide +kernel
theorem dX0_put_14 : decode cX0_put 14 = .ok (.getfield 28, 3) := by decide +kernel
theorem dX0_put_17 : decode cX0_put 17 = .ok (.iconst 1, 1) := by decide +kernel
theorem dX0_put_18 : decode cX0_put 18 = .ok (.iadd, 1) := by decide +kernel
theorem dX0_put_19 : decode cX0_put 19 = .ok (.putfield 28, 3) := by decide +kernel
theorem dX0_put_22 : decode cX0_put 22 = .ok (.iload_n 2, 1) := by decide +kernel
theorem dX0_put_23 : decode cX0_put 23 = .ok (.ireturn, 1) := by decide +kernel
theorem dX0_runsOn_0 : decode cX0_runsOn 0 = .ok (.aload_n 0, 1) := by decide +kernel
theorem dX0_runsOn_1 : decode cX0_runsOn 1 = .ok (.getfield 11, 3) := by decide +kernel
theorem dX0_runsOn_4 : decode cX0_runsOn 4 = .ok (.iload_n 1, 1) := by decide +kernel
theorem dX0_runsOn_5 : decode cX0_runsOn 5 = .ok (.aaload, 1) := by decide +kernel
theorem dX0_runsOn_6 : decode cX0_runsOn 6 = .ok (.getfield 32, 3) := by decide +kernel
theorem dX0_runsOn_9 : decode cX0_runsOn 9 = .ok (.bipush 114, 2) := by decide +kernel
theorem dX0_runsOn_11 : decode cX0_runsOn 11 = .ok (.if_icmp .ne 28, 3) := by decide +kernel
theorem dX0_runsOn_14 : decode cX0_runsOn 14 = .ok (.aload_n 0, 1) := by decide +kernel
theorem dX0_runsOn_15 : decode cX0_runsOn 15 = .ok (.getfield 24, 3) := by decide +kernel
theorem dX0_runsOn_18 : decode cX0_runsOn 18 = .ok (.getfield 36, 3) := by decide +kernel
theorem dX0_runsOn_21 : decode cX0_runsOn 21 = .ok (.aload_n 0, 1) := by decide +kernel
theorem dX0_runsOn_22 : decode cX0_runsOn 22 = .ok (.getfield 11, 3) := by decide +kernel
theorem dX0_runsOn_25 : decode cX0_runsOn 25 = .ok (.iload_n 1, 1) := by decide +kernel
theorem dX0_runsOn_26 : decode cX0_runsOn 26 = .ok (.aaload, 1) := by decide +kernel
theorem dX0_runsOn_27 : decode cX0_runsOn 27 = .ok (.getfield 41, 3) := by decide +kernel
theorem dX0_runsOn_30 : decode cX0_runsOn 30 = .ok (.iaload, 1) := by decide +kernel
theorem dX0_runsOn_31 : decode cX0_runsOn 31 = .ok (.iload_n 2, 1) := by decide +kernel
theorem dX0_runsOn_32 : decode cX0_runsOn 32 = .ok (.if_icmp .ne 7, 3) := by decide +kernel
theorem dX0_runsOn_35 : decode cX0_runsOn 35 = .ok (.iconst 1, 1) := by decide +kernel
theorem dX0_runsOn_36 : decode cX0_runsOn 36 = .ok (.goto 4, 3) := by decide +kernel
theorem dX0_runsOn_39 : decode cX0_runsOn 39 = .ok (.iconst 0, 1) := by decide +kernel
theorem dX0_runsOn_40 : decode cX0_runsOn 40 = .ok (.ireturn, 1) := by decide +kernel
set_option maxRecDepth 20000 in
theorem ggX0_nextToStart_X1_isShort : GoodIn wsX0_nextToStart wsX1_isShort := goodIn_r _ [11, 12, 13, 25, 26, 27, 28, 29, 30, 31, 32] (by decide +kernel) (by decide +kernel)
set_option maxRecDepth 20000 in
theorem gX0_nextToStart_X1_isShort : GoodIn wsX0_nextToStart (wsV RX0 44 RX1 yX1_isShort wsX1_isShort) := goodIn_app (goodIn_of _ (by decide +kernel)) ggX0_nextToStart_X1_isShort
set_option maxRecDepth 20000 in
theorem ggX0_nextToStart_X1_startsAhead : GoodIn wsX0_nextToStart wsX1_startsAhead := goodIn_r _ [17, 18, 19, 25, 26, 27, 28, 29, 30, 31, 32] (by decide +kernel) (by decide +kernel)
set_option maxRecDepth 20000 in
theorem gX0_nextToStart_X1_startsAhead : GoodIn wsX0_nextToStart (wsV RX0 48 RX1 yX1_startsAhead wsX1_startsAhead) := goodIn_app (goodIn_of _ (by decide +kernel)) ggX0_nextToStart_X1_startsAhead
theorem dX0_nextToStart_0 : decode cX0_nextToStart 0 = .ok (.iconst (-1), 1) := by decide +kernel
theorem dX0_nextToStart_1 : decode cX0_nextToStart 1 = .ok (.istore_n 2, 1) := by decide +kernel
theorem dX0_nextToStart_2 : decode cX0_nextToStart 2 = .ok (.iconst 0, 1) := by decide +kernel
theorem dX0_nextToStart_3 : decode cX0_nextToStart 3 = .ok (.istore_n 3, 1) := by decide +kernel
theorem dX0_nextToStart_4 : decode cX0_nextToStart 4 = .ok (.iload_n 3, 1) := by decide +kernel
theorem dX0_nextToStart_5 : decode cX0_nextToStart 5 = .ok (.aload_n 0, 1) := by decide +kernel
theorem dX0_nextToStart_6 : decode cX0_nextToStart 6 = .ok (.getfield 28, 3) := by decide +kernel
theorem dX0_nextToStart_9 : decode cX0_nextToStart 9 = .ok (.if_icmp .ge 85, 3) := by decide +kernel
theorem dX0_nextToStart_12 : decode cX0_nextToStart 12 = .ok (.aload_n 0, 1) := by decide +kernel
theorem dX0_nextToStart_13 : decode cX0_nextToStart 13 = .ok (.getfield 11, 3) := by decide +kernel
theorem dX0_nextToStart_16 : decode cX0_nextToStart 16 = .ok (.iload_n 3, 1) := by decide +kernel
theorem dX0_nextToStart_17 : decode cX0_nextToStart 17 = .ok (.aaload, 1) := by decide +kernel
theorem dX0_nextToStart_18 : decode cX0_nextToStart 18 = .ok (.astore 4, 2) := by decide +kernel
theorem dX0_nextToStart_20 : decode cX0_nextToStart 20 = .ok (.aload 4, 2) := by decide +kernel
theorem dX0_nextToStart_22 : decode cX0_nextToStart 22 = .ok (.getfield 32, 3) := by decide +kernel
theorem dX0_nextToStart_25 : decode cX0_nextToStart 25 = .ok (.bipush 111, 2) := by decide +kernel
theorem dX0_nextToStart_27 : decode cX0_nextToStart 27 = .ok (.if_icmp .ne 32, 3) := by decide +kernel
theorem dX0_nextToStart_30 : decode cX0_nextToStart 30 = .ok (.aload 4, 2) := by decide +kernel
theorem dX0_nextToStart_32 : decode cX0_nextToStart 32 = .ok (.invokevirtual 44, 3) := by decide +kernel
theorem dX0_nextToStart_35 : decode cX0_nextToStart 35 = .ok (.ifCond .ne 24, 3) := by decide +kernel
theorem dX0_nextToStart_38 : decode cX0_nextToStart 38 = .ok (.aload_n 0, 1) := by decide +kernel
theorem dX0_nextToStart_39 : decode cX0_nextToStart 39 = .ok (.getfield 24, 3) := by decide +kernel
theorem dX0_nextToStart_42 : decode cX0_nextToStart 42 = .ok (.getfield 36, 3) := by decide +kernel
theorem dX0_nextToStart_45 : decode cX0_nextToStart 45 = .ok (.aload 4, 2) := by decide +kernel
theorem dX0_nextToStart_47 : decode cX0_nextToStart 47 = .ok (.getfield 41, 3) := by decide +kernel
theorem dX0_nextToStart_50 : decode cX0_nextToStart 50 = .ok (.iaload, 1) := by decide +kernel
theorem dX0_nextToStart_51 : decode cX0_nextToStart 51 = .ok (.iload_n 1, 1) := by decide +kernel
theorem dX0_nextToStart_52 : decode cX0_nextToStart 52 = .ok (.if_icmp .ne 7, 3) := by decide +kernel
theorem dX0_nextToStart_55 : decode cX0_nextToStart 55 = .ok (.iconst 1, 1) := by decide +kernel
theorem dX0_nextToStart_56 : decode cX0_nextToStart 56 = .ok (.goto 4, 3) := by decide +kernel
theorem dX0_nextToStart_59 : decode cX0_nextToStart 59 = .ok (.iconst 0, 1) := by decide +kernel
theorem dX0_nextToStart_60 : decode cX0_nextToStart 60 = .ok (.istore 5, 2) := by decide +kernel
theorem dX0_nextToStart_62 : decode cX0_nextToStart 62 = .ok (.iload 5, 2) := by decide +kernel
theorem dX0_nextToStart_64 : decode cX0_nextToStart 64 = .ok (.ifCond .eq 24, 3) := by decide +kernel
theorem dX0_nextToStart_67 : decode cX0_nextToStart 67 = .ok (.iload_n 2, 1) := by decide +kernel
theorem dX0_nextToStart_68 : decode cX0_nextToStart 68 = .ok (.iconst (-1), 1) := by decide +kernel
theorem dX0_nextToStart_69 : decode cX0_nextToStart 69 = .ok (.if_icmp .eq 17, 3) := by decide +kernel
theorem dX0_nextToStart_72 : decode cX0_nextToStart 72 = .ok (.aload 4, 2) := by decide +kernel
theorem dX0_nextToStart_74 : decode cX0_nextToStart 74 = .ok (.aload_n 0, 1) := by decide +kernel
theorem dX0_nextToStart_75 : decode cX0_nextToStart 75 = .ok (.getfield 11, 3) := by decide +kernel
theorem dX0_nextToStart_78 : decode cX0_nextToStart 78 = .ok (.iload_n 2, 1) := by decide +kernel
theorem dX0_nextToStart_79 : decode cX0_nextToStart 79 = .ok (.aaload, 1) := by decide +kernel
theorem dX0_nextToStart_80 : decode cX0_nextToStart 80 = .ok (.invokevirtual 48, 3) := by decide +kernel
theorem dX0_nextToStart_83 : decode cX0_nextToStart 83 = .ok (.ifCond .eq 5, 3) := by decide +kernel
theorem dX0_nextToStart_86 : decode cX0_nextToStart 86 = .ok (.iload_n 3, 1) := by decide +kernel
theorem dX0_nextToStart_87 : decode cX0_nextToStart 87 = .ok (.istore_n 2, 1) := by decide +kernel
theorem dX0_nextToStart_88 : decode cX0_nextToStart 88 = .ok (.iinc 3 1, 3) := by decide +kernel
theorem dX0_nextToStart_91 : decode cX0_nextToStart 91 = .ok (.goto (-87), 3) := by decide +kernel
theorem dX0_nextToStart_94 : decode cX0_nextToStart 94 = .ok (.iload_n 2, 1) := by decide +kernel
theorem dX0_nextToStart_95 : decode cX0_nextToStart 95 = .ok (.ireturn, 1) := by decide +kernel
set_option maxRecDepth 20000 in
theorem ggX0_beginTick_X1_beginTick : GoodIn wsX0_beginTick wsX1_beginTick := goodIn_r _ [7, 8, 9, 10, 11, 12, 13, 6, 14, 15, 16, 17, 18, 19, 20, 26, 27, 28, 29, 30, 31, 32, 33] (by decide +kernel) (by decide +kernel)
set_option maxRecDepth 20000 in
theorem gX0_beginTick_X1_beginTick : GoodIn wsX0_beginTick (wsV RX0 52 RX1 yX1_beginTick wsX1_beginTick) := goodIn_app (goodIn_of _ (by decide +kernel)) ggX0_beginTick_X1_beginTick
theorem dX0_beginTick_0 : decode cX0_beginTick 0 = .ok (.iconst 0, 1) := by decide +kernel
theorem dX0_beginTick_1 : decode cX0_beginTick 1 = .ok (.istore_n 1, 1) := by decide +kernel
theorem dX0_beginTick_2 : decode cX0_beginTick 2 = .ok (.iload_n 1, 1) := by decide +kernel
theorem dX0_beginTick_3 : decode cX0_beginTick 3 = .ok (.aload_n 0, 1) := by decide +kernel
theorem dX0_beginTick_4 : decode cX0_beginTick 4 = .ok (.getfield 28, 3) := by decide +kernel
theorem dX0_beginTick_7 : decode cX0_beginTick 7 = .ok (.if_icmp .ge 18, 3) := by decide +kernel
theorem dX0_beginTick_10 : decode cX0_beginTick 10 = .ok (.aload_n 0, 1) := by decide +kernel
theorem dX0_beginTick_11 : decode cX0_beginTick 11 = .ok (.getfield 11, 3) := by decide +kernel
theorem dX0_beginTick_14 : decode cX0_beginTick 14 = .ok (.iload_n 1, 1) := by decide +kernel
theorem dX0_beginTick_15 : decode cX0_beginTick 15 = .ok (.aaload, 1) := by decide +kernel
theorem dX0_beginTick_16 : decode cX0_beginTick 16 = .ok (.invokevirtual 52, 3) := by decide +kernel
theorem dX0_beginTick_19 : decode cX0_beginTick 19 = .ok (.iinc 1 1, 3) := by decide +kernel
theorem dX0_beginTick_22 : decode cX0_beginTick 22 = .ok (.goto (-20), 3) := by decide +kernel
theorem dX0_beginTick_25 : decode cX0_beginTick 25 = .ok (.return_, 1) := by decide +kernel
set_option maxRecDepth 20000 in
theorem ggX0_sumOfSupply_X0_runsOn : GoodIn wsX0_sumOfSupply wsX0_runsOn := goodIn_r _ [7, 2, 8, 9, 10, 11, 23, 24, 25, 26, 27, 28, 29, 30, 31, 32, 33, 34, 35, 36, 37, 38, 39, 40, 41, 42, 43, 44, 45] (by decide +kernel) (by decide +kernel)
set_option maxRecDepth 20000 in
theorem gX0_sumOfSupply_X0_runsOn : GoodIn wsX0_sumOfSupply (wsV RX0 55 RX0 yX0_runsOn wsX0_runsOn) := goodIn_app (goodIn_of _ (by decide +kernel)) ggX0_sumOfSupply_X0_runsOn
set_option maxRecDepth 20000 in
theorem ggX0_sumOfSupply_X1_supply : GoodIn wsX0_sumOfSupply wsX1_supply := goodIn_r _ [16, 17, 18, 19, 20, 21, 22, 28, 29, 30, 31, 32, 33, 34, 35] (by decide +kernel) (by decide +kernel)
set_option maxRecDepth 20000 in
theorem gX0_sumOfSupply_X1_supply : GoodIn wsX0_sumOfSupply (wsV RX0 59 RX1 yX1_supply wsX1_supply) := goodIn_app (goodIn_of _ (by decide +kernel)) ggX0_sumOfSupply_X1_supply
theorem dX0_sumOfSupply_0 : decode cX0_sumOfSupply 0 = .ok (.iconst 0, 1) := by decide +kernel
theorem dX0_sumOfSupply_1 : decode cX0_sumOfSupply 1 = .ok (.istore_n 2, 1) := by decide +kernel
theorem dX0_sumOfSupply_2 : decode cX0_sumOfSupply 2 = .ok (.iconst 0, 1) := by decide +kernel
theorem dX0_sumOfSupply_3 : decode cX0_sumOfSupply 3 = .ok (.istore_n 3, 1) := by decide +kernel
theorem dX0_sumOfSupply_4 : decode cX0_sumOfSupply 4 = .ok (.iload_n 3, 1) := by decide +kernel
theorem dX0_sumOfSupply_5 : decode cX0_sumOfSupply 5 = .ok (.aload_n 0, 1) := by decide +kernel
theorem dX0_sumOfSupply_6 : decode cX0_sumOfSupply 6 = .ok (.getfield 28, 3) := by decide +kernel
theorem dX0_sumOfSupply_9 : decode cX0_sumOfSupply 9 = .ok (.if_icmp .ge 30, 3) := by decide +kernel
theorem dX0_sumOfSupply_12 : decode cX0_sumOfSupply 12 = .ok (.aload_n 0, 1) := by decide +kernel
theorem dX0_sumOfSupply_13 : decode cX0_sumOfSupply 13 = .ok (.iload_n 3, 1) := by decide +kernel
theorem dX0_sumOfSupply_14 : decode cX0_sumOfSupply 14 = .ok (.iload_n 1, 1) := by decide +kernel
theorem dX0_sumOfSupply_15 : decode cX0_sumOfSupply 15 = .ok (.invokevirtual 55, 3) := by decide +kernel
theorem dX0_sumOfSupply_18 : decode cX0_sumOfSupply 18 = .ok (.ifCond .eq 15, 3) := by decide +kernel
theorem dX0_sumOfSupply_21 : decode cX0_sumOfSupply 21 = .ok (.iload_n 2, 1) := by decide +kernel
theorem dX0_sumOfSupply_22 : decode cX0_sumOfSupply 22 = .ok (.aload_n 0, 1) := by decide +kernel
theorem dX0_sumOfSupply_23 : decode cX0_sumOfSupply 23 = .ok (.getfield 11, 3) := by decide +kernel
theorem dX0_sumOfSupply_26 : decode cX0_sumOfSupply 26 = .ok (.iload_n 3, 1) := by decide +kernel
theorem dX0_sumOfSupply_27 : decode cX0_sumOfSupply 27 = .ok (.aaload, 1) := by decide +kernel
theorem dX0_sumOfSupply_28 : decode cX0_sumOfSupply 28 = .ok (.invokevirtual 59, 3) := by decide +kernel
theorem dX0_sumOfSupply_31 : decode cX0_sumOfSupply 31 = .ok (.iadd, 1) := by decide +kernel
theorem dX0_sumOfSupply_32 : decode cX0_sumOfSupply 32 = .ok (.istore_n 2, 1) := by decide +kernel
theorem dX0_sumOfSupply_33 : decode cX0_sumOfSupply 33 = .ok (.iinc 3 1, 3) := by decide +kernel
theorem dX0_sumOfSupply_36 : decode cX0_sumOfSupply 36 = .ok (.goto (-32), 3) := by decide +kernel
theorem dX0_sumOfSupply_39 : decode cX0_sumOfSupply 39 = .ok (.iload_n 2, 1) := by decide +kernel
theorem dX0_sumOfSupply_40 : decode cX0_sumOfSupply 40 = .ok (.ireturn, 1) := by decide +kernel
set_option maxRecDepth 20000 in
theorem ggX0_sumOfLeast_X0_runsOn : GoodIn wsX0_sumOfLeast wsX0_runsOn := goodIn_r _ [8, 2, 9, 10, 11, 12, 13, 14, 15, 16, 17, 18, 19, 20, 21, 22, 23, 24, 25, 26, 27, 28, 29, 30, 31, 32, 33, 34, 35] (by decide +kernel) (by decide +kernel)
set_option maxRecDepth 20000 in
theorem gX0_sumOfLeast_X0_runsOn : GoodIn wsX0_sumOfLeast (wsV RX0 55 RX0 yX0_runsOn wsX0_runsOn) := goodIn_app (goodIn_of _ (by decide +kernel)) ggX0_sumOfLeast_X0_runsOn
theorem dX0_sumOfLeast_0 : decode cX0_sumOfLeast 0 = .ok (.iconst 0, 1) := by decide +kernel
theorem dX0_sumOfLeast_1 : decode cX0_sumOfLeast 1 = .ok (.istore_n 2, 1) := by decide +kernel
theorem dX0_sumOfLeast_2 : decode cX0_sumOfLeast 2 = .ok (.iconst 0, 1) := by decide +kernel
theorem dX0_sumOfLeast_3 : decode cX0_sumOfLeast 3 = .ok (.istore_n 3, 1) := by decide +kernel
theorem dX0_sumOfLeast_4 : decode cX0_sumOfLeast 4 = .ok (.iload_n 3, 1) := by decide +kernel
theorem dX0_sumOfLeast_5 : decode cX0_sumOfLeast 5 = .ok (.aload_n 0, 1) := by decide +kernel
theorem dX0_sumOfLeast_6 : decode cX0_sumOfLeast 6 = .ok (.getfield 28, 3) := by decide +kernel
theorem dX0_sumOfLeast_9 : decode cX0_sumOfLeast 9 = .ok (.if_icmp .ge 30, 3) := by decide +kernel
theorem dX0_sumOfLeast_12 : decode cX0_sumOfLeast 12 = .ok (.aload_n 0, 1) := by decide +kernel
theorem dX0_sumOfLeast_13 : decode cX0_sumOfLeast 13 = .ok (.iload_n 3, 1) := by decide +kernel
theorem dX0_sumOfLeast_14 : decode cX0_sumOfLeast 14 = .ok (.iload_n 1, 1) := by decide +kernel
theorem dX0_sumOfLeast_15 : decode cX0_sumOfLeast 15 = .ok (.invokevirtual 55, 3) := by decide +kernel
theorem dX0_sumOfLeast_18 : decode cX0_sumOfLeast 18 = .ok (.ifCond .eq 15, 3) := by decide +kernel
theorem dX0_sumOfLeast_21 : decode cX0_sumOfLeast 21 = .ok (.iload_n 2, 1) := by decide +kernel
theorem dX0_sumOfLeast_22 : decode cX0_sumOfLeast 22 = .ok (.aload_n 0, 1) := by decide +kernel
theorem dX0_sumOfLeast_23 : decode cX0_sumOfLeast 23 = .ok (.getfield 11, 3) := by decide +kernel
theorem dX0_sumOfLeast_26 : decode cX0_sumOfLeast 26 = .ok (.iload_n 3, 1) := by decide +kernel
theorem dX0_sumOfLeast_27 : decode cX0_sumOfLeast 27 = .ok (.aaload, 1) := by decide +kernel
theorem dX0_sumOfLeast_28 : decode cX0_sumOfLeast 28 = .ok (.getfield 63, 3) := by decide +kernel
theorem dX0_sumOfLeast_31 : decode cX0_sumOfLeast 31 = .ok (.iadd, 1) := by decide +kernel
theorem dX0_sumOfLeast_32 : decode cX0_sumOfLeast 32 = .ok (.istore_n 2, 1) := by decide +kernel
theorem dX0_sumOfLeast_33 : decode cX0_sumOfLeast 33 = .ok (.iinc 3 1, 3) := by decide +kernel
theorem dX0_sumOfLeast_36 : decode cX0_sumOfLeast 36 = .ok (.goto (-32), 3) := by decide +kernel
theorem dX0_sumOfLeast_39 : decode cX0_sumOfLeast 39 = .ok (.iload_n 2, 1) := by decide +kernel
theorem dX0_sumOfLeast_40 : decode cX0_sumOfLeast 40 = .ok (.ireturn, 1) := by decide +kernel
set_option maxRecDepth 20000 in
theorem ggX0_measureSteps_X0_runsOn : GoodIn wsX0_measureSteps wsX0_runsOn := goodIn_r _ [8, 3, 9, 10, 11, 12, 32, 33, 34, 35, 36, 37, 38, 39, 40, 41, 42, 43, 44, 45, 46, 47, 48, 49, 50, 51, 52, 53, 54] (by decide +kernel) (by decide +kernel)
set_option maxRecDepth 20000 in
theorem gX0_measureSteps_X0_runsOn : GoodIn wsX0_measureSteps (wsV RX0 55 RX0 yX0_runsOn wsX0_runsOn) := goodIn_app (goodIn_of _ (by decide +kernel)) ggX0_measureSteps_X0_runsOn
set_option maxRecDepth 20000 in
theorem ggX0_measureSteps_X1_steps : GoodIn wsX0_measureSteps wsX1_steps := goodIn_r _ [17, 18, 19, 20, 21, 22, 23, 24, 25, 16, 26, 27, 28, 29, 30, 31, 37, 38, 39, 40, 41, 42, 43, 44] (by decide +kernel) (by decide +kernel)
set_option maxRecDepth 20000 in
theorem gX0_measureSteps_X1_steps : GoodIn wsX0_measureSteps (wsV RX0 66 RX1 yX1_steps wsX1_steps) := goodIn_app (goodIn_of _ (by decide +kernel)) ggX0_measureSteps_X1_steps
theorem dX0_measureSteps_0 : decode cX0_measureSteps 0 = .ok (.iconst 0, 1) := by decide +kernel
theorem dX0_measureSteps_1 : decode cX0_measureSteps 1 = .ok (.istore_n 2, 1) := by decide +kernel
theorem dX0_measureSteps_2 : decode cX0_measureSteps 2 = .ok (.iload_n 2, 1) := by decide +kernel
theorem dX0_measureSteps_3 : decode cX0_measureSteps 3 = .ok (.aload_n 0, 1) := by decide +kernel
theorem dX0_measureSteps_4 : decode cX0_measureSteps 4 = .ok (.getfield 28, 3) := by decide +kernel
theorem dX0_measureSteps_7 : decode cX0_measureSteps 7 = .ok (.if_icmp .ge 37, 3) := by decide +kernel
theorem dX0_measureSteps_10 : decode cX0_measureSteps 10 = .ok (.aload_n 0, 1) := by decide +kernel
theorem dX0_measureSteps_11 : decode cX0_measureSteps 11 = .ok (.getfield 17, 3) := by decide +kernel
theorem dX0_measureSteps_14 : decode cX0_measureSteps 14 = .ok (.iload_n 2, 1) := by decide +kernel
theorem dX0_measureSteps_15 : decode cX0_measureSteps 15 = .ok (.aload_n 0, 1) := by decide +kernel
theorem dX0_measureSteps_16 : decode cX0_measureSteps 16 = .ok (.iload_n 2, 1) := by decide +kernel
theorem dX0_measureSteps_17 : decode cX0_measureSteps 17 = .ok (.iload_n 1, 1) := by decide +kernel
theorem dX0_measureSteps_18 : decode cX0_measureSteps 18 = .ok (.invokevirtual 55, 3) := by decide +kernel
theorem dX0_measureSteps_21 : decode cX0_measureSteps 21 = .ok (.ifCond .eq 15, 3) := by decide +kernel
theorem dX0_measureSteps_24 : decode cX0_measureSteps 24 = .ok (.aload_n 0, 1) := by decide +kernel
theorem dX0_measureSteps_25 : decode cX0_measureSteps 25 = .ok (.getfield 11, 3) := by decide +kernel
theorem dX0_measureSteps_28 : decode cX0_measureSteps 28 = .ok (.iload_n 2, 1) := by decide +kernel
theorem dX0_measureSteps_29 : decode cX0_measureSteps 29 = .ok (.aaload, 1) := by decide +kernel
theorem dX0_measureSteps_30 : decode cX0_measureSteps 30 = .ok (.invokevirtual 66, 3) := by decide +kernel
theorem dX0_measureSteps_33 : decode cX0_measureSteps 33 = .ok (.goto 4, 3) := by decide +kernel
theorem dX0_measureSteps_36 : decode cX0_measureSteps 36 = .ok (.iconst 0, 1) := by decide +kernel
theorem dX0_measureSteps_37 : decode cX0_measureSteps 37 = .ok (.iastore, 1) := by decide +kernel
theorem dX0_measureSteps_38 : decode cX0_measureSteps 38 = .ok (.iinc 2 1, 3) := by decide +kernel
theorem dX0_measureSteps_41 : decode cX0_measureSteps 41 = .ok (.goto (-39), 3) := by decide +kernel
theorem dX0_measureSteps_44 : decode cX0_measureSteps 44 = .ok (.return_, 1) := by decide +kernel
set_option maxRecDepth 20000 in
theorem ggX0_shareFromOrder_X0_measureSteps : GoodIn wsX0_shareFromOrder wsX0_measureSteps := goodIn_r _ [7, 8, 9, 1, 10, 11, 12, 6, 13, 14, 15, 16, 17, 18, 19, 20, 21, 22, 23, 24, 25, 26, 27, 28, 29, 30, 31, 32, 33, 34, 35, 36, 50, 51, 52, 53, 54, 55, 56, 57, 58, 59, 60, 61, 62, 63, 64, 65, 66, 67, 68, 69, 70, 71, 72] (by decide +kernel) (by decide +kernel)
set_option maxRecDepth 20000 in
theorem gX0_shareFromOrder_X0_measureSteps : GoodIn wsX0_shareFromOrder (wsV RX0 68 RX0 yX0_measureSteps wsX0_measureSteps) := goodIn_app (goodIn_of _ (by decide +kernel)) ggX0_shareFromOrder_X0_measureSteps
set_option maxRecDepth 20000 in
theorem ggX0_shareFromOrder_X0_sumOfLeast : GoodIn wsX0_shareFromOrder wsX0_sumOfLeast := goodIn_r _ [40, 8, 1, 2, 10, 11, 12, 6, 13, 14, 15, 16, 17, 50, 51, 52, 53, 54, 55, 56, 57, 58, 59, 60, 61, 62, 63, 64, 65, 66, 67, 68, 69, 70, 71, 72] (by decide +kernel) (by decide +kernel)
set_option maxRecDepth 20000 in
theorem gX0_shareFromOrder_X0_sumOfLeast : GoodIn wsX0_shareFromOrder (wsV RX0 72 RX0 yX0_sumOfLeast wsX0_sumOfLeast) := goodIn_app (goodIn_of _ (by decide +kernel)) ggX0_shareFromOrder_X0_sumOfLeast
set_option maxRecDepth 20000 in
theorem ggX0_shareFromOrder_X0_stepsWithin : GoodIn wsX0_shareFromOrder wsX0_stepsWithin := goodIn_r _ [44, 9, 45, 46, 47, 6, 48, 8, 49, 35, 26, 36, 50, 51, 52, 53, 54] (by decide +kernel) (by decide +kernel)
set_option maxRecDepth 20000 in
theorem gX0_shareFromOrder_X0_stepsWithin : GoodIn wsX0_shareFromOrder (wsV RX0 76 RX0 yX0_stepsWithin wsX0_stepsWithin) := goodIn_app (goodIn_of _ (by decide +kernel)) ggX0_shareFromOrder_X0_stepsWithin
theorem dX0_shareFromOrder_0 : decode cX0_shareFromOrder 0 = .ok (.aload_n 0, 1) := by decide +kernel
theorem dX0_shareFromOrder_1 : decode cX0_shareFromOrder 1 = .ok (.iload_n 1, 1) := by decide +kernel
theorem dX0_shareFromOrder_2 : decode cX0_shareFromOrder 2 = .ok (.invokevirtual 68, 3) := by decide +kernel
theorem dX0_shareFromOrder_5 : decode cX0_shareFromOrder 5 = .ok (.aload_n 0, 1) := by decide +kernel
theorem dX0_shareFromOrder_6 : decode cX0_shareFromOrder 6 = .ok (.getfield 11, 3) := by decide +kernel
theorem dX0_shareFromOrder_9 : decode cX0_shareFromOrder 9 = .ok (.iload_n 3, 1) := by decide +kernel
theorem dX0_shareFromOrder_10 : decode cX0_shareFromOrder 10 = .ok (.aaload, 1) := by decide +kernel
theorem dX0_shareFromOrder_11 : decode cX0_shareFromOrder 11 = .ok (.getfield 63, 3) := by decide +kernel
theorem dX0_shareFromOrder_14 : decode cX0_shareFromOrder 14 = .ok (.aload_n 0, 1) := by decide +kernel
theorem dX0_shareFromOrder_15 : decode cX0_shareFromOrder 15 = .ok (.iload_n 3, 1) := by decide +kernel
theorem dX0_shareFromOrder_16 : decode cX0_shareFromOrder 16 = .ok (.iload_n 2, 1) := by decide +kernel
theorem dX0_shareFromOrder_17 : decode cX0_shareFromOrder 17 = .ok (.aload_n 0, 1) := by decide +kernel
theorem dX0_shareFromOrder_18 : decode cX0_shareFromOrder 18 = .ok (.iload_n 1, 1) := by decide +kernel
theorem dX0_shareFromOrder_19 : decode cX0_shareFromOrder 19 = .ok (.invokevirtual 72, 3) := by decide +kernel
theorem dX0_shareFromOrder_22 : decode cX0_shareFromOrder 22 = .ok (.isub, 1) := by decide +kernel
theorem dX0_shareFromOrder_23 : decode cX0_shareFromOrder 23 = .ok (.invokevirtual 76, 3) := by decide +kernel
theorem dX0_shareFromOrder_26 : decode cX0_shareFromOrder 26 = .ok (.iadd, 1) := by decide +kernel
theorem dX0_shareFromOrder_27 : decode cX0_shareFromOrder 27 = .ok (.ireturn, 1) := by decide +kernel
set_option maxRecDepth 20000 in
theorem ggX0_stepsWithin_X0_stepsAhead : GoodIn wsX0_stepsWithin wsX0_stepsAhead := goodIn_r _ [6, 1, 7, 8, 9, 10, 11, 12, 13, 14, 15, 16] (by decide +kernel) (by decide +kernel)
set_option maxRecDepth 20000 in
theorem gX0_stepsWithin_X0_stepsAhead : GoodIn wsX0_stepsWithin (wsV RX0 80 RX0 yX0_stepsAhead wsX0_stepsAhead) := goodIn_app (goodIn_of _ (by decide +kernel)) ggX0_stepsWithin_X0_stepsAhead
theorem dX0_stepsWithin_0 : decode cX0_stepsWithin 0 = .ok (.iconst 0, 1) := by decide +kernel
theorem dX0_stepsWithin_1 : decode cX0_stepsWithin 1 = .ok (.istore_n 3, 1) := by decide +kernel
theorem dX0_stepsWithin_2 : decode cX0_stepsWithin 2 = .ok (.sipush 128, 3) := by decide +kernel
theorem dX0_stepsWithin_5 : decode cX0_stepsWithin 5 = .ok (.istore 4, 2) := by decide +kernel
theorem dX0_stepsWithin_7 : decode cX0_stepsWithin 7 = .ok (.iload 4, 2) := by decide +kernel
theorem dX0_stepsWithin_9 : decode cX0_stepsWithin 9 = .ok (.ifCond .le 45, 3) := by decide +kernel
theorem dX0_stepsWithin_12 : decode cX0_stepsWithin 12 = .ok (.iload_n 3, 1) := by decide +kernel
theorem dX0_stepsWithin_13 : decode cX0_stepsWithin 13 = .ok (.iload 4, 2) := by decide +kernel
theorem dX0_stepsWithin_15 : decode cX0_stepsWithin 15 = .ok (.iadd, 1) := by decide +kernel
theorem dX0_stepsWithin_16 : decode cX0_stepsWithin 16 = .ok (.istore 5, 2) := by decide +kernel
theorem dX0_stepsWithin_18 : decode cX0_stepsWithin 18 = .ok (.iload 5, 2) := by decide +kernel
theorem dX0_stepsWithin_20 : decode cX0_stepsWithin 20 = .ok (.aload_n 0, 1) := by decide +kernel
theorem dX0_stepsWithin_21 : decode cX0_stepsWithin 21 = .ok (.getfield 17, 3) := by decide +kernel
theorem dX0_stepsWithin_24 : decode cX0_stepsWithin 24 = .ok (.iload_n 1, 1) := by decide +kernel
theorem dX0_stepsWithin_25 : decode cX0_stepsWithin 25 = .ok (.iaload, 1) := by decide +kernel
theorem dX0_stepsWithin_26 : decode cX0_stepsWithin 26 = .ok (.if_icmp .gt 19, 3) := by decide +kernel
theorem dX0_stepsWithin_29 : decode cX0_stepsWithin 29 = .ok (.aload_n 0, 1) := by decide +kernel
theorem dX0_stepsWithin_30 : decode cX0_stepsWithin 30 = .ok (.iload_n 1, 1) := by decide +kernel
theorem dX0_stepsWithin_31 : decode cX0_stepsWithin 31 = .ok (.iload 5, 2) := by decide +kernel
theorem dX0_stepsWithin_33 : decode cX0_stepsWithin 33 = .ok (.iconst 1, 1) := by decide +kernel
theorem dX0_stepsWithin_34 : decode cX0_stepsWithin 34 = .ok (.isub, 1) := by decide +kernel
theorem dX0_stepsWithin_35 : decode cX0_stepsWithin 35 = .ok (.invokevirtual 80, 3) := by decide +kernel
theorem dX0_stepsWithin_38 : decode cX0_stepsWithin 38 = .ok (.iload_n 2, 1) := by decide +kernel
theorem dX0_stepsWithin_39 : decode cX0_stepsWithin 39 = .ok (.if_icmp .ge 6, 3) := by decide +kernel
theorem dX0_stepsWithin_42 : decode cX0_stepsWithin 42 = .ok (.iload 5, 2) := by decide +kernel
theorem dX0_stepsWithin_44 : decode cX0_stepsWithin 44 = .ok (.istore_n 3, 1) := by decide +kernel
theorem dX0_stepsWithin_45 : decode cX0_stepsWithin 45 = .ok (.iload 4, 2) := by decide +kernel
theorem dX0_stepsWithin_47 : decode cX0_stepsWithin 47 = .ok (.iconst 2, 1) := by decide +kernel
theorem dX0_stepsWithin_48 : decode cX0_stepsWithin 48 = .ok (.idiv, 1) := by decide +kernel
theorem dX0_stepsWithin_49 : decode cX0_stepsWithin 49 = .ok (.istore 4, 2) := by decide +kernel
theorem dX0_stepsWithin_51 : decode cX0_stepsWithin 51 = .ok (.goto (-44), 3) := by decide +kernel
theorem dX0_stepsWithin_54 : decode cX0_stepsWithin 54 = .ok (.iload_n 3, 1) := by decide +kernel
theorem dX0_stepsWithin_55 : decode cX0_stepsWithin 55 = .ok (.ireturn, 1) := by decide +kernel
theorem dX0_stepsAhead_0 : decode cX0_stepsAhead 0 = .ok (.aload_n 0, 1) := by decide +kernel
theorem dX0_stepsAhead_1 : decode cX0_stepsAhead 1 = .ok (.getfield 17, 3) := by decide +kernel
theorem dX0_stepsAhead_4 : decode cX0_stepsAhead 4 = .ok (.iload_n 1, 1) := by decide +kernel
theorem dX0_stepsAhead_5 : decode cX0_stepsAhead 5 = .ok (.iaload, 1) := by decide +kernel
theorem dX0_stepsAhead_6 : decode cX0_stepsAhead 6 = .ok (.istore_n 3, 1) := by decide +kernel
theorem dX0_stepsAhead_7 : decode cX0_stepsAhead 7 = .ok (.iload_n 3, 1) := by decide +kernel
theorem dX0_stepsAhead_8 : decode cX0_stepsAhead 8 = .ok (.ifCond .gt 5, 3) := by decide +kernel
theorem dX0_stepsAhead_11 : decode cX0_stepsAhead 11 = .ok (.iconst 0, 1) := by decide +kernel
theorem dX0_stepsAhead_12 : decode cX0_stepsAhead 12 = .ok (.ireturn, 1) := by decide +kernel
theorem dX0_stepsAhead_13 : decode cX0_stepsAhead 13 = .ok (.iconst 0, 1) := by decide +kernel
theorem dX0_stepsAhead_14 : decode cX0_stepsAhead 14 = .ok (.istore 4, 2) := by decide +kernel
theorem dX0_stepsAhead_16 : decode cX0_stepsAhead 16 = .ok (.iconst 0, 1) := by decide +kernel
theorem dX0_stepsAhead_17 : decode cX0_stepsAhead 17 = .ok (.istore 5, 2) := by decide +kernel
theorem dX0_stepsAhead_19 : decode cX0_stepsAhead 19 = .ok (.iload 5, 2) := by decide +kernel
theorem dX0_stepsAhead_21 : decode cX0_stepsAhead 21 = .ok (.aload_n 0, 1) := by decide +kernel
theorem dX0_stepsAhead_22 : decode cX0_stepsAhead 22 = .ok (.getfield 28, 3) := by decide +kernel
theorem dX0_stepsAhead_25 : decode cX0_stepsAhead 25 = .ok (.if_icmp .ge 62, 3) := by decide +kernel
theorem dX0_stepsAhead_28 : decode cX0_stepsAhead 28 = .ok (.iload_n 2, 1) := by decide +kernel
theorem dX0_stepsAhead_29 : decode cX0_stepsAhead 29 = .ok (.aload_n 0, 1) := by decide +kernel
theorem dX0_stepsAhead_30 : decode cX0_stepsAhead 30 = .ok (.getfield 17, 3) := by decide +kernel
theorem dX0_stepsAhead_33 : decode cX0_stepsAhead 33 = .ok (.iload 5, 2) := by decide +kernel
theorem dX0_stepsAhead_35 : decode cX0_stepsAhead 35 = .ok (.iaload, 1) := by decide +kernel
theorem dX0_stepsAhead_36 : decode cX0_stepsAhead 36 = .ok (.imul, 1) := by decide +kernel
theorem dX0_stepsAhead_37 : decode cX0_stepsAhead 37 = .ok (.istore 6, 2) := by decide +kernel
theorem dX0_stepsAhead_39 : decode cX0_stepsAhead 39 = .ok (.iload 5, 2) := by decide +kernel
theorem dX0_stepsAhead_41 : decode cX0_stepsAhead 41 = .ok (.iload_n 1, 1) := by decide +kernel
theorem dX0_stepsAhead_42 : decode cX0_stepsAhead 42 = .ok (.if_icmp .ge 12, 3) := by decide +kernel
theorem dX0_stepsAhead_45 : decode cX0_stepsAhead 45 = .ok (.iload 6, 2) := by decide +kernel
theorem dX0_stepsAhead_47 : decode cX0_stepsAhead 47 = .ok (.iload_n 3, 1) := by decide +kernel
theorem dX0_stepsAhead_48 : decode cX0_stepsAhead 48 = .ok (.idiv, 1) := by decide +kernel
theorem dX0_stepsAhead_49 : decode cX0_stepsAhead 49 = .ok (.iconst 1, 1) := by decide +kernel
theorem dX0_stepsAhead_50 : decode cX0_stepsAhead 50 = .ok (.iadd, 1) := by decide +kernel
theorem dX0_stepsAhead_51 : decode cX0_stepsAhead 51 = .ok (.goto 11, 3) := by decide +kernel
theorem dX0_stepsAhead_54 : decode cX0_stepsAhead 54 = .ok (.iload 6, 2) := by decide +kernel
theorem dX0_stepsAhead_56 : decode cX0_stepsAhead 56 = .ok (.iload_n 3, 1) := by decide +kernel
theorem dX0_stepsAhead_57 : decode cX0_stepsAhead 57 = .ok (.iadd, 1) := by decide +kernel
theorem dX0_stepsAhead_58 : decode cX0_stepsAhead 58 = .ok (.iconst 1, 1) := by decide +kernel
theorem dX0_stepsAhead_59 : decode cX0_stepsAhead 59 = .ok (.isub, 1) := by decide +kernel
theorem dX0_stepsAhead_60 : decode cX0_stepsAhead 60 = .ok (.iload_n 3, 1) := by decide +kernel
theorem dX0_stepsAhead_61 : decode cX0_stepsAhead 61 = .ok (.idiv, 1) := by decide +kernel
theorem dX0_stepsAhead_62 : decode cX0_stepsAhead 62 = .ok (.istore 7, 2) := by decide +kernel
theorem dX0_stepsAhead_64 : decode cX0_stepsAhead 64 = .ok (.iload 4, 2) := by decide +kernel
theorem dX0_stepsAhead_66 : decode cX0_stepsAhead 66 = .ok (.aload_n 0, 1) := by decide +kernel
theorem dX0_stepsAhead_67 : decode cX0_stepsAhead 67 = .ok (.getfield 17, 3) := by decide +kernel
theorem dX0_stepsAhead_70 : decode cX0_stepsAhead 70 = .ok (.iload 5, 2) := by decide +kernel
theorem dX0_stepsAhead_72 : decode cX0_stepsAhead 72 = .ok (.iaload, 1) := by decide +kernel
theorem dX0_stepsAhead_73 : decode cX0_stepsAhead 73 = .ok (.iload 7, 2) := by decide +kernel
theorem dX0_stepsAhead_75 : decode cX0_stepsAhead 75 = .ok (.invokestatic 83, 3) := by decide +kernel
theorem dX0_stepsAhead_78 : decode cX0_stepsAhead 78 = .ok (.iadd, 1) := by decide +kernel
theorem dX0_stepsAhead_79 : decode cX0_stepsAhead 79 = .ok (.istore 4, 2) := by decide +kernel
theorem dX0_stepsAhead_81 : decode cX0_stepsAhead 81 = .ok (.iinc 5 1, 3) := by decide +kernel
theorem dX0_stepsAhead_84 : decode cX0_stepsAhead 84 = .ok (.goto (-65), 3) := by decide +kernel
theorem dX0_stepsAhead_87 : decode cX0_stepsAhead 87 = .ok (.iload 4, 2) := by decide +kernel
theorem dX0_stepsAhead_89 : decode cX0_stepsAhead 89 = .ok (.ireturn, 1) := by decide +kernel
set_option maxRecDepth 20000 in
theorem ggX0_shareFromSteps_X0_measureSteps : GoodIn wsX0_shareFromSteps wsX0_measureSteps := goodIn_r _ [9, 1, 10, 3, 11, 12, 13, 8, 14, 15, 16, 17, 18, 19, 20, 21, 22, 23, 24, 25, 26, 27, 28, 29, 30, 31, 32, 33, 34, 35, 36, 37, 50, 51, 52, 53, 54, 55, 56, 57, 58, 59, 60, 61, 62, 63, 64, 65, 66, 67, 68, 69, 70, 71, 72] (by decide +kernel) (by decide +kernel)
set_option maxRecDepth 20000 in
theorem gX0_shareFromSteps_X0_measureSteps : GoodIn wsX0_shareFromSteps (wsV RX0 68 RX0 yX0_measureSteps wsX0_measureSteps) := goodIn_app (goodIn_of _ (by decide +kernel)) ggX0_shareFromSteps_X0_measureSteps
set_option maxRecDepth 20000 in
theorem ggX0_shareFromSteps_X0_sumOfLeast : GoodIn wsX0_shareFromSteps wsX0_sumOfLeast := goodIn_r _ [41, 1, 3, 4, 11, 12, 13, 8, 14, 15, 16, 17, 18, 50, 51, 52, 53, 54, 55, 56, 57, 58, 59, 60, 61, 62, 63, 64, 65, 66, 67, 68, 69, 70, 71, 72] (by decide +kernel) (by decide +kernel)
set_option maxRecDepth 20000 in
theorem gX0_shareFromSteps_X0_sumOfLeast : GoodIn wsX0_shareFromSteps (wsV RX0 72 RX0 yX0_sumOfLeast wsX0_sumOfLeast) := goodIn_app (goodIn_of _ (by decide +kernel)) ggX0_shareFromSteps_X0_sumOfLeast
set_option maxRecDepth 20000 in
theorem ggX0_shareFromSteps_X0_nextToStep : GoodIn wsX0_shareFromSteps wsX0_nextToStep := goodIn_r _ [45, 1, 2, 10, 46, 47, 48, 8, 49, 50, 51, 52, 53, 54] (by decide +kernel) (by decide +kernel)
set_option maxRecDepth 20000 in
theorem gX0_shareFromSteps_X0_nextToStep : GoodIn wsX0_shareFromSteps (wsV RX0 88 RX0 yX0_nextToStep wsX0_nextToStep) := goodIn_app (goodIn_of _ (by decide +kernel)) ggX0_shareFromSteps_X0_nextToStep
theorem dX0_shareFromSteps_0 : decode cX0_shareFromSteps 0 = .ok (.aload_n 0, 1) := by decide +kernel
theorem dX0_shareFromSteps_1 : decode cX0_shareFromSteps 1 = .ok (.iload_n 1, 1) := by decide +kernel
theorem dX0_shareFromSteps_2 : decode cX0_shareFromSteps 2 = .ok (.invokevirtual 68, 3) := by decide +kernel
theorem dX0_shareFromSteps_5 : decode cX0_shareFromSteps 5 = .ok (.iconst 0, 1) := by decide +kernel
theorem dX0_shareFromSteps_6 : decode cX0_shareFromSteps 6 = .ok (.istore 4, 2) := by decide +kernel
theorem dX0_shareFromSteps_8 : decode cX0_shareFromSteps 8 = .ok (.iload 4, 2) := by decide +kernel
theorem dX0_shareFromSteps_10 : decode cX0_shareFromSteps 10 = .ok (.aload_n 0, 1) := by decide +kernel
theorem dX0_shareFromSteps_11 : decode cX0_shareFromSteps 11 = .ok (.getfield 28, 3) := by decide +kernel
theorem dX0_shareFromSteps_14 : decode cX0_shareFromSteps 14 = .ok (.if_icmp .ge 17, 3) := by decide +kernel
theorem dX0_shareFromSteps_17 : decode cX0_shareFromSteps 17 = .ok (.aload_n 0, 1) := by decide +kernel
theorem dX0_shareFromSteps_18 : decode cX0_shareFromSteps 18 = .ok (.getfield 21, 3) := by decide +kernel
theorem dX0_shareFromSteps_21 : decode cX0_shareFromSteps 21 = .ok (.iload 4, 2) := by decide +kernel
theorem dX0_shareFromSteps_23 : decode cX0_shareFromSteps 23 = .ok (.iconst 0, 1) := by decide +kernel
theorem dX0_shareFromSteps_24 : decode cX0_shareFromSteps 24 = .ok (.iastore, 1) := by decide +kernel
theorem dX0_shareFromSteps_25 : decode cX0_shareFromSteps 25 = .ok (.iinc 4 1, 3) := by decide +kernel
theorem dX0_shareFromSteps_28 : decode cX0_shareFromSteps 28 = .ok (.goto (-20), 3) := by decide +kernel
theorem dX0_shareFromSteps_31 : decode cX0_shareFromSteps 31 = .ok (.iconst 1, 1) := by decide +kernel
theorem dX0_shareFromSteps_32 : decode cX0_shareFromSteps 32 = .ok (.istore 4, 2) := by decide +kernel
theorem dX0_shareFromSteps_34 : decode cX0_shareFromSteps 34 = .ok (.aload_n 0, 1) := by decide +kernel
theorem dX0_shareFromSteps_35 : decode cX0_shareFromSteps 35 = .ok (.iload_n 1, 1) := by decide +kernel
theorem dX0_shareFromSteps_36 : decode cX0_shareFromSteps 36 = .ok (.invokevirtual 72, 3) := by decide +kernel
theorem dX0_shareFromSteps_39 : decode cX0_shareFromSteps 39 = .ok (.istore 5, 2) := by decide +kernel
theorem dX0_shareFromSteps_41 : decode cX0_shareFromSteps 41 = .ok (.iload 5, 2) := by decide +kernel
theorem dX0_shareFromSteps_43 : decode cX0_shareFromSteps 43 = .ok (.iload_n 2, 1) := by decide +kernel
theorem dX0_shareFromSteps_44 : decode cX0_shareFromSteps 44 = .ok (.if_icmp .ge 49, 3) := by decide +kernel
theorem dX0_shareFromSteps_47 : decode cX0_shareFromSteps 47 = .ok (.iload 4, 2) := by decide +kernel
theorem dX0_shareFromSteps_49 : decode cX0_shareFromSteps 49 = .ok (.ifCond .eq 44, 3) := by decide +kernel
theorem dX0_shareFromSteps_52 : decode cX0_shareFromSteps 52 = .ok (.aload_n 0, 1) := by decide +kernel
theorem dX0_shareFromSteps_53 : decode cX0_shareFromSteps 53 = .ok (.invokevirtual 88, 3) := by decide +kernel
theorem dX0_shareFromSteps_56 : decode cX0_shareFromSteps 56 = .ok (.istore 6, 2) := by decide +kernel
theorem dX0_shareFromSteps_58 : decode cX0_shareFromSteps 58 = .ok (.iload 6, 2) := by decide +kernel
theorem dX0_shareFromSteps_60 : decode cX0_shareFromSteps 60 = .ok (.iconst (-1), 1) := by decide +kernel
theorem dX0_shareFromSteps_61 : decode cX0_shareFromSteps 61 = .ok (.if_icmp .eq 7, 3) := by decide +kernel
theorem dX0_shareFromSteps_64 : decode cX0_shareFromSteps 64 = .ok (.iconst 1, 1) := by decide +kernel
theorem dX0_shareFromSteps_65 : decode cX0_shareFromSteps 65 = .ok (.goto 4, 3) := by decide +kernel
theorem dX0_shareFromSteps_68 : decode cX0_shareFromSteps 68 = .ok (.iconst 0, 1) := by decide +kernel
theorem dX0_shareFromSteps_69 : decode cX0_shareFromSteps 69 = .ok (.istore 4, 2) := by decide +kernel
theorem dX0_shareFromSteps_71 : decode cX0_shareFromSteps 71 = .ok (.iload 4, 2) := by decide +kernel
theorem dX0_shareFromSteps_73 : decode cX0_shareFromSteps 73 = .ok (.ifCond .eq 14, 3) := by decide +kernel
theorem dX0_shareFromSteps_76 : decode cX0_shareFromSteps 76 = .ok (.aload_n 0, 1) := by decide +kernel
theorem dX0_shareFromSteps_77 : decode cX0_shareFromSteps 77 = .ok (.getfield 21, 3) := by decide +kernel
theorem dX0_shareFromSteps_80 : decode cX0_shareFromSteps 80 = .ok (.iload 6, 2) := by decide +kernel
theorem dX0_shareFromSteps_82 : decode cX0_shareFromSteps 82 = .ok (.dup2, 1) := by decide +kernel
theorem dX0_shareFromSteps_83 : decode cX0_shareFromSteps 83 = .ok (.iaload, 1) := by decide +kernel
theorem dX0_shareFromSteps_84 : decode cX0_shareFromSteps 84 = .ok (.iconst 1, 1) := by decide +kernel
theorem dX0_shareFromSteps_85 : decode cX0_shareFromSteps 85 = .ok (.iadd, 1) := by decide +kernel
theorem dX0_shareFromSteps_86 : decode cX0_shareFromSteps 86 = .ok (.iastore, 1) := by decide +kernel
theorem dX0_shareFromSteps_87 : decode cX0_shareFromSteps 87 = .ok (.iinc 5 1, 3) := by decide +kernel
theorem dX0_shareFromSteps_90 : decode cX0_shareFromSteps 90 = .ok (.goto (-49), 3) := by decide +kernel
theorem dX0_shareFromSteps_93 : decode cX0_shareFromSteps 93 = .ok (.aload_n 0, 1) := by decide +kernel
theorem dX0_shareFromSteps_94 : decode cX0_shareFromSteps 94 = .ok (.getfield 11, 3) := by decide +kernel
theorem dX0_shareFromSteps_97 : decode cX0_shareFromSteps 97 = .ok (.iload_n 3, 1) := by decide +kernel
theorem dX0_shareFromSteps_98 : decode cX0_shareFromSteps 98 = .ok (.aaload, 1) := by decide +kernel
theorem dX0_shareFromSteps_99 : decode cX0_shareFromSteps 99 = .ok (.getfield 63, 3) := by decide +kernel
theorem dX0_shareFromSteps_102 : decode cX0_shareFromSteps 102 = .ok (.aload_n 0, 1) := by decide +kernel
theorem dX0_shareFromSteps_103 : decode cX0_shareFromSteps 103 = .ok (.getfield 21, 3) := by decide +kernel
theorem dX0_shareFromSteps_106 : decode cX0_shareFromSteps 106 = .ok (.iload_n 3, 1) := by decide +kernel
theorem dX0_shareFromSteps_107 : decode cX0_shareFromSteps 107 = .ok (.iaload, 1) := by decide +kernel
theorem dX0_shareFromSteps_108 : decode cX0_shareFromSteps 108 = .ok (.iadd, 1) := by decide +kernel
theorem dX0_shareFromSteps_109 : decode cX0_shareFromSteps 109 = .ok (.ireturn, 1) := by decide +kernel
set_option maxRecDepth 20000 in
theorem ggX0_nextToStep_X0_isLessLoaded : GoodIn wsX0_nextToStep wsX0_isLessLoaded := goodIn_r _ [8, 2, 3, 9, 10, 11, 12, 13] (by decide +kernel) (by decide +kernel)
set_option maxRecDepth 20000 in
theorem gX0_nextToStep_X0_isLessLoaded : GoodIn wsX0_nextToStep (wsV RX0 91 RX0 yX0_isLessLoaded wsX0_isLessLoaded) := goodIn_app (goodIn_of _ (by decide +kernel)) ggX0_nextToStep_X0_isLessLoaded
theorem dX0_nextToStep_0 : decode cX0_nextToStep 0 = .ok (.iconst (-1), 1) := by decide +kernel
theorem dX0_nextToStep_1 : decode cX0_nextToStep 1 = .ok (.istore_n 1, 1) := by decide +kernel
theorem dX0_nextToStep_2 : decode cX0_nextToStep 2 = .ok (.iconst 0, 1) := by decide +kernel
theorem dX0_nextToStep_3 : decode cX0_nextToStep 3 = .ok (.istore_n 2, 1) := by decide +kernel
theorem dX0_nextToStep_4 : decode cX0_nextToStep 4 = .ok (.iload_n 2, 1) := by decide +kernel
theorem dX0_nextToStep_5 : decode cX0_nextToStep 5 = .ok (.aload_n 0, 1) := by decide +kernel
theorem dX0_nextToStep_6 : decode cX0_nextToStep 6 = .ok (.getfield 28, 3) := by decide +kernel
theorem dX0_nextToStep_9 : decode cX0_nextToStep 9 = .ok (.if_icmp .ge 40, 3) := by decide +kernel
theorem dX0_nextToStep_12 : decode cX0_nextToStep 12 = .ok (.aload_n 0, 1) := by decide +kernel
theorem dX0_nextToStep_13 : decode cX0_nextToStep 13 = .ok (.getfield 21, 3) := by decide +kernel
theorem dX0_nextToStep_16 : decode cX0_nextToStep 16 = .ok (.iload_n 2, 1) := by decide +kernel
theorem dX0_nextToStep_17 : decode cX0_nextToStep 17 = .ok (.iaload, 1) := by decide +kernel
theorem dX0_nextToStep_18 : decode cX0_nextToStep 18 = .ok (.aload_n 0, 1) := by decide +kernel
theorem dX0_nextToStep_19 : decode cX0_nextToStep 19 = .ok (.getfield 17, 3) := by decide +kernel
theorem dX0_nextToStep_22 : decode cX0_nextToStep 22 = .ok (.iload_n 2, 1) := by decide +kernel
theorem dX0_nextToStep_23 : decode cX0_nextToStep 23 = .ok (.iaload, 1) := by decide +kernel
theorem dX0_nextToStep_24 : decode cX0_nextToStep 24 = .ok (.if_icmp .ge 19, 3) := by decide +kernel
theorem dX0_nextToStep_27 : decode cX0_nextToStep 27 = .ok (.iload_n 1, 1) := by decide +kernel
theorem dX0_nextToStep_28 : decode cX0_nextToStep 28 = .ok (.iconst (-1), 1) := by decide +kernel
theorem dX0_nextToStep_29 : decode cX0_nextToStep 29 = .ok (.if_icmp .eq 12, 3) := by decide +kernel
theorem dX0_nextToStep_32 : decode cX0_nextToStep 32 = .ok (.aload_n 0, 1) := by decide +kernel
theorem dX0_nextToStep_33 : decode cX0_nextToStep 33 = .ok (.iload_n 2, 1) := by decide +kernel
theorem dX0_nextToStep_34 : decode cX0_nextToStep 34 = .ok (.iload_n 1, 1) := by decide +kernel
theorem dX0_nextToStep_35 : decode cX0_nextToStep 35 = .ok (.invokevirtual 91, 3) := by decide +kernel
theorem dX0_nextToStep_38 : decode cX0_nextToStep 38 = .ok (.ifCond .eq 5, 3) := by decide +kernel
theorem dX0_nextToStep_41 : decode cX0_nextToStep 41 = .ok (.iload_n 2, 1) := by decide +kernel
theorem dX0_nextToStep_42 : decode cX0_nextToStep 42 = .ok (.istore_n 1, 1) := by decide +kernel
theorem dX0_nextToStep_43 : decode cX0_nextToStep 43 = .ok (.iinc 2 1, 3) := by decide +kernel
theorem dX0_nextToStep_46 : decode cX0_nextToStep 46 = .ok (.goto (-42), 3) := by decide +kernel
theorem dX0_nextToStep_49 : decode cX0_nextToStep 49 = .ok (.iload_n 1, 1) := by decide +kernel
theorem dX0_nextToStep_50 : decode cX0_nextToStep 50 = .ok (.ireturn, 1) := by decide +kernel
theorem dX0_isLessLoaded_0 : decode cX0_isLessLoaded 0 = .ok (.aload_n 0, 1) := by decide +kernel
theorem dX0_isLessLoaded_1 : decode cX0_isLessLoaded 1 = .ok (.getfield 21, 3) := by decide +kernel
theorem dX0_isLessLoaded_4 : decode cX0_isLessLoaded 4 = .ok (.iload_n 1, 1) := by decide +kernel
theorem dX0_isLessLoaded_5 : decode cX0_isLessLoaded 5 = .ok (.iaload, 1) := by decide +kernel
theorem dX0_isLessLoaded_6 : decode cX0_isLessLoaded 6 = .ok (.aload_n 0, 1) := by decide +kernel
theorem dX0_isLessLoaded_7 : decode cX0_isLessLoaded 7 = .ok (.getfield 17, 3) := by decide +kernel
theorem dX0_isLessLoaded_10 : decode cX0_isLessLoaded 10 = .ok (.iload_n 2, 1) := by decide +kernel
theorem dX0_isLessLoaded_11 : decode cX0_isLessLoaded 11 = .ok (.iaload, 1) := by decide +kernel
theorem dX0_isLessLoaded_12 : decode cX0_isLessLoaded 12 = .ok (.imul, 1) := by decide +kernel
theorem dX0_isLessLoaded_13 : decode cX0_isLessLoaded 13 = .ok (.aload_n 0, 1) := by decide +kernel
theorem dX0_isLessLoaded_14 : decode cX0_isLessLoaded 14 = .ok (.getfield 21, 3) := by decide +kernel
theorem dX0_isLessLoaded_17 : decode cX0_isLessLoaded 17 = .ok (.iload_n 2, 1) := by decide +kernel
theorem dX0_isLessLoaded_18 : decode cX0_isLessLoaded 18 = .ok (.iaload, 1) := by decide +kernel
theorem dX0_isLessLoaded_19 : decode cX0_isLessLoaded 19 = .ok (.aload_n 0, 1) := by decide +kernel
theorem dX0_isLessLoaded_20 : decode cX0_isLessLoaded 20 = .ok (.getfield 17, 3) := by decide +kernel
theorem dX0_isLessLoaded_23 : decode cX0_isLessLoaded 23 = .ok (.iload_n 1, 1) := by decide +kernel
theorem dX0_isLessLoaded_24 : decode cX0_isLessLoaded 24 = .ok (.iaload, 1) := by decide +kernel
theorem dX0_isLessLoaded_25 : decode cX0_isLessLoaded 25 = .ok (.imul, 1) := by decide +kernel
theorem dX0_isLessLoaded_26 : decode cX0_isLessLoaded 26 = .ok (.if_icmp .ge 7, 3) := by decide +kernel
theorem dX0_isLessLoaded_29 : decode cX0_isLessLoaded 29 = .ok (.iconst 1, 1) := by decide +kernel
theorem dX0_isLessLoaded_30 : decode cX0_isLessLoaded 30 = .ok (.goto 4, 3) := by decide +kernel
theorem dX0_isLessLoaded_33 : decode cX0_isLessLoaded 33 = .ok (.iconst 0, 1) := by decide +kernel
theorem dX0_isLessLoaded_34 : decode cX0_isLessLoaded 34 = .ok (.ireturn, 1) := by decide +kernel
set_option maxRecDepth 20000 in
theorem ggX0_giveFor_X0_measureSteps : GoodIn wsX0_giveFor wsX0_measureSteps := goodIn_r _ [9, 1, 10, 2, 11, 12, 13, 8, 14, 15, 16, 17, 18, 19, 20, 21, 22, 23, 24, 25, 26, 27, 28, 29, 30, 31, 32, 33, 34, 35, 36, 37, 56, 57, 58, 59, 60, 61, 62, 63, 64, 65, 66, 67, 68, 69, 70, 71, 72, 73, 74, 75, 76, 77, 78] (by decide +kernel) (by decide +kernel)
set_option maxRecDepth 20000 in
theorem gX0_giveFor_X0_measureSteps : GoodIn wsX0_giveFor (wsV RX0 68 RX0 yX0_measureSteps wsX0_measureSteps) := goodIn_app (goodIn_of _ (by decide +kernel)) ggX0_giveFor_X0_measureSteps
set_option maxRecDepth 20000 in
theorem ggX0_giveFor_X0_sumOfLeast : GoodIn wsX0_giveFor wsX0_sumOfLeast := goodIn_r _ [41, 1, 2, 3, 11, 12, 13, 8, 14, 15, 16, 17, 18, 56, 57, 58, 59, 60, 61, 62, 63, 64, 65, 66, 67, 68, 69, 70, 71, 72, 73, 74, 75, 76, 77, 78] (by decide +kernel) (by decide +kernel)
set_option maxRecDepth 20000 in
theorem gX0_giveFor_X0_sumOfLeast : GoodIn wsX0_giveFor (wsV RX0 72 RX0 yX0_sumOfLeast wsX0_sumOfLeast) := goodIn_app (goodIn_of _ (by decide +kernel)) ggX0_giveFor_X0_sumOfLeast
set_option maxRecDepth 20000 in
theorem ggX0_giveFor_X0_runsOn : GoodIn wsX0_giveFor wsX0_runsOn := goodIn_r _ [14, 2, 15, 16, 17, 18, 56, 57, 58, 59, 60, 61, 62, 63, 64, 65, 66, 67, 68, 69, 70, 71, 72, 73, 74, 75, 76, 77, 78] (by decide +kernel) (by decide +kernel)
set_option maxRecDepth 20000 in
theorem gX0_giveFor_X0_runsOn : GoodIn wsX0_giveFor (wsV RX0 55 RX0 yX0_runsOn wsX0_runsOn) := goodIn_app (goodIn_of _ (by decide +kernel)) ggX0_giveFor_X0_runsOn
set_option maxRecDepth 20000 in
theorem ggX0_giveFor_X0_stepsWithin : GoodIn wsX0_giveFor wsX0_stepsWithin := goodIn_r _ [45, 10, 46, 47, 48, 8, 49, 1, 50, 36, 27, 37, 56, 57, 58, 59, 60] (by decide +kernel) (by decide +kernel)
set_option maxRecDepth 20000 in
theorem gX0_giveFor_X0_stepsWithin : GoodIn wsX0_giveFor (wsV RX0 76 RX0 yX0_stepsWithin wsX0_stepsWithin) := goodIn_app (goodIn_of _ (by decide +kernel)) ggX0_giveFor_X0_stepsWithin
set_option maxRecDepth 20000 in
theorem ggX0_giveFor_X1_burn : GoodIn wsX0_giveFor wsX1_burn := goodIn_r _ [54, 55, 34, 61, 62, 63, 64, 65, 66, 67, 68] (by decide +kernel) (by decide +kernel)
set_option maxRecDepth 20000 in
theorem gX0_giveFor_X1_burn : GoodIn wsX0_giveFor (wsV RX0 94 RX1 yX1_burn wsX1_burn) := goodIn_app (goodIn_of _ (by decide +kernel)) ggX0_giveFor_X1_burn
theorem dX0_giveFor_0 : decode cX0_giveFor 0 = .ok (.aload_n 0, 1) := by decide +kernel
theorem dX0_giveFor_1 : decode cX0_giveFor 1 = .ok (.iload_n 1, 1) := by decide +kernel
theorem dX0_giveFor_2 : decode cX0_giveFor 2 = .ok (.invokevirtual 68, 3) := by decide +kernel
theorem dX0_giveFor_5 : decode cX0_giveFor 5 = .ok (.iload_n 2, 1) := by decide +kernel
theorem dX0_giveFor_6 : decode cX0_giveFor 6 = .ok (.aload_n 0, 1) := by decide +kernel
theorem dX0_giveFor_7 : decode cX0_giveFor 7 = .ok (.iload_n 1, 1) := by decide +kernel
theorem dX0_giveFor_8 : decode cX0_giveFor 8 = .ok (.invokevirtual 72, 3) := by decide +kernel
theorem dX0_giveFor_11 : decode cX0_giveFor 11 = .ok (.isub, 1) := by decide +kernel
theorem dX0_giveFor_12 : decode cX0_giveFor 12 = .ok (.istore_n 3, 1) := by decide +kernel
theorem dX0_giveFor_13 : decode cX0_giveFor 13 = .ok (.iconst 0, 1) := by decide +kernel
theorem dX0_giveFor_14 : decode cX0_giveFor 14 = .ok (.istore 4, 2) := by decide +kernel
theorem dX0_giveFor_16 : decode cX0_giveFor 16 = .ok (.iconst 0, 1) := by decide +kernel
theorem dX0_giveFor_17 : decode cX0_giveFor 17 = .ok (.istore 5, 2) := by decide +kernel
theorem dX0_giveFor_19 : decode cX0_giveFor 19 = .ok (.iload 5, 2) := by decide +kernel
theorem dX0_giveFor_21 : decode cX0_giveFor 21 = .ok (.aload_n 0, 1) := by decide +kernel
theorem dX0_giveFor_22 : decode cX0_giveFor 22 = .ok (.getfield 28, 3) := by decide +kernel
theorem dX0_giveFor_25 : decode cX0_giveFor 25 = .ok (.if_icmp .ge 62, 3) := by decide +kernel
theorem dX0_giveFor_28 : decode cX0_giveFor 28 = .ok (.aload_n 0, 1) := by decide +kernel
theorem dX0_giveFor_29 : decode cX0_giveFor 29 = .ok (.iload 5, 2) := by decide +kernel
theorem dX0_giveFor_31 : decode cX0_giveFor 31 = .ok (.iload_n 1, 1) := by decide +kernel
theorem dX0_giveFor_32 : decode cX0_giveFor 32 = .ok (.invokevirtual 55, 3) := by decide +kernel
theorem dX0_giveFor_35 : decode cX0_giveFor 35 = .ok (.ifCond .eq 46, 3) := by decide +kernel
theorem dX0_giveFor_38 : decode cX0_giveFor 38 = .ok (.aload_n 0, 1) := by decide +kernel
theorem dX0_giveFor_39 : decode cX0_giveFor 39 = .ok (.getfield 11, 3) := by decide +kernel
theorem dX0_giveFor_42 : decode cX0_giveFor 42 = .ok (.iload 5, 2) := by decide +kernel
theorem dX0_giveFor_44 : decode cX0_giveFor 44 = .ok (.aaload, 1) := by decide +kernel
theorem dX0_giveFor_45 : decode cX0_giveFor 45 = .ok (.aload_n 0, 1) := by decide +kernel
theorem dX0_giveFor_46 : decode cX0_giveFor 46 = .ok (.getfield 11, 3) := by decide +kernel
theorem dX0_giveFor_49 : decode cX0_giveFor 49 = .ok (.iload 5, 2) := by decide +kernel
theorem dX0_giveFor_51 : decode cX0_giveFor 51 = .ok (.aaload, 1) := by decide +kernel
theorem dX0_giveFor_52 : decode cX0_giveFor 52 = .ok (.getfield 63, 3) := by decide +kernel
theorem dX0_giveFor_55 : decode cX0_giveFor 55 = .ok (.aload_n 0, 1) := by decide +kernel
theorem dX0_giveFor_56 : decode cX0_giveFor 56 = .ok (.iload 5, 2) := by decide +kernel
theorem dX0_giveFor_58 : decode cX0_giveFor 58 = .ok (.iload_n 3, 1) := by decide +kernel
theorem dX0_giveFor_59 : decode cX0_giveFor 59 = .ok (.invokevirtual 76, 3) := by decide +kernel
theorem dX0_giveFor_62 : decode cX0_giveFor 62 = .ok (.iadd, 1) := by decide +kernel
theorem dX0_giveFor_63 : decode cX0_giveFor 63 = .ok (.invokevirtual 94, 3) := by decide +kernel
theorem dX0_giveFor_66 : decode cX0_giveFor 66 = .ok (.iload 4, 2) := by decide +kernel
theorem dX0_giveFor_68 : decode cX0_giveFor 68 = .ok (.aload_n 0, 1) := by decide +kernel
theorem dX0_giveFor_69 : decode cX0_giveFor 69 = .ok (.getfield 11, 3) := by decide +kernel
theorem dX0_giveFor_72 : decode cX0_giveFor 72 = .ok (.iload 5, 2) := by decide +kernel
theorem dX0_giveFor_74 : decode cX0_giveFor 74 = .ok (.aaload, 1) := by decide +kernel
theorem dX0_giveFor_75 : decode cX0_giveFor 75 = .ok (.getfield 97, 3) := by decide +kernel
theorem dX0_giveFor_78 : decode cX0_giveFor 78 = .ok (.iadd, 1) := by decide +kernel
theorem dX0_giveFor_79 : decode cX0_giveFor 79 = .ok (.istore 4, 2) := by decide +kernel
theorem dX0_giveFor_81 : decode cX0_giveFor 81 = .ok (.iinc 5 1, 3) := by decide +kernel
theorem dX0_giveFor_84 : decode cX0_giveFor 84 = .ok (.goto (-65), 3) := by decide +kernel
theorem dX0_giveFor_87 : decode cX0_giveFor 87 = .ok (.iload 4, 2) := by decide +kernel
theorem dX0_giveFor_89 : decode cX0_giveFor 89 = .ok (.ireturn, 1) := by decide +kernel
theorem dX1_init_0 : decode cX1_init 0 = .ok (.aload_n 0, 1) := by decide +kernel
theorem dX1_init_1 : decode cX1_init 1 = .ok (.invokespecial 3, 3) := by decide +kernel
theorem dX1_init_4 : decode cX1_init 4 = .ok (.aload_n 0, 1) := by decide +kernel
theorem dX1_init_5 : decode cX1_init 5 = .ok (.bipush 111, 2) := by decide +kernel
theorem dX1_init_7 : decode cX1_init 7 = .ok (.putfield 9, 3) := by decide +kernel
theorem dX1_init_10 : decode cX1_init 10 = .ok (.aload_n 0, 1) := by decide +kernel
theorem dX1_init_11 : decode cX1_init 11 = .ok (.iload_n 1, 1) := by decide +kernel
theorem dX1_init_12 : decode cX1_init 12 = .ok (.putfield 15, 3) := by decide +kernel
theorem dX1_init_15 : decode cX1_init 15 = .ok (.aload_n 0, 1) := by decide +kernel
theorem dX1_init_16 : decode cX1_init 16 = .ok (.iload_n 2, 1) := by decide +kernel
theorem dX1_init_17 : decode cX1_init 17 = .ok (.putfield 19, 3) := by decide +kernel
theorem dX1_init_20 : decode cX1_init 20 = .ok (.aload_n 0, 1) := by decide +kernel
theorem dX1_init_21 : decode cX1_init 21 = .ok (.iload_n 3, 1) := by decide +kernel
theorem dX1_init_22 : decode cX1_init 22 = .ok (.putfield 22, 3) := by decide +kernel
theorem dX1_init_25 : decode cX1_init 25 = .ok (.aload_n 0, 1) := by decide +kernel
theorem dX1_init_26 : decode cX1_init 26 = .ok (.iload 4, 2) := by decide +kernel
theorem dX1_init_28 : decode cX1_init 28 = .ok (.putfield 25, 3) := by decide +kernel
theorem dX1_init_31 : decode cX1_init 31 = .ok (.aload_n 0, 1) := by decide +kernel
theorem dX1_init_32 : decode cX1_init 32 = .ok (.iload 5, 2) := by decide +kernel
theorem dX1_init_34 : decode cX1_init 34 = .ok (.putfield 28, 3) := by decide +kernel
theorem dX1_init_37 : decode cX1_init 37 = .ok (.return_, 1) := by decide +kernel
theorem dX1_isShort_0 : decode cX1_isShort 0 = .ok (.aload_n 0, 1) := by decide +kernel
theorem dX1_isShort_1 : decode cX1_isShort 1 = .ok (.getfield 28, 3) := by decide +kernel
theorem dX1_isShort_4 : decode cX1_isShort 4 = .ok (.aload_n 0, 1) := by decide +kernel
theorem dX1_isShort_5 : decode cX1_isShort 5 = .ok (.getfield 19, 3) := by decide +kernel
theorem dX1_isShort_8 : decode cX1_isShort 8 = .ok (.if_icmp .ge 7, 3) := by decide +kernel
theorem dX1_isShort_11 : decode cX1_isShort 11 = .ok (.iconst 1, 1) := by decide +kernel
theorem dX1_isShort_12 : decode cX1_isShort 12 = .ok (.goto 4, 3) := by decide +kernel
theorem dX1_isShort_15 : decode cX1_isShort 15 = .ok (.iconst 0, 1) := by decide +kernel
theorem dX1_isShort_16 : decode cX1_isShort 16 = .ok (.ireturn, 1) := by decide +kernel
theorem dX1_switchOn_0 : decode cX1_switchOn 0 = .ok (.aload_n 0, 1) := by decide +kernel
theorem dX1_switchOn_1 : decode cX1_switchOn 1 = .ok (.aload_n 0, 1) := by decide +kernel
theorem dX1_switchOn_2 : decode cX1_switchOn 2 = .ok (.getfield 25, 3) := by decide +kernel
theorem dX1_switchOn_5 : decode cX1_switchOn 5 = .ok (.putfield 31, 3) := by decide +kernel
theorem dX1_switchOn_8 : decode cX1_switchOn 8 = .ok (.aload_n 0, 1) := by decide +kernel
theorem dX1_switchOn_9 : decode cX1_switchOn 9 = .ok (.aload_n 0, 1) := by decide +kernel
theorem dX1_switchOn_10 : decode cX1_switchOn 10 = .ok (.getfield 31, 3) := by decide +kernel
theorem dX1_switchOn_13 : decode cX1_switchOn 13 = .ok (.ifCond .ne 8, 3) := by decide +kernel
theorem dX1_switchOn_16 : decode cX1_switchOn 16 = .ok (.bipush 114, 2) := by decide +kernel
theorem dX1_switchOn_18 : decode cX1_switchOn 18 = .ok (.goto 5, 3) := by decide +kernel
theorem dX1_switchOn_21 : decode cX1_switchOn 21 = .ok (.bipush 119, 2) := by decide +kernel
theorem dX1_switchOn_23 : decode cX1_switchOn 23 = .ok (.putfield 9, 3) := by decide +kernel
theorem dX1_switchOn_26 : decode cX1_switchOn 26 = .ok (.return_, 1) := by decide +kernel
theorem dX1_switchOff_0 : decode cX1_switchOff 0 = .ok (.aload_n 0, 1) := by decide +kernel
theorem dX1_switchOff_1 : decode cX1_switchOff 1 = .ok (.bipush 111, 2) := by decide +kernel
theorem dX1_switchOff_3 : decode cX1_switchOff 3 = .ok (.putfield 9, 3) := by decide +kernel
theorem dX1_switchOff_6 : decode cX1_switchOff 6 = .ok (.return_, 1) := by decide +kernel
set_option maxRecDepth 20000 in
theorem ggX1_beginTick_X1_isShort : GoodIn wsX1_beginTick wsX1_isShort := goodIn_r _ [8, 9, 10, 15, 16, 17, 18, 19, 20, 21, 22] (by decide +kernel) (by decide +kernel)
set_option maxRecDepth 20000 in
theorem gX1_beginTick_X1_isShort : GoodIn wsX1_beginTick (wsV RX1 37 RX1 yX1_isShort wsX1_isShort) := goodIn_app (goodIn_of _ (by decide +kernel)) ggX1_beginTick_X1_isShort
set_option maxRecDepth 20000 in
theorem ggX1_beginTick_X1_switchOff : GoodIn wsX1_beginTick wsX1_switchOff := goodIn_r _ [14, 2, 15, 16, 17, 18, 19, 20, 21, 22] (by decide +kernel) (by decide +kernel)
set_option maxRecDepth 20000 in
theorem gX1_beginTick_X1_switchOff : GoodIn wsX1_beginTick (wsV RX1 41 RX1 yX1_switchOff wsX1_switchOff) := goodIn_app (goodIn_of _ (by decide +kernel)) ggX1_beginTick_X1_switchOff
theorem dX1_beginTick_0 : decode cX1_beginTick 0 = .ok (.aload_n 0, 1) := by decide +kernel
theorem dX1_beginTick_1 : decode cX1_beginTick 1 = .ok (.iconst 0, 1) := by decide +kernel
theorem dX1_beginTick_2 : decode cX1_beginTick 2 = .ok (.putfield 34, 3) := by decide +kernel
theorem dX1_beginTick_5 : decode cX1_beginTick 5 = .ok (.aload_n 0, 1) := by decide +kernel
theorem dX1_beginTick_6 : decode cX1_beginTick 6 = .ok (.getfield 9, 3) := by decide +kernel
theorem dX1_beginTick_9 : decode cX1_beginTick 9 = .ok (.bipush 119, 2) := by decide +kernel
theorem dX1_beginTick_11 : decode cX1_beginTick 11 = .ok (.if_icmp .ne 31, 3) := by decide +kernel
theorem dX1_beginTick_14 : decode cX1_beginTick 14 = .ok (.aload_n 0, 1) := by decide +kernel
theorem dX1_beginTick_15 : decode cX1_beginTick 15 = .ok (.dup, 1) := by decide +kernel
theorem dX1_beginTick_16 : decode cX1_beginTick 16 = .ok (.getfield 31, 3) := by decide +kernel
theorem dX1_beginTick_19 : decode cX1_beginTick 19 = .ok (.iconst 1, 1) := by decide +kernel
theorem dX1_beginTick_20 : decode cX1_beginTick 20 = .ok (.isub, 1) := by decide +kernel
theorem dX1_beginTick_21 : decode cX1_beginTick 21 = .ok (.putfield 31, 3) := by decide +kernel
theorem dX1_beginTick_24 : decode cX1_beginTick 24 = .ok (.aload_n 0, 1) := by decide +kernel
theorem dX1_beginTick_25 : decode cX1_beginTick 25 = .ok (.aload_n 0, 1) := by decide +kernel
theorem dX1_beginTick_26 : decode cX1_beginTick 26 = .ok (.getfield 31, 3) := by decide +kernel
theorem dX1_beginTick_29 : decode cX1_beginTick 29 = .ok (.ifCond .ne 8, 3) := by decide +kernel
theorem dX1_beginTick_32 : decode cX1_beginTick 32 = .ok (.bipush 114, 2) := by decide +kernel
theorem dX1_beginTick_34 : decode cX1_beginTick 34 = .ok (.goto 5, 3) := by decide +kernel
theorem dX1_beginTick_37 : decode cX1_beginTick 37 = .ok (.bipush 119, 2) := by decide +kernel
theorem dX1_beginTick_39 : decode cX1_beginTick 39 = .ok (.putfield 9, 3) := by decide +kernel
theorem dX1_beginTick_42 : decode cX1_beginTick 42 = .ok (.aload_n 0, 1) := by decide +kernel
theorem dX1_beginTick_43 : decode cX1_beginTick 43 = .ok (.getfield 9, 3) := by decide +kernel
theorem dX1_beginTick_46 : decode cX1_beginTick 46 = .ok (.bipush 114, 2) := by decide +kernel
theorem dX1_beginTick_48 : decode cX1_beginTick 48 = .ok (.if_icmp .ne 14, 3) := by decide +kernel
theorem dX1_beginTick_51 : decode cX1_beginTick 51 = .ok (.aload_n 0, 1) := by decide +kernel
theorem dX1_beginTick_52 : decode cX1_beginTick 52 = .ok (.invokevirtual 37, 3) := by decide +kernel
theorem dX1_beginTick_55 : decode cX1_beginTick 55 = .ok (.ifCond .eq 7, 3) := by decide +kernel
theorem dX1_beginTick_58 : decode cX1_beginTick 58 = .ok (.aload_n 0, 1) := by decide +kernel
theorem dX1_beginTick_59 : decode cX1_beginTick 59 = .ok (.invokevirtual 41, 3) := by decide +kernel
theorem dX1_beginTick_62 : decode cX1_beginTick 62 = .ok (.return_, 1) := by decide +kernel
theorem dX1_supply_0 : decode cX1_supply 0 = .ok (.aload_n 0, 1) := by decide +kernel
theorem dX1_supply_1 : decode cX1_supply 1 = .ok (.getfield 22, 3) := by decide +kernel
theorem dX1_supply_4 : decode cX1_supply 4 = .ok (.aload_n 0, 1) := by decide +kernel
theorem dX1_supply_5 : decode cX1_supply 5 = .ok (.getfield 28, 3) := by decide +kernel
theorem dX1_supply_8 : decode cX1_supply 8 = .ok (.invokestatic 44, 3) := by decide +kernel
theorem dX1_supply_11 : decode cX1_supply 11 = .ok (.ireturn, 1) := by decide +kernel
set_option maxRecDepth 20000 in
theorem ggX1_steps_X1_supply : GoodIn wsX1_steps wsX1_supply := goodIn_r _ [10, 11, 12, 13, 14, 4, 15, 16, 17, 18, 19, 20, 21, 22, 23] (by decide +kernel) (by decide +kernel)
set_option maxRecDepth 20000 in
theorem gX1_steps_X1_supply : GoodIn wsX1_steps (wsV RX1 50 RX1 yX1_supply wsX1_supply) := goodIn_app (goodIn_of _ (by decide +kernel)) ggX1_steps_X1_supply
theorem dX1_steps_0 : decode cX1_steps 0 = .ok (.iconst 0, 1) := by decide +kernel
theorem dX1_steps_1 : decode cX1_steps 1 = .ok (.aload_n 0, 1) := by decide +kernel
theorem dX1_steps_2 : decode cX1_steps 2 = .ok (.invokevirtual 50, 3) := by decide +kernel
theorem dX1_steps_5 : decode cX1_steps 5 = .ok (.aload_n 0, 1) := by decide +kernel
theorem dX1_steps_6 : decode cX1_steps 6 = .ok (.getfield 19, 3) := by decide +kernel
theorem dX1_steps_9 : decode cX1_steps 9 = .ok (.isub, 1) := by decide +kernel
theorem dX1_steps_10 : decode cX1_steps 10 = .ok (.invokestatic 54, 3) := by decide +kernel
theorem dX1_steps_13 : decode cX1_steps 13 = .ok (.ireturn, 1) := by decide +kernel
theorem dX1_burn_0 : decode cX1_burn 0 = .ok (.aload_n 0, 1) := by decide +kernel
theorem dX1_burn_1 : decode cX1_burn 1 = .ok (.iload_n 1, 1) := by decide +kernel
theorem dX1_burn_2 : decode cX1_burn 2 = .ok (.putfield 34, 3) := by decide +kernel
theorem dX1_burn_5 : decode cX1_burn 5 = .ok (.aload_n 0, 1) := by decide +kernel
theorem dX1_burn_6 : decode cX1_burn 6 = .ok (.dup, 1) := by decide +kernel
theorem dX1_burn_7 : decode cX1_burn 7 = .ok (.getfield 28, 3) := by decide +kernel
theorem dX1_burn_10 : decode cX1_burn 10 = .ok (.iload_n 1, 1) := by decide +kernel
theorem dX1_burn_11 : decode cX1_burn 11 = .ok (.isub, 1) := by decide +kernel
theorem dX1_burn_12 : decode cX1_burn 12 = .ok (.putfield 28, 3) := by decide +kernel
theorem dX1_burn_15 : decode cX1_burn 15 = .ok (.return_, 1) := by decide +kernel
theorem dX1_startsAhead_0 : decode cX1_startsAhead 0 = .ok (.aload_n 0, 1) := by decide +kernel
theorem dX1_startsAhead_1 : decode cX1_startsAhead 1 = .ok (.getfield 25, 3) := by decide +kernel
theorem dX1_startsAhead_4 : decode cX1_startsAhead 4 = .ok (.aload_n 1, 1) := by decide +kernel
theorem dX1_startsAhead_5 : decode cX1_startsAhead 5 = .ok (.getfield 25, 3) := by decide +kernel
theorem dX1_startsAhead_8 : decode cX1_startsAhead 8 = .ok (.if_icmp .eq 20, 3) := by decide +kernel
theorem dX1_startsAhead_11 : decode cX1_startsAhead 11 = .ok (.aload_n 0, 1) := by decide +kernel
theorem dX1_startsAhead_12 : decode cX1_startsAhead 12 = .ok (.getfield 25, 3) := by decide +kernel
theorem dX1_startsAhead_15 : decode cX1_startsAhead 15 = .ok (.aload_n 1, 1) := by decide +kernel
theorem dX1_startsAhead_16 : decode cX1_startsAhead 16 = .ok (.getfield 25, 3) := by decide +kernel
theorem dX1_startsAhead_19 : decode cX1_startsAhead 19 = .ok (.if_icmp .ge 7, 3) := by decide +kernel
theorem dX1_startsAhead_22 : decode cX1_startsAhead 22 = .ok (.iconst 1, 1) := by decide +kernel
theorem dX1_startsAhead_23 : decode cX1_startsAhead 23 = .ok (.goto 4, 3) := by decide +kernel
theorem dX1_startsAhead_26 : decode cX1_startsAhead 26 = .ok (.iconst 0, 1) := by decide +kernel
theorem dX1_startsAhead_27 : decode cX1_startsAhead 27 = .ok (.ireturn, 1) := by decide +kernel
theorem dX1_startsAhead_28 : decode cX1_startsAhead 28 = .ok (.aload_n 0, 1) := by decide +kernel
theorem dX1_startsAhead_29 : decode cX1_startsAhead 29 = .ok (.getfield 22, 3) := by decide +kernel
theorem dX1_startsAhead_32 : decode cX1_startsAhead 32 = .ok (.aload_n 1, 1) := by decide +kernel
theorem dX1_startsAhead_33 : decode cX1_startsAhead 33 = .ok (.getfield 22, 3) := by decide +kernel
theorem dX1_startsAhead_36 : decode cX1_startsAhead 36 = .ok (.if_icmp .le 7, 3) := by decide +kernel
theorem dX1_startsAhead_39 : decode cX1_startsAhead 39 = .ok (.iconst 1, 1) := by decide +kernel
theorem dX1_startsAhead_40 : decode cX1_startsAhead 40 = .ok (.goto 4, 3) := by decide +kernel
theorem dX1_startsAhead_43 : decode cX1_startsAhead 43 = .ok (.iconst 0, 1) := by decide +kernel
theorem dX1_startsAhead_44 : decode cX1_startsAhead 44 = .ok (.ireturn, 1) := by decide +kernel
theorem dX2_init_0 : decode cX2_init 0 = .ok (.aload_n 0, 1) := by decide +kernel
theorem dX2_init_1 : decode cX2_init 1 = .ok (.invokespecial 1, 3) := by decide +kernel
theorem dX2_init_4 : decode cX2_init 4 = .ok (.return_, 1) := by decide +kernel
theorem dX2_takeFromGrid_0 : decode cX2_takeFromGrid 0 = .ok (.aload_n 0, 1) := by decide +kernel
theorem dX2_takeFromGrid_1 : decode cX2_takeFromGrid 1 = .ok (.dup, 1) := by decide +kernel
theorem dX2_takeFromGrid_2 : decode cX2_takeFromGrid 2 = .ok (.getfield 7, 3) := by decide +kernel
theorem dX2_takeFromGrid_5 : decode cX2_takeFromGrid 5 = .ok (.iload_n 1, 1) := by decide +kernel
theorem dX2_takeFromGrid_6 : decode cX2_takeFromGrid 6 = .ok (.iadd, 1) := by decide +kernel
theorem dX2_takeFromGrid_7 : decode cX2_takeFromGrid 7 = .ok (.putfield 7, 3) := by decide +kernel
theorem dX2_takeFromGrid_10 : decode cX2_takeFromGrid 10 = .ok (.aload_n 0, 1) := by decide +kernel
theorem dX2_takeFromGrid_11 : decode cX2_takeFromGrid 11 = .ok (.dup, 1) := by decide +kernel
theorem dX2_takeFromGrid_12 : decode cX2_takeFromGrid 12 = .ok (.getfield 13, 3) := by decide +kernel
theorem dX2_takeFromGrid_15 : decode cX2_takeFromGrid 15 = .ok (.iload_n 1, 1) := by decide +kernel
theorem dX2_takeFromGrid_16 : decode cX2_takeFromGrid 16 = .ok (.i2l, 1) := by decide +kernel
theorem dX2_takeFromGrid_17 : decode cX2_takeFromGrid 17 = .ok (.ladd, 1) := by decide +kernel
theorem dX2_takeFromGrid_18 : decode cX2_takeFromGrid 18 = .ok (.putfield 13, 3) := by decide +kernel
theorem dX2_takeFromGrid_21 : decode cX2_takeFromGrid 21 = .ok (.return_, 1) := by decide +kernel
theorem dX2_giveToGrid_0 : decode cX2_giveToGrid 0 = .ok (.aload_n 0, 1) := by decide +kernel
theorem dX2_giveToGrid_1 : decode cX2_giveToGrid 1 = .ok (.dup, 1) := by decide +kernel
theorem dX2_giveToGrid_2 : decode cX2_giveToGrid 2 = .ok (.getfield 7, 3) := by decide +kernel
theorem dX2_giveToGrid_5 : decode cX2_giveToGrid 5 = .ok (.iload_n 1, 1) := by decide +kernel
theorem dX2_giveToGrid_6 : decode cX2_giveToGrid 6 = .ok (.isub, 1) := by decide +kernel
theorem dX2_giveToGrid_7 : decode cX2_giveToGrid 7 = .ok (.putfield 7, 3) := by decide +kernel
theorem dX2_giveToGrid_10 : decode cX2_giveToGrid 10 = .ok (.aload_n 0, 1) := by decide +kernel
theorem dX2_giveToGrid_11 : decode cX2_giveToGrid 11 = .ok (.dup, 1) := by decide +kernel
theorem dX2_giveToGrid_12 : decode cX2_giveToGrid 12 = .ok (.getfield 17, 3) := by decide +kernel
theorem dX2_giveToGrid_15 : decode cX2_giveToGrid 15 = .ok (.iload_n 1, 1) := by decide +kernel
theorem dX2_giveToGrid_16 : decode cX2_giveToGrid 16 = .ok (.i2l, 1) := by decide +kernel
theorem dX2_giveToGrid_17 : decode cX2_giveToGrid 17 = .ok (.ladd, 1) := by decide +kernel
theorem dX2_giveToGrid_18 : decode cX2_giveToGrid 18 = .ok (.putfield 17, 3) := by decide +kernel
theorem dX2_giveToGrid_21 : decode cX2_giveToGrid 21 = .ok (.return_, 1) := by decide +kernel
theorem dX3_init_0 : decode cX3_init 0 = .ok (.aload_n 0, 1) := by decide +kernel
theorem dX3_init_1 : decode cX3_init 1 = .ok (.invokespecial 1, 3) := by decide +kernel
theorem dX3_init_4 : decode cX3_init 4 = .ok (.aload_n 0, 1) := by decide +kernel
theorem dX3_init_5 : decode cX3_init 5 = .ok (.iconst 1, 1) := by decide +kernel
theorem dX3_init_6 : decode cX3_init 6 = .ok (.putfield 7, 3) := by decide +kernel
theorem dX3_init_9 : decode cX3_init 9 = .ok (.aload_n 0, 1) := by decide +kernel
theorem dX3_init_10 : decode cX3_init 10 = .ok (.iload_n 1, 1) := by decide +kernel
theorem dX3_init_11 : decode cX3_init 11 = .ok (.putfield 13, 3) := by decide +kernel
theorem dX3_init_14 : decode cX3_init 14 = .ok (.aload_n 0, 1) := by decide +kernel
theorem dX3_init_15 : decode cX3_init 15 = .ok (.iload_n 2, 1) := by decide +kernel
theorem dX3_init_16 : decode cX3_init 16 = .ok (.putfield 17, 3) := by decide +kernel
theorem dX3_init_19 : decode cX3_init 19 = .ok (.aload_n 0, 1) := by decide +kernel
theorem dX3_init_20 : decode cX3_init 20 = .ok (.iload_n 3, 1) := by decide +kernel
theorem dX3_init_21 : decode cX3_init 21 = .ok (.putfield 20, 3) := by decide +kernel
theorem dX3_init_24 : decode cX3_init 24 = .ok (.aload_n 0, 1) := by decide +kernel
theorem dX3_init_25 : decode cX3_init 25 = .ok (.iload 4, 2) := by decide +kernel
theorem dX3_init_27 : decode cX3_init 27 = .ok (.putfield 23, 3) := by decide +kernel
theorem dX3_init_30 : decode cX3_init 30 = .ok (.return_, 1) := by decide +kernel
theorem dX3_comesAhead_0 : decode cX3_comesAhead 0 = .ok (.aload_n 0, 1) := by decide +kernel
theorem dX3_comesAhead_1 : decode cX3_comesAhead 1 = .ok (.getfield 23, 3) := by decide +kernel
theorem dX3_comesAhead_4 : decode cX3_comesAhead 4 = .ok (.aload_n 1, 1) := by decide +kernel
theorem dX3_comesAhead_5 : decode cX3_comesAhead 5 = .ok (.getfield 23, 3) := by decide +kernel
theorem dX3_comesAhead_8 : decode cX3_comesAhead 8 = .ok (.if_icmp .lt 25, 3) := by decide +kernel
theorem dX3_comesAhead_11 : decode cX3_comesAhead 11 = .ok (.aload_n 0, 1) := by decide +kernel
theorem dX3_comesAhead_12 : decode cX3_comesAhead 12 = .ok (.getfield 23, 3) := by decide +kernel
theorem dX3_comesAhead_15 : decode cX3_comesAhead 15 = .ok (.aload_n 1, 1) := by decide +kernel
theorem dX3_comesAhead_16 : decode cX3_comesAhead 16 = .ok (.getfield 23, 3) := by decide +kernel
theorem dX3_comesAhead_19 : decode cX3_comesAhead 19 = .ok (.if_icmp .ne 18, 3) := by decide +kernel
theorem dX3_comesAhead_22 : decode cX3_comesAhead 22 = .ok (.aload_n 0, 1) := by decide +kernel
theorem dX3_comesAhead_23 : decode cX3_comesAhead 23 = .ok (.getfield 13, 3) := by decide +kernel
theorem dX3_comesAhead_26 : decode cX3_comesAhead 26 = .ok (.aload_n 1, 1) := by decide +kernel
theorem dX3_comesAhead_27 : decode cX3_comesAhead 27 = .ok (.getfield 13, 3) := by decide +kernel
theorem dX3_comesAhead_30 : decode cX3_comesAhead 30 = .ok (.if_icmp .ge 7, 3) := by decide +kernel
theorem dX3_comesAhead_33 : decode cX3_comesAhead 33 = .ok (.iconst 1, 1) := by decide +kernel
theorem dX3_comesAhead_34 : decode cX3_comesAhead 34 = .ok (.goto 4, 3) := by decide +kernel
theorem dX3_comesAhead_37 : decode cX3_comesAhead 37 = .ok (.iconst 0, 1) := by decide +kernel
theorem dX3_comesAhead_38 : decode cX3_comesAhead 38 = .ok (.ireturn, 1) := by decide +kernel
theorem dX3_update_0 : decode cX3_update 0 = .ok (.iload_n 1, 1) := by decide +kernel
theorem dX3_update_1 : decode cX3_update 1 = .ok (.ifCond .ne 16, 3) := by decide +kernel
theorem dX3_update_4 : decode cX3_update 4 = .ok (.aload_n 0, 1) := by decide +kernel
theorem dX3_update_5 : decode cX3_update 5 = .ok (.iconst 0, 1) := by decide +kernel
theorem dX3_update_6 : decode cX3_update 6 = .ok (.putfield 7, 3) := by decide +kernel
theorem dX3_update_9 : decode cX3_update 9 = .ok (.aload_n 0, 1) := by decide +kernel
theorem dX3_update_10 : decode cX3_update 10 = .ok (.iload_n 2, 1) := by decide +kernel
theorem dX3_update_11 : decode cX3_update 11 = .ok (.putfield 26, 3) := by decide +kernel
theorem dX3_update_14 : decode cX3_update 14 = .ok (.goto 35, 3) := by decide +kernel
theorem dX3_update_17 : decode cX3_update 17 = .ok (.aload_n 0, 1) := by decide +kernel
theorem dX3_update_18 : decode cX3_update 18 = .ok (.getfield 7, 3) := by decide +kernel
theorem dX3_update_21 : decode cX3_update 21 = .ok (.ifCond .ne 28, 3) := by decide +kernel
theorem dX3_update_24 : decode cX3_update 24 = .ok (.aload_n 0, 1) := by decide +kernel
theorem dX3_update_25 : decode cX3_update 25 = .ok (.getfield 26, 3) := by decide +kernel
theorem dX3_update_28 : decode cX3_update 28 = .ok (.ifCond .ne 11, 3) := by decide +kernel
theorem dX3_update_31 : decode cX3_update 31 = .ok (.aload_n 0, 1) := by decide +kernel
theorem dX3_update_32 : decode cX3_update 32 = .ok (.iconst 1, 1) := by decide +kernel
theorem dX3_update_33 : decode cX3_update 33 = .ok (.putfield 7, 3) := by decide +kernel
theorem dX3_update_36 : decode cX3_update 36 = .ok (.goto 13, 3) := by decide +kernel
theorem dX3_update_39 : decode cX3_update 39 = .ok (.aload_n 0, 1) := by decide +kernel
theorem dX3_update_40 : decode cX3_update 40 = .ok (.dup, 1) := by decide +kernel
theorem dX3_update_41 : decode cX3_update 41 = .ok (.getfield 26, 3) := by decide +kernel
theorem dX3_update_44 : decode cX3_update 44 = .ok (.iconst 1, 1) := by decide +kernel
theorem dX3_update_45 : decode cX3_update 45 = .ok (.isub, 1) := by decide +kernel
theorem dX3_update_46 : decode cX3_update 46 = .ok (.putfield 26, 3) := by decide +kernel
theorem dX3_update_49 : decode cX3_update 49 = .ok (.return_, 1) := by decide +kernel
theorem dX4_init_0 : decode cX4_init 0 = .ok (.aload_n 0, 1) := by decide +kernel
theorem dX4_init_1 : decode cX4_init 1 = .ok (.invokespecial 3, 3) := by decide +kernel
theorem dX4_init_4 : decode cX4_init 4 = .ok (.aload_n 0, 1) := by decide +kernel
theorem dX4_init_5 : decode cX4_init 5 = .ok (.bipush 10, 2) := by decide +kernel
theorem dX4_init_7 : decode cX4_init 7 = .ok (.anewarray 9, 3) := by decide +kernel
theorem dX4_init_10 : decode cX4_init 10 = .ok (.putfield 11, 3) := by decide +kernel
theorem dX4_init_13 : decode cX4_init 13 = .ok (.aload_n 0, 1) := by decide +kernel
theorem dX4_init_14 : decode cX4_init 14 = .ok (.aload_n 1, 1) := by decide +kernel
theorem dX4_init_15 : decode cX4_init 15 = .ok (.putfield 17, 3) := by decide +kernel
theorem dX4_init_18 : decode cX4_init 18 = .ok (.return_, 1) := by decide +kernel
set_option maxRecDepth 20000 in
theorem ggX4_put_X3_init : GoodIn wsX4_put wsX3_init := goodIn_r _ [8, 9, 10, 11, 12, 13, 14, 15, 16, 20, 21, 22, 23, 24, 25] (by decide +kernel) (by decide +kernel)
set_option maxRecDepth 20000 in
theorem gX4_put_X3_init : GoodIn wsX4_put (wsX3_init) := ggX4_put_X3_init
theorem dX4_put_0 : decode cX4_put 0 = .ok (.aload_n 0, 1) := by decide +kernel
theorem dX4_put_1 : decode cX4_put 1 = .ok (.getfield 21, 3) := by decide +kernel
theorem dX4_put_4 : decode cX4_put 4 = .ok (.istore 4, 2) := by decide +kernel
theorem dX4_put_6 : decode cX4_put 6 = .ok (.aload_n 0, 1) := by decide +kernel
theorem dX4_put_7 : decode cX4_put 7 = .ok (.getfield 11, 3) := by decide +kernel
theorem dX4_put_10 : decode cX4_put 10 = .ok (.iload 4, 2) := by decide +kernel
theorem dX4_put_12 : decode cX4_put 12 = .ok (.new 9, 3) := by decide +kernel
theorem dX4_put_15 : decode cX4_put 15 = .ok (.dup, 1) := by decide +kernel
theorem dX4_put_16 : decode cX4_put 16 = .ok (.iload 4, 2) := by decide +kernel
theorem dX4_put_18 : decode cX4_put 18 = .ok (.iload_n 1, 1) := by decide +kernel
theorem dX4_put_19 : decode cX4_put 19 = .ok (.iload_n 2, 1) := by decide +kernel
theorem dX4_put_20 : decode cX4_put 20 = .ok (.iload_n 3, 1) := by decide +kernel
theorem dX4_put_21 : decode cX4_put 21 = .ok (.invokespecial 25, 3) := by decide +kernel
theorem dX4_put_24 : decode cX4_put 24 = .ok (.aastore, 1) := by decide +kernel
theorem dX4_put_25 : decode cX4_put 25 = .ok (.aload_n 0, 1) := by decide +kernel
theorem dX4_put_26 : decode cX4_put 26 = .ok (.dup, 1) := by decide +kernel
theorem dX4_put_27 : decode cX4_put 27 = .ok (.getfield 21, 3) := by decide +kernel
theorem dX4_put_30 : decode cX4_put 30 = .ok (.iconst 1, 1) := by decide +kernel
theorem dX4_put_31 : decode cX4_put 31 = .ok (.iadd, 1) := by decide +kernel
theorem dX4_put_32 : decode cX4_put 32 = .ok (.putfield 21, 3) := by decide +kernel
theorem dX4_put_35 : decode cX4_put 35 = .ok (.iload 4, 2) := by decide +kernel
theorem dX4_put_37 : decode cX4_put 37 = .ok (.ireturn, 1) := by decide +kernel
theorem dX4_isOn_0 : decode cX4_isOn 0 = .ok (.aload_n 0, 1) := by decide +kernel
theorem dX4_isOn_1 : decode cX4_isOn 1 = .ok (.getfield 17, 3) := by decide +kernel
theorem dX4_isOn_4 : decode cX4_isOn 4 = .ok (.getfield 28, 3) := by decide +kernel
theorem dX4_isOn_7 : decode cX4_isOn 7 = .ok (.aload_n 1, 1) := by decide +kernel
theorem dX4_isOn_8 : decode cX4_isOn 8 = .ok (.getfield 34, 3) := by decide +kernel
theorem dX4_isOn_11 : decode cX4_isOn 11 = .ok (.iaload, 1) := by decide +kernel
theorem dX4_isOn_12 : decode cX4_isOn 12 = .ok (.iload_n 2, 1) := by decide +kernel
theorem dX4_isOn_13 : decode cX4_isOn 13 = .ok (.if_icmp .ne 7, 3) := by decide +kernel
theorem dX4_isOn_16 : decode cX4_isOn 16 = .ok (.iconst 1, 1) := by decide +kernel
theorem dX4_isOn_17 : decode cX4_isOn 17 = .ok (.goto 4, 3) := by decide +kernel
theorem dX4_isOn_20 : decode cX4_isOn 20 = .ok (.iconst 0, 1) := by decide +kernel
theorem dX4_isOn_21 : decode cX4_isOn 21 = .ok (.ireturn, 1) := by decide +kernel
set_option maxRecDepth 20000 in
theorem ggX4_sumOfLit_X4_isOn : GoodIn wsX4_sumOfLit wsX4_isOn := goodIn_r _ [9, 10, 11, 12, 13, 14, 15, 22, 23, 24, 25, 26, 27, 28, 29, 30, 31, 16, 17, 18, 19, 20, 21] (by decide +kernel) (by decide +kernel)
set_option maxRecDepth 20000 in
theorem gX4_sumOfLit_X4_isOn : GoodIn wsX4_sumOfLit (wsV RX4 41 RX4 yX4_isOn wsX4_isOn) := goodIn_app (goodIn_of _ (by decide +kernel)) ggX4_sumOfLit_X4_isOn
theorem dX4_sumOfLit_0 : decode cX4_sumOfLit 0 = .ok (.iconst 0, 1) := by decide +kernel
theorem dX4_sumOfLit_1 : decode cX4_sumOfLit 1 = .ok (.istore_n 2, 1) := by decide +kernel
theorem dX4_sumOfLit_2 : decode cX4_sumOfLit 2 = .ok (.iconst 0, 1) := by decide +kernel
theorem dX4_sumOfLit_3 : decode cX4_sumOfLit 3 = .ok (.istore_n 3, 1) := by decide +kernel
theorem dX4_sumOfLit_4 : decode cX4_sumOfLit 4 = .ok (.iload_n 3, 1) := by decide +kernel
theorem dX4_sumOfLit_5 : decode cX4_sumOfLit 5 = .ok (.aload_n 0, 1) := by decide +kernel
theorem dX4_sumOfLit_6 : decode cX4_sumOfLit 6 = .ok (.getfield 21, 3) := by decide +kernel
theorem dX4_sumOfLit_9 : decode cX4_sumOfLit 9 = .ok (.if_icmp .ge 47, 3) := by decide +kernel
theorem dX4_sumOfLit_12 : decode cX4_sumOfLit 12 = .ok (.aload_n 0, 1) := by decide +kernel
theorem dX4_sumOfLit_13 : decode cX4_sumOfLit 13 = .ok (.getfield 11, 3) := by decide +kernel
theorem dX4_sumOfLit_16 : decode cX4_sumOfLit 16 = .ok (.iload_n 3, 1) := by decide +kernel
theorem dX4_sumOfLit_17 : decode cX4_sumOfLit 17 = .ok (.aaload, 1) := by decide +kernel
theorem dX4_sumOfLit_18 : decode cX4_sumOfLit 18 = .ok (.getfield 37, 3) := by decide +kernel
theorem dX4_sumOfLit_21 : decode cX4_sumOfLit 21 = .ok (.ifCond .eq 29, 3) := by decide +kernel
theorem dX4_sumOfLit_24 : decode cX4_sumOfLit 24 = .ok (.aload_n 0, 1) := by decide +kernel
theorem dX4_sumOfLit_25 : decode cX4_sumOfLit 25 = .ok (.aload_n 0, 1) := by decide +kernel
theorem dX4_sumOfLit_26 : decode cX4_sumOfLit 26 = .ok (.getfield 11, 3) := by decide +kernel
theorem dX4_sumOfLit_29 : decode cX4_sumOfLit 29 = .ok (.iload_n 3, 1) := by decide +kernel
theorem dX4_sumOfLit_30 : decode cX4_sumOfLit 30 = .ok (.aaload, 1) := by decide +kernel
theorem dX4_sumOfLit_31 : decode cX4_sumOfLit 31 = .ok (.iload_n 1, 1) := by decide +kernel
theorem dX4_sumOfLit_32 : decode cX4_sumOfLit 32 = .ok (.invokevirtual 41, 3) := by decide +kernel
theorem dX4_sumOfLit_35 : decode cX4_sumOfLit 35 = .ok (.ifCond .eq 15, 3) := by decide +kernel
theorem dX4_sumOfLit_38 : decode cX4_sumOfLit 38 = .ok (.iload_n 2, 1) := by decide +kernel
theorem dX4_sumOfLit_39 : decode cX4_sumOfLit 39 = .ok (.aload_n 0, 1) := by decide +kernel
theorem dX4_sumOfLit_40 : decode cX4_sumOfLit 40 = .ok (.getfield 11, 3) := by decide +kernel
theorem dX4_sumOfLit_43 : decode cX4_sumOfLit 43 = .ok (.iload_n 3, 1) := by decide +kernel
theorem dX4_sumOfLit_44 : decode cX4_sumOfLit 44 = .ok (.aaload, 1) := by decide +kernel
theorem dX4_sumOfLit_45 : decode cX4_sumOfLit 45 = .ok (.getfield 45, 3) := by decide +kernel
theorem dX4_sumOfLit_48 : decode cX4_sumOfLit 48 = .ok (.iadd, 1) := by decide +kernel
theorem dX4_sumOfLit_49 : decode cX4_sumOfLit 49 = .ok (.istore_n 2, 1) := by decide +kernel
theorem dX4_sumOfLit_50 : decode cX4_sumOfLit 50 = .ok (.iinc 3 1, 3) := by decide +kernel
theorem dX4_sumOfLit_53 : decode cX4_sumOfLit 53 = .ok (.goto (-49), 3) := by decide +kernel
theorem dX4_sumOfLit_56 : decode cX4_sumOfLit 56 = .ok (.iload_n 2, 1) := by decide +kernel
theorem dX4_sumOfLit_57 : decode cX4_sumOfLit 57 = .ok (.ireturn, 1) := by decide +kernel
theorem dX4_countLit_0 : decode cX4_countLit 0 = .ok (.iconst 0, 1) := by decide +kernel
theorem dX4_countLit_1 : decode cX4_countLit 1 = .ok (.istore_n 1, 1) := by decide +kernel
theorem dX4_countLit_2 : decode cX4_countLit 2 = .ok (.iconst 0, 1) := by decide +kernel
theorem dX4_countLit_3 : decode cX4_countLit 3 = .ok (.istore_n 2, 1) := by decide +kernel
theorem dX4_countLit_4 : decode cX4_countLit 4 = .ok (.iload_n 2, 1) := by decide +kernel
theorem dX4_countLit_5 : decode cX4_countLit 5 = .ok (.aload_n 0, 1) := by decide +kernel
theorem dX4_countLit_6 : decode cX4_countLit 6 = .ok (.getfield 21, 3) := by decide +kernel
theorem dX4_countLit_9 : decode cX4_countLit 9 = .ok (.if_icmp .ge 24, 3) := by decide +kernel
theorem dX4_countLit_12 : decode cX4_countLit 12 = .ok (.aload_n 0, 1) := by decide +kernel
theorem dX4_countLit_13 : decode cX4_countLit 13 = .ok (.getfield 11, 3) := by decide +kernel
theorem dX4_countLit_16 : decode cX4_countLit 16 = .ok (.iload_n 2, 1) := by decide +kernel
theorem dX4_countLit_17 : decode cX4_countLit 17 = .ok (.aaload, 1) := by decide +kernel
theorem dX4_countLit_18 : decode cX4_countLit 18 = .ok (.getfield 37, 3) := by decide +kernel
theorem dX4_countLit_21 : decode cX4_countLit 21 = .ok (.ifCond .eq 6, 3) := by decide +kernel
theorem dX4_countLit_24 : decode cX4_countLit 24 = .ok (.iinc 1 1, 3) := by decide +kernel
theorem dX4_countLit_27 : decode cX4_countLit 27 = .ok (.iinc 2 1, 3) := by decide +kernel
theorem dX4_countLit_30 : decode cX4_countLit 30 = .ok (.goto (-26), 3) := by decide +kernel
theorem dX4_countLit_33 : decode cX4_countLit 33 = .ok (.iload_n 1, 1) := by decide +kernel
theorem dX4_countLit_34 : decode cX4_countLit 34 = .ok (.ireturn, 1) := by decide +kernel
set_option maxRecDepth 20000 in
theorem ggX4_keeps_X4_sumUpTo : GoodIn wsX4_keeps wsX4_sumUpTo := goodIn_r _ [5, 6, 7, 8, 9, 10, 11, 12, 13, 14, 4, 15, 16, 17, 18, 19, 20, 21, 22, 23, 24, 25, 26, 27, 28, 29, 30, 31, 32, 33, 34, 35, 36, 37, 38, 39, 40, 41] (by decide +kernel) (by decide +kernel)
set_option maxRecDepth 20000 in
theorem gX4_keeps_X4_sumUpTo : GoodIn wsX4_keeps (wsV RX4 48 RX4 yX4_sumUpTo wsX4_sumUpTo) := goodIn_app (goodIn_of _ (by decide +kernel)) ggX4_keeps_X4_sumUpTo
theorem dX4_keeps_0 : decode cX4_keeps 0 = .ok (.iload_n 2, 1) := by decide +kernel
theorem dX4_keeps_1 : decode cX4_keeps 1 = .ok (.iconst (-1), 1) := by decide +kernel
theorem dX4_keeps_2 : decode cX4_keeps 2 = .ok (.if_icmp .eq 12, 3) := by decide +kernel
theorem dX4_keeps_5 : decode cX4_keeps 5 = .ok (.aload_n 0, 1) := by decide +kernel
theorem dX4_keeps_6 : decode cX4_keeps 6 = .ok (.aload_n 1, 1) := by decide +kernel
theorem dX4_keeps_7 : decode cX4_keeps 7 = .ok (.invokevirtual 48, 3) := by decide +kernel
theorem dX4_keeps_10 : decode cX4_keeps 10 = .ok (.iload_n 2, 1) := by decide +kernel
theorem dX4_keeps_11 : decode cX4_keeps 11 = .ok (.if_icmp .gt 7, 3) := by decide +kernel
theorem dX4_keeps_14 : decode cX4_keeps 14 = .ok (.iconst 1, 1) := by decide +kernel
theorem dX4_keeps_15 : decode cX4_keeps 15 = .ok (.goto 4, 3) := by decide +kernel
theorem dX4_keeps_18 : decode cX4_keeps 18 = .ok (.iconst 0, 1) := by decide +kernel
theorem dX4_keeps_19 : decode cX4_keeps 19 = .ok (.ireturn, 1) := by decide +kernel
set_option maxRecDepth 20000 in
theorem ggX4_sumUpTo_X4_isOn : GoodIn wsX4_sumUpTo wsX4_isOn := goodIn_r _ [11, 1, 2, 3, 19, 20, 21, 22, 23, 24, 25, 26, 27, 28, 29, 30, 31, 32, 33, 34, 35, 36, 37] (by decide +kernel) (by decide +kernel)
set_option maxRecDepth 20000 in
theorem gX4_sumUpTo_X4_isOn : GoodIn wsX4_sumUpTo (wsV RX4 41 RX4 yX4_isOn wsX4_isOn) := goodIn_app (goodIn_of _ (by decide +kernel)) ggX4_sumUpTo_X4_isOn
set_option maxRecDepth 20000 in
theorem ggX4_sumUpTo_X3_comesAhead : GoodIn wsX4_sumUpTo wsX3_comesAhead := goodIn_r _ [16, 17, 18, 32, 33, 34, 35, 36, 37] (by decide +kernel) (by decide +kernel)
set_option maxRecDepth 20000 in
theorem gX4_sumUpTo_X3_comesAhead : GoodIn wsX4_sumUpTo (wsV RX4 52 RX3 yX3_comesAhead wsX3_comesAhead) := goodIn_app (goodIn_of _ (by decide +kernel)) ggX4_sumUpTo_X3_comesAhead
theorem dX4_sumUpTo_0 : decode cX4_sumUpTo 0 = .ok (.aload_n 0, 1) := by decide +kernel
theorem dX4_sumUpTo_1 : decode cX4_sumUpTo 1 = .ok (.getfield 17, 3) := by decide +kernel
theorem dX4_sumUpTo_4 : decode cX4_sumUpTo 4 = .ok (.getfield 28, 3) := by decide +kernel
theorem dX4_sumUpTo_7 : decode cX4_sumUpTo 7 = .ok (.aload_n 1, 1) := by decide +kernel
theorem dX4_sumUpTo_8 : decode cX4_sumUpTo 8 = .ok (.getfield 34, 3) := by decide +kernel
theorem dX4_sumUpTo_11 : decode cX4_sumUpTo 11 = .ok (.iaload, 1) := by decide +kernel
theorem dX4_sumUpTo_12 : decode cX4_sumUpTo 12 = .ok (.istore_n 2, 1) := by decide +kernel
theorem dX4_sumUpTo_13 : decode cX4_sumUpTo 13 = .ok (.aload_n 1, 1) := by decide +kernel
theorem dX4_sumUpTo_14 : decode cX4_sumUpTo 14 = .ok (.getfield 45, 3) := by decide +kernel
theorem dX4_sumUpTo_17 : decode cX4_sumUpTo 17 = .ok (.istore_n 3, 1) := by decide +kernel
theorem dX4_sumUpTo_18 : decode cX4_sumUpTo 18 = .ok (.iconst 0, 1) := by decide +kernel
theorem dX4_sumUpTo_19 : decode cX4_sumUpTo 19 = .ok (.istore 4, 2) := by decide +kernel
theorem dX4_sumUpTo_21 : decode cX4_sumUpTo 21 = .ok (.iload 4, 2) := by decide +kernel
theorem dX4_sumUpTo_23 : decode cX4_sumUpTo 23 = .ok (.aload_n 0, 1) := by decide +kernel
theorem dX4_sumUpTo_24 : decode cX4_sumUpTo 24 = .ok (.getfield 21, 3) := by decide +kernel
theorem dX4_sumUpTo_27 : decode cX4_sumUpTo 27 = .ok (.if_icmp .ge 51, 3) := by decide +kernel
theorem dX4_sumUpTo_30 : decode cX4_sumUpTo 30 = .ok (.aload_n 0, 1) := by decide +kernel
theorem dX4_sumUpTo_31 : decode cX4_sumUpTo 31 = .ok (.aload_n 0, 1) := by decide +kernel
theorem dX4_sumUpTo_32 : decode cX4_sumUpTo 32 = .ok (.getfield 11, 3) := by decide +kernel
theorem dX4_sumUpTo_35 : decode cX4_sumUpTo 35 = .ok (.iload 4, 2) := by decide +kernel
theorem dX4_sumUpTo_37 : decode cX4_sumUpTo 37 = .ok (.aaload, 1) := by decide +kernel
theorem dX4_sumUpTo_38 : decode cX4_sumUpTo 38 = .ok (.iload_n 2, 1) := by decide +kernel
theorem dX4_sumUpTo_39 : decode cX4_sumUpTo 39 = .ok (.invokevirtual 41, 3) := by decide +kernel
theorem dX4_sumUpTo_42 : decode cX4_sumUpTo 42 = .ok (.ifCond .eq 30, 3) := by decide +kernel
theorem dX4_sumUpTo_45 : decode cX4_sumUpTo 45 = .ok (.aload_n 0, 1) := by decide +kernel
theorem dX4_sumUpTo_46 : decode cX4_sumUpTo 46 = .ok (.getfield 11, 3) := by decide +kernel
theorem dX4_sumUpTo_49 : decode cX4_sumUpTo 49 = .ok (.iload 4, 2) := by decide +kernel
theorem dX4_sumUpTo_51 : decode cX4_sumUpTo 51 = .ok (.aaload, 1) := by decide +kernel
theorem dX4_sumUpTo_52 : decode cX4_sumUpTo 52 = .ok (.aload_n 1, 1) := by decide +kernel
theorem dX4_sumUpTo_53 : decode cX4_sumUpTo 53 = .ok (.invokevirtual 52, 3) := by decide +kernel
theorem dX4_sumUpTo_56 : decode cX4_sumUpTo 56 = .ok (.ifCond .eq 16, 3) := by decide +kernel
theorem dX4_sumUpTo_59 : decode cX4_sumUpTo 59 = .ok (.iload_n 3, 1) := by decide +kernel
theorem dX4_sumUpTo_60 : decode cX4_sumUpTo 60 = .ok (.aload_n 0, 1) := by decide +kernel
theorem dX4_sumUpTo_61 : decode cX4_sumUpTo 61 = .ok (.getfield 11, 3) := by decide +kernel
theorem dX4_sumUpTo_64 : decode cX4_sumUpTo 64 = .ok (.iload 4, 2) := by decide +kernel
theorem dX4_sumUpTo_66 : decode cX4_sumUpTo 66 = .ok (.aaload, 1) := by decide +kernel
theorem dX4_sumUpTo_67 : decode cX4_sumUpTo 67 = .ok (.getfield 45, 3) := by decide +kernel
theorem dX4_sumUpTo_70 : decode cX4_sumUpTo 70 = .ok (.iadd, 1) := by decide +kernel
theorem dX4_sumUpTo_71 : decode cX4_sumUpTo 71 = .ok (.istore_n 3, 1) := by decide +kernel
theorem dX4_sumUpTo_72 : decode cX4_sumUpTo 72 = .ok (.iinc 4 1, 3) := by decide +kernel
theorem dX4_sumUpTo_75 : decode cX4_sumUpTo 75 = .ok (.goto (-54), 3) := by decide +kernel
theorem dX4_sumUpTo_78 : decode cX4_sumUpTo 78 = .ok (.iload_n 3, 1) := by decide +kernel
theorem dX4_sumUpTo_79 : decode cX4_sumUpTo 79 = .ok (.ireturn, 1) := by decide +kernel
set_option maxRecDepth 20000 in
theorem ggX4_firstUnkept_X4_isOn : GoodIn wsX4_firstUnkept wsX4_isOn := goodIn_r _ [7, 8, 9, 10, 27, 28, 29, 30, 31, 32, 33, 34, 35, 36, 37, 38, 39, 40, 41, 42, 43, 44, 45] (by decide +kernel) (by decide +kernel)
set_option maxRecDepth 20000 in
theorem gX4_firstUnkept_X4_isOn : GoodIn wsX4_firstUnkept (wsV RX4 41 RX4 yX4_isOn wsX4_isOn) := goodIn_app (goodIn_of _ (by decide +kernel)) ggX4_firstUnkept_X4_isOn
set_option maxRecDepth 20000 in
theorem ggX4_firstUnkept_X4_keeps : GoodIn wsX4_firstUnkept wsX4_keeps := goodIn_r _ [14, 15, 16, 17, 6, 18, 8, 9, 10, 19, 1, 2, 3, 4, 5, 7, 20, 21, 22, 23, 24, 25, 26, 27, 28, 29, 30, 31, 32, 33, 34, 35, 36, 37, 38, 39, 40, 41, 42, 43, 44, 45] (by decide +kernel) (by decide +kernel)
set_option maxRecDepth 20000 in
theorem gX4_firstUnkept_X4_keeps : GoodIn wsX4_firstUnkept (wsV RX4 56 RX4 yX4_keeps wsX4_keeps) := goodIn_app (goodIn_of _ (by decide +kernel)) ggX4_firstUnkept_X4_keeps
set_option maxRecDepth 20000 in
theorem ggX4_firstUnkept_X3_comesAhead : GoodIn wsX4_firstUnkept wsX3_comesAhead := goodIn_r _ [24, 25, 26, 40, 41, 42, 43, 44, 45] (by decide +kernel) (by decide +kernel)
set_option maxRecDepth 20000 in
theorem gX4_firstUnkept_X3_comesAhead : GoodIn wsX4_firstUnkept (wsV RX4 52 RX3 yX3_comesAhead wsX3_comesAhead) := goodIn_app (goodIn_of _ (by decide +kernel)) ggX4_firstUnkept_X3_comesAhead
theorem dX4_firstUnkept_0 : decode cX4_firstUnkept 0 = .ok (.iconst (-1), 1) := by decide +kernel
theorem dX4_firstUnkept_1 : decode cX4_firstUnkept 1 = .ok (.istore_n 3, 1) := by decide +kernel
theorem dX4_firstUnkept_2 : decode cX4_firstUnkept 2 = .ok (.iconst 0, 1) := by decide +kernel
theorem dX4_firstUnkept_3 : decode cX4_firstUnkept 3 = .ok (.istore 4, 2) := by decide +kernel
theorem dX4_firstUnkept_5 : decode cX4_firstUnkept 5 = .ok (.iload 4, 2) := by decide +kernel
theorem dX4_firstUnkept_7 : decode cX4_firstUnkept 7 = .ok (.aload_n 0, 1) := by decide +kernel
theorem dX4_firstUnkept_8 : decode cX4_firstUnkept 8 = .ok (.getfield 21, 3) := by decide +kernel
theorem dX4_firstUnkept_11 : decode cX4_firstUnkept 11 = .ok (.if_icmp .ge 60, 3) := by decide +kernel
theorem dX4_firstUnkept_14 : decode cX4_firstUnkept 14 = .ok (.aload_n 0, 1) := by decide +kernel
theorem dX4_firstUnkept_15 : decode cX4_firstUnkept 15 = .ok (.getfield 11, 3) := by decide +kernel
theorem dX4_firstUnkept_18 : decode cX4_firstUnkept 18 = .ok (.iload 4, 2) := by decide +kernel
theorem dX4_firstUnkept_20 : decode cX4_firstUnkept 20 = .ok (.aaload, 1) := by decide +kernel
theorem dX4_firstUnkept_21 : decode cX4_firstUnkept 21 = .ok (.astore 5, 2) := by decide +kernel
theorem dX4_firstUnkept_23 : decode cX4_firstUnkept 23 = .ok (.aload_n 0, 1) := by decide +kernel
theorem dX4_firstUnkept_24 : decode cX4_firstUnkept 24 = .ok (.aload 5, 2) := by decide +kernel
theorem dX4_firstUnkept_26 : decode cX4_firstUnkept 26 = .ok (.iload_n 1, 1) := by decide +kernel
theorem dX4_firstUnkept_27 : decode cX4_firstUnkept 27 = .ok (.invokevirtual 41, 3) := by decide +kernel
theorem dX4_firstUnkept_30 : decode cX4_firstUnkept 30 = .ok (.ifCond .eq 35, 3) := by decide +kernel
theorem dX4_firstUnkept_33 : decode cX4_firstUnkept 33 = .ok (.aload_n 0, 1) := by decide +kernel
theorem dX4_firstUnkept_34 : decode cX4_firstUnkept 34 = .ok (.aload 5, 2) := by decide +kernel
theorem dX4_firstUnkept_36 : decode cX4_firstUnkept 36 = .ok (.iload_n 2, 1) := by decide +kernel
theorem dX4_firstUnkept_37 : decode cX4_firstUnkept 37 = .ok (.invokevirtual 56, 3) := by decide +kernel
theorem dX4_firstUnkept_40 : decode cX4_firstUnkept 40 = .ok (.ifCond .ne 25, 3) := by decide +kernel
theorem dX4_firstUnkept_43 : decode cX4_firstUnkept 43 = .ok (.iload_n 3, 1) := by decide +kernel
theorem dX4_firstUnkept_44 : decode cX4_firstUnkept 44 = .ok (.iconst (-1), 1) := by decide +kernel
theorem dX4_firstUnkept_45 : decode cX4_firstUnkept 45 = .ok (.if_icmp .eq 17, 3) := by decide +kernel
theorem dX4_firstUnkept_48 : decode cX4_firstUnkept 48 = .ok (.aload 5, 2) := by decide +kernel
theorem dX4_firstUnkept_50 : decode cX4_firstUnkept 50 = .ok (.aload_n 0, 1) := by decide +kernel
theorem dX4_firstUnkept_51 : decode cX4_firstUnkept 51 = .ok (.getfield 11, 3) := by decide +kernel
theorem dX4_firstUnkept_54 : decode cX4_firstUnkept 54 = .ok (.iload_n 3, 1) := by decide +kernel
theorem dX4_firstUnkept_55 : decode cX4_firstUnkept 55 = .ok (.aaload, 1) := by decide +kernel
theorem dX4_firstUnkept_56 : decode cX4_firstUnkept 56 = .ok (.invokevirtual 52, 3) := by decide +kernel
theorem dX4_firstUnkept_59 : decode cX4_firstUnkept 59 = .ok (.ifCond .eq 6, 3) := by decide +kernel
theorem dX4_firstUnkept_62 : decode cX4_firstUnkept 62 = .ok (.iload 4, 2) := by decide +kernel
theorem dX4_firstUnkept_64 : decode cX4_firstUnkept 64 = .ok (.istore_n 3, 1) := by decide +kernel
theorem dX4_firstUnkept_65 : decode cX4_firstUnkept 65 = .ok (.iinc 4 1, 3) := by decide +kernel
theorem dX4_firstUnkept_68 : decode cX4_firstUnkept 68 = .ok (.goto (-63), 3) := by decide +kernel
theorem dX4_firstUnkept_71 : decode cX4_firstUnkept 71 = .ok (.iload_n 3, 1) := by decide +kernel
theorem dX4_firstUnkept_72 : decode cX4_firstUnkept 72 = .ok (.ireturn, 1) := by decide +kernel
set_option maxRecDepth 20000 in
theorem ggX4_countUnkeptAhead_X4_isOn : GoodIn wsX4_countUnkeptAhead wsX4_isOn := goodIn_r _ [10, 1, 2, 3, 27, 28, 29, 30, 31, 32, 33, 34, 35, 36, 37, 38, 39, 40, 41, 42, 43, 44, 45] (by decide +kernel) (by decide +kernel)
set_option maxRecDepth 20000 in
theorem gX4_countUnkeptAhead_X4_isOn : GoodIn wsX4_countUnkeptAhead (wsV RX4 41 RX4 yX4_isOn wsX4_isOn) := goodIn_app (goodIn_of _ (by decide +kernel)) ggX4_countUnkeptAhead_X4_isOn
set_option maxRecDepth 20000 in
theorem ggX4_countUnkeptAhead_X3_comesAhead : GoodIn wsX4_countUnkeptAhead wsX3_comesAhead := goodIn_r _ [15, 16, 17, 40, 41, 42, 43, 44, 45] (by decide +kernel) (by decide +kernel)
set_option maxRecDepth 20000 in
theorem gX4_countUnkeptAhead_X3_comesAhead : GoodIn wsX4_countUnkeptAhead (wsV RX4 52 RX3 yX3_comesAhead wsX3_comesAhead) := goodIn_app (goodIn_of _ (by decide +kernel)) ggX4_countUnkeptAhead_X3_comesAhead
set_option maxRecDepth 20000 in
theorem ggX4_countUnkeptAhead_X4_keeps : GoodIn wsX4_countUnkeptAhead wsX4_keeps := goodIn_r _ [21, 22, 23, 24, 9, 25, 1, 2, 3, 26, 4, 5, 6, 7, 8, 10, 11, 12, 13, 14, 15, 16, 17, 27, 28, 29, 30, 31, 32, 33, 34, 35, 36, 37, 38, 39, 40, 41, 42, 43, 44, 45] (by decide +kernel) (by decide +kernel)
set_option maxRecDepth 20000 in
theorem gX4_countUnkeptAhead_X4_keeps : GoodIn wsX4_countUnkeptAhead (wsV RX4 56 RX4 yX4_keeps wsX4_keeps) := goodIn_app (goodIn_of _ (by decide +kernel)) ggX4_countUnkeptAhead_X4_keeps
theorem dX4_countUnkeptAhead_0 : decode cX4_countUnkeptAhead 0 = .ok (.aload_n 0, 1) := by decide +kernel
theorem dX4_countUnkeptAhead_1 : decode cX4_countUnkeptAhead 1 = .ok (.getfield 17, 3) := by decide +kernel
theorem dX4_countUnkeptAhead_4 : decode cX4_countUnkeptAhead 4 = .ok (.getfield 28, 3) := by decide +kernel
theorem dX4_countUnkeptAhead_7 : decode cX4_countUnkeptAhead 7 = .ok (.aload_n 1, 1) := by decide +kernel
theorem dX4_countUnkeptAhead_8 : decode cX4_countUnkeptAhead 8 = .ok (.getfield 34, 3) := by decide +kernel
theorem dX4_countUnkeptAhead_11 : decode cX4_countUnkeptAhead 11 = .ok (.iaload, 1) := by decide +kernel
theorem dX4_countUnkeptAhead_12 : decode cX4_countUnkeptAhead 12 = .ok (.istore_n 3, 1) := by decide +kernel
theorem dX4_countUnkeptAhead_13 : decode cX4_countUnkeptAhead 13 = .ok (.iconst 0, 1) := by decide +kernel
theorem dX4_countUnkeptAhead_14 : decode cX4_countUnkeptAhead 14 = .ok (.istore 4, 2) := by decide +kernel
theorem dX4_countUnkeptAhead_16 : decode cX4_countUnkeptAhead 16 = .ok (.iconst 0, 1) := by decide +kernel
theorem dX4_countUnkeptAhead_17 : decode cX4_countUnkeptAhead 17 = .ok (.istore 5, 2) := by decide +kernel
theorem dX4_countUnkeptAhead_19 : decode cX4_countUnkeptAhead 19 = .ok (.iload 5, 2) := by decide +kernel
theorem dX4_countUnkeptAhead_21 : decode cX4_countUnkeptAhead 21 = .ok (.aload_n 0, 1) := by decide +kernel
theorem dX4_countUnkeptAhead_22 : decode cX4_countUnkeptAhead 22 = .ok (.getfield 21, 3) := by decide +kernel
theorem dX4_countUnkeptAhead_25 : decode cX4_countUnkeptAhead 25 = .ok (.if_icmp .ge 50, 3) := by decide +kernel
theorem dX4_countUnkeptAhead_28 : decode cX4_countUnkeptAhead 28 = .ok (.aload_n 0, 1) := by decide +kernel
theorem dX4_countUnkeptAhead_29 : decode cX4_countUnkeptAhead 29 = .ok (.getfield 11, 3) := by decide +kernel
theorem dX4_countUnkeptAhead_32 : decode cX4_countUnkeptAhead 32 = .ok (.iload 5, 2) := by decide +kernel
theorem dX4_countUnkeptAhead_34 : decode cX4_countUnkeptAhead 34 = .ok (.aaload, 1) := by decide +kernel
theorem dX4_countUnkeptAhead_35 : decode cX4_countUnkeptAhead 35 = .ok (.astore 6, 2) := by decide +kernel
theorem dX4_countUnkeptAhead_37 : decode cX4_countUnkeptAhead 37 = .ok (.aload_n 0, 1) := by decide +kernel
theorem dX4_countUnkeptAhead_38 : decode cX4_countUnkeptAhead 38 = .ok (.aload 6, 2) := by decide +kernel
theorem dX4_countUnkeptAhead_40 : decode cX4_countUnkeptAhead 40 = .ok (.iload_n 3, 1) := by decide +kernel
theorem dX4_countUnkeptAhead_41 : decode cX4_countUnkeptAhead 41 = .ok (.invokevirtual 41, 3) := by decide +kernel
theorem dX4_countUnkeptAhead_44 : decode cX4_countUnkeptAhead 44 = .ok (.ifCond .eq 25, 3) := by decide +kernel
theorem dX4_countUnkeptAhead_47 : decode cX4_countUnkeptAhead 47 = .ok (.aload 6, 2) := by decide +kernel
theorem dX4_countUnkeptAhead_49 : decode cX4_countUnkeptAhead 49 = .ok (.aload_n 1, 1) := by decide +kernel
theorem dX4_countUnkeptAhead_50 : decode cX4_countUnkeptAhead 50 = .ok (.invokevirtual 52, 3) := by decide +kernel
theorem dX4_countUnkeptAhead_53 : decode cX4_countUnkeptAhead 53 = .ok (.ifCond .eq 16, 3) := by decide +kernel
theorem dX4_countUnkeptAhead_56 : decode cX4_countUnkeptAhead 56 = .ok (.aload_n 0, 1) := by decide +kernel
theorem dX4_countUnkeptAhead_57 : decode cX4_countUnkeptAhead 57 = .ok (.aload 6, 2) := by decide +kernel
theorem dX4_countUnkeptAhead_59 : decode cX4_countUnkeptAhead 59 = .ok (.iload_n 2, 1) := by decide +kernel
theorem dX4_countUnkeptAhead_60 : decode cX4_countUnkeptAhead 60 = .ok (.invokevirtual 56, 3) := by decide +kernel
theorem dX4_countUnkeptAhead_63 : decode cX4_countUnkeptAhead 63 = .ok (.ifCond .ne 6, 3) := by decide +kernel
theorem dX4_countUnkeptAhead_66 : decode cX4_countUnkeptAhead 66 = .ok (.iinc 4 1, 3) := by decide +kernel
theorem dX4_countUnkeptAhead_69 : decode cX4_countUnkeptAhead 69 = .ok (.iinc 5 1, 3) := by decide +kernel
theorem dX4_countUnkeptAhead_72 : decode cX4_countUnkeptAhead 72 = .ok (.goto (-53), 3) := by decide +kernel
theorem dX4_countUnkeptAhead_75 : decode cX4_countUnkeptAhead 75 = .ok (.iload 4, 2) := by decide +kernel
theorem dX4_countUnkeptAhead_77 : decode cX4_countUnkeptAhead 77 = .ok (.ireturn, 1) := by decide +kernel
set_option maxRecDepth 20000 in
theorem ggX4_shed_X4_isOn : GoodIn wsX4_shed wsX4_isOn := goodIn_r _ [7, 8, 9, 10, 33, 34, 35, 36, 37, 38, 39, 40, 41, 42, 43, 44, 45, 46, 47, 48, 49, 50, 51] (by decide +kernel) (by decide +kernel)
set_option maxRecDepth 20000 in
theorem gX4_shed_X4_isOn : GoodIn wsX4_shed (wsV RX4 41 RX4 yX4_isOn wsX4_isOn) := goodIn_app (goodIn_of _ (by decide +kernel)) ggX4_shed_X4_isOn
set_option maxRecDepth 20000 in
theorem ggX4_shed_X4_keeps : GoodIn wsX4_shed wsX4_keeps := goodIn_r _ [14, 15, 16, 17, 6, 18, 8, 9, 10, 19, 1, 2, 3, 4, 5, 7, 20, 21, 22, 23, 24, 25, 26, 33, 34, 35, 36, 37, 38, 39, 40, 41, 42, 43, 44, 45, 46, 47, 48, 49, 50, 51] (by decide +kernel) (by decide +kernel)
set_option maxRecDepth 20000 in
theorem gX4_shed_X4_keeps : GoodIn wsX4_shed (wsV RX4 56 RX4 yX4_keeps wsX4_keeps) := goodIn_app (goodIn_of _ (by decide +kernel)) ggX4_shed_X4_keeps
set_option maxRecDepth 20000 in
theorem ggX4_shed_X3_update : GoodIn wsX4_shed wsX3_update := goodIn_r _ [30, 31, 32, 46, 47, 48, 49, 50, 51] (by decide +kernel) (by decide +kernel)
set_option maxRecDepth 20000 in
theorem gX4_shed_X3_update : GoodIn wsX4_shed (wsV RX4 59 RX3 yX3_update wsX3_update) := goodIn_app (goodIn_of _ (by decide +kernel)) ggX4_shed_X3_update
theorem dX4_shed_0 : decode cX4_shed 0 = .ok (.iconst 0, 1) := by decide +kernel
theorem dX4_shed_1 : decode cX4_shed 1 = .ok (.istore 4, 2) := by decide +kernel
theorem dX4_shed_3 : decode cX4_shed 3 = .ok (.iload 4, 2) := by decide +kernel
theorem dX4_shed_5 : decode cX4_shed 5 = .ok (.aload_n 0, 1) := by decide +kernel
theorem dX4_shed_6 : decode cX4_shed 6 = .ok (.getfield 21, 3) := by decide +kernel
theorem dX4_shed_9 : decode cX4_shed 9 = .ok (.if_icmp .ge 47, 3) := by decide +kernel
theorem dX4_shed_12 : decode cX4_shed 12 = .ok (.aload_n 0, 1) := by decide +kernel
theorem dX4_shed_13 : decode cX4_shed 13 = .ok (.aload_n 0, 1) := by decide +kernel
theorem dX4_shed_14 : decode cX4_shed 14 = .ok (.getfield 11, 3) := by decide +kernel
theorem dX4_shed_17 : decode cX4_shed 17 = .ok (.iload 4, 2) := by decide +kernel
theorem dX4_shed_19 : decode cX4_shed 19 = .ok (.aaload, 1) := by decide +kernel
theorem dX4_shed_20 : decode cX4_shed 20 = .ok (.iload_n 1, 1) := by decide +kernel
theorem dX4_shed_21 : decode cX4_shed 21 = .ok (.invokevirtual 41, 3) := by decide +kernel
theorem dX4_shed_24 : decode cX4_shed 24 = .ok (.ifCond .eq 26, 3) := by decide +kernel
theorem dX4_shed_27 : decode cX4_shed 27 = .ok (.aload_n 0, 1) := by decide +kernel
theorem dX4_shed_28 : decode cX4_shed 28 = .ok (.getfield 11, 3) := by decide +kernel
theorem dX4_shed_31 : decode cX4_shed 31 = .ok (.iload 4, 2) := by decide +kernel
theorem dX4_shed_33 : decode cX4_shed 33 = .ok (.aaload, 1) := by decide +kernel
theorem dX4_shed_34 : decode cX4_shed 34 = .ok (.aload_n 0, 1) := by decide +kernel
theorem dX4_shed_35 : decode cX4_shed 35 = .ok (.aload_n 0, 1) := by decide +kernel
theorem dX4_shed_36 : decode cX4_shed 36 = .ok (.getfield 11, 3) := by decide +kernel
theorem dX4_shed_39 : decode cX4_shed 39 = .ok (.iload 4, 2) := by decide +kernel
theorem dX4_shed_41 : decode cX4_shed 41 = .ok (.aaload, 1) := by decide +kernel
theorem dX4_shed_42 : decode cX4_shed 42 = .ok (.iload_n 2, 1) := by decide +kernel
theorem dX4_shed_43 : decode cX4_shed 43 = .ok (.invokevirtual 56, 3) := by decide +kernel
theorem dX4_shed_46 : decode cX4_shed 46 = .ok (.iload_n 3, 1) := by decide +kernel
theorem dX4_shed_47 : decode cX4_shed 47 = .ok (.invokevirtual 59, 3) := by decide +kernel
theorem dX4_shed_50 : decode cX4_shed 50 = .ok (.iinc 4 1, 3) := by decide +kernel
theorem dX4_shed_53 : decode cX4_shed 53 = .ok (.goto (-50), 3) := by decide +kernel
theorem dX4_shed_56 : decode cX4_shed 56 = .ok (.return_, 1) := by decide +kernel
theorem dX5_init_0 : decode cX5_init 0 = .ok (.aload_n 0, 1) := by decide +kernel
theorem dX5_init_1 : decode cX5_init 1 = .ok (.invokespecial 3, 3) := by decide +kernel
theorem dX5_init_4 : decode cX5_init 4 = .ok (.aload_n 0, 1) := by decide +kernel
theorem dX5_init_5 : decode cX5_init 5 = .ok (.bipush 6, 2) := by decide +kernel
theorem dX5_init_7 : decode cX5_init 7 = .ok (.newarray .int, 2) := by decide +kernel
theorem dX5_init_9 : decode cX5_init 9 = .ok (.putfield 9, 3) := by decide +kernel
theorem dX5_init_12 : decode cX5_init 12 = .ok (.aload_n 0, 1) := by decide +kernel
theorem dX5_init_13 : decode cX5_init 13 = .ok (.bipush 6, 2) := by decide +kernel
theorem dX5_init_15 : decode cX5_init 15 = .ok (.newarray .int, 2) := by decide +kernel
theorem dX5_init_17 : decode cX5_init 17 = .ok (.putfield 15, 3) := by decide +kernel
theorem dX5_init_20 : decode cX5_init 20 = .ok (.aload_n 0, 1) := by decide +kernel
theorem dX5_init_21 : decode cX5_init 21 = .ok (.bipush 8, 2) := by decide +kernel
theorem dX5_init_23 : decode cX5_init 23 = .ok (.newarray .int, 2) := by decide +kernel
theorem dX5_init_25 : decode cX5_init 25 = .ok (.putfield 18, 3) := by decide +kernel
theorem dX5_init_28 : decode cX5_init 28 = .ok (.aload_n 0, 1) := by decide +kernel
theorem dX5_init_29 : decode cX5_init 29 = .ok (.bipush 8, 2) := by decide +kernel
theorem dX5_init_31 : decode cX5_init 31 = .ok (.newarray .int, 2) := by decide +kernel
theorem dX5_init_33 : decode cX5_init 33 = .ok (.putfield 21, 3) := by decide +kernel
theorem dX5_init_36 : decode cX5_init 36 = .ok (.aload_n 0, 1) := by decide +kernel
theorem dX5_init_37 : decode cX5_init 37 = .ok (.bipush 8, 2) := by decide +kernel
theorem dX5_init_39 : decode cX5_init 39 = .ok (.newarray .boolean, 2) := by decide +kernel
theorem dX5_init_41 : decode cX5_init 41 = .ok (.putfield 24, 3) := by decide +kernel
theorem dX5_init_44 : decode cX5_init 44 = .ok (.aload_n 0, 1) := by decide +kernel
theorem dX5_init_45 : decode cX5_init 45 = .ok (.bipush 6, 2) := by decide +kernel
theorem dX5_init_47 : decode cX5_init 47 = .ok (.newarray .int, 2) := by decide +kernel
theorem dX5_init_49 : decode cX5_init 49 = .ok (.putfield 28, 3) := by decide +kernel
theorem dX5_init_52 : decode cX5_init 52 = .ok (.aload_n 0, 1) := by decide +kernel
theorem dX5_init_53 : decode cX5_init 53 = .ok (.bipush 6, 2) := by decide +kernel
theorem dX5_init_55 : decode cX5_init 55 = .ok (.newarray .int, 2) := by decide +kernel
theorem dX5_init_57 : decode cX5_init 57 = .ok (.putfield 31, 3) := by decide +kernel
theorem dX5_init_60 : decode cX5_init 60 = .ok (.return_, 1) := by decide +kernel
set_option maxRecDepth 20000 in
theorem ggX5_putSite_X5_findIslands : GoodIn wsX5_putSite wsX5_findIslands := goodIn_r _ [6, 1, 7, 8, 9, 10, 5, 11, 12, 13, 14, 15, 16, 17, 18, 19, 20, 21, 22, 23, 24, 25, 26, 27, 28, 29, 30] (by decide +kernel) (by decide +kernel)
set_option maxRecDepth 20000 in
theorem gX5_putSite_X5_findIslands : GoodIn wsX5_putSite (wsV RX5 38 RX5 yX5_findIslands wsX5_findIslands) := goodIn_app (goodIn_of _ (by decide +kernel)) ggX5_putSite_X5_findIslands
theorem dX5_putSite_0 : decode cX5_putSite 0 = .ok (.aload_n 0, 1) := by decide +kernel
theorem dX5_putSite_1 : decode cX5_putSite 1 = .ok (.getfield 34, 3) := by decide +kernel
theorem dX5_putSite_4 : decode cX5_putSite 4 = .ok (.istore_n 1, 1) := by decide +kernel
theorem dX5_putSite_5 : decode cX5_putSite 5 = .ok (.aload_n 0, 1) := by decide +kernel
theorem dX5_putSite_6 : decode cX5_putSite 6 = .ok (.dup, 1) := by decide +kernel
theorem dX5_putSite_7 : decode cX5_putSite 7 = .ok (.getfield 34, 3) := by decide +kernel
theorem dX5_putSite_10 : decode cX5_putSite 10 = .ok (.iconst 1, 1) := by decide +kernel
theorem dX5_putSite_11 : decode cX5_putSite 11 = .ok (.iadd, 1) := by decide +kernel
theorem dX5_putSite_12 : decode cX5_putSite 12 = .ok (.putfield 34, 3) := by decide +kernel
theorem dX5_putSite_15 : decode cX5_putSite 15 = .ok (.aload_n 0, 1) := by decide +kernel
theorem dX5_putSite_16 : decode cX5_putSite 16 = .ok (.invokevirtual 38, 3) := by decide +kernel
theorem dX5_putSite_19 : decode cX5_putSite 19 = .ok (.iload_n 1, 1) := by decide +kernel
theorem dX5_putSite_20 : decode cX5_putSite 20 = .ok (.ireturn, 1) := by decide +kernel
theorem dX5_putLine_0 : decode cX5_putLine 0 = .ok (.aload_n 0, 1) := by decide +kernel
theorem dX5_putLine_1 : decode cX5_putLine 1 = .ok (.getfield 41, 3) := by decide +kernel
theorem dX5_putLine_4 : decode cX5_putLine 4 = .ok (.istore_n 3, 1) := by decide +kernel
theorem dX5_putLine_5 : decode cX5_putLine 5 = .ok (.aload_n 0, 1) := by decide +kernel
theorem dX5_putLine_6 : decode cX5_putLine 6 = .ok (.getfield 18, 3) := by decide +kernel
theorem dX5_putLine_9 : decode cX5_putLine 9 = .ok (.iload_n 3, 1) := by decide +kernel
theorem dX5_putLine_10 : decode cX5_putLine 10 = .ok (.iload_n 1, 1) := by decide +kernel
theorem dX5_putLine_11 : decode cX5_putLine 11 = .ok (.iastore, 1) := by decide +kernel
theorem dX5_putLine_12 : decode cX5_putLine 12 = .ok (.aload_n 0, 1) := by decide +kernel
theorem dX5_putLine_13 : decode cX5_putLine 13 = .ok (.getfield 21, 3) := by decide +kernel
theorem dX5_putLine_16 : decode cX5_putLine 16 = .ok (.iload_n 3, 1) := by decide +kernel
theorem dX5_putLine_17 : decode cX5_putLine 17 = .ok (.iload_n 2, 1) := by decide +kernel
theorem dX5_putLine_18 : decode cX5_putLine 18 = .ok (.iastore, 1) := by decide +kernel
theorem dX5_putLine_19 : decode cX5_putLine 19 = .ok (.aload_n 0, 1) := by decide +kernel
theorem dX5_putLine_20 : decode cX5_putLine 20 = .ok (.dup, 1) := by decide +kernel
theorem dX5_putLine_21 : decode cX5_putLine 21 = .ok (.getfield 41, 3) := by decide +kernel
theorem dX5_putLine_24 : decode cX5_putLine 24 = .ok (.iconst 1, 1) := by decide +kernel
theorem dX5_putLine_25 : decode cX5_putLine 25 = .ok (.iadd, 1) := by decide +kernel
theorem dX5_putLine_26 : decode cX5_putLine 26 = .ok (.putfield 41, 3) := by decide +kernel
theorem dX5_putLine_29 : decode cX5_putLine 29 = .ok (.iload_n 3, 1) := by decide +kernel
theorem dX5_putLine_30 : decode cX5_putLine 30 = .ok (.ireturn, 1) := by decide +kernel
set_option maxRecDepth 20000 in
theorem ggX5_setClosed_X5_findIslands : GoodIn wsX5_setClosed wsX5_findIslands := goodIn_r _ [6, 7, 8, 9, 10, 11, 5, 12, 13, 14, 15, 16, 17, 18, 1, 19, 20, 21, 22, 23, 24, 25, 26, 27, 28, 29, 30] (by decide +kernel) (by decide +kernel)
set_option maxRecDepth 20000 in
theorem gX5_setClosed_X5_findIslands : GoodIn wsX5_setClosed (wsV RX5 38 RX5 yX5_findIslands wsX5_findIslands) := goodIn_app (goodIn_of _ (by decide +kernel)) ggX5_setClosed_X5_findIslands
theorem dX5_setClosed_0 : decode cX5_setClosed 0 = .ok (.aload_n 0, 1) := by decide +kernel
theorem dX5_setClosed_1 : decode cX5_setClosed 1 = .ok (.getfield 24, 3) := by decide +kernel
theorem dX5_setClosed_4 : decode cX5_setClosed 4 = .ok (.iload_n 1, 1) := by decide +kernel
theorem dX5_setClosed_5 : decode cX5_setClosed 5 = .ok (.iload_n 2, 1) := by decide +kernel
theorem dX5_setClosed_6 : decode cX5_setClosed 6 = .ok (.bastore, 1) := by decide +kernel
theorem dX5_setClosed_7 : decode cX5_setClosed 7 = .ok (.aload_n 0, 1) := by decide +kernel
theorem dX5_setClosed_8 : decode cX5_setClosed 8 = .ok (.invokevirtual 38, 3) := by decide +kernel
theorem dX5_setClosed_11 : decode cX5_setClosed 11 = .ok (.return_, 1) := by decide +kernel
set_option maxRecDepth 20000 in
theorem ggX5_findIslands_X5_goFrom : GoodIn wsX5_findIslands wsX5_goFrom := goodIn_r _ [7, 2, 8, 1, 9, 10, 11, 12, 6, 13, 14, 15, 16, 17, 18, 19, 20, 21, 22, 23, 24, 25, 26] (by decide +kernel) (by decide +kernel)
set_option maxRecDepth 20000 in
theorem gX5_findIslands_X5_goFrom : GoodIn wsX5_findIslands (wsV RX5 44 RX5 yX5_goFrom wsX5_goFrom) := goodIn_app (goodIn_of _ (by decide +kernel)) ggX5_findIslands_X5_goFrom
theorem dX5_findIslands_0 : decode cX5_findIslands 0 = .ok (.iconst 0, 1) := by decide +kernel
theorem dX5_findIslands_1 : decode cX5_findIslands 1 = .ok (.istore_n 1, 1) := by decide +kernel
theorem dX5_findIslands_2 : decode cX5_findIslands 2 = .ok (.iload_n 1, 1) := by decide +kernel
theorem dX5_findIslands_3 : decode cX5_findIslands 3 = .ok (.aload_n 0, 1) := by decide +kernel
theorem dX5_findIslands_4 : decode cX5_findIslands 4 = .ok (.getfield 34, 3) := by decide +kernel
theorem dX5_findIslands_7 : decode cX5_findIslands 7 = .ok (.if_icmp .ge 16, 3) := by decide +kernel
theorem dX5_findIslands_10 : decode cX5_findIslands 10 = .ok (.aload_n 0, 1) := by decide +kernel
theorem dX5_findIslands_11 : decode cX5_findIslands 11 = .ok (.getfield 15, 3) := by decide +kernel
theorem dX5_findIslands_14 : decode cX5_findIslands 14 = .ok (.iload_n 1, 1) := by decide +kernel
theorem dX5_findIslands_15 : decode cX5_findIslands 15 = .ok (.iconst (-1), 1) := by decide +kernel
theorem dX5_findIslands_16 : decode cX5_findIslands 16 = .ok (.iastore, 1) := by decide +kernel
theorem dX5_findIslands_17 : decode cX5_findIslands 17 = .ok (.iinc 1 1, 3) := by decide +kernel
theorem dX5_findIslands_20 : decode cX5_findIslands 20 = .ok (.goto (-18), 3) := by decide +kernel
theorem dX5_findIslands_23 : decode cX5_findIslands 23 = .ok (.iconst 0, 1) := by decide +kernel
theorem dX5_findIslands_24 : decode cX5_findIslands 24 = .ok (.istore_n 1, 1) := by decide +kernel
theorem dX5_findIslands_25 : decode cX5_findIslands 25 = .ok (.iload_n 1, 1) := by decide +kernel
theorem dX5_findIslands_26 : decode cX5_findIslands 26 = .ok (.aload_n 0, 1) := by decide +kernel
theorem dX5_findIslands_27 : decode cX5_findIslands 27 = .ok (.getfield 34, 3) := by decide +kernel
theorem dX5_findIslands_30 : decode cX5_findIslands 30 = .ok (.if_icmp .ge 24, 3) := by decide +kernel
theorem dX5_findIslands_33 : decode cX5_findIslands 33 = .ok (.aload_n 0, 1) := by decide +kernel
theorem dX5_findIslands_34 : decode cX5_findIslands 34 = .ok (.getfield 15, 3) := by decide +kernel
theorem dX5_findIslands_37 : decode cX5_findIslands 37 = .ok (.iload_n 1, 1) := by decide +kernel
theorem dX5_findIslands_38 : decode cX5_findIslands 38 = .ok (.iaload, 1) := by decide +kernel
theorem dX5_findIslands_39 : decode cX5_findIslands 39 = .ok (.iconst (-1), 1) := by decide +kernel
theorem dX5_findIslands_40 : decode cX5_findIslands 40 = .ok (.if_icmp .ne 8, 3) := by decide +kernel
theorem dX5_findIslands_43 : decode cX5_findIslands 43 = .ok (.aload_n 0, 1) := by decide +kernel
theorem dX5_findIslands_44 : decode cX5_findIslands 44 = .ok (.iload_n 1, 1) := by decide +kernel
theorem dX5_findIslands_45 : decode cX5_findIslands 45 = .ok (.invokevirtual 44, 3) := by decide +kernel
theorem dX5_findIslands_48 : decode cX5_findIslands 48 = .ok (.iinc 1 1, 3) := by decide +kernel
theorem dX5_findIslands_51 : decode cX5_findIslands 51 = .ok (.goto (-26), 3) := by decide +kernel
theorem dX5_findIslands_54 : decode cX5_findIslands 54 = .ok (.return_, 1) := by decide +kernel
set_option maxRecDepth 20000 in
theorem ggX5_goFrom_X5_acrossFrom : GoodIn wsX5_goFrom wsX5_acrossFrom := goodIn_r _ [9, 10, 11, 12, 13, 14, 15, 16, 17, 18, 19, 20, 21, 22] (by decide +kernel) (by decide +kernel)
set_option maxRecDepth 20000 in
theorem gX5_goFrom_X5_acrossFrom : GoodIn wsX5_goFrom (wsV RX5 48 RX5 yX5_acrossFrom wsX5_acrossFrom) := goodIn_app (goodIn_of _ (by decide +kernel)) ggX5_goFrom_X5_acrossFrom
theorem dX5_goFrom_0 : decode cX5_goFrom 0 = .ok (.aload_n 0, 1) := by decide +kernel
theorem dX5_goFrom_1 : decode cX5_goFrom 1 = .ok (.getfield 15, 3) := by decide +kernel
theorem dX5_goFrom_4 : decode cX5_goFrom 4 = .ok (.iload_n 1, 1) := by decide +kernel
theorem dX5_goFrom_5 : decode cX5_goFrom 5 = .ok (.iload_n 1, 1) := by decide +kernel
theorem dX5_goFrom_6 : decode cX5_goFrom 6 = .ok (.iastore, 1) := by decide +kernel
theorem dX5_goFrom_7 : decode cX5_goFrom 7 = .ok (.aload_n 0, 1) := by decide +kernel
theorem dX5_goFrom_8 : decode cX5_goFrom 8 = .ok (.getfield 28, 3) := by decide +kernel
theorem dX5_goFrom_11 : decode cX5_goFrom 11 = .ok (.iconst 0, 1) := by decide +kernel
theorem dX5_goFrom_12 : decode cX5_goFrom 12 = .ok (.iload_n 1, 1) := by decide +kernel
theorem dX5_goFrom_13 : decode cX5_goFrom 13 = .ok (.iastore, 1) := by decide +kernel
theorem dX5_goFrom_14 : decode cX5_goFrom 14 = .ok (.iconst 1, 1) := by decide +kernel
theorem dX5_goFrom_15 : decode cX5_goFrom 15 = .ok (.istore_n 2, 1) := by decide +kernel
theorem dX5_goFrom_16 : decode cX5_goFrom 16 = .ok (.iconst 0, 1) := by decide +kernel
theorem dX5_goFrom_17 : decode cX5_goFrom 17 = .ok (.istore_n 3, 1) := by decide +kernel
theorem dX5_goFrom_18 : decode cX5_goFrom 18 = .ok (.iload_n 3, 1) := by decide +kernel
theorem dX5_goFrom_19 : decode cX5_goFrom 19 = .ok (.iload_n 2, 1) := by decide +kernel
theorem dX5_goFrom_20 : decode cX5_goFrom 20 = .ok (.if_icmp .ge 89, 3) := by decide +kernel
theorem dX5_goFrom_23 : decode cX5_goFrom 23 = .ok (.iload_n 3, 1) := by decide +kernel
theorem dX5_goFrom_24 : decode cX5_goFrom 24 = .ok (.aload_n 0, 1) := by decide +kernel
theorem dX5_goFrom_25 : decode cX5_goFrom 25 = .ok (.getfield 34, 3) := by decide +kernel
theorem dX5_goFrom_28 : decode cX5_goFrom 28 = .ok (.if_icmp .ge 81, 3) := by decide +kernel
theorem dX5_goFrom_31 : decode cX5_goFrom 31 = .ok (.aload_n 0, 1) := by decide +kernel
theorem dX5_goFrom_32 : decode cX5_goFrom 32 = .ok (.getfield 28, 3) := by decide +kernel
theorem dX5_goFrom_35 : decode cX5_goFrom 35 = .ok (.iload_n 3, 1) := by decide +kernel
theorem dX5_goFrom_36 : decode cX5_goFrom 36 = .ok (.iaload, 1) := by decide +kernel
theorem dX5_goFrom_37 : decode cX5_goFrom 37 = .ok (.istore 4, 2) := by decide +kernel
theorem dX5_goFrom_39 : decode cX5_goFrom 39 = .ok (.iconst 0, 1) := by decide +kernel
theorem dX5_goFrom_40 : decode cX5_goFrom 40 = .ok (.istore 5, 2) := by decide +kernel
theorem dX5_goFrom_42 : decode cX5_goFrom 42 = .ok (.iload 5, 2) := by decide +kernel
theorem dX5_goFrom_44 : decode cX5_goFrom 44 = .ok (.aload_n 0, 1) := by decide +kernel
theorem dX5_goFrom_45 : decode cX5_goFrom 45 = .ok (.getfield 41, 3) := by decide +kernel
theorem dX5_goFrom_48 : decode cX5_goFrom 48 = .ok (.if_icmp .ge 55, 3) := by decide +kernel
theorem dX5_goFrom_51 : decode cX5_goFrom 51 = .ok (.aload_n 0, 1) := by decide +kernel
theorem dX5_goFrom_52 : decode cX5_goFrom 52 = .ok (.iload 4, 2) := by decide +kernel
theorem dX5_goFrom_54 : decode cX5_goFrom 54 = .ok (.iload 5, 2) := by decide +kernel
theorem dX5_goFrom_56 : decode cX5_goFrom 56 = .ok (.invokevirtual 48, 3) := by decide +kernel
theorem dX5_goFrom_59 : decode cX5_goFrom 59 = .ok (.istore 6, 2) := by decide +kernel
theorem dX5_goFrom_61 : decode cX5_goFrom 61 = .ok (.iload 6, 2) := by decide +kernel
theorem dX5_goFrom_63 : decode cX5_goFrom 63 = .ok (.iconst (-1), 1) := by decide +kernel
theorem dX5_goFrom_64 : decode cX5_goFrom 64 = .ok (.if_icmp .eq 33, 3) := by decide +kernel
theorem dX5_goFrom_67 : decode cX5_goFrom 67 = .ok (.aload_n 0, 1) := by decide +kernel
theorem dX5_goFrom_68 : decode cX5_goFrom 68 = .ok (.getfield 15, 3) := by decide +kernel
theorem dX5_goFrom_71 : decode cX5_goFrom 71 = .ok (.iload 6, 2) := by decide +kernel
theorem dX5_goFrom_73 : decode cX5_goFrom 73 = .ok (.iaload, 1) := by decide +kernel
theorem dX5_goFrom_74 : decode cX5_goFrom 74 = .ok (.iconst (-1), 1) := by decide +kernel
theorem dX5_goFrom_75 : decode cX5_goFrom 75 = .ok (.if_icmp .ne 22, 3) := by decide +kernel
theorem dX5_goFrom_78 : decode cX5_goFrom 78 = .ok (.aload_n 0, 1) := by decide +kernel
theorem dX5_goFrom_79 : decode cX5_goFrom 79 = .ok (.getfield 15, 3) := by decide +kernel
theorem dX5_goFrom_82 : decode cX5_goFrom 82 = .ok (.iload 6, 2) := by decide +kernel
theorem dX5_goFrom_84 : decode cX5_goFrom 84 = .ok (.iload_n 1, 1) := by decide +kernel
theorem dX5_goFrom_85 : decode cX5_goFrom 85 = .ok (.iastore, 1) := by decide +kernel
theorem dX5_goFrom_86 : decode cX5_goFrom 86 = .ok (.aload_n 0, 1) := by decide +kernel
theorem dX5_goFrom_87 : decode cX5_goFrom 87 = .ok (.getfield 28, 3) := by decide +kernel
theorem dX5_goFrom_90 : decode cX5_goFrom 90 = .ok (.iload_n 2, 1) := by decide +kernel
theorem dX5_goFrom_91 : decode cX5_goFrom 91 = .ok (.iload 6, 2) := by decide +kernel
theorem dX5_goFrom_93 : decode cX5_goFrom 93 = .ok (.iastore, 1) := by decide +kernel
theorem dX5_goFrom_94 : decode cX5_goFrom 94 = .ok (.iinc 2 1, 3) := by decide +kernel
theorem dX5_goFrom_97 : decode cX5_goFrom 97 = .ok (.iinc 5 1, 3) := by decide +kernel
theorem dX5_goFrom_100 : decode cX5_goFrom 100 = .ok (.goto (-58), 3) := by decide +kernel
theorem dX5_goFrom_103 : decode cX5_goFrom 103 = .ok (.iinc 3 1, 3) := by decide +kernel
theorem dX5_goFrom_106 : decode cX5_goFrom 106 = .ok (.goto (-88), 3) := by decide +kernel
theorem dX5_goFrom_109 : decode cX5_goFrom 109 = .ok (.return_, 1) := by decide +kernel
theorem dX5_acrossFrom_0 : decode cX5_acrossFrom 0 = .ok (.aload_n 0, 1) := by decide +kernel
theorem dX5_acrossFrom_1 : decode cX5_acrossFrom 1 = .ok (.getfield 24, 3) := by decide +kernel
theorem dX5_acrossFrom_4 : decode cX5_acrossFrom 4 = .ok (.iload_n 2, 1) := by decide +kernel
theorem dX5_acrossFrom_5 : decode cX5_acrossFrom 5 = .ok (.baload, 1) := by decide +kernel
theorem dX5_acrossFrom_6 : decode cX5_acrossFrom 6 = .ok (.ifCond .ne 5, 3) := by decide +kernel
theorem dX5_acrossFrom_9 : decode cX5_acrossFrom 9 = .ok (.iconst (-1), 1) := by decide +kernel
theorem dX5_acrossFrom_10 : decode cX5_acrossFrom 10 = .ok (.ireturn, 1) := by decide +kernel
theorem dX5_acrossFrom_11 : decode cX5_acrossFrom 11 = .ok (.aload_n 0, 1) := by decide +kernel
theorem dX5_acrossFrom_12 : decode cX5_acrossFrom 12 = .ok (.getfield 18, 3) := by decide +kernel
theorem dX5_acrossFrom_15 : decode cX5_acrossFrom 15 = .ok (.iload_n 2, 1) := by decide +kernel
theorem dX5_acrossFrom_16 : decode cX5_acrossFrom 16 = .ok (.iaload, 1) := by decide +kernel
theorem dX5_acrossFrom_17 : decode cX5_acrossFrom 17 = .ok (.iload_n 1, 1) := by decide +kernel
theorem dX5_acrossFrom_18 : decode cX5_acrossFrom 18 = .ok (.if_icmp .ne 10, 3) := by decide +kernel
theorem dX5_acrossFrom_21 : decode cX5_acrossFrom 21 = .ok (.aload_n 0, 1) := by decide +kernel
theorem dX5_acrossFrom_22 : decode cX5_acrossFrom 22 = .ok (.getfield 21, 3) := by decide +kernel
theorem dX5_acrossFrom_25 : decode cX5_acrossFrom 25 = .ok (.iload_n 2, 1) := by decide +kernel
theorem dX5_acrossFrom_26 : decode cX5_acrossFrom 26 = .ok (.iaload, 1) := by decide +kernel
theorem dX5_acrossFrom_27 : decode cX5_acrossFrom 27 = .ok (.ireturn, 1) := by decide +kernel
theorem dX5_acrossFrom_28 : decode cX5_acrossFrom 28 = .ok (.aload_n 0, 1) := by decide +kernel
theorem dX5_acrossFrom_29 : decode cX5_acrossFrom 29 = .ok (.getfield 21, 3) := by decide +kernel
theorem dX5_acrossFrom_32 : decode cX5_acrossFrom 32 = .ok (.iload_n 2, 1) := by decide +kernel
theorem dX5_acrossFrom_33 : decode cX5_acrossFrom 33 = .ok (.iaload, 1) := by decide +kernel
theorem dX5_acrossFrom_34 : decode cX5_acrossFrom 34 = .ok (.iload_n 1, 1) := by decide +kernel
theorem dX5_acrossFrom_35 : decode cX5_acrossFrom 35 = .ok (.if_icmp .ne 12, 3) := by decide +kernel
theorem dX5_acrossFrom_38 : decode cX5_acrossFrom 38 = .ok (.aload_n 0, 1) := by decide +kernel
theorem dX5_acrossFrom_39 : decode cX5_acrossFrom 39 = .ok (.getfield 18, 3) := by decide +kernel
theorem dX5_acrossFrom_42 : decode cX5_acrossFrom 42 = .ok (.iload_n 2, 1) := by decide +kernel
theorem dX5_acrossFrom_43 : decode cX5_acrossFrom 43 = .ok (.iaload, 1) := by decide +kernel
theorem dX5_acrossFrom_44 : decode cX5_acrossFrom 44 = .ok (.goto 4, 3) := by decide +kernel
theorem dX5_acrossFrom_47 : decode cX5_acrossFrom 47 = .ok (.iconst (-1), 1) := by decide +kernel
theorem dX5_acrossFrom_48 : decode cX5_acrossFrom 48 = .ok (.ireturn, 1) := by decide +kernel
theorem dX5_lowestByRounds_0 : decode cX5_lowestByRounds 0 = .ok (.iconst 0, 1) := by decide +kernel
theorem dX5_lowestByRounds_1 : decode cX5_lowestByRounds 1 = .ok (.istore_n 2, 1) := by decide +kernel
theorem dX5_lowestByRounds_2 : decode cX5_lowestByRounds 2 = .ok (.iload_n 2, 1) := by decide +kernel
theorem dX5_lowestByRounds_3 : decode cX5_lowestByRounds 3 = .ok (.aload_n 0, 1) := by decide +kernel
theorem dX5_lowestByRounds_4 : decode cX5_lowestByRounds 4 = .ok (.getfield 34, 3) := by decide +kernel
theorem dX5_lowestByRounds_7 : decode cX5_lowestByRounds 7 = .ok (.if_icmp .ge 16, 3) := by decide +kernel
theorem dX5_lowestByRounds_10 : decode cX5_lowestByRounds 10 = .ok (.aload_n 0, 1) := by decide +kernel
theorem dX5_lowestByRounds_11 : decode cX5_lowestByRounds 11 = .ok (.getfield 31, 3) := by decide +kernel
theorem dX5_lowestByRounds_14 : decode cX5_lowestByRounds 14 = .ok (.iload_n 2, 1) := by decide +kernel
theorem dX5_lowestByRounds_15 : decode cX5_lowestByRounds 15 = .ok (.iload_n 2, 1) := by decide +kernel
theorem dX5_lowestByRounds_16 : decode cX5_lowestByRounds 16 = .ok (.iastore, 1) := by decide +kernel
theorem dX5_lowestByRounds_17 : decode cX5_lowestByRounds 17 = .ok (.iinc 2 1, 3) := by decide +kernel
theorem dX5_lowestByRounds_20 : decode cX5_lowestByRounds 20 = .ok (.goto (-18), 3) := by decide +kernel
theorem dX5_lowestByRounds_23 : decode cX5_lowestByRounds 23 = .ok (.iconst 0, 1) := by decide +kernel
theorem dX5_lowestByRounds_24 : decode cX5_lowestByRounds 24 = .ok (.istore_n 2, 1) := by decide +kernel
theorem dX5_lowestByRounds_25 : decode cX5_lowestByRounds 25 = .ok (.iload_n 2, 1) := by decide +kernel
theorem dX5_lowestByRounds_26 : decode cX5_lowestByRounds 26 = .ok (.aload_n 0, 1) := by decide +kernel
theorem dX5_lowestByRounds_27 : decode cX5_lowestByRounds 27 = .ok (.getfield 34, 3) := by decide +kernel
theorem dX5_lowestByRounds_30 : decode cX5_lowestByRounds 30 = .ok (.if_icmp .ge 87, 3) := by decide +kernel
theorem dX5_lowestByRounds_33 : decode cX5_lowestByRounds 33 = .ok (.iconst 0, 1) := by decide +kernel
theorem dX5_lowestByRounds_34 : decode cX5_lowestByRounds 34 = .ok (.istore_n 3, 1) := by decide +kernel
theorem dX5_lowestByRounds_35 : decode cX5_lowestByRounds 35 = .ok (.iload_n 3, 1) := by decide +kernel
theorem dX5_lowestByRounds_36 : decode cX5_lowestByRounds 36 = .ok (.aload_n 0, 1) := by decide +kernel
theorem dX5_lowestByRounds_37 : decode cX5_lowestByRounds 37 = .ok (.getfield 41, 3) := by decide +kernel
theorem dX5_lowestByRounds_40 : decode cX5_lowestByRounds 40 = .ok (.if_icmp .ge 71, 3) := by decide +kernel
theorem dX5_lowestByRounds_43 : decode cX5_lowestByRounds 43 = .ok (.aload_n 0, 1) := by decide +kernel
theorem dX5_lowestByRounds_44 : decode cX5_lowestByRounds 44 = .ok (.getfield 24, 3) := by decide +kernel
theorem dX5_lowestByRounds_47 : decode cX5_lowestByRounds 47 = .ok (.iload_n 3, 1) := by decide +kernel
theorem dX5_lowestByRounds_48 : decode cX5_lowestByRounds 48 = .ok (.baload, 1) := by decide +kernel
theorem dX5_lowestByRounds_49 : decode cX5_lowestByRounds 49 = .ok (.ifCond .eq 56, 3) := by decide +kernel
theorem dX5_lowestByRounds_52 : decode cX5_lowestByRounds 52 = .ok (.aload_n 0, 1) := by decide +kernel
theorem dX5_lowestByRounds_53 : decode cX5_lowestByRounds 53 = .ok (.getfield 31, 3) := by decide +kernel
theorem dX5_lowestByRounds_56 : decode cX5_lowestByRounds 56 = .ok (.aload_n 0, 1) := by decide +kernel
theorem dX5_lowestByRounds_57 : decode cX5_lowestByRounds 57 = .ok (.getfield 18, 3) := by decide +kernel
theorem dX5_lowestByRounds_60 : decode cX5_lowestByRounds 60 = .ok (.iload_n 3, 1) := by decide +kernel
theorem dX5_lowestByRounds_61 : decode cX5_lowestByRounds 61 = .ok (.iaload, 1) := by decide +kernel
theorem dX5_lowestByRounds_62 : decode cX5_lowestByRounds 62 = .ok (.iaload, 1) := by decide +kernel
theorem dX5_lowestByRounds_63 : decode cX5_lowestByRounds 63 = .ok (.aload_n 0, 1) := by decide +kernel
theorem dX5_lowestByRounds_64 : decode cX5_lowestByRounds 64 = .ok (.getfield 31, 3) := by decide +kernel
theorem dX5_lowestByRounds_67 : decode cX5_lowestByRounds 67 = .ok (.aload_n 0, 1) := by decide +kernel
theorem dX5_lowestByRounds_68 : decode cX5_lowestByRounds 68 = .ok (.getfield 21, 3) := by decide +kernel
theorem dX5_lowestByRounds_71 : decode cX5_lowestByRounds 71 = .ok (.iload_n 3, 1) := by decide +kernel
theorem dX5_lowestByRounds_72 : decode cX5_lowestByRounds 72 = .ok (.iaload, 1) := by decide +kernel
theorem dX5_lowestByRounds_73 : decode cX5_lowestByRounds 73 = .ok (.iaload, 1) := by decide +kernel
theorem dX5_lowestByRounds_74 : decode cX5_lowestByRounds 74 = .ok (.invokestatic 52, 3) := by decide +kernel
theorem dX5_lowestByRounds_77 : decode cX5_lowestByRounds 77 = .ok (.istore 4, 2) := by decide +kernel
theorem dX5_lowestByRounds_79 : decode cX5_lowestByRounds 79 = .ok (.aload_n 0, 1) := by decide +kernel
theorem dX5_lowestByRounds_80 : decode cX5_lowestByRounds 80 = .ok (.getfield 31, 3) := by decide +kernel
theorem dX5_lowestByRounds_83 : decode cX5_lowestByRounds 83 = .ok (.aload_n 0, 1) := by decide +kernel
theorem dX5_lowestByRounds_84 : decode cX5_lowestByRounds 84 = .ok (.getfield 18, 3) := by decide +kernel
theorem dX5_lowestByRounds_87 : decode cX5_lowestByRounds 87 = .ok (.iload_n 3, 1) := by decide +kernel
theorem dX5_lowestByRounds_88 : decode cX5_lowestByRounds 88 = .ok (.iaload, 1) := by decide +kernel
theorem dX5_lowestByRounds_89 : decode cX5_lowestByRounds 89 = .ok (.iload 4, 2) := by decide +kernel
theorem dX5_lowestByRounds_91 : decode cX5_lowestByRounds 91 = .ok (.iastore, 1) := by decide +kernel
theorem dX5_lowestByRounds_92 : decode cX5_lowestByRounds 92 = .ok (.aload_n 0, 1) := by decide +kernel
theorem dX5_lowestByRounds_93 : decode cX5_lowestByRounds 93 = .ok (.getfield 31, 3) := by decide +kernel
theorem dX5_lowestByRounds_96 : decode cX5_lowestByRounds 96 = .ok (.aload_n 0, 1) := by decide +kernel
theorem dX5_lowestByRounds_97 : decode cX5_lowestByRounds 97 = .ok (.getfield 21, 3) := by decide +kernel
theorem dX5_lowestByRounds_100 : decode cX5_lowestByRounds 100 = .ok (.iload_n 3, 1) := by decide +kernel
theorem dX5_lowestByRounds_101 : decode cX5_lowestByRounds 101 = .ok (.iaload, 1) := by decide +kernel
theorem dX5_lowestByRounds_102 : decode cX5_lowestByRounds 102 = .ok (.iload 4, 2) := by decide +kernel
theorem dX5_lowestByRounds_104 : decode cX5_lowestByRounds 104 = .ok (.iastore, 1) := by decide +kernel
theorem dX5_lowestByRounds_105 : decode cX5_lowestByRounds 105 = .ok (.iinc 3 1, 3) := by decide +kernel
theorem dX5_lowestByRounds_108 : decode cX5_lowestByRounds 108 = .ok (.goto (-73), 3) := by decide +kernel
theorem dX5_lowestByRounds_111 : decode cX5_lowestByRounds 111 = .ok (.iinc 2 1, 3) := by decide +kernel
theorem dX5_lowestByRounds_114 : decode cX5_lowestByRounds 114 = .ok (.goto (-89), 3) := by decide +kernel
theorem dX5_lowestByRounds_117 : decode cX5_lowestByRounds 117 = .ok (.aload_n 0, 1) := by decide +kernel
theorem dX5_lowestByRounds_118 : decode cX5_lowestByRounds 118 = .ok (.getfield 31, 3) := by decide +kernel
theorem dX5_lowestByRounds_121 : decode cX5_lowestByRounds 121 = .ok (.iload_n 1, 1) := by decide +kernel
theorem dX5_lowestByRounds_122 : decode cX5_lowestByRounds 122 = .ok (.iaload, 1) := by decide +kernel
theorem dX5_lowestByRounds_123 : decode cX5_lowestByRounds 123 = .ok (.ireturn, 1) := by decide +kernel
theorem dX5_countIslands_0 : decode cX5_countIslands 0 = .ok (.iconst 0, 1) := by decide +kernel
theorem dX5_countIslands_1 : decode cX5_countIslands 1 = .ok (.istore_n 1, 1) := by decide +kernel
theorem dX5_countIslands_2 : decode cX5_countIslands 2 = .ok (.iconst 0, 1) := by decide +kernel
theorem dX5_countIslands_3 : decode cX5_countIslands 3 = .ok (.istore_n 2, 1) := by decide +kernel
theorem dX5_countIslands_4 : decode cX5_countIslands 4 = .ok (.iload_n 2, 1) := by decide +kernel
theorem dX5_countIslands_5 : decode cX5_countIslands 5 = .ok (.aload_n 0, 1) := by decide +kernel
theorem dX5_countIslands_6 : decode cX5_countIslands 6 = .ok (.getfield 34, 3) := by decide +kernel
theorem dX5_countIslands_9 : decode cX5_countIslands 9 = .ok (.if_icmp .ge 22, 3) := by decide +kernel
theorem dX5_countIslands_12 : decode cX5_countIslands 12 = .ok (.aload_n 0, 1) := by decide +kernel
theorem dX5_countIslands_13 : decode cX5_countIslands 13 = .ok (.getfield 15, 3) := by decide +kernel
theorem dX5_countIslands_16 : decode cX5_countIslands 16 = .ok (.iload_n 2, 1) := by decide +kernel
theorem dX5_countIslands_17 : decode cX5_countIslands 17 = .ok (.iaload, 1) := by decide +kernel
theorem dX5_countIslands_18 : decode cX5_countIslands 18 = .ok (.iload_n 2, 1) := by decide +kernel
theorem dX5_countIslands_19 : decode cX5_countIslands 19 = .ok (.if_icmp .ne 6, 3) := by decide +kernel
theorem dX5_countIslands_22 : decode cX5_countIslands 22 = .ok (.iinc 1 1, 3) := by decide +kernel
theorem dX5_countIslands_25 : decode cX5_countIslands 25 = .ok (.iinc 2 1, 3) := by decide +kernel
theorem dX5_countIslands_28 : decode cX5_countIslands 28 = .ok (.goto (-24), 3) := by decide +kernel
theorem dX5_countIslands_31 : decode cX5_countIslands 31 = .ok (.iload_n 1, 1) := by decide +kernel
theorem dX5_countIslands_32 : decode cX5_countIslands 32 = .ok (.ireturn, 1) := by decide +kernel
theorem dX5_countSites_0 : decode cX5_countSites 0 = .ok (.iconst 0, 1) := by decide +kernel
theorem dX5_countSites_1 : decode cX5_countSites 1 = .ok (.istore_n 2, 1) := by decide +kernel
theorem dX5_countSites_2 : decode cX5_countSites 2 = .ok (.iconst 0, 1) := by decide +kernel
theorem dX5_countSites_3 : decode cX5_countSites 3 = .ok (.istore_n 3, 1) := by decide +kernel
theorem dX5_countSites_4 : decode cX5_countSites 4 = .ok (.iload_n 3, 1) := by decide +kernel
theorem dX5_countSites_5 : decode cX5_countSites 5 = .ok (.aload_n 0, 1) := by decide +kernel
theorem dX5_countSites_6 : decode cX5_countSites 6 = .ok (.getfield 34, 3) := by decide +kernel
theorem dX5_countSites_9 : decode cX5_countSites 9 = .ok (.if_icmp .ge 22, 3) := by decide +kernel
theorem dX5_countSites_12 : decode cX5_countSites 12 = .ok (.aload_n 0, 1) := by decide +kernel
theorem dX5_countSites_13 : decode cX5_countSites 13 = .ok (.getfield 15, 3) := by decide +kernel
theorem dX5_countSites_16 : decode cX5_countSites 16 = .ok (.iload_n 3, 1) := by decide +kernel
theorem dX5_countSites_17 : decode cX5_countSites 17 = .ok (.iaload, 1) := by decide +kernel
theorem dX5_countSites_18 : decode cX5_countSites 18 = .ok (.iload_n 1, 1) := by decide +kernel
theorem dX5_countSites_19 : decode cX5_countSites 19 = .ok (.if_icmp .ne 6, 3) := by decide +kernel
theorem dX5_countSites_22 : decode cX5_countSites 22 = .ok (.iinc 2 1, 3) := by decide +kernel
theorem dX5_countSites_25 : decode cX5_countSites 25 = .ok (.iinc 3 1, 3) := by decide +kernel
theorem dX5_countSites_28 : decode cX5_countSites 28 = .ok (.goto (-24), 3) := by decide +kernel
theorem dX5_countSites_31 : decode cX5_countSites 31 = .ok (.iload_n 2, 1) := by decide +kernel
theorem dX5_countSites_32 : decode cX5_countSites 32 = .ok (.ireturn, 1) := by decide +kernel
theorem dX5_isTied_0 : decode cX5_isTied 0 = .ok (.aload_n 0, 1) := by decide +kernel
theorem dX5_isTied_1 : decode cX5_isTied 1 = .ok (.getfield 57, 3) := by decide +kernel
theorem dX5_isTied_4 : decode cX5_isTied 4 = .ok (.ifCond .eq 11, 3) := by decide +kernel
theorem dX5_isTied_7 : decode cX5_isTied 7 = .ok (.iload_n 1, 1) := by decide +kernel
theorem dX5_isTied_8 : decode cX5_isTied 8 = .ok (.ifCond .ne 7, 3) := by decide +kernel
theorem dX5_isTied_11 : decode cX5_isTied 11 = .ok (.iconst 1, 1) := by decide +kernel
theorem dX5_isTied_12 : decode cX5_isTied 12 = .ok (.goto 4, 3) := by decide +kernel
theorem dX5_isTied_15 : decode cX5_isTied 15 = .ok (.iconst 0, 1) := by decide +kernel
theorem dX5_isTied_16 : decode cX5_isTied 16 = .ok (.ireturn, 1) := by decide +kernel
set_option maxRecDepth 20000 in
theorem ggX5_phaseOf_X5_isTied : GoodIn wsX5_phaseOf wsX5_isTied := goodIn_r _ [6, 7, 8, 9, 10, 11, 12, 13, 14, 15, 16, 17] (by decide +kernel) (by decide +kernel)
set_option maxRecDepth 20000 in
theorem gX5_phaseOf_X5_isTied : GoodIn wsX5_phaseOf (wsV RX5 61 RX5 yX5_isTied wsX5_isTied) := goodIn_app (goodIn_of _ (by decide +kernel)) ggX5_phaseOf_X5_isTied
theorem dX5_phaseOf_0 : decode cX5_phaseOf 0 = .ok (.aload_n 0, 1) := by decide +kernel
theorem dX5_phaseOf_1 : decode cX5_phaseOf 1 = .ok (.iload_n 1, 1) := by decide +kernel
theorem dX5_phaseOf_2 : decode cX5_phaseOf 2 = .ok (.invokevirtual 61, 3) := by decide +kernel
theorem dX5_phaseOf_5 : decode cX5_phaseOf 5 = .ok (.ifCond .eq 7, 3) := by decide +kernel
theorem dX5_phaseOf_8 : decode cX5_phaseOf 8 = .ok (.iconst 0, 1) := by decide +kernel
theorem dX5_phaseOf_9 : decode cX5_phaseOf 9 = .ok (.goto 9, 3) := by decide +kernel
theorem dX5_phaseOf_12 : decode cX5_phaseOf 12 = .ok (.aload_n 0, 1) := by decide +kernel
theorem dX5_phaseOf_13 : decode cX5_phaseOf 13 = .ok (.getfield 9, 3) := by decide +kernel
theorem dX5_phaseOf_16 : decode cX5_phaseOf 16 = .ok (.iload_n 1, 1) := by decide +kernel
theorem dX5_phaseOf_17 : decode cX5_phaseOf 17 = .ok (.iaload, 1) := by decide +kernel
theorem dX5_phaseOf_18 : decode cX5_phaseOf 18 = .ok (.ireturn, 1) := by decide +kernel
set_option maxRecDepth 20000 in
theorem ggX5_gapOf_X5_phaseOf : GoodIn wsX5_gapOf wsX5_phaseOf := goodIn_r _ [8, 9, 10, 11, 12, 7, 13, 14, 25, 26, 27, 28, 29, 30, 31, 32, 33, 34] (by decide +kernel) (by decide +kernel)
set_option maxRecDepth 20000 in
theorem gX5_gapOf_X5_phaseOf : GoodIn wsX5_gapOf (wsV RX5 65 RX5 yX5_phaseOf wsX5_phaseOf) := goodIn_app (goodIn_of _ (by decide +kernel)) ggX5_gapOf_X5_phaseOf
set_option maxRecDepth 20000 in
theorem ggX5_gapOf_X5_apart : GoodIn wsX5_gapOf wsX5_apart := goodIn_r _ [17, 18, 19, 20, 21, 22, 23, 24] (by decide +kernel) (by decide +kernel)
set_option maxRecDepth 20000 in
theorem gX5_gapOf_X5_apart : GoodIn wsX5_gapOf (va_wsS RX5 69 yX5_apart wsX5_apart) := goodIn_app (goodIn_of _ (by decide +kernel)) ggX5_gapOf_X5_apart
theorem dX5_gapOf_0 : decode cX5_gapOf 0 = .ok (.aload_n 0, 1) := by decide +kernel
theorem dX5_gapOf_1 : decode cX5_gapOf 1 = .ok (.aload_n 0, 1) := by decide +kernel
theorem dX5_gapOf_2 : decode cX5_gapOf 2 = .ok (.getfield 15, 3) := by decide +kernel
theorem dX5_gapOf_5 : decode cX5_gapOf 5 = .ok (.aload_n 0, 1) := by decide +kernel
theorem dX5_gapOf_6 : decode cX5_gapOf 6 = .ok (.getfield 18, 3) := by decide +kernel
theorem dX5_gapOf_9 : decode cX5_gapOf 9 = .ok (.iload_n 1, 1) := by decide +kernel
theorem dX5_gapOf_10 : decode cX5_gapOf 10 = .ok (.iaload, 1) := by decide +kernel
theorem dX5_gapOf_11 : decode cX5_gapOf 11 = .ok (.iaload, 1) := by decide +kernel
theorem dX5_gapOf_12 : decode cX5_gapOf 12 = .ok (.invokevirtual 65, 3) := by decide +kernel
theorem dX5_gapOf_15 : decode cX5_gapOf 15 = .ok (.aload_n 0, 1) := by decide +kernel
theorem dX5_gapOf_16 : decode cX5_gapOf 16 = .ok (.aload_n 0, 1) := by decide +kernel
theorem dX5_gapOf_17 : decode cX5_gapOf 17 = .ok (.getfield 15, 3) := by decide +kernel
theorem dX5_gapOf_20 : decode cX5_gapOf 20 = .ok (.aload_n 0, 1) := by decide +kernel
theorem dX5_gapOf_21 : decode cX5_gapOf 21 = .ok (.getfield 21, 3) := by decide +kernel
theorem dX5_gapOf_24 : decode cX5_gapOf 24 = .ok (.iload_n 1, 1) := by decide +kernel
theorem dX5_gapOf_25 : decode cX5_gapOf 25 = .ok (.iaload, 1) := by decide +kernel
theorem dX5_gapOf_26 : decode cX5_gapOf 26 = .ok (.iaload, 1) := by decide +kernel
theorem dX5_gapOf_27 : decode cX5_gapOf 27 = .ok (.invokevirtual 65, 3) := by decide +kernel
theorem dX5_gapOf_30 : decode cX5_gapOf 30 = .ok (.invokestatic 69, 3) := by decide +kernel
theorem dX5_gapOf_33 : decode cX5_gapOf 33 = .ok (.ireturn, 1) := by decide +kernel
theorem dX5_apart_0 : decode cX5_apart 0 = .ok (.iload_n 0, 1) := by decide +kernel
theorem dX5_apart_1 : decode cX5_apart 1 = .ok (.iload_n 1, 1) := by decide +kernel
theorem dX5_apart_2 : decode cX5_apart 2 = .ok (.isub, 1) := by decide +kernel
theorem dX5_apart_3 : decode cX5_apart 3 = .ok (.invokestatic 72, 3) := by decide +kernel
theorem dX5_apart_6 : decode cX5_apart 6 = .ok (.istore_n 2, 1) := by decide +kernel
theorem dX5_apart_7 : decode cX5_apart 7 = .ok (.iload_n 2, 1) := by decide +kernel
theorem dX5_apart_8 : decode cX5_apart 8 = .ok (.sipush 360, 3) := by decide +kernel
theorem dX5_apart_11 : decode cX5_apart 11 = .ok (.iload_n 2, 1) := by decide +kernel
theorem dX5_apart_12 : decode cX5_apart 12 = .ok (.isub, 1) := by decide +kernel
theorem dX5_apart_13 : decode cX5_apart 13 = .ok (.invokestatic 52, 3) := by decide +kernel
theorem dX5_apart_16 : decode cX5_apart 16 = .ok (.ireturn, 1) := by decide +kernel
theorem dX6_init_0 : decode cX6_init 0 = .ok (.aload_n 0, 1) := by decide +kernel
theorem dX6_init_1 : decode cX6_init 1 = .ok (.invokespecial 3, 3) := by decide +kernel
theorem dX6_init_4 : decode cX6_init 4 = .ok (.aload_n 0, 1) := by decide +kernel
theorem dX6_init_5 : decode cX6_init 5 = .ok (.iconst 4, 1) := by decide +kernel
theorem dX6_init_6 : decode cX6_init 6 = .ok (.anewarray 9, 3) := by decide +kernel
theorem dX6_init_9 : decode cX6_init 9 = .ok (.putfield 11, 3) := by decide +kernel
theorem dX6_init_12 : decode cX6_init 12 = .ok (.aload_n 0, 1) := by decide +kernel
theorem dX6_init_13 : decode cX6_init 13 = .ok (.aload_n 1, 1) := by decide +kernel
theorem dX6_init_14 : decode cX6_init 14 = .ok (.putfield 17, 3) := by decide +kernel
theorem dX6_init_17 : decode cX6_init 17 = .ok (.return_, 1) := by decide +kernel
theorem dX6_put_0 : decode cX6_put 0 = .ok (.aload_n 0, 1) := by decide +kernel
theorem dX6_put_1 : decode cX6_put 1 = .ok (.getfield 21, 3) := by decide +kernel
theorem dX6_put_4 : decode cX6_put 4 = .ok (.istore_n 2, 1) := by decide +kernel
theorem dX6_put_5 : decode cX6_put 5 = .ok (.aload_n 0, 1) := by decide +kernel
theorem dX6_put_6 : decode cX6_put 6 = .ok (.getfield 11, 3) := by decide +kernel
theorem dX6_put_9 : decode cX6_put 9 = .ok (.iload_n 2, 1) := by decide +kernel
theorem dX6_put_10 : decode cX6_put 10 = .ok (.aload_n 1, 1) := by decide +kernel
theorem dX6_put_11 : decode cX6_put 11 = .ok (.aastore, 1) := by decide +kernel
theorem dX6_put_12 : decode cX6_put 12 = .ok (.aload_n 0, 1) := by decide +kernel
theorem dX6_put_13 : decode cX6_put 13 = .ok (.dup, 1) := by decide +kernel
theorem dX6_put_14 : decode cX6_put 14 = .ok (.getfield 21, 3) := by decide +kernel
theorem dX6_put_17 : decode cX6_put 17 = .ok (.iconst 1, 1) := by decide +kernel
theorem dX6_put_18 : decode cX6_put 18 = .ok (.iadd, 1) := by decide +kernel
theorem dX6_put_19 : decode cX6_put 19 = .ok (.putfield 21, 3) := by decide +kernel
theorem dX6_put_22 : decode cX6_put 22 = .ok (.iload_n 2, 1) := by decide +kernel
theorem dX6_put_23 : decode cX6_put 23 = .ok (.ireturn, 1) := by decide +kernel
theorem dX6_isOn_0 : decode cX6_isOn 0 = .ok (.aload_n 0, 1) := by decide +kernel
theorem dX6_isOn_1 : decode cX6_isOn 1 = .ok (.getfield 17, 3) := by decide +kernel
theorem dX6_isOn_4 : decode cX6_isOn 4 = .ok (.getfield 25, 3) := by decide +kernel
theorem dX6_isOn_7 : decode cX6_isOn 7 = .ok (.aload_n 0, 1) := by decide +kernel
theorem dX6_isOn_8 : decode cX6_isOn 8 = .ok (.getfield 11, 3) := by decide +kernel
theorem dX6_isOn_11 : decode cX6_isOn 11 = .ok (.iload_n 1, 1) := by decide +kernel
theorem dX6_isOn_12 : decode cX6_isOn 12 = .ok (.aaload, 1) := by decide +kernel
theorem dX6_isOn_13 : decode cX6_isOn 13 = .ok (.getfield 31, 3) := by decide +kernel
theorem dX6_isOn_16 : decode cX6_isOn 16 = .ok (.iaload, 1) := by decide +kernel
theorem dX6_isOn_17 : decode cX6_isOn 17 = .ok (.iload_n 2, 1) := by decide +kernel
theorem dX6_isOn_18 : decode cX6_isOn 18 = .ok (.if_icmp .ne 7, 3) := by decide +kernel
theorem dX6_isOn_21 : decode cX6_isOn 21 = .ok (.iconst 1, 1) := by decide +kernel
theorem dX6_isOn_22 : decode cX6_isOn 22 = .ok (.goto 4, 3) := by decide +kernel
theorem dX6_isOn_25 : decode cX6_isOn 25 = .ok (.iconst 0, 1) := by decide +kernel
theorem dX6_isOn_26 : decode cX6_isOn 26 = .ok (.ireturn, 1) := by decide +kernel
set_option maxRecDepth 20000 in
theorem ggX6_sumOfSupply_X6_isOn : GoodIn wsX6_sumOfSupply wsX6_isOn := goodIn_r _ [7, 8, 9, 2, 10, 22, 23, 24, 25, 26, 27, 28, 29, 30, 31, 32, 33, 34, 35, 36, 37, 38, 39] (by decide +kernel) (by decide +kernel)
set_option maxRecDepth 20000 in
theorem gX6_sumOfSupply_X6_isOn : GoodIn wsX6_sumOfSupply (wsV RX6 34 RX6 yX6_isOn wsX6_isOn) := goodIn_app (goodIn_of _ (by decide +kernel)) ggX6_sumOfSupply_X6_isOn
set_option maxRecDepth 20000 in
theorem ggX6_sumOfSupply_X7_supply : GoodIn wsX6_sumOfSupply wsX7_supply := goodIn_r _ [15, 16, 17, 18, 19, 20, 21, 35, 36, 37, 38, 39] (by decide +kernel) (by decide +kernel)
set_option maxRecDepth 20000 in
theorem gX6_sumOfSupply_X7_supply : GoodIn wsX6_sumOfSupply (wsV RX6 38 RX7 yX7_supply wsX7_supply) := goodIn_app (goodIn_of _ (by decide +kernel)) ggX6_sumOfSupply_X7_supply
theorem dX6_sumOfSupply_0 : decode cX6_sumOfSupply 0 = .ok (.iconst 0, 1) := by decide +kernel
theorem dX6_sumOfSupply_1 : decode cX6_sumOfSupply 1 = .ok (.istore_n 2, 1) := by decide +kernel
theorem dX6_sumOfSupply_2 : decode cX6_sumOfSupply 2 = .ok (.iconst 0, 1) := by decide +kernel
theorem dX6_sumOfSupply_3 : decode cX6_sumOfSupply 3 = .ok (.istore_n 3, 1) := by decide +kernel
theorem dX6_sumOfSupply_4 : decode cX6_sumOfSupply 4 = .ok (.iload_n 3, 1) := by decide +kernel
theorem dX6_sumOfSupply_5 : decode cX6_sumOfSupply 5 = .ok (.aload_n 0, 1) := by decide +kernel
theorem dX6_sumOfSupply_6 : decode cX6_sumOfSupply 6 = .ok (.getfield 21, 3) := by decide +kernel
theorem dX6_sumOfSupply_9 : decode cX6_sumOfSupply 9 = .ok (.if_icmp .ge 30, 3) := by decide +kernel
theorem dX6_sumOfSupply_12 : decode cX6_sumOfSupply 12 = .ok (.aload_n 0, 1) := by decide +kernel
theorem dX6_sumOfSupply_13 : decode cX6_sumOfSupply 13 = .ok (.iload_n 3, 1) := by decide +kernel
theorem dX6_sumOfSupply_14 : decode cX6_sumOfSupply 14 = .ok (.iload_n 1, 1) := by decide +kernel
theorem dX6_sumOfSupply_15 : decode cX6_sumOfSupply 15 = .ok (.invokevirtual 34, 3) := by decide +kernel
