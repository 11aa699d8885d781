theorem dL_isTied_92 : decode cL_isTied 92 = .ok (.invokestatic 196, 3) := by decide +kernel
theorem dL_isTied_95 : decode cL_isTied 95 = .ok (.if_icmp .ne 7, 3) := by decide +kernel
theorem dL_isTied_98 : decode cL_isTied 98 = .ok (.iconst 1, 1) := by decide +kernel
theorem dL_isTied_99 : decode cL_isTied 99 = .ok (.goto 4, 3) := by decide +kernel
theorem dL_isTied_102 : decode cL_isTied 102 = .ok (.iconst 0, 1) := by decide +kernel
theorem dL_isTied_103 : decode cL_isTied 103 = .ok (.ireturn, 1) := by decide +kernel
set_option maxRecDepth 20000 in
theorem ggL_can_L_island : GoodIn wsL_can wsL_island := goodIn_r _ [8] (by decide +kernel) (by decide +kernel)
set_option maxRecDepth 20000 in
theorem gL_can_L_island : GoodIn wsL_can (va_wsS RL 181 yL_island wsL_island) := goodIn_app (goodIn_of _ (by decide +kernel)) ggL_can_L_island
theorem dL_can_0 : decode cL_can 0 = .ok (.bipush 50, 2) := by decide +kernel
theorem dL_can_2 : decode cL_can 2 = .ok (.bipush 9, 2) := by decide +kernel
theorem dL_can_4 : decode cL_can 4 = .ok (.iload_n 1, 1) := by decide +kernel
theorem dL_can_5 : decode cL_can 5 = .ok (.imul, 1) := by decide +kernel
theorem dL_can_6 : decode cL_can 6 = .ok (.iadd, 1) := by decide +kernel
theorem dL_can_7 : decode cL_can 7 = .ok (.istore_n 3, 1) := by decide +kernel
theorem dL_can_8 : decode cL_can 8 = .ok (.aload_n 0, 1) := by decide +kernel
theorem dL_can_9 : decode cL_can 9 = .ok (.iload_n 3, 1) := by decide +kernel
theorem dL_can_10 : decode cL_can 10 = .ok (.iconst 5, 1) := by decide +kernel
theorem dL_can_11 : decode cL_can 11 = .ok (.iadd, 1) := by decide +kernel
theorem dL_can_12 : decode cL_can 12 = .ok (.iaload, 1) := by decide +kernel
theorem dL_can_13 : decode cL_can 13 = .ok (.iconst 2, 1) := by decide +kernel
theorem dL_can_14 : decode cL_can 14 = .ok (.if_icmp .ne 30, 3) := by decide +kernel
theorem dL_can_17 : decode cL_can 17 = .ok (.aload_n 0, 1) := by decide +kernel
theorem dL_can_18 : decode cL_can 18 = .ok (.aload_n 0, 1) := by decide +kernel
theorem dL_can_19 : decode cL_can 19 = .ok (.iload_n 3, 1) := by decide +kernel
theorem dL_can_20 : decode cL_can 20 = .ok (.iaload, 1) := by decide +kernel
theorem dL_can_21 : decode cL_can 21 = .ok (.invokestatic 181, 3) := by decide +kernel
theorem dL_can_24 : decode cL_can 24 = .ok (.iload_n 2, 1) := by decide +kernel
theorem dL_can_25 : decode cL_can 25 = .ok (.if_icmp .ne 19, 3) := by decide +kernel
theorem dL_can_28 : decode cL_can 28 = .ok (.aload_n 0, 1) := by decide +kernel
theorem dL_can_29 : decode cL_can 29 = .ok (.iload_n 3, 1) := by decide +kernel
theorem dL_can_30 : decode cL_can 30 = .ok (.iconst 2, 1) := by decide +kernel
theorem dL_can_31 : decode cL_can 31 = .ok (.iadd, 1) := by decide +kernel
theorem dL_can_32 : decode cL_can 32 = .ok (.iaload, 1) := by decide +kernel
theorem dL_can_33 : decode cL_can 33 = .ok (.aload_n 0, 1) := by decide +kernel
theorem dL_can_34 : decode cL_can 34 = .ok (.iload_n 3, 1) := by decide +kernel
theorem dL_can_35 : decode cL_can 35 = .ok (.iconst 4, 1) := by decide +kernel
theorem dL_can_36 : decode cL_can 36 = .ok (.iadd, 1) := by decide +kernel
theorem dL_can_37 : decode cL_can 37 = .ok (.iaload, 1) := by decide +kernel
theorem dL_can_38 : decode cL_can 38 = .ok (.invokestatic 199, 3) := by decide +kernel
theorem dL_can_41 : decode cL_can 41 = .ok (.goto 4, 3) := by decide +kernel
theorem dL_can_44 : decode cL_can 44 = .ok (.iconst 0, 1) := by decide +kernel
theorem dL_can_45 : decode cL_can 45 = .ok (.ireturn, 1) := by decide +kernel
set_option maxRecDepth 20000 in
theorem ggL_bound__L_can : GoodIn wsL_bound_ wsL_can := goodIn_r _ [12, 1, 2, 3, 4, 13, 14, 11, 15] (by decide +kernel) (by decide +kernel)
set_option maxRecDepth 20000 in
theorem gL_bound__L_can : GoodIn wsL_bound_ (va_wsS RL 202 yL_can wsL_can) := goodIn_app (goodIn_of _ (by decide +kernel)) ggL_bound__L_can
set_option maxRecDepth 20000 in
theorem ggL_bound__L_island : GoodIn wsL_bound_ wsL_island := goodIn_r _ [15] (by decide +kernel) (by decide +kernel)
set_option maxRecDepth 20000 in
theorem gL_bound__L_island : GoodIn wsL_bound_ (va_wsS RL 181 yL_island wsL_island) := goodIn_app (goodIn_of _ (by decide +kernel)) ggL_bound__L_island
theorem dL_bound__0 : decode cL_bound_ 0 = .ok (.aload_n 0, 1) := by decide +kernel
theorem dL_bound__1 : decode cL_bound_ 1 = .ok (.iconst 5, 1) := by decide +kernel
theorem dL_bound__2 : decode cL_bound_ 2 = .ok (.iaload, 1) := by decide +kernel
theorem dL_bound__3 : decode cL_bound_ 3 = .ok (.ineg, 1) := by decide +kernel
theorem dL_bound__4 : decode cL_bound_ 4 = .ok (.istore_n 2, 1) := by decide +kernel
theorem dL_bound__5 : decode cL_bound_ 5 = .ok (.iconst 0, 1) := by decide +kernel
theorem dL_bound__6 : decode cL_bound_ 6 = .ok (.istore_n 3, 1) := by decide +kernel
theorem dL_bound__7 : decode cL_bound_ 7 = .ok (.iload_n 3, 1) := by decide +kernel
theorem dL_bound__8 : decode cL_bound_ 8 = .ok (.aload_n 0, 1) := by decide +kernel
theorem dL_bound__9 : decode cL_bound_ 9 = .ok (.iconst 2, 1) := by decide +kernel
theorem dL_bound__10 : decode cL_bound_ 10 = .ok (.iaload, 1) := by decide +kernel
theorem dL_bound__11 : decode cL_bound_ 11 = .ok (.if_icmp .ge 18, 3) := by decide +kernel
theorem dL_bound__14 : decode cL_bound_ 14 = .ok (.iload_n 2, 1) := by decide +kernel
theorem dL_bound__15 : decode cL_bound_ 15 = .ok (.aload_n 0, 1) := by decide +kernel
theorem dL_bound__16 : decode cL_bound_ 16 = .ok (.iload_n 3, 1) := by decide +kernel
theorem dL_bound__17 : decode cL_bound_ 17 = .ok (.iload_n 1, 1) := by decide +kernel
theorem dL_bound__18 : decode cL_bound_ 18 = .ok (.invokestatic 202, 3) := by decide +kernel
theorem dL_bound__21 : decode cL_bound_ 21 = .ok (.iadd, 1) := by decide +kernel
theorem dL_bound__22 : decode cL_bound_ 22 = .ok (.istore_n 2, 1) := by decide +kernel
theorem dL_bound__23 : decode cL_bound_ 23 = .ok (.iinc 3 1, 3) := by decide +kernel
theorem dL_bound__26 : decode cL_bound_ 26 = .ok (.goto (-19), 3) := by decide +kernel
theorem dL_bound__29 : decode cL_bound_ 29 = .ok (.iconst 0, 1) := by decide +kernel
theorem dL_bound__30 : decode cL_bound_ 30 = .ok (.istore_n 3, 1) := by decide +kernel
theorem dL_bound__31 : decode cL_bound_ 31 = .ok (.iload_n 3, 1) := by decide +kernel
theorem dL_bound__32 : decode cL_bound_ 32 = .ok (.aload_n 0, 1) := by decide +kernel
theorem dL_bound__33 : decode cL_bound_ 33 = .ok (.iconst 3, 1) := by decide +kernel
theorem dL_bound__34 : decode cL_bound_ 34 = .ok (.iaload, 1) := by decide +kernel
theorem dL_bound__35 : decode cL_bound_ 35 = .ok (.if_icmp .ge 54, 3) := by decide +kernel
theorem dL_bound__38 : decode cL_bound_ 38 = .ok (.iload_n 2, 1) := by decide +kernel
theorem dL_bound__39 : decode cL_bound_ 39 = .ok (.aload_n 0, 1) := by decide +kernel
theorem dL_bound__40 : decode cL_bound_ 40 = .ok (.aload_n 0, 1) := by decide +kernel
theorem dL_bound__41 : decode cL_bound_ 41 = .ok (.bipush 110, 2) := by decide +kernel
theorem dL_bound__43 : decode cL_bound_ 43 = .ok (.bipush 6, 2) := by decide +kernel
theorem dL_bound__45 : decode cL_bound_ 45 = .ok (.iload_n 3, 1) := by decide +kernel
theorem dL_bound__46 : decode cL_bound_ 46 = .ok (.imul, 1) := by decide +kernel
theorem dL_bound__47 : decode cL_bound_ 47 = .ok (.iadd, 1) := by decide +kernel
theorem dL_bound__48 : decode cL_bound_ 48 = .ok (.iaload, 1) := by decide +kernel
theorem dL_bound__49 : decode cL_bound_ 49 = .ok (.invokestatic 181, 3) := by decide +kernel
theorem dL_bound__52 : decode cL_bound_ 52 = .ok (.iload_n 1, 1) := by decide +kernel
theorem dL_bound__53 : decode cL_bound_ 53 = .ok (.if_icmp .ne 27, 3) := by decide +kernel
theorem dL_bound__56 : decode cL_bound_ 56 = .ok (.aload_n 0, 1) := by decide +kernel
theorem dL_bound__57 : decode cL_bound_ 57 = .ok (.bipush 112, 2) := by decide +kernel
theorem dL_bound__59 : decode cL_bound_ 59 = .ok (.bipush 6, 2) := by decide +kernel
theorem dL_bound__61 : decode cL_bound_ 61 = .ok (.iload_n 3, 1) := by decide +kernel
theorem dL_bound__62 : decode cL_bound_ 62 = .ok (.imul, 1) := by decide +kernel
theorem dL_bound__63 : decode cL_bound_ 63 = .ok (.iadd, 1) := by decide +kernel
theorem dL_bound__64 : decode cL_bound_ 64 = .ok (.iaload, 1) := by decide +kernel
theorem dL_bound__65 : decode cL_bound_ 65 = .ok (.aload_n 0, 1) := by decide +kernel
theorem dL_bound__66 : decode cL_bound_ 66 = .ok (.bipush 113, 2) := by decide +kernel
theorem dL_bound__68 : decode cL_bound_ 68 = .ok (.bipush 6, 2) := by decide +kernel
theorem dL_bound__70 : decode cL_bound_ 70 = .ok (.iload_n 3, 1) := by decide +kernel
theorem dL_bound__71 : decode cL_bound_ 71 = .ok (.imul, 1) := by decide +kernel
theorem dL_bound__72 : decode cL_bound_ 72 = .ok (.iadd, 1) := by decide +kernel
theorem dL_bound__73 : decode cL_bound_ 73 = .ok (.iaload, 1) := by decide +kernel
theorem dL_bound__74 : decode cL_bound_ 74 = .ok (.invokestatic 199, 3) := by decide +kernel
theorem dL_bound__77 : decode cL_bound_ 77 = .ok (.goto 4, 3) := by decide +kernel
theorem dL_bound__80 : decode cL_bound_ 80 = .ok (.iconst 0, 1) := by decide +kernel
theorem dL_bound__81 : decode cL_bound_ 81 = .ok (.iadd, 1) := by decide +kernel
theorem dL_bound__82 : decode cL_bound_ 82 = .ok (.istore_n 2, 1) := by decide +kernel
theorem dL_bound__83 : decode cL_bound_ 83 = .ok (.iinc 3 1, 3) := by decide +kernel
theorem dL_bound__86 : decode cL_bound_ 86 = .ok (.goto (-55), 3) := by decide +kernel
theorem dL_bound__89 : decode cL_bound_ 89 = .ok (.iload_n 1, 1) := by decide +kernel
theorem dL_bound__90 : decode cL_bound_ 90 = .ok (.ifCond .ne 16, 3) := by decide +kernel
theorem dL_bound__93 : decode cL_bound_ 93 = .ok (.aload_n 0, 1) := by decide +kernel
theorem dL_bound__94 : decode cL_bound_ 94 = .ok (.bipush 8, 2) := by decide +kernel
theorem dL_bound__96 : decode cL_bound_ 96 = .ok (.iaload, 1) := by decide +kernel
theorem dL_bound__97 : decode cL_bound_ 97 = .ok (.iconst 1, 1) := by decide +kernel
theorem dL_bound__98 : decode cL_bound_ 98 = .ok (.if_icmp .ne 8, 3) := by decide +kernel
theorem dL_bound__101 : decode cL_bound_ 101 = .ok (.ldc 205, 2) := by decide +kernel
theorem dL_bound__103 : decode cL_bound_ 103 = .ok (.goto 8, 3) := by decide +kernel
theorem dL_bound__106 : decode cL_bound_ 106 = .ok (.iconst 0, 1) := by decide +kernel
theorem dL_bound__107 : decode cL_bound_ 107 = .ok (.iload_n 2, 1) := by decide +kernel
theorem dL_bound__108 : decode cL_bound_ 108 = .ok (.invokestatic 140, 3) := by decide +kernel
theorem dL_bound__111 : decode cL_bound_ 111 = .ok (.ireturn, 1) := by decide +kernel
set_option maxRecDepth 20000 in
theorem ggL_isAhead_L_island : GoodIn wsL_isAhead wsL_island := goodIn_r _ [4] (by decide +kernel) (by decide +kernel)
set_option maxRecDepth 20000 in
theorem gL_isAhead_L_island : GoodIn wsL_isAhead (va_wsS RL 181 yL_island wsL_island) := goodIn_app (goodIn_of _ (by decide +kernel)) ggL_isAhead_L_island
theorem dL_isAhead_0 : decode cL_isAhead 0 = .ok (.aload_n 0, 1) := by decide +kernel
theorem dL_isAhead_1 : decode cL_isAhead 1 = .ok (.aload_n 0, 1) := by decide +kernel
theorem dL_isAhead_2 : decode cL_isAhead 2 = .ok (.sipush 140, 3) := by decide +kernel
theorem dL_isAhead_5 : decode cL_isAhead 5 = .ok (.iconst 5, 1) := by decide +kernel
theorem dL_isAhead_6 : decode cL_isAhead 6 = .ok (.iload_n 1, 1) := by decide +kernel
theorem dL_isAhead_7 : decode cL_isAhead 7 = .ok (.imul, 1) := by decide +kernel
theorem dL_isAhead_8 : decode cL_isAhead 8 = .ok (.iadd, 1) := by decide +kernel
theorem dL_isAhead_9 : decode cL_isAhead 9 = .ok (.iaload, 1) := by decide +kernel
theorem dL_isAhead_10 : decode cL_isAhead 10 = .ok (.invokestatic 181, 3) := by decide +kernel
theorem dL_isAhead_13 : decode cL_isAhead 13 = .ok (.aload_n 0, 1) := by decide +kernel
theorem dL_isAhead_14 : decode cL_isAhead 14 = .ok (.aload_n 0, 1) := by decide +kernel
theorem dL_isAhead_15 : decode cL_isAhead 15 = .ok (.sipush 140, 3) := by decide +kernel
theorem dL_isAhead_18 : decode cL_isAhead 18 = .ok (.iconst 5, 1) := by decide +kernel
theorem dL_isAhead_19 : decode cL_isAhead 19 = .ok (.iload_n 2, 1) := by decide +kernel
theorem dL_isAhead_20 : decode cL_isAhead 20 = .ok (.imul, 1) := by decide +kernel
theorem dL_isAhead_21 : decode cL_isAhead 21 = .ok (.iadd, 1) := by decide +kernel
theorem dL_isAhead_22 : decode cL_isAhead 22 = .ok (.iaload, 1) := by decide +kernel
theorem dL_isAhead_23 : decode cL_isAhead 23 = .ok (.invokestatic 181, 3) := by decide +kernel
theorem dL_isAhead_26 : decode cL_isAhead 26 = .ok (.if_icmp .ne 7, 3) := by decide +kernel
theorem dL_isAhead_29 : decode cL_isAhead 29 = .ok (.iconst 1, 1) := by decide +kernel
theorem dL_isAhead_30 : decode cL_isAhead 30 = .ok (.goto 4, 3) := by decide +kernel
theorem dL_isAhead_33 : decode cL_isAhead 33 = .ok (.iconst 0, 1) := by decide +kernel
theorem dL_isAhead_34 : decode cL_isAhead 34 = .ok (.istore_n 3, 1) := by decide +kernel
theorem dL_isAhead_35 : decode cL_isAhead 35 = .ok (.aload_n 0, 1) := by decide +kernel
theorem dL_isAhead_36 : decode cL_isAhead 36 = .ok (.sipush 142, 3) := by decide +kernel
theorem dL_isAhead_39 : decode cL_isAhead 39 = .ok (.iconst 5, 1) := by decide +kernel
theorem dL_isAhead_40 : decode cL_isAhead 40 = .ok (.iload_n 1, 1) := by decide +kernel
theorem dL_isAhead_41 : decode cL_isAhead 41 = .ok (.imul, 1) := by decide +kernel
theorem dL_isAhead_42 : decode cL_isAhead 42 = .ok (.iadd, 1) := by decide +kernel
theorem dL_isAhead_43 : decode cL_isAhead 43 = .ok (.iaload, 1) := by decide +kernel
theorem dL_isAhead_44 : decode cL_isAhead 44 = .ok (.istore 4, 2) := by decide +kernel
theorem dL_isAhead_46 : decode cL_isAhead 46 = .ok (.iload_n 3, 1) := by decide +kernel
theorem dL_isAhead_47 : decode cL_isAhead 47 = .ok (.ifCond .eq 40, 3) := by decide +kernel
theorem dL_isAhead_50 : decode cL_isAhead 50 = .ok (.iload 4, 2) := by decide +kernel
theorem dL_isAhead_52 : decode cL_isAhead 52 = .ok (.aload_n 0, 1) := by decide +kernel
theorem dL_isAhead_53 : decode cL_isAhead 53 = .ok (.sipush 142, 3) := by decide +kernel
theorem dL_isAhead_56 : decode cL_isAhead 56 = .ok (.iconst 5, 1) := by decide +kernel
theorem dL_isAhead_57 : decode cL_isAhead 57 = .ok (.iload_n 2, 1) := by decide +kernel
theorem dL_isAhead_58 : decode cL_isAhead 58 = .ok (.imul, 1) := by decide +kernel
theorem dL_isAhead_59 : decode cL_isAhead 59 = .ok (.iadd, 1) := by decide +kernel
theorem dL_isAhead_60 : decode cL_isAhead 60 = .ok (.iaload, 1) := by decide +kernel
theorem dL_isAhead_61 : decode cL_isAhead 61 = .ok (.if_icmp .lt 22, 3) := by decide +kernel
theorem dL_isAhead_64 : decode cL_isAhead 64 = .ok (.iload 4, 2) := by decide +kernel
theorem dL_isAhead_66 : decode cL_isAhead 66 = .ok (.aload_n 0, 1) := by decide +kernel
theorem dL_isAhead_67 : decode cL_isAhead 67 = .ok (.sipush 142, 3) := by decide +kernel
theorem dL_isAhead_70 : decode cL_isAhead 70 = .ok (.iconst 5, 1) := by decide +kernel
theorem dL_isAhead_71 : decode cL_isAhead 71 = .ok (.iload_n 2, 1) := by decide +kernel
theorem dL_isAhead_72 : decode cL_isAhead 72 = .ok (.imul, 1) := by decide +kernel
theorem dL_isAhead_73 : decode cL_isAhead 73 = .ok (.iadd, 1) := by decide +kernel
theorem dL_isAhead_74 : decode cL_isAhead 74 = .ok (.iaload, 1) := by decide +kernel
theorem dL_isAhead_75 : decode cL_isAhead 75 = .ok (.if_icmp .ne 12, 3) := by decide +kernel
theorem dL_isAhead_78 : decode cL_isAhead 78 = .ok (.iload_n 1, 1) := by decide +kernel
theorem dL_isAhead_79 : decode cL_isAhead 79 = .ok (.iload_n 2, 1) := by decide +kernel
theorem dL_isAhead_80 : decode cL_isAhead 80 = .ok (.if_icmp .ge 7, 3) := by decide +kernel
theorem dL_isAhead_83 : decode cL_isAhead 83 = .ok (.iconst 1, 1) := by decide +kernel
theorem dL_isAhead_84 : decode cL_isAhead 84 = .ok (.goto 4, 3) := by decide +kernel
theorem dL_isAhead_87 : decode cL_isAhead 87 = .ok (.iconst 0, 1) := by decide +kernel
theorem dL_isAhead_88 : decode cL_isAhead 88 = .ok (.ireturn, 1) := by decide +kernel
set_option maxRecDepth 20000 in
theorem ggL_keeps_L_isAhead : GoodIn wsL_keeps wsL_isAhead := goodIn_r _ [4, 5, 6, 3, 7] (by decide +kernel) (by decide +kernel)
set_option maxRecDepth 20000 in
theorem gL_keeps_L_isAhead : GoodIn wsL_keeps (va_wsS RL 206 yL_isAhead wsL_isAhead) := goodIn_app (goodIn_of _ (by decide +kernel)) ggL_keeps_L_isAhead
set_option maxRecDepth 20000 in
theorem ggL_keeps_L_island : GoodIn wsL_keeps wsL_island := goodIn_r _ [7] (by decide +kernel) (by decide +kernel)
set_option maxRecDepth 20000 in
theorem gL_keeps_L_island : GoodIn wsL_keeps (va_wsS RL 181 yL_island wsL_island) := goodIn_app (goodIn_of _ (by decide +kernel)) ggL_keeps_L_island
set_option maxRecDepth 20000 in
theorem ggL_keeps_L_bound_ : GoodIn wsL_keeps wsL_bound_ := goodIn_r _ [10, 11, 12, 13, 14, 15, 16, 17, 18, 19, 20, 3, 21, 5, 6, 7] (by decide +kernel) (by decide +kernel)
set_option maxRecDepth 20000 in
theorem gL_keeps_L_bound_ : GoodIn wsL_keeps (va_wsS RL 210 yL_bound_ wsL_bound_) := goodIn_app (goodIn_of _ (by decide +kernel)) ggL_keeps_L_bound_
theorem dL_keeps_0 : decode cL_keeps 0 = .ok (.aload_n 0, 1) := by decide +kernel
theorem dL_keeps_1 : decode cL_keeps 1 = .ok (.sipush 141, 3) := by decide +kernel
theorem dL_keeps_4 : decode cL_keeps 4 = .ok (.iconst 5, 1) := by decide +kernel
theorem dL_keeps_5 : decode cL_keeps 5 = .ok (.iload_n 1, 1) := by decide +kernel
theorem dL_keeps_6 : decode cL_keeps 6 = .ok (.imul, 1) := by decide +kernel
theorem dL_keeps_7 : decode cL_keeps 7 = .ok (.iadd, 1) := by decide +kernel
theorem dL_keeps_8 : decode cL_keeps 8 = .ok (.iaload, 1) := by decide +kernel
theorem dL_keeps_9 : decode cL_keeps 9 = .ok (.istore_n 2, 1) := by decide +kernel
theorem dL_keeps_10 : decode cL_keeps 10 = .ok (.iconst 0, 1) := by decide +kernel
theorem dL_keeps_11 : decode cL_keeps 11 = .ok (.istore_n 3, 1) := by decide +kernel
theorem dL_keeps_12 : decode cL_keeps 12 = .ok (.iload_n 3, 1) := by decide +kernel
theorem dL_keeps_13 : decode cL_keeps 13 = .ok (.aload_n 0, 1) := by decide +kernel
theorem dL_keeps_14 : decode cL_keeps 14 = .ok (.iconst 4, 1) := by decide +kernel
theorem dL_keeps_15 : decode cL_keeps 15 = .ok (.iaload, 1) := by decide +kernel
theorem dL_keeps_16 : decode cL_keeps 16 = .ok (.if_icmp .ge 34, 3) := by decide +kernel
theorem dL_keeps_19 : decode cL_keeps 19 = .ok (.iload_n 2, 1) := by decide +kernel
theorem dL_keeps_20 : decode cL_keeps 20 = .ok (.aload_n 0, 1) := by decide +kernel
theorem dL_keeps_21 : decode cL_keeps 21 = .ok (.iload_n 3, 1) := by decide +kernel
theorem dL_keeps_22 : decode cL_keeps 22 = .ok (.iload_n 1, 1) := by decide +kernel
theorem dL_keeps_23 : decode cL_keeps 23 = .ok (.invokestatic 206, 3) := by decide +kernel
theorem dL_keeps_26 : decode cL_keeps 26 = .ok (.ifCond .eq 15, 3) := by decide +kernel
theorem dL_keeps_29 : decode cL_keeps 29 = .ok (.aload_n 0, 1) := by decide +kernel
theorem dL_keeps_30 : decode cL_keeps 30 = .ok (.sipush 141, 3) := by decide +kernel
theorem dL_keeps_33 : decode cL_keeps 33 = .ok (.iconst 5, 1) := by decide +kernel
theorem dL_keeps_34 : decode cL_keeps 34 = .ok (.iload_n 3, 1) := by decide +kernel
theorem dL_keeps_35 : decode cL_keeps 35 = .ok (.imul, 1) := by decide +kernel
theorem dL_keeps_36 : decode cL_keeps 36 = .ok (.iadd, 1) := by decide +kernel
theorem dL_keeps_37 : decode cL_keeps 37 = .ok (.iaload, 1) := by decide +kernel
theorem dL_keeps_38 : decode cL_keeps 38 = .ok (.goto 4, 3) := by decide +kernel
theorem dL_keeps_41 : decode cL_keeps 41 = .ok (.iconst 0, 1) := by decide +kernel
theorem dL_keeps_42 : decode cL_keeps 42 = .ok (.iadd, 1) := by decide +kernel
theorem dL_keeps_43 : decode cL_keeps 43 = .ok (.istore_n 2, 1) := by decide +kernel
theorem dL_keeps_44 : decode cL_keeps 44 = .ok (.iinc 3 1, 3) := by decide +kernel
theorem dL_keeps_47 : decode cL_keeps 47 = .ok (.goto (-35), 3) := by decide +kernel
theorem dL_keeps_50 : decode cL_keeps 50 = .ok (.iload_n 2, 1) := by decide +kernel
theorem dL_keeps_51 : decode cL_keeps 51 = .ok (.aload_n 0, 1) := by decide +kernel
theorem dL_keeps_52 : decode cL_keeps 52 = .ok (.aload_n 0, 1) := by decide +kernel
theorem dL_keeps_53 : decode cL_keeps 53 = .ok (.aload_n 0, 1) := by decide +kernel
theorem dL_keeps_54 : decode cL_keeps 54 = .ok (.sipush 140, 3) := by decide +kernel
theorem dL_keeps_57 : decode cL_keeps 57 = .ok (.iconst 5, 1) := by decide +kernel
theorem dL_keeps_58 : decode cL_keeps 58 = .ok (.iload_n 1, 1) := by decide +kernel
theorem dL_keeps_59 : decode cL_keeps 59 = .ok (.imul, 1) := by decide +kernel
theorem dL_keeps_60 : decode cL_keeps 60 = .ok (.iadd, 1) := by decide +kernel
theorem dL_keeps_61 : decode cL_keeps 61 = .ok (.iaload, 1) := by decide +kernel
theorem dL_keeps_62 : decode cL_keeps 62 = .ok (.invokestatic 181, 3) := by decide +kernel
theorem dL_keeps_65 : decode cL_keeps 65 = .ok (.invokestatic 210, 3) := by decide +kernel
theorem dL_keeps_68 : decode cL_keeps 68 = .ok (.if_icmp .gt 7, 3) := by decide +kernel
theorem dL_keeps_71 : decode cL_keeps 71 = .ok (.iconst 1, 1) := by decide +kernel
theorem dL_keeps_72 : decode cL_keeps 72 = .ok (.goto 4, 3) := by decide +kernel
theorem dL_keeps_75 : decode cL_keeps 75 = .ok (.iconst 0, 1) := by decide +kernel
theorem dL_keeps_76 : decode cL_keeps 76 = .ok (.ireturn, 1) := by decide +kernel
set_option maxRecDepth 20000 in
theorem ggL_demand__L_island : GoodIn wsL_demand_ wsL_island := goodIn_r _ [4] (by decide +kernel) (by decide +kernel)
set_option maxRecDepth 20000 in
theorem gL_demand__L_island : GoodIn wsL_demand_ (va_wsS RL 181 yL_island wsL_island) := goodIn_app (goodIn_of _ (by decide +kernel)) ggL_demand__L_island
theorem dL_demand__0 : decode cL_demand_ 0 = .ok (.iconst 0, 1) := by decide +kernel
theorem dL_demand__1 : decode cL_demand_ 1 = .ok (.istore_n 2, 1) := by decide +kernel
theorem dL_demand__2 : decode cL_demand_ 2 = .ok (.iconst 0, 1) := by decide +kernel
theorem dL_demand__3 : decode cL_demand_ 3 = .ok (.istore_n 3, 1) := by decide +kernel
theorem dL_demand__4 : decode cL_demand_ 4 = .ok (.iload_n 3, 1) := by decide +kernel
theorem dL_demand__5 : decode cL_demand_ 5 = .ok (.aload_n 0, 1) := by decide +kernel
theorem dL_demand__6 : decode cL_demand_ 6 = .ok (.iconst 4, 1) := by decide +kernel
theorem dL_demand__7 : decode cL_demand_ 7 = .ok (.iaload, 1) := by decide +kernel
theorem dL_demand__8 : decode cL_demand_ 8 = .ok (.if_icmp .ge 54, 3) := by decide +kernel
theorem dL_demand__11 : decode cL_demand_ 11 = .ok (.iload_n 2, 1) := by decide +kernel
theorem dL_demand__12 : decode cL_demand_ 12 = .ok (.aload_n 0, 1) := by decide +kernel
theorem dL_demand__13 : decode cL_demand_ 13 = .ok (.sipush 143, 3) := by decide +kernel
theorem dL_demand__16 : decode cL_demand_ 16 = .ok (.iconst 5, 1) := by decide +kernel
theorem dL_demand__17 : decode cL_demand_ 17 = .ok (.iload_n 3, 1) := by decide +kernel
theorem dL_demand__18 : decode cL_demand_ 18 = .ok (.imul, 1) := by decide +kernel
theorem dL_demand__19 : decode cL_demand_ 19 = .ok (.iadd, 1) := by decide +kernel
theorem dL_demand__20 : decode cL_demand_ 20 = .ok (.iaload, 1) := by decide +kernel
theorem dL_demand__21 : decode cL_demand_ 21 = .ok (.ifCond .ne 32, 3) := by decide +kernel
theorem dL_demand__24 : decode cL_demand_ 24 = .ok (.aload_n 0, 1) := by decide +kernel
theorem dL_demand__25 : decode cL_demand_ 25 = .ok (.aload_n 0, 1) := by decide +kernel
theorem dL_demand__26 : decode cL_demand_ 26 = .ok (.sipush 140, 3) := by decide +kernel
theorem dL_demand__29 : decode cL_demand_ 29 = .ok (.iconst 5, 1) := by decide +kernel
theorem dL_demand__30 : decode cL_demand_ 30 = .ok (.iload_n 3, 1) := by decide +kernel
theorem dL_demand__31 : decode cL_demand_ 31 = .ok (.imul, 1) := by decide +kernel
theorem dL_demand__32 : decode cL_demand_ 32 = .ok (.iadd, 1) := by decide +kernel
theorem dL_demand__33 : decode cL_demand_ 33 = .ok (.iaload, 1) := by decide +kernel
theorem dL_demand__34 : decode cL_demand_ 34 = .ok (.invokestatic 181, 3) := by decide +kernel
theorem dL_demand__37 : decode cL_demand_ 37 = .ok (.iload_n 1, 1) := by decide +kernel
theorem dL_demand__38 : decode cL_demand_ 38 = .ok (.if_icmp .ne 15, 3) := by decide +kernel
theorem dL_demand__41 : decode cL_demand_ 41 = .ok (.aload_n 0, 1) := by decide +kernel
theorem dL_demand__42 : decode cL_demand_ 42 = .ok (.sipush 141, 3) := by decide +kernel
theorem dL_demand__45 : decode cL_demand_ 45 = .ok (.iconst 5, 1) := by decide +kernel
theorem dL_demand__46 : decode cL_demand_ 46 = .ok (.iload_n 3, 1) := by decide +kernel
theorem dL_demand__47 : decode cL_demand_ 47 = .ok (.imul, 1) := by decide +kernel
theorem dL_demand__48 : decode cL_demand_ 48 = .ok (.iadd, 1) := by decide +kernel
theorem dL_demand__49 : decode cL_demand_ 49 = .ok (.iaload, 1) := by decide +kernel
theorem dL_demand__50 : decode cL_demand_ 50 = .ok (.goto 4, 3) := by decide +kernel
theorem dL_demand__53 : decode cL_demand_ 53 = .ok (.iconst 0, 1) := by decide +kernel
theorem dL_demand__54 : decode cL_demand_ 54 = .ok (.iadd, 1) := by decide +kernel
theorem dL_demand__55 : decode cL_demand_ 55 = .ok (.istore_n 2, 1) := by decide +kernel
theorem dL_demand__56 : decode cL_demand_ 56 = .ok (.iinc 3 1, 3) := by decide +kernel
theorem dL_demand__59 : decode cL_demand_ 59 = .ok (.goto (-55), 3) := by decide +kernel
theorem dL_demand__62 : decode cL_demand_ 62 = .ok (.iload_n 2, 1) := by decide +kernel
theorem dL_demand__63 : decode cL_demand_ 63 = .ok (.ireturn, 1) := by decide +kernel
set_option maxRecDepth 20000 in
theorem ggL_shares_L_island : GoodIn wsL_shares wsL_island := goodIn_r _ [5] (by decide +kernel) (by decide +kernel)
set_option maxRecDepth 20000 in
theorem gL_shares_L_island : GoodIn wsL_shares (va_wsS RL 181 yL_island wsL_island) := goodIn_app (goodIn_of _ (by decide +kernel)) ggL_shares_L_island
set_option maxRecDepth 20000 in
theorem ggL_shares_L_can : GoodIn wsL_shares wsL_can := goodIn_r _ [8, 9, 10, 11, 12, 2, 3, 4, 5] (by decide +kernel) (by decide +kernel)
set_option maxRecDepth 20000 in
theorem gL_shares_L_can : GoodIn wsL_shares (va_wsS RL 202 yL_can wsL_can) := goodIn_app (goodIn_of _ (by decide +kernel)) ggL_shares_L_can
theorem dL_shares_0 : decode cL_shares 0 = .ok (.bipush 6, 2) := by decide +kernel
theorem dL_shares_2 : decode cL_shares 2 = .ok (.newarray .int, 2) := by decide +kernel
theorem dL_shares_4 : decode cL_shares 4 = .ok (.astore_n 3, 1) := by decide +kernel
theorem dL_shares_5 : decode cL_shares 5 = .ok (.iload_n 2, 1) := by decide +kernel
theorem dL_shares_6 : decode cL_shares 6 = .ok (.istore 4, 2) := by decide +kernel
theorem dL_shares_8 : decode cL_shares 8 = .ok (.iconst 0, 1) := by decide +kernel
theorem dL_shares_9 : decode cL_shares 9 = .ok (.istore 5, 2) := by decide +kernel
theorem dL_shares_11 : decode cL_shares 11 = .ok (.iload 5, 2) := by decide +kernel
theorem dL_shares_13 : decode cL_shares 13 = .ok (.aload_n 0, 1) := by decide +kernel
theorem dL_shares_14 : decode cL_shares 14 = .ok (.iconst 2, 1) := by decide +kernel
theorem dL_shares_15 : decode cL_shares 15 = .ok (.iaload, 1) := by decide +kernel
theorem dL_shares_16 : decode cL_shares 16 = .ok (.if_icmp .ge 80, 3) := by decide +kernel
theorem dL_shares_19 : decode cL_shares 19 = .ok (.aload_n 0, 1) := by decide +kernel
theorem dL_shares_20 : decode cL_shares 20 = .ok (.bipush 55, 2) := by decide +kernel
theorem dL_shares_22 : decode cL_shares 22 = .ok (.bipush 9, 2) := by decide +kernel
theorem dL_shares_24 : decode cL_shares 24 = .ok (.iload 5, 2) := by decide +kernel
theorem dL_shares_26 : decode cL_shares 26 = .ok (.imul, 1) := by decide +kernel
theorem dL_shares_27 : decode cL_shares 27 = .ok (.iadd, 1) := by decide +kernel
theorem dL_shares_28 : decode cL_shares 28 = .ok (.iaload, 1) := by decide +kernel
theorem dL_shares_29 : decode cL_shares 29 = .ok (.iconst 2, 1) := by decide +kernel
theorem dL_shares_30 : decode cL_shares 30 = .ok (.if_icmp .ne 25, 3) := by decide +kernel
theorem dL_shares_33 : decode cL_shares 33 = .ok (.aload_n 0, 1) := by decide +kernel
theorem dL_shares_34 : decode cL_shares 34 = .ok (.aload_n 0, 1) := by decide +kernel
theorem dL_shares_35 : decode cL_shares 35 = .ok (.bipush 50, 2) := by decide +kernel
theorem dL_shares_37 : decode cL_shares 37 = .ok (.bipush 9, 2) := by decide +kernel
theorem dL_shares_39 : decode cL_shares 39 = .ok (.iload 5, 2) := by decide +kernel
theorem dL_shares_41 : decode cL_shares 41 = .ok (.imul, 1) := by decide +kernel
theorem dL_shares_42 : decode cL_shares 42 = .ok (.iadd, 1) := by decide +kernel
theorem dL_shares_43 : decode cL_shares 43 = .ok (.iaload, 1) := by decide +kernel
theorem dL_shares_44 : decode cL_shares 44 = .ok (.invokestatic 181, 3) := by decide +kernel
theorem dL_shares_47 : decode cL_shares 47 = .ok (.iload_n 1, 1) := by decide +kernel
theorem dL_shares_48 : decode cL_shares 48 = .ok (.if_icmp .ne 7, 3) := by decide +kernel
theorem dL_shares_51 : decode cL_shares 51 = .ok (.iconst 1, 1) := by decide +kernel
theorem dL_shares_52 : decode cL_shares 52 = .ok (.goto 4, 3) := by decide +kernel
theorem dL_shares_55 : decode cL_shares 55 = .ok (.iconst 0, 1) := by decide +kernel
theorem dL_shares_56 : decode cL_shares 56 = .ok (.istore 6, 2) := by decide +kernel
theorem dL_shares_58 : decode cL_shares 58 = .ok (.aload_n 3, 1) := by decide +kernel
theorem dL_shares_59 : decode cL_shares 59 = .ok (.iload 5, 2) := by decide +kernel
theorem dL_shares_61 : decode cL_shares 61 = .ok (.iload 6, 2) := by decide +kernel
theorem dL_shares_63 : decode cL_shares 63 = .ok (.ifCond .eq 16, 3) := by decide +kernel
theorem dL_shares_66 : decode cL_shares 66 = .ok (.aload_n 0, 1) := by decide +kernel
theorem dL_shares_67 : decode cL_shares 67 = .ok (.bipush 51, 2) := by decide +kernel
theorem dL_shares_69 : decode cL_shares 69 = .ok (.bipush 9, 2) := by decide +kernel
theorem dL_shares_71 : decode cL_shares 71 = .ok (.iload 5, 2) := by decide +kernel
theorem dL_shares_73 : decode cL_shares 73 = .ok (.imul, 1) := by decide +kernel
theorem dL_shares_74 : decode cL_shares 74 = .ok (.iadd, 1) := by decide +kernel
theorem dL_shares_75 : decode cL_shares 75 = .ok (.iaload, 1) := by decide +kernel
theorem dL_shares_76 : decode cL_shares 76 = .ok (.goto 4, 3) := by decide +kernel
theorem dL_shares_79 : decode cL_shares 79 = .ok (.iconst 0, 1) := by decide +kernel
theorem dL_shares_80 : decode cL_shares 80 = .ok (.iastore, 1) := by decide +kernel
theorem dL_shares_81 : decode cL_shares 81 = .ok (.iload 4, 2) := by decide +kernel
theorem dL_shares_83 : decode cL_shares 83 = .ok (.aload_n 3, 1) := by decide +kernel
theorem dL_shares_84 : decode cL_shares 84 = .ok (.iload 5, 2) := by decide +kernel
theorem dL_shares_86 : decode cL_shares 86 = .ok (.iaload, 1) := by decide +kernel
theorem dL_shares_87 : decode cL_shares 87 = .ok (.isub, 1) := by decide +kernel
theorem dL_shares_88 : decode cL_shares 88 = .ok (.istore 4, 2) := by decide +kernel
theorem dL_shares_90 : decode cL_shares 90 = .ok (.iinc 5 1, 3) := by decide +kernel
theorem dL_shares_93 : decode cL_shares 93 = .ok (.goto (-82), 3) := by decide +kernel
theorem dL_shares_96 : decode cL_shares 96 = .ok (.iload 4, 2) := by decide +kernel
theorem dL_shares_98 : decode cL_shares 98 = .ok (.ifCond .le 174, 3) := by decide +kernel
theorem dL_shares_101 : decode cL_shares 101 = .ok (.iconst (-1), 1) := by decide +kernel
theorem dL_shares_102 : decode cL_shares 102 = .ok (.istore 5, 2) := by decide +kernel
theorem dL_shares_104 : decode cL_shares 104 = .ok (.iconst 0, 1) := by decide +kernel
theorem dL_shares_105 : decode cL_shares 105 = .ok (.istore 6, 2) := by decide +kernel
theorem dL_shares_107 : decode cL_shares 107 = .ok (.iload 6, 2) := by decide +kernel
theorem dL_shares_109 : decode cL_shares 109 = .ok (.aload_n 0, 1) := by decide +kernel
theorem dL_shares_110 : decode cL_shares 110 = .ok (.iconst 2, 1) := by decide +kernel
theorem dL_shares_111 : decode cL_shares 111 = .ok (.iaload, 1) := by decide +kernel
theorem dL_shares_112 : decode cL_shares 112 = .ok (.if_icmp .ge 139, 3) := by decide +kernel
theorem dL_shares_115 : decode cL_shares 115 = .ok (.aload_n 0, 1) := by decide +kernel
theorem dL_shares_116 : decode cL_shares 116 = .ok (.iload 6, 2) := by decide +kernel
theorem dL_shares_118 : decode cL_shares 118 = .ok (.iload_n 1, 1) := by decide +kernel
theorem dL_shares_119 : decode cL_shares 119 = .ok (.invokestatic 202, 3) := by decide +kernel
theorem dL_shares_122 : decode cL_shares 122 = .ok (.aload_n 0, 1) := by decide +kernel
theorem dL_shares_123 : decode cL_shares 123 = .ok (.bipush 51, 2) := by decide +kernel
theorem dL_shares_125 : decode cL_shares 125 = .ok (.bipush 9, 2) := by decide +kernel
theorem dL_shares_127 : decode cL_shares 127 = .ok (.iload 6, 2) := by decide +kernel
theorem dL_shares_129 : decode cL_shares 129 = .ok (.imul, 1) := by decide +kernel
theorem dL_shares_130 : decode cL_shares 130 = .ok (.iadd, 1) := by decide +kernel
theorem dL_shares_131 : decode cL_shares 131 = .ok (.iaload, 1) := by decide +kernel
theorem dL_shares_132 : decode cL_shares 132 = .ok (.isub, 1) := by decide +kernel
theorem dL_shares_133 : decode cL_shares 133 = .ok (.istore 7, 2) := by decide +kernel
theorem dL_shares_135 : decode cL_shares 135 = .ok (.iload 5, 2) := by decide +kernel
theorem dL_shares_137 : decode cL_shares 137 = .ok (.ifCond .ge 7, 3) := by decide +kernel
theorem dL_shares_140 : decode cL_shares 140 = .ok (.iconst 1, 1) := by decide +kernel
theorem dL_shares_141 : decode cL_shares 141 = .ok (.goto 21, 3) := by decide +kernel
theorem dL_shares_144 : decode cL_shares 144 = .ok (.aload_n 0, 1) := by decide +kernel
theorem dL_shares_145 : decode cL_shares 145 = .ok (.iload 5, 2) := by decide +kernel
theorem dL_shares_147 : decode cL_shares 147 = .ok (.iload_n 1, 1) := by decide +kernel
theorem dL_shares_148 : decode cL_shares 148 = .ok (.invokestatic 202, 3) := by decide +kernel
theorem dL_shares_151 : decode cL_shares 151 = .ok (.aload_n 0, 1) := by decide +kernel
theorem dL_shares_152 : decode cL_shares 152 = .ok (.bipush 51, 2) := by decide +kernel
theorem dL_shares_154 : decode cL_shares 154 = .ok (.bipush 9, 2) := by decide +kernel
theorem dL_shares_156 : decode cL_shares 156 = .ok (.iload 5, 2) := by decide +kernel
theorem dL_shares_158 : decode cL_shares 158 = .ok (.imul, 1) := by decide +kernel
theorem dL_shares_159 : decode cL_shares 159 = .ok (.iadd, 1) := by decide +kernel
theorem dL_shares_160 : decode cL_shares 160 = .ok (.iaload, 1) := by decide +kernel
theorem dL_shares_161 : decode cL_shares 161 = .ok (.isub, 1) := by decide +kernel
theorem dL_shares_162 : decode cL_shares 162 = .ok (.istore 8, 2) := by decide +kernel
theorem dL_shares_164 : decode cL_shares 164 = .ok (.aload_n 3, 1) := by decide +kernel
theorem dL_shares_165 : decode cL_shares 165 = .ok (.iload 6, 2) := by decide +kernel
theorem dL_shares_167 : decode cL_shares 167 = .ok (.iaload, 1) := by decide +kernel
theorem dL_shares_168 : decode cL_shares 168 = .ok (.aload_n 0, 1) := by decide +kernel
theorem dL_shares_169 : decode cL_shares 169 = .ok (.bipush 51, 2) := by decide +kernel
theorem dL_shares_171 : decode cL_shares 171 = .ok (.bipush 9, 2) := by decide +kernel
theorem dL_shares_173 : decode cL_shares 173 = .ok (.iload 6, 2) := by decide +kernel
theorem dL_shares_175 : decode cL_shares 175 = .ok (.imul, 1) := by decide +kernel
theorem dL_shares_176 : decode cL_shares 176 = .ok (.iadd, 1) := by decide +kernel
theorem dL_shares_177 : decode cL_shares 177 = .ok (.iaload, 1) := by decide +kernel
theorem dL_shares_178 : decode cL_shares 178 = .ok (.isub, 1) := by decide +kernel
theorem dL_shares_179 : decode cL_shares 179 = .ok (.istore 9, 2) := by decide +kernel
theorem dL_shares_181 : decode cL_shares 181 = .ok (.iload 7, 2) := by decide +kernel
theorem dL_shares_183 : decode cL_shares 183 = .ok (.ifCond .le 45, 3) := by decide +kernel
theorem dL_shares_186 : decode cL_shares 186 = .ok (.iload 9, 2) := by decide +kernel
theorem dL_shares_188 : decode cL_shares 188 = .ok (.iload 7, 2) := by decide +kernel
theorem dL_shares_190 : decode cL_shares 190 = .ok (.if_icmp .ge 38, 3) := by decide +kernel
theorem dL_shares_193 : decode cL_shares 193 = .ok (.iload 5, 2) := by decide +kernel
theorem dL_shares_195 : decode cL_shares 195 = .ok (.ifCond .lt 29, 3) := by decide +kernel
theorem dL_shares_198 : decode cL_shares 198 = .ok (.iload 9, 2) := by decide +kernel
theorem dL_shares_200 : decode cL_shares 200 = .ok (.iload 8, 2) := by decide +kernel
theorem dL_shares_202 : decode cL_shares 202 = .ok (.imul, 1) := by decide +kernel
theorem dL_shares_203 : decode cL_shares 203 = .ok (.aload_n 3, 1) := by decide +kernel
theorem dL_shares_204 : decode cL_shares 204 = .ok (.iload 5, 2) := by decide +kernel
theorem dL_shares_206 : decode cL_shares 206 = .ok (.iaload, 1) := by decide +kernel
theorem dL_shares_207 : decode cL_shares 207 = .ok (.aload_n 0, 1) := by decide +kernel
theorem dL_shares_208 : decode cL_shares 208 = .ok (.bipush 51, 2) := by decide +kernel
theorem dL_shares_210 : decode cL_shares 210 = .ok (.bipush 9, 2) := by decide +kernel
theorem dL_shares_212 : decode cL_shares 212 = .ok (.iload 5, 2) := by decide +kernel
theorem dL_shares_214 : decode cL_shares 214 = .ok (.imul, 1) := by decide +kernel
theorem dL_shares_215 : decode cL_shares 215 = .ok (.iadd, 1) := by decide +kernel
theorem dL_shares_216 : decode cL_shares 216 = .ok (.iaload, 1) := by decide +kernel
theorem dL_shares_217 : decode cL_shares 217 = .ok (.isub, 1) := by decide +kernel
theorem dL_shares_218 : decode cL_shares 218 = .ok (.iload 7, 2) := by decide +kernel
theorem dL_shares_220 : decode cL_shares 220 = .ok (.imul, 1) := by decide +kernel
theorem dL_shares_221 : decode cL_shares 221 = .ok (.if_icmp .ge 7, 3) := by decide +kernel
theorem dL_shares_224 : decode cL_shares 224 = .ok (.iconst 1, 1) := by decide +kernel
theorem dL_shares_225 : decode cL_shares 225 = .ok (.goto 4, 3) := by decide +kernel
theorem dL_shares_228 : decode cL_shares 228 = .ok (.iconst 0, 1) := by decide +kernel
theorem dL_shares_229 : decode cL_shares 229 = .ok (.istore 10, 2) := by decide +kernel
theorem dL_shares_231 : decode cL_shares 231 = .ok (.iload 10, 2) := by decide +kernel
theorem dL_shares_233 : decode cL_shares 233 = .ok (.ifCond .eq 8, 3) := by decide +kernel
theorem dL_shares_236 : decode cL_shares 236 = .ok (.iload 6, 2) := by decide +kernel
theorem dL_shares_238 : decode cL_shares 238 = .ok (.goto 5, 3) := by decide +kernel
theorem dL_shares_241 : decode cL_shares 241 = .ok (.iload 5, 2) := by decide +kernel
theorem dL_shares_243 : decode cL_shares 243 = .ok (.istore 5, 2) := by decide +kernel
theorem dL_shares_245 : decode cL_shares 245 = .ok (.iinc 6 1, 3) := by decide +kernel
theorem dL_shares_248 : decode cL_shares 248 = .ok (.goto (-141), 3) := by decide +kernel
theorem dL_shares_251 : decode cL_shares 251 = .ok (.iload 5, 2) := by decide +kernel
theorem dL_shares_253 : decode cL_shares 253 = .ok (.ifCond .ge 5, 3) := by decide +kernel
theorem dL_shares_256 : decode cL_shares 256 = .ok (.aload_n 3, 1) := by decide +kernel
theorem dL_shares_257 : decode cL_shares 257 = .ok (.areturn, 1) := by decide +kernel
theorem dL_shares_258 : decode cL_shares 258 = .ok (.aload_n 3, 1) := by decide +kernel
theorem dL_shares_259 : decode cL_shares 259 = .ok (.iload 5, 2) := by decide +kernel
theorem dL_shares_261 : decode cL_shares 261 = .ok (.dup2, 1) := by decide +kernel
theorem dL_shares_262 : decode cL_shares 262 = .ok (.iaload, 1) := by decide +kernel
theorem dL_shares_263 : decode cL_shares 263 = .ok (.iconst 1, 1) := by decide +kernel
theorem dL_shares_264 : decode cL_shares 264 = .ok (.iadd, 1) := by decide +kernel
theorem dL_shares_265 : decode cL_shares 265 = .ok (.iastore, 1) := by decide +kernel
theorem dL_shares_266 : decode cL_shares 266 = .ok (.iinc 4 (-1), 3) := by decide +kernel
theorem dL_shares_269 : decode cL_shares 269 = .ok (.goto (-173), 3) := by decide +kernel
theorem dL_shares_272 : decode cL_shares 272 = .ok (.aload_n 3, 1) := by decide +kernel
theorem dL_shares_273 : decode cL_shares 273 = .ok (.areturn, 1) := by decide +kernel
set_option maxRecDepth 20000 in
theorem ggL_sheds_L_island : GoodIn wsL_sheds wsL_island := goodIn_r _ [8] (by decide +kernel) (by decide +kernel)
set_option maxRecDepth 20000 in
theorem gL_sheds_L_island : GoodIn wsL_sheds (va_wsS RL 181 yL_island wsL_island) := goodIn_app (goodIn_of _ (by decide +kernel)) ggL_sheds_L_island
set_option maxRecDepth 20000 in
theorem ggL_sheds_L_keeps : GoodIn wsL_sheds wsL_keeps := goodIn_r _ [11, 12, 13, 7, 14, 5, 6, 8, 15, 16, 17, 18, 19, 3, 20, 21, 1, 2, 4, 22, 23, 24] (by decide +kernel) (by decide +kernel)
set_option maxRecDepth 20000 in
theorem gL_sheds_L_keeps : GoodIn wsL_sheds (va_wsS RL 212 yL_keeps wsL_keeps) := goodIn_app (goodIn_of _ (by decide +kernel)) ggL_sheds_L_keeps
theorem dL_sheds_0 : decode cL_sheds 0 = .ok (.iconst 0, 1) := by decide +kernel
theorem dL_sheds_1 : decode cL_sheds 1 = .ok (.istore_n 2, 1) := by decide +kernel
theorem dL_sheds_2 : decode cL_sheds 2 = .ok (.iload_n 2, 1) := by decide +kernel
theorem dL_sheds_3 : decode cL_sheds 3 = .ok (.aload_n 0, 1) := by decide +kernel
theorem dL_sheds_4 : decode cL_sheds 4 = .ok (.iconst 4, 1) := by decide +kernel
theorem dL_sheds_5 : decode cL_sheds 5 = .ok (.iaload, 1) := by decide +kernel
theorem dL_sheds_6 : decode cL_sheds 6 = .ok (.if_icmp .ge 116, 3) := by decide +kernel
theorem dL_sheds_9 : decode cL_sheds 9 = .ok (.sipush 140, 3) := by decide +kernel
theorem dL_sheds_12 : decode cL_sheds 12 = .ok (.iconst 5, 1) := by decide +kernel
theorem dL_sheds_13 : decode cL_sheds 13 = .ok (.iload_n 2, 1) := by decide +kernel
theorem dL_sheds_14 : decode cL_sheds 14 = .ok (.imul, 1) := by decide +kernel
theorem dL_sheds_15 : decode cL_sheds 15 = .ok (.iadd, 1) := by decide +kernel
theorem dL_sheds_16 : decode cL_sheds 16 = .ok (.istore_n 3, 1) := by decide +kernel
theorem dL_sheds_17 : decode cL_sheds 17 = .ok (.aload_n 0, 1) := by decide +kernel
theorem dL_sheds_18 : decode cL_sheds 18 = .ok (.aload_n 0, 1) := by decide +kernel
theorem dL_sheds_19 : decode cL_sheds 19 = .ok (.iload_n 3, 1) := by decide +kernel
theorem dL_sheds_20 : decode cL_sheds 20 = .ok (.iaload, 1) := by decide +kernel
theorem dL_sheds_21 : decode cL_sheds 21 = .ok (.invokestatic 181, 3) := by decide +kernel
theorem dL_sheds_24 : decode cL_sheds 24 = .ok (.iload_n 1, 1) := by decide +kernel
theorem dL_sheds_25 : decode cL_sheds 25 = .ok (.if_icmp .ne 91, 3) := by decide +kernel
theorem dL_sheds_28 : decode cL_sheds 28 = .ok (.aload_n 0, 1) := by decide +kernel
theorem dL_sheds_29 : decode cL_sheds 29 = .ok (.iload_n 2, 1) := by decide +kernel
theorem dL_sheds_30 : decode cL_sheds 30 = .ok (.invokestatic 212, 3) := by decide +kernel
theorem dL_sheds_33 : decode cL_sheds 33 = .ok (.istore 4, 2) := by decide +kernel
theorem dL_sheds_35 : decode cL_sheds 35 = .ok (.aload_n 0, 1) := by decide +kernel
theorem dL_sheds_36 : decode cL_sheds 36 = .ok (.iload_n 3, 1) := by decide +kernel
theorem dL_sheds_37 : decode cL_sheds 37 = .ok (.iconst 3, 1) := by decide +kernel
theorem dL_sheds_38 : decode cL_sheds 38 = .ok (.iadd, 1) := by decide +kernel
theorem dL_sheds_39 : decode cL_sheds 39 = .ok (.iaload, 1) := by decide +kernel
theorem dL_sheds_40 : decode cL_sheds 40 = .ok (.iconst 1, 1) := by decide +kernel
theorem dL_sheds_41 : decode cL_sheds 41 = .ok (.if_icmp .ne 7, 3) := by decide +kernel
theorem dL_sheds_44 : decode cL_sheds 44 = .ok (.iconst 1, 1) := by decide +kernel
theorem dL_sheds_45 : decode cL_sheds 45 = .ok (.goto 4, 3) := by decide +kernel
theorem dL_sheds_48 : decode cL_sheds 48 = .ok (.iconst 0, 1) := by decide +kernel
theorem dL_sheds_49 : decode cL_sheds 49 = .ok (.istore 5, 2) := by decide +kernel
theorem dL_sheds_51 : decode cL_sheds 51 = .ok (.aload_n 0, 1) := by decide +kernel
theorem dL_sheds_52 : decode cL_sheds 52 = .ok (.iload_n 3, 1) := by decide +kernel
theorem dL_sheds_53 : decode cL_sheds 53 = .ok (.iconst 3, 1) := by decide +kernel
theorem dL_sheds_54 : decode cL_sheds 54 = .ok (.iadd, 1) := by decide +kernel
theorem dL_sheds_55 : decode cL_sheds 55 = .ok (.iload 4, 2) := by decide +kernel
theorem dL_sheds_57 : decode cL_sheds 57 = .ok (.ifCond .eq 16, 3) := by decide +kernel
theorem dL_sheds_60 : decode cL_sheds 60 = .ok (.iload 5, 2) := by decide +kernel
theorem dL_sheds_62 : decode cL_sheds 62 = .ok (.ifCond .eq 15, 3) := by decide +kernel
theorem dL_sheds_65 : decode cL_sheds 65 = .ok (.aload_n 0, 1) := by decide +kernel
theorem dL_sheds_66 : decode cL_sheds 66 = .ok (.iload_n 3, 1) := by decide +kernel
theorem dL_sheds_67 : decode cL_sheds 67 = .ok (.iconst 4, 1) := by decide +kernel
theorem dL_sheds_68 : decode cL_sheds 68 = .ok (.iadd, 1) := by decide +kernel
theorem dL_sheds_69 : decode cL_sheds 69 = .ok (.iaload, 1) := by decide +kernel
theorem dL_sheds_70 : decode cL_sheds 70 = .ok (.ifCond .le 7, 3) := by decide +kernel
theorem dL_sheds_73 : decode cL_sheds 73 = .ok (.iconst 1, 1) := by decide +kernel
theorem dL_sheds_74 : decode cL_sheds 74 = .ok (.goto 4, 3) := by decide +kernel
theorem dL_sheds_77 : decode cL_sheds 77 = .ok (.iconst 0, 1) := by decide +kernel
theorem dL_sheds_78 : decode cL_sheds 78 = .ok (.iastore, 1) := by decide +kernel
theorem dL_sheds_79 : decode cL_sheds 79 = .ok (.aload_n 0, 1) := by decide +kernel
theorem dL_sheds_80 : decode cL_sheds 80 = .ok (.iload_n 3, 1) := by decide +kernel
theorem dL_sheds_81 : decode cL_sheds 81 = .ok (.iconst 4, 1) := by decide +kernel
theorem dL_sheds_82 : decode cL_sheds 82 = .ok (.iadd, 1) := by decide +kernel
theorem dL_sheds_83 : decode cL_sheds 83 = .ok (.iload 4, 2) := by decide +kernel
theorem dL_sheds_85 : decode cL_sheds 85 = .ok (.ifCond .ne 10, 3) := by decide +kernel
theorem dL_sheds_88 : decode cL_sheds 88 = .ok (.aload_n 0, 1) := by decide +kernel
theorem dL_sheds_89 : decode cL_sheds 89 = .ok (.bipush 6, 2) := by decide +kernel
theorem dL_sheds_91 : decode cL_sheds 91 = .ok (.iaload, 1) := by decide +kernel
theorem dL_sheds_92 : decode cL_sheds 92 = .ok (.goto 23, 3) := by decide +kernel
theorem dL_sheds_95 : decode cL_sheds 95 = .ok (.iconst 0, 1) := by decide +kernel
theorem dL_sheds_96 : decode cL_sheds 96 = .ok (.aload_n 0, 1) := by decide +kernel
theorem dL_sheds_97 : decode cL_sheds 97 = .ok (.iload_n 3, 1) := by decide +kernel
theorem dL_sheds_98 : decode cL_sheds 98 = .ok (.iconst 4, 1) := by decide +kernel
theorem dL_sheds_99 : decode cL_sheds 99 = .ok (.iadd, 1) := by decide +kernel
theorem dL_sheds_100 : decode cL_sheds 100 = .ok (.iaload, 1) := by decide +kernel
theorem dL_sheds_101 : decode cL_sheds 101 = .ok (.iload 5, 2) := by decide +kernel
theorem dL_sheds_103 : decode cL_sheds 103 = .ok (.ifCond .eq 7, 3) := by decide +kernel
theorem dL_sheds_106 : decode cL_sheds 106 = .ok (.iconst 1, 1) := by decide +kernel
theorem dL_sheds_107 : decode cL_sheds 107 = .ok (.goto 4, 3) := by decide +kernel
theorem dL_sheds_110 : decode cL_sheds 110 = .ok (.iconst 0, 1) := by decide +kernel
theorem dL_sheds_111 : decode cL_sheds 111 = .ok (.isub, 1) := by decide +kernel
theorem dL_sheds_112 : decode cL_sheds 112 = .ok (.invokestatic 140, 3) := by decide +kernel
theorem dL_sheds_115 : decode cL_sheds 115 = .ok (.iastore, 1) := by decide +kernel
theorem dL_sheds_116 : decode cL_sheds 116 = .ok (.iinc 2 1, 3) := by decide +kernel
theorem dL_sheds_119 : decode cL_sheds 119 = .ok (.goto (-117), 3) := by decide +kernel
theorem dL_sheds_122 : decode cL_sheds 122 = .ok (.return_, 1) := by decide +kernel
set_option maxRecDepth 20000 in
theorem ggL_balances_L_sheds : GoodIn wsL_balances wsL_sheds := goodIn_r _ [8, 9, 10, 3, 11, 12, 13, 7, 14, 15, 16, 17, 18, 19, 20, 21, 22, 23, 1, 2, 4, 24, 25, 26, 27] (by decide +kernel) (by decide +kernel)
set_option maxRecDepth 20000 in
theorem gL_balances_L_sheds : GoodIn wsL_balances (va_wsS RL 216 yL_sheds wsL_sheds) := goodIn_app (goodIn_of _ (by decide +kernel)) ggL_balances_L_sheds
set_option maxRecDepth 20000 in
theorem ggL_balances_L_demand_ : GoodIn wsL_balances wsL_demand_ := goodIn_r _ [30, 12, 13, 7, 14] (by decide +kernel) (by decide +kernel)
set_option maxRecDepth 20000 in
theorem gL_balances_L_demand_ : GoodIn wsL_balances (va_wsS RL 220 yL_demand_ wsL_demand_) := goodIn_app (goodIn_of _ (by decide +kernel)) ggL_balances_L_demand_
set_option maxRecDepth 20000 in
theorem ggL_balances_L_shares : GoodIn wsL_balances wsL_shares := goodIn_r _ [33, 34, 12, 13, 7, 14, 25, 26, 27, 1, 2, 3, 4] (by decide +kernel) (by decide +kernel)
set_option maxRecDepth 20000 in
theorem gL_balances_L_shares : GoodIn wsL_balances (va_wsS RL 222 yL_shares wsL_shares) := goodIn_app (goodIn_of _ (by decide +kernel)) ggL_balances_L_shares
set_option maxRecDepth 20000 in
theorem ggL_balances_L_island : GoodIn wsL_balances wsL_island := goodIn_r _ [14] (by decide +kernel) (by decide +kernel)
set_option maxRecDepth 20000 in
theorem gL_balances_L_island : GoodIn wsL_balances (va_wsS RL 181 yL_island wsL_island) := goodIn_app (goodIn_of _ (by decide +kernel)) ggL_balances_L_island
theorem dL_balances_0 : decode cL_balances 0 = .ok (.aload_n 0, 1) := by decide +kernel
theorem dL_balances_1 : decode cL_balances 1 = .ok (.iload_n 1, 1) := by decide +kernel
theorem dL_balances_2 : decode cL_balances 2 = .ok (.invokestatic 216, 3) := by decide +kernel
theorem dL_balances_5 : decode cL_balances 5 = .ok (.aload_n 0, 1) := by decide +kernel
theorem dL_balances_6 : decode cL_balances 6 = .ok (.iload_n 1, 1) := by decide +kernel
theorem dL_balances_7 : decode cL_balances 7 = .ok (.invokestatic 220, 3) := by decide +kernel
theorem dL_balances_10 : decode cL_balances 10 = .ok (.istore_n 2, 1) := by decide +kernel
theorem dL_balances_11 : decode cL_balances 11 = .ok (.aload_n 0, 1) := by decide +kernel
theorem dL_balances_12 : decode cL_balances 12 = .ok (.iload_n 1, 1) := by decide +kernel
theorem dL_balances_13 : decode cL_balances 13 = .ok (.iload_n 2, 1) := by decide +kernel
theorem dL_balances_14 : decode cL_balances 14 = .ok (.invokestatic 222, 3) := by decide +kernel
theorem dL_balances_17 : decode cL_balances 17 = .ok (.astore_n 3, 1) := by decide +kernel
theorem dL_balances_18 : decode cL_balances 18 = .ok (.iload_n 2, 1) := by decide +kernel
theorem dL_balances_19 : decode cL_balances 19 = .ok (.istore 4, 2) := by decide +kernel
theorem dL_balances_21 : decode cL_balances 21 = .ok (.iconst 0, 1) := by decide +kernel
theorem dL_balances_22 : decode cL_balances 22 = .ok (.istore 5, 2) := by decide +kernel
theorem dL_balances_24 : decode cL_balances 24 = .ok (.iload 5, 2) := by decide +kernel
theorem dL_balances_26 : decode cL_balances 26 = .ok (.aload_n 0, 1) := by decide +kernel
theorem dL_balances_27 : decode cL_balances 27 = .ok (.iconst 2, 1) := by decide +kernel
theorem dL_balances_28 : decode cL_balances 28 = .ok (.iaload, 1) := by decide +kernel
theorem dL_balances_29 : decode cL_balances 29 = .ok (.if_icmp .ge 145, 3) := by decide +kernel
theorem dL_balances_32 : decode cL_balances 32 = .ok (.aload_n 0, 1) := by decide +kernel
theorem dL_balances_33 : decode cL_balances 33 = .ok (.bipush 55, 2) := by decide +kernel
theorem dL_balances_35 : decode cL_balances 35 = .ok (.bipush 9, 2) := by decide +kernel
theorem dL_balances_37 : decode cL_balances 37 = .ok (.iload 5, 2) := by decide +kernel
theorem dL_balances_39 : decode cL_balances 39 = .ok (.imul, 1) := by decide +kernel
theorem dL_balances_40 : decode cL_balances 40 = .ok (.iadd, 1) := by decide +kernel
theorem dL_balances_41 : decode cL_balances 41 = .ok (.iaload, 1) := by decide +kernel
theorem dL_balances_42 : decode cL_balances 42 = .ok (.iconst 2, 1) := by decide +kernel
theorem dL_balances_43 : decode cL_balances 43 = .ok (.if_icmp .ne 25, 3) := by decide +kernel
theorem dL_balances_46 : decode cL_balances 46 = .ok (.aload_n 0, 1) := by decide +kernel
theorem dL_balances_47 : decode cL_balances 47 = .ok (.aload_n 0, 1) := by decide +kernel
theorem dL_balances_48 : decode cL_balances 48 = .ok (.bipush 50, 2) := by decide +kernel
theorem dL_balances_50 : decode cL_balances 50 = .ok (.bipush 9, 2) := by decide +kernel
theorem dL_balances_52 : decode cL_balances 52 = .ok (.iload 5, 2) := by decide +kernel
theorem dL_balances_54 : decode cL_balances 54 = .ok (.imul, 1) := by decide +kernel
theorem dL_balances_55 : decode cL_balances 55 = .ok (.iadd, 1) := by decide +kernel
theorem dL_balances_56 : decode cL_balances 56 = .ok (.iaload, 1) := by decide +kernel
theorem dL_balances_57 : decode cL_balances 57 = .ok (.invokestatic 181, 3) := by decide +kernel
theorem dL_balances_60 : decode cL_balances 60 = .ok (.iload_n 1, 1) := by decide +kernel
theorem dL_balances_61 : decode cL_balances 61 = .ok (.if_icmp .ne 7, 3) := by decide +kernel
theorem dL_balances_64 : decode cL_balances 64 = .ok (.iconst 1, 1) := by decide +kernel
theorem dL_balances_65 : decode cL_balances 65 = .ok (.goto 4, 3) := by decide +kernel
theorem dL_balances_68 : decode cL_balances 68 = .ok (.iconst 0, 1) := by decide +kernel
theorem dL_balances_69 : decode cL_balances 69 = .ok (.istore 6, 2) := by decide +kernel
theorem dL_balances_71 : decode cL_balances 71 = .ok (.aload_n 0, 1) := by decide +kernel
theorem dL_balances_72 : decode cL_balances 72 = .ok (.bipush 57, 2) := by decide +kernel
theorem dL_balances_74 : decode cL_balances 74 = .ok (.bipush 9, 2) := by decide +kernel
theorem dL_balances_76 : decode cL_balances 76 = .ok (.iload 5, 2) := by decide +kernel
theorem dL_balances_78 : decode cL_balances 78 = .ok (.imul, 1) := by decide +kernel
theorem dL_balances_79 : decode cL_balances 79 = .ok (.iadd, 1) := by decide +kernel
theorem dL_balances_80 : decode cL_balances 80 = .ok (.iload 6, 2) := by decide +kernel
theorem dL_balances_82 : decode cL_balances 82 = .ok (.ifCond .eq 10, 3) := by decide +kernel
theorem dL_balances_85 : decode cL_balances 85 = .ok (.aload_n 3, 1) := by decide +kernel
theorem dL_balances_86 : decode cL_balances 86 = .ok (.iload 5, 2) := by decide +kernel
theorem dL_balances_88 : decode cL_balances 88 = .ok (.iaload, 1) := by decide +kernel
theorem dL_balances_89 : decode cL_balances 89 = .ok (.goto 13, 3) := by decide +kernel
theorem dL_balances_92 : decode cL_balances 92 = .ok (.aload_n 0, 1) := by decide +kernel
theorem dL_balances_93 : decode cL_balances 93 = .ok (.bipush 57, 2) := by decide +kernel
theorem dL_balances_95 : decode cL_balances 95 = .ok (.bipush 9, 2) := by decide +kernel
theorem dL_balances_97 : decode cL_balances 97 = .ok (.iload 5, 2) := by decide +kernel
theorem dL_balances_99 : decode cL_balances 99 = .ok (.imul, 1) := by decide +kernel
theorem dL_balances_100 : decode cL_balances 100 = .ok (.iadd, 1) := by decide +kernel
theorem dL_balances_101 : decode cL_balances 101 = .ok (.iaload, 1) := by decide +kernel
theorem dL_balances_102 : decode cL_balances 102 = .ok (.iastore, 1) := by decide +kernel
theorem dL_balances_103 : decode cL_balances 103 = .ok (.aload_n 0, 1) := by decide +kernel
theorem dL_balances_104 : decode cL_balances 104 = .ok (.bipush 54, 2) := by decide +kernel
theorem dL_balances_106 : decode cL_balances 106 = .ok (.bipush 9, 2) := by decide +kernel
theorem dL_balances_108 : decode cL_balances 108 = .ok (.iload 5, 2) := by decide +kernel
theorem dL_balances_110 : decode cL_balances 110 = .ok (.imul, 1) := by decide +kernel
theorem dL_balances_111 : decode cL_balances 111 = .ok (.iadd, 1) := by decide +kernel
theorem dL_balances_112 : decode cL_balances 112 = .ok (.dup2, 1) := by decide +kernel
theorem dL_balances_113 : decode cL_balances 113 = .ok (.iaload, 1) := by decide +kernel
theorem dL_balances_114 : decode cL_balances 114 = .ok (.iload 6, 2) := by decide +kernel
theorem dL_balances_116 : decode cL_balances 116 = .ok (.ifCond .eq 10, 3) := by decide +kernel
theorem dL_balances_119 : decode cL_balances 119 = .ok (.aload_n 3, 1) := by decide +kernel
theorem dL_balances_120 : decode cL_balances 120 = .ok (.iload 5, 2) := by decide +kernel
theorem dL_balances_122 : decode cL_balances 122 = .ok (.iaload, 1) := by decide +kernel
theorem dL_balances_123 : decode cL_balances 123 = .ok (.goto 4, 3) := by decide +kernel
theorem dL_balances_126 : decode cL_balances 126 = .ok (.iconst 0, 1) := by decide +kernel
theorem dL_balances_127 : decode cL_balances 127 = .ok (.isub, 1) := by decide +kernel
theorem dL_balances_128 : decode cL_balances 128 = .ok (.iastore, 1) := by decide +kernel
theorem dL_balances_129 : decode cL_balances 129 = .ok (.aload_n 0, 1) := by decide +kernel
theorem dL_balances_130 : decode cL_balances 130 = .ok (.sipush 200, 3) := by decide +kernel
theorem dL_balances_133 : decode cL_balances 133 = .ok (.dup2, 1) := by decide +kernel
theorem dL_balances_134 : decode cL_balances 134 = .ok (.iaload, 1) := by decide +kernel
theorem dL_balances_135 : decode cL_balances 135 = .ok (.iload 6, 2) := by decide +kernel
theorem dL_balances_137 : decode cL_balances 137 = .ok (.ifCond .eq 10, 3) := by decide +kernel
theorem dL_balances_140 : decode cL_balances 140 = .ok (.aload_n 3, 1) := by decide +kernel
theorem dL_balances_141 : decode cL_balances 141 = .ok (.iload 5, 2) := by decide +kernel
theorem dL_balances_143 : decode cL_balances 143 = .ok (.iaload, 1) := by decide +kernel
theorem dL_balances_144 : decode cL_balances 144 = .ok (.goto 4, 3) := by decide +kernel
theorem dL_balances_147 : decode cL_balances 147 = .ok (.iconst 0, 1) := by decide +kernel
theorem dL_balances_148 : decode cL_balances 148 = .ok (.iadd, 1) := by decide +kernel
theorem dL_balances_149 : decode cL_balances 149 = .ok (.iastore, 1) := by decide +kernel
theorem dL_balances_150 : decode cL_balances 150 = .ok (.iload 4, 2) := by decide +kernel
theorem dL_balances_152 : decode cL_balances 152 = .ok (.iload 6, 2) := by decide +kernel
theorem dL_balances_154 : decode cL_balances 154 = .ok (.ifCond .eq 10, 3) := by decide +kernel
theorem dL_balances_157 : decode cL_balances 157 = .ok (.aload_n 3, 1) := by decide +kernel
theorem dL_balances_158 : decode cL_balances 158 = .ok (.iload 5, 2) := by decide +kernel
theorem dL_balances_160 : decode cL_balances 160 = .ok (.iaload, 1) := by decide +kernel
theorem dL_balances_161 : decode cL_balances 161 = .ok (.goto 4, 3) := by decide +kernel
theorem dL_balances_164 : decode cL_balances 164 = .ok (.iconst 0, 1) := by decide +kernel
theorem dL_balances_165 : decode cL_balances 165 = .ok (.isub, 1) := by decide +kernel
theorem dL_balances_166 : decode cL_balances 166 = .ok (.istore 4, 2) := by decide +kernel
theorem dL_balances_168 : decode cL_balances 168 = .ok (.iinc 5 1, 3) := by decide +kernel
theorem dL_balances_171 : decode cL_balances 171 = .ok (.goto (-147), 3) := by decide +kernel
theorem dL_balances_174 : decode cL_balances 174 = .ok (.aload_n 0, 1) := by decide +kernel
theorem dL_balances_175 : decode cL_balances 175 = .ok (.sipush 201, 3) := by decide +kernel
theorem dL_balances_178 : decode cL_balances 178 = .ok (.dup2, 1) := by decide +kernel
theorem dL_balances_179 : decode cL_balances 179 = .ok (.iaload, 1) := by decide +kernel
theorem dL_balances_180 : decode cL_balances 180 = .ok (.iload_n 2, 1) := by decide +kernel
theorem dL_balances_181 : decode cL_balances 181 = .ok (.iadd, 1) := by decide +kernel
theorem dL_balances_182 : decode cL_balances 182 = .ok (.iastore, 1) := by decide +kernel
theorem dL_balances_183 : decode cL_balances 183 = .ok (.iconst 0, 1) := by decide +kernel
theorem dL_balances_184 : decode cL_balances 184 = .ok (.istore 5, 2) := by decide +kernel
theorem dL_balances_186 : decode cL_balances 186 = .ok (.iload 5, 2) := by decide +kernel
theorem dL_balances_188 : decode cL_balances 188 = .ok (.aload_n 0, 1) := by decide +kernel
theorem dL_balances_189 : decode cL_balances 189 = .ok (.iconst 3, 1) := by decide +kernel
theorem dL_balances_190 : decode cL_balances 190 = .ok (.iaload, 1) := by decide +kernel
theorem dL_balances_191 : decode cL_balances 191 = .ok (.if_icmp .ge 116, 3) := by decide +kernel
theorem dL_balances_194 : decode cL_balances 194 = .ok (.bipush 110, 2) := by decide +kernel
theorem dL_balances_196 : decode cL_balances 196 = .ok (.bipush 6, 2) := by decide +kernel
theorem dL_balances_198 : decode cL_balances 198 = .ok (.iload 5, 2) := by decide +kernel
theorem dL_balances_200 : decode cL_balances 200 = .ok (.imul, 1) := by decide +kernel
theorem dL_balances_201 : decode cL_balances 201 = .ok (.iadd, 1) := by decide +kernel
theorem dL_balances_202 : decode cL_balances 202 = .ok (.istore 6, 2) := by decide +kernel
theorem dL_balances_204 : decode cL_balances 204 = .ok (.aload_n 0, 1) := by decide +kernel
theorem dL_balances_205 : decode cL_balances 205 = .ok (.aload_n 0, 1) := by decide +kernel
theorem dL_balances_206 : decode cL_balances 206 = .ok (.iload 6, 2) := by decide +kernel
theorem dL_balances_208 : decode cL_balances 208 = .ok (.iaload, 1) := by decide +kernel
theorem dL_balances_209 : decode cL_balances 209 = .ok (.invokestatic 181, 3) := by decide +kernel
theorem dL_balances_212 : decode cL_balances 212 = .ok (.iload_n 1, 1) := by decide +kernel
theorem dL_balances_213 : decode cL_balances 213 = .ok (.if_icmp .ne 88, 3) := by decide +kernel
theorem dL_balances_216 : decode cL_balances 216 = .ok (.iload 4, 2) := by decide +kernel
theorem dL_balances_218 : decode cL_balances 218 = .ok (.ifCond .le 26, 3) := by decide +kernel
theorem dL_balances_221 : decode cL_balances 221 = .ok (.iload 4, 2) := by decide +kernel
theorem dL_balances_223 : decode cL_balances 223 = .ok (.aload_n 0, 1) := by decide +kernel
theorem dL_balances_224 : decode cL_balances 224 = .ok (.iload 6, 2) := by decide +kernel
theorem dL_balances_226 : decode cL_balances 226 = .ok (.iconst 2, 1) := by decide +kernel
theorem dL_balances_227 : decode cL_balances 227 = .ok (.iadd, 1) := by decide +kernel
theorem dL_balances_228 : decode cL_balances 228 = .ok (.iaload, 1) := by decide +kernel
theorem dL_balances_229 : decode cL_balances 229 = .ok (.aload_n 0, 1) := by decide +kernel
theorem dL_balances_230 : decode cL_balances 230 = .ok (.iload 6, 2) := by decide +kernel
theorem dL_balances_232 : decode cL_balances 232 = .ok (.iconst 3, 1) := by decide +kernel
theorem dL_balances_233 : decode cL_balances 233 = .ok (.iadd, 1) := by decide +kernel
theorem dL_balances_234 : decode cL_balances 234 = .ok (.iaload, 1) := by decide +kernel
theorem dL_balances_235 : decode cL_balances 235 = .ok (.invokestatic 199, 3) := by decide +kernel
theorem dL_balances_238 : decode cL_balances 238 = .ok (.invokestatic 199, 3) := by decide +kernel
theorem dL_balances_241 : decode cL_balances 241 = .ok (.goto 32, 3) := by decide +kernel
theorem dL_balances_244 : decode cL_balances 244 = .ok (.iload 4, 2) := by decide +kernel
theorem dL_balances_246 : decode cL_balances 246 = .ok (.ineg, 1) := by decide +kernel
theorem dL_balances_247 : decode cL_balances 247 = .ok (.aload_n 0, 1) := by decide +kernel
theorem dL_balances_248 : decode cL_balances 248 = .ok (.iload 6, 2) := by decide +kernel
theorem dL_balances_250 : decode cL_balances 250 = .ok (.iconst 2, 1) := by decide +kernel
theorem dL_balances_251 : decode cL_balances 251 = .ok (.iadd, 1) := by decide +kernel
theorem dL_balances_252 : decode cL_balances 252 = .ok (.iaload, 1) := by decide +kernel
theorem dL_balances_253 : decode cL_balances 253 = .ok (.aload_n 0, 1) := by decide +kernel
theorem dL_balances_254 : decode cL_balances 254 = .ok (.iload 6, 2) := by decide +kernel
theorem dL_balances_256 : decode cL_balances 256 = .ok (.iconst 1, 1) := by decide +kernel
theorem dL_balances_257 : decode cL_balances 257 = .ok (.iadd, 1) := by decide +kernel
theorem dL_balances_258 : decode cL_balances 258 = .ok (.iaload, 1) := by decide +kernel
theorem dL_balances_259 : decode cL_balances 259 = .ok (.aload_n 0, 1) := by decide +kernel
theorem dL_balances_260 : decode cL_balances 260 = .ok (.iload 6, 2) := by decide +kernel
theorem dL_balances_262 : decode cL_balances 262 = .ok (.iconst 3, 1) := by decide +kernel
theorem dL_balances_263 : decode cL_balances 263 = .ok (.iadd, 1) := by decide +kernel
theorem dL_balances_264 : decode cL_balances 264 = .ok (.iaload, 1) := by decide +kernel
theorem dL_balances_265 : decode cL_balances 265 = .ok (.isub, 1) := by decide +kernel
theorem dL_balances_266 : decode cL_balances 266 = .ok (.invokestatic 199, 3) := by decide +kernel
theorem dL_balances_269 : decode cL_balances 269 = .ok (.invokestatic 199, 3) := by decide +kernel
theorem dL_balances_272 : decode cL_balances 272 = .ok (.ineg, 1) := by decide +kernel
theorem dL_balances_273 : decode cL_balances 273 = .ok (.istore 7, 2) := by decide +kernel
theorem dL_balances_275 : decode cL_balances 275 = .ok (.aload_n 0, 1) := by decide +kernel
theorem dL_balances_276 : decode cL_balances 276 = .ok (.iload 6, 2) := by decide +kernel
theorem dL_balances_278 : decode cL_balances 278 = .ok (.iconst 3, 1) := by decide +kernel
theorem dL_balances_279 : decode cL_balances 279 = .ok (.iadd, 1) := by decide +kernel
theorem dL_balances_280 : decode cL_balances 280 = .ok (.dup2, 1) := by decide +kernel
theorem dL_balances_281 : decode cL_balances 281 = .ok (.iaload, 1) := by decide +kernel
theorem dL_balances_282 : decode cL_balances 282 = .ok (.iload 7, 2) := by decide +kernel
theorem dL_balances_284 : decode cL_balances 284 = .ok (.isub, 1) := by decide +kernel
theorem dL_balances_285 : decode cL_balances 285 = .ok (.iastore, 1) := by decide +kernel
theorem dL_balances_286 : decode cL_balances 286 = .ok (.aload_n 0, 1) := by decide +kernel
theorem dL_balances_287 : decode cL_balances 287 = .ok (.iload 6, 2) := by decide +kernel
theorem dL_balances_289 : decode cL_balances 289 = .ok (.iconst 4, 1) := by decide +kernel
theorem dL_balances_290 : decode cL_balances 290 = .ok (.iadd, 1) := by decide +kernel
theorem dL_balances_291 : decode cL_balances 291 = .ok (.iload 7, 2) := by decide +kernel
theorem dL_balances_293 : decode cL_balances 293 = .ok (.iastore, 1) := by decide +kernel
theorem dL_balances_294 : decode cL_balances 294 = .ok (.iload 4, 2) := by decide +kernel
theorem dL_balances_296 : decode cL_balances 296 = .ok (.iload 7, 2) := by decide +kernel
theorem dL_balances_298 : decode cL_balances 298 = .ok (.isub, 1) := by decide +kernel
theorem dL_balances_299 : decode cL_balances 299 = .ok (.istore 4, 2) := by decide +kernel
theorem dL_balances_301 : decode cL_balances 301 = .ok (.iinc 5 1, 3) := by decide +kernel
theorem dL_balances_304 : decode cL_balances 304 = .ok (.goto (-118), 3) := by decide +kernel
theorem dL_balances_307 : decode cL_balances 307 = .ok (.iload_n 1, 1) := by decide +kernel
theorem dL_balances_308 : decode cL_balances 308 = .ok (.ifCond .ne 15, 3) := by decide +kernel
theorem dL_balances_311 : decode cL_balances 311 = .ok (.aload_n 0, 1) := by decide +kernel
theorem dL_balances_312 : decode cL_balances 312 = .ok (.bipush 8, 2) := by decide +kernel
theorem dL_balances_314 : decode cL_balances 314 = .ok (.iaload, 1) := by decide +kernel
theorem dL_balances_315 : decode cL_balances 315 = .ok (.iconst 1, 1) := by decide +kernel
theorem dL_balances_316 : decode cL_balances 316 = .ok (.if_icmp .ne 7, 3) := by decide +kernel
theorem dL_balances_319 : decode cL_balances 319 = .ok (.iconst 1, 1) := by decide +kernel
theorem dL_balances_320 : decode cL_balances 320 = .ok (.goto 4, 3) := by decide +kernel
theorem dL_balances_323 : decode cL_balances 323 = .ok (.iconst 0, 1) := by decide +kernel
theorem dL_balances_324 : decode cL_balances 324 = .ok (.istore 5, 2) := by decide +kernel
theorem dL_balances_326 : decode cL_balances 326 = .ok (.aload_n 0, 1) := by decide +kernel
theorem dL_balances_327 : decode cL_balances 327 = .ok (.bipush 9, 2) := by decide +kernel
theorem dL_balances_329 : decode cL_balances 329 = .ok (.dup2, 1) := by decide +kernel
theorem dL_balances_330 : decode cL_balances 330 = .ok (.iaload, 1) := by decide +kernel
theorem dL_balances_331 : decode cL_balances 331 = .ok (.iload 5, 2) := by decide +kernel
theorem dL_balances_333 : decode cL_balances 333 = .ok (.ifCond .eq 8, 3) := by decide +kernel
theorem dL_balances_336 : decode cL_balances 336 = .ok (.iload 4, 2) := by decide +kernel
theorem dL_balances_338 : decode cL_balances 338 = .ok (.goto 4, 3) := by decide +kernel
theorem dL_balances_341 : decode cL_balances 341 = .ok (.iconst 0, 1) := by decide +kernel
theorem dL_balances_342 : decode cL_balances 342 = .ok (.iadd, 1) := by decide +kernel
theorem dL_balances_343 : decode cL_balances 343 = .ok (.iastore, 1) := by decide +kernel
theorem dL_balances_344 : decode cL_balances 344 = .ok (.aload_n 0, 1) := by decide +kernel
theorem dL_balances_345 : decode cL_balances 345 = .ok (.sipush 202, 3) := by decide +kernel
theorem dL_balances_348 : decode cL_balances 348 = .ok (.dup2, 1) := by decide +kernel
theorem dL_balances_349 : decode cL_balances 349 = .ok (.iaload, 1) := by decide +kernel
theorem dL_balances_350 : decode cL_balances 350 = .ok (.iload 5, 2) := by decide +kernel
theorem dL_balances_352 : decode cL_balances 352 = .ok (.ifCond .eq 7, 3) := by decide +kernel
theorem dL_balances_355 : decode cL_balances 355 = .ok (.iconst 0, 1) := by decide +kernel
theorem dL_balances_356 : decode cL_balances 356 = .ok (.goto 6, 3) := by decide +kernel
theorem dL_balances_359 : decode cL_balances 359 = .ok (.iload 4, 2) := by decide +kernel
theorem dL_balances_361 : decode cL_balances 361 = .ok (.ineg, 1) := by decide +kernel
theorem dL_balances_362 : decode cL_balances 362 = .ok (.iadd, 1) := by decide +kernel
theorem dL_balances_363 : decode cL_balances 363 = .ok (.iastore, 1) := by decide +kernel
theorem dL_balances_364 : decode cL_balances 364 = .ok (.return_, 1) := by decide +kernel
set_option maxRecDepth 20000 in
theorem ggL_ticks_L_island : GoodIn wsL_ticks wsL_island := goodIn_r _ [4] (by decide +kernel) (by decide +kernel)
set_option maxRecDepth 20000 in
theorem gL_ticks_L_island : GoodIn wsL_ticks (va_wsS RL 181 yL_island wsL_island) := goodIn_app (goodIn_of _ (by decide +kernel)) ggL_ticks_L_island
set_option maxRecDepth 20000 in
theorem ggL_ticks_L_balances : GoodIn wsL_ticks wsL_balances := goodIn_r _ [7, 8, 9, 10, 11, 12, 13, 3, 14, 15, 16, 17, 1, 2, 4, 18, 19, 20, 21, 22, 23, 24, 25, 26, 27, 28, 29, 30, 31, 32, 33, 34, 35, 36, 37] (by decide +kernel) (by decide +kernel)
set_option maxRecDepth 20000 in
theorem gL_ticks_L_balances : GoodIn wsL_ticks (va_wsS RL 226 yL_balances wsL_balances) := goodIn_app (goodIn_of _ (by decide +kernel)) ggL_ticks_L_balances
theorem dL_ticks_0 : decode cL_ticks 0 = .ok (.aload_n 0, 1) := by decide +kernel
theorem dL_ticks_1 : decode cL_ticks 1 = .ok (.bipush 7, 2) := by decide +kernel
theorem dL_ticks_3 : decode cL_ticks 3 = .ok (.dup2, 1) := by decide +kernel
theorem dL_ticks_4 : decode cL_ticks 4 = .ok (.iaload, 1) := by decide +kernel
theorem dL_ticks_5 : decode cL_ticks 5 = .ok (.iconst 1, 1) := by decide +kernel
theorem dL_ticks_6 : decode cL_ticks 6 = .ok (.iadd, 1) := by decide +kernel
theorem dL_ticks_7 : decode cL_ticks 7 = .ok (.iastore, 1) := by decide +kernel
theorem dL_ticks_8 : decode cL_ticks 8 = .ok (.aload_n 0, 1) := by decide +kernel
theorem dL_ticks_9 : decode cL_ticks 9 = .ok (.bipush 9, 2) := by decide +kernel
theorem dL_ticks_11 : decode cL_ticks 11 = .ok (.iconst 0, 1) := by decide +kernel
theorem dL_ticks_12 : decode cL_ticks 12 = .ok (.iastore, 1) := by decide +kernel
theorem dL_ticks_13 : decode cL_ticks 13 = .ok (.iconst 0, 1) := by decide +kernel
theorem dL_ticks_14 : decode cL_ticks 14 = .ok (.istore_n 1, 1) := by decide +kernel
theorem dL_ticks_15 : decode cL_ticks 15 = .ok (.iload_n 1, 1) := by decide +kernel
theorem dL_ticks_16 : decode cL_ticks 16 = .ok (.aload_n 0, 1) := by decide +kernel
theorem dL_ticks_17 : decode cL_ticks 17 = .ok (.iconst 2, 1) := by decide +kernel
theorem dL_ticks_18 : decode cL_ticks 18 = .ok (.iaload, 1) := by decide +kernel
theorem dL_ticks_19 : decode cL_ticks 19 = .ok (.if_icmp .ge 115, 3) := by decide +kernel
theorem dL_ticks_22 : decode cL_ticks 22 = .ok (.bipush 50, 2) := by decide +kernel
theorem dL_ticks_24 : decode cL_ticks 24 = .ok (.bipush 9, 2) := by decide +kernel
theorem dL_ticks_26 : decode cL_ticks 26 = .ok (.iload_n 1, 1) := by decide +kernel
theorem dL_ticks_27 : decode cL_ticks 27 = .ok (.imul, 1) := by decide +kernel
theorem dL_ticks_28 : decode cL_ticks 28 = .ok (.iadd, 1) := by decide +kernel
theorem dL_ticks_29 : decode cL_ticks 29 = .ok (.istore_n 2, 1) := by decide +kernel
theorem dL_ticks_30 : decode cL_ticks 30 = .ok (.aload_n 0, 1) := by decide +kernel
theorem dL_ticks_31 : decode cL_ticks 31 = .ok (.iload_n 2, 1) := by decide +kernel
theorem dL_ticks_32 : decode cL_ticks 32 = .ok (.bipush 7, 2) := by decide +kernel
theorem dL_ticks_34 : decode cL_ticks 34 = .ok (.iadd, 1) := by decide +kernel
theorem dL_ticks_35 : decode cL_ticks 35 = .ok (.iconst 0, 1) := by decide +kernel
theorem dL_ticks_36 : decode cL_ticks 36 = .ok (.iastore, 1) := by decide +kernel
theorem dL_ticks_37 : decode cL_ticks 37 = .ok (.aload_n 0, 1) := by decide +kernel
theorem dL_ticks_38 : decode cL_ticks 38 = .ok (.iload_n 2, 1) := by decide +kernel
theorem dL_ticks_39 : decode cL_ticks 39 = .ok (.bipush 6, 2) := by decide +kernel
theorem dL_ticks_41 : decode cL_ticks 41 = .ok (.iadd, 1) := by decide +kernel
theorem dL_ticks_42 : decode cL_ticks 42 = .ok (.dup2, 1) := by decide +kernel
theorem dL_ticks_43 : decode cL_ticks 43 = .ok (.iaload, 1) := by decide +kernel
theorem dL_ticks_44 : decode cL_ticks 44 = .ok (.aload_n 0, 1) := by decide +kernel
theorem dL_ticks_45 : decode cL_ticks 45 = .ok (.iload_n 2, 1) := by decide +kernel
theorem dL_ticks_46 : decode cL_ticks 46 = .ok (.iconst 5, 1) := by decide +kernel
theorem dL_ticks_47 : decode cL_ticks 47 = .ok (.iadd, 1) := by decide +kernel
theorem dL_ticks_48 : decode cL_ticks 48 = .ok (.iaload, 1) := by decide +kernel
theorem dL_ticks_49 : decode cL_ticks 49 = .ok (.iconst 1, 1) := by decide +kernel
theorem dL_ticks_50 : decode cL_ticks 50 = .ok (.if_icmp .ne 7, 3) := by decide +kernel
theorem dL_ticks_53 : decode cL_ticks 53 = .ok (.iconst 1, 1) := by decide +kernel
theorem dL_ticks_54 : decode cL_ticks 54 = .ok (.goto 4, 3) := by decide +kernel
theorem dL_ticks_57 : decode cL_ticks 57 = .ok (.iconst 0, 1) := by decide +kernel
theorem dL_ticks_58 : decode cL_ticks 58 = .ok (.isub, 1) := by decide +kernel
theorem dL_ticks_59 : decode cL_ticks 59 = .ok (.iastore, 1) := by decide +kernel
theorem dL_ticks_60 : decode cL_ticks 60 = .ok (.aload_n 0, 1) := by decide +kernel
theorem dL_ticks_61 : decode cL_ticks 61 = .ok (.iload_n 2, 1) := by decide +kernel
theorem dL_ticks_62 : decode cL_ticks 62 = .ok (.iconst 5, 1) := by decide +kernel
theorem dL_ticks_63 : decode cL_ticks 63 = .ok (.iadd, 1) := by decide +kernel
theorem dL_ticks_64 : decode cL_ticks 64 = .ok (.aload_n 0, 1) := by decide +kernel
theorem dL_ticks_65 : decode cL_ticks 65 = .ok (.iload_n 2, 1) := by decide +kernel
theorem dL_ticks_66 : decode cL_ticks 66 = .ok (.iconst 5, 1) := by decide +kernel
theorem dL_ticks_67 : decode cL_ticks 67 = .ok (.iadd, 1) := by decide +kernel
theorem dL_ticks_68 : decode cL_ticks 68 = .ok (.iaload, 1) := by decide +kernel
theorem dL_ticks_69 : decode cL_ticks 69 = .ok (.iconst 1, 1) := by decide +kernel
theorem dL_ticks_70 : decode cL_ticks 70 = .ok (.if_icmp .ne 16, 3) := by decide +kernel
theorem dL_ticks_73 : decode cL_ticks 73 = .ok (.aload_n 0, 1) := by decide +kernel
theorem dL_ticks_74 : decode cL_ticks 74 = .ok (.iload_n 2, 1) := by decide +kernel
theorem dL_ticks_75 : decode cL_ticks 75 = .ok (.bipush 6, 2) := by decide +kernel
theorem dL_ticks_77 : decode cL_ticks 77 = .ok (.iadd, 1) := by decide +kernel
theorem dL_ticks_78 : decode cL_ticks 78 = .ok (.iaload, 1) := by decide +kernel
theorem dL_ticks_79 : decode cL_ticks 79 = .ok (.ifCond .ne 7, 3) := by decide +kernel
theorem dL_ticks_82 : decode cL_ticks 82 = .ok (.iconst 2, 1) := by decide +kernel
theorem dL_ticks_83 : decode cL_ticks 83 = .ok (.goto 8, 3) := by decide +kernel
theorem dL_ticks_86 : decode cL_ticks 86 = .ok (.aload_n 0, 1) := by decide +kernel
theorem dL_ticks_87 : decode cL_ticks 87 = .ok (.iload_n 2, 1) := by decide +kernel
theorem dL_ticks_88 : decode cL_ticks 88 = .ok (.iconst 5, 1) := by decide +kernel
theorem dL_ticks_89 : decode cL_ticks 89 = .ok (.iadd, 1) := by decide +kernel
theorem dL_ticks_90 : decode cL_ticks 90 = .ok (.iaload, 1) := by decide +kernel
theorem dL_ticks_91 : decode cL_ticks 91 = .ok (.iastore, 1) := by decide +kernel
theorem dL_ticks_92 : decode cL_ticks 92 = .ok (.aload_n 0, 1) := by decide +kernel
theorem dL_ticks_93 : decode cL_ticks 93 = .ok (.iload_n 2, 1) := by decide +kernel
theorem dL_ticks_94 : decode cL_ticks 94 = .ok (.iconst 5, 1) := by decide +kernel
theorem dL_ticks_95 : decode cL_ticks 95 = .ok (.iadd, 1) := by decide +kernel
theorem dL_ticks_96 : decode cL_ticks 96 = .ok (.aload_n 0, 1) := by decide +kernel
theorem dL_ticks_97 : decode cL_ticks 97 = .ok (.iload_n 2, 1) := by decide +kernel
theorem dL_ticks_98 : decode cL_ticks 98 = .ok (.iconst 5, 1) := by decide +kernel
theorem dL_ticks_99 : decode cL_ticks 99 = .ok (.iadd, 1) := by decide +kernel
theorem dL_ticks_100 : decode cL_ticks 100 = .ok (.iaload, 1) := by decide +kernel
theorem dL_ticks_101 : decode cL_ticks 101 = .ok (.iconst 2, 1) := by decide +kernel
theorem dL_ticks_102 : decode cL_ticks 102 = .ok (.if_icmp .ne 20, 3) := by decide +kernel
theorem dL_ticks_105 : decode cL_ticks 105 = .ok (.aload_n 0, 1) := by decide +kernel
theorem dL_ticks_106 : decode cL_ticks 106 = .ok (.iload_n 2, 1) := by decide +kernel
theorem dL_ticks_107 : decode cL_ticks 107 = .ok (.iconst 4, 1) := by decide +kernel
theorem dL_ticks_108 : decode cL_ticks 108 = .ok (.iadd, 1) := by decide +kernel
theorem dL_ticks_109 : decode cL_ticks 109 = .ok (.iaload, 1) := by decide +kernel
theorem dL_ticks_110 : decode cL_ticks 110 = .ok (.aload_n 0, 1) := by decide +kernel
theorem dL_ticks_111 : decode cL_ticks 111 = .ok (.iload_n 2, 1) := by decide +kernel
theorem dL_ticks_112 : decode cL_ticks 112 = .ok (.iconst 1, 1) := by decide +kernel
theorem dL_ticks_113 : decode cL_ticks 113 = .ok (.iadd, 1) := by decide +kernel
theorem dL_ticks_114 : decode cL_ticks 114 = .ok (.iaload, 1) := by decide +kernel
theorem dL_ticks_115 : decode cL_ticks 115 = .ok (.if_icmp .ge 7, 3) := by decide +kernel
theorem dL_ticks_118 : decode cL_ticks 118 = .ok (.iconst 0, 1) := by decide +kernel
theorem dL_ticks_119 : decode cL_ticks 119 = .ok (.goto 8, 3) := by decide +kernel
theorem dL_ticks_122 : decode cL_ticks 122 = .ok (.aload_n 0, 1) := by decide +kernel
theorem dL_ticks_123 : decode cL_ticks 123 = .ok (.iload_n 2, 1) := by decide +kernel
theorem dL_ticks_124 : decode cL_ticks 124 = .ok (.iconst 5, 1) := by decide +kernel
theorem dL_ticks_125 : decode cL_ticks 125 = .ok (.iadd, 1) := by decide +kernel
theorem dL_ticks_126 : decode cL_ticks 126 = .ok (.iaload, 1) := by decide +kernel
theorem dL_ticks_127 : decode cL_ticks 127 = .ok (.iastore, 1) := by decide +kernel
theorem dL_ticks_128 : decode cL_ticks 128 = .ok (.iinc 1 1, 3) := by decide +kernel
theorem dL_ticks_131 : decode cL_ticks 131 = .ok (.goto (-116), 3) := by decide +kernel
theorem dL_ticks_134 : decode cL_ticks 134 = .ok (.iconst 0, 1) := by decide +kernel
theorem dL_ticks_135 : decode cL_ticks 135 = .ok (.istore_n 1, 1) := by decide +kernel
theorem dL_ticks_136 : decode cL_ticks 136 = .ok (.iload_n 1, 1) := by decide +kernel
theorem dL_ticks_137 : decode cL_ticks 137 = .ok (.aload_n 0, 1) := by decide +kernel
theorem dL_ticks_138 : decode cL_ticks 138 = .ok (.iconst 0, 1) := by decide +kernel
theorem dL_ticks_139 : decode cL_ticks 139 = .ok (.iaload, 1) := by decide +kernel
theorem dL_ticks_140 : decode cL_ticks 140 = .ok (.if_icmp .ge 23, 3) := by decide +kernel
theorem dL_ticks_143 : decode cL_ticks 143 = .ok (.aload_n 0, 1) := by decide +kernel
theorem dL_ticks_144 : decode cL_ticks 144 = .ok (.iload_n 1, 1) := by decide +kernel
theorem dL_ticks_145 : decode cL_ticks 145 = .ok (.invokestatic 181, 3) := by decide +kernel
theorem dL_ticks_148 : decode cL_ticks 148 = .ok (.iload_n 1, 1) := by decide +kernel
theorem dL_ticks_149 : decode cL_ticks 149 = .ok (.if_icmp .ne 8, 3) := by decide +kernel
theorem dL_ticks_152 : decode cL_ticks 152 = .ok (.aload_n 0, 1) := by decide +kernel
theorem dL_ticks_153 : decode cL_ticks 153 = .ok (.iload_n 1, 1) := by decide +kernel
theorem dL_ticks_154 : decode cL_ticks 154 = .ok (.invokestatic 226, 3) := by decide +kernel
theorem dL_ticks_157 : decode cL_ticks 157 = .ok (.iinc 1 1, 3) := by decide +kernel
theorem dL_ticks_160 : decode cL_ticks 160 = .ok (.goto (-24), 3) := by decide +kernel
theorem dL_ticks_163 : decode cL_ticks 163 = .ok (.return_, 1) := by decide +kernel
set_option maxRecDepth 20000 in
theorem ggL_isStarted_L_start : GoodIn wsL_isStarted wsL_start := goodIn_ca (goodIn_ca (goodIn_ca (goodIn_r _ [6, 7, 8, 9, 10, 1, 2, 11, 12, 13, 14, 15, 16, 17, 18, 19, 20, 21, 22, 23, 24, 25, 26, 27, 28, 29, 30, 31, 32, 33, 34, 35, 36, 37, 38, 39, 40, 41, 42, 43, 44, 45, 46, 47, 60, 61, 62, 63, 64, 65, 66, 67, 68, 69, 70, 71, 72, 73, 74, 75, 76, 77, 78, 79, 80] (by decide +kernel) (by decide +kernel)) (goodIn_sub (fun _ h => List.mem_cons_of_mem _ (List.mem_append_left _ (List.mem_append_left _ (List.mem_append_right _ h)))) (by decide +kernel))) (goodIn_sub (fun _ h => List.mem_cons_of_mem _ (List.mem_append_left _ (List.mem_append_right _ h))) (by decide +kernel))) (goodIn_sub (fun _ h => List.mem_cons_of_mem _ (List.mem_append_right _ h)) (by decide +kernel))
set_option maxRecDepth 20000 in
theorem gL_isStarted_L_start : GoodIn wsL_isStarted (va_wsS RL 229 yL_start wsL_start) := goodIn_app (goodIn_of _ (by decide +kernel)) ggL_isStarted_L_start
set_option maxRecDepth 20000 in
theorem ggL_isStarted_L_stop : GoodIn wsL_isStarted wsL_stop := goodIn_ca (goodIn_ca (goodIn_r _ [50, 7, 8, 10, 1, 51, 52, 53, 14, 54, 16, 17, 20, 55, 22, 23, 24, 25, 26, 27, 28, 29, 30, 31, 32, 33, 56, 57, 58, 37, 59, 47, 60, 61, 62, 63, 64, 65, 66, 67, 68, 69, 70, 71, 72, 73, 74, 75, 76, 77, 78, 79, 80] (by decide +kernel) (by decide +kernel)) (goodIn_sub (fun _ h => List.mem_cons_of_mem _ (List.mem_append_left _ (List.mem_append_left _ (List.mem_append_right _ h)))) (by decide +kernel))) (goodIn_sub (fun _ h => List.mem_cons_of_mem _ (List.mem_append_right _ h)) (by decide +kernel))
set_option maxRecDepth 20000 in
theorem gL_isStarted_L_stop : GoodIn wsL_isStarted (va_wsS RL 231 yL_stop wsL_stop) := goodIn_app (goodIn_of _ (by decide +kernel)) ggL_isStarted_L_stop
theorem dL_isStarted_0 : decode cL_isStarted 0 = .ok (.bipush 50, 2) := by decide +kernel
theorem dL_isStarted_2 : decode cL_isStarted 2 = .ok (.bipush 9, 2) := by decide +kernel
theorem dL_isStarted_4 : decode cL_isStarted 4 = .ok (.iload_n 2, 1) := by decide +kernel
theorem dL_isStarted_5 : decode cL_isStarted 5 = .ok (.imul, 1) := by decide +kernel
theorem dL_isStarted_6 : decode cL_isStarted 6 = .ok (.iadd, 1) := by decide +kernel
theorem dL_isStarted_7 : decode cL_isStarted 7 = .ok (.istore_n 3, 1) := by decide +kernel
theorem dL_isStarted_8 : decode cL_isStarted 8 = .ok (.aload_n 1, 1) := by decide +kernel
theorem dL_isStarted_9 : decode cL_isStarted 9 = .ok (.iload_n 3, 1) := by decide +kernel
theorem dL_isStarted_10 : decode cL_isStarted 10 = .ok (.iconst 5, 1) := by decide +kernel
theorem dL_isStarted_11 : decode cL_isStarted 11 = .ok (.iadd, 1) := by decide +kernel
theorem dL_isStarted_12 : decode cL_isStarted 12 = .ok (.iaload, 1) := by decide +kernel
theorem dL_isStarted_13 : decode cL_isStarted 13 = .ok (.ifCond .eq 73, 3) := by decide +kernel
theorem dL_isStarted_16 : decode cL_isStarted 16 = .ok (.aload_n 1, 1) := by decide +kernel
theorem dL_isStarted_17 : decode cL_isStarted 17 = .ok (.iload_n 3, 1) := by decide +kernel
theorem dL_isStarted_18 : decode cL_isStarted 18 = .ok (.iconst 4, 1) := by decide +kernel
theorem dL_isStarted_19 : decode cL_isStarted 19 = .ok (.iadd, 1) := by decide +kernel
theorem dL_isStarted_20 : decode cL_isStarted 20 = .ok (.iaload, 1) := by decide +kernel
theorem dL_isStarted_21 : decode cL_isStarted 21 = .ok (.iconst 2, 1) := by decide +kernel
theorem dL_isStarted_22 : decode cL_isStarted 22 = .ok (.irem, 1) := by decide +kernel
theorem dL_isStarted_23 : decode cL_isStarted 23 = .ok (.ifCond .ne 7, 3) := by decide +kernel
theorem dL_isStarted_26 : decode cL_isStarted 26 = .ok (.iconst 1, 1) := by decide +kernel
theorem dL_isStarted_27 : decode cL_isStarted 27 = .ok (.goto 4, 3) := by decide +kernel
theorem dL_isStarted_30 : decode cL_isStarted 30 = .ok (.iconst 0, 1) := by decide +kernel
theorem dL_isStarted_31 : decode cL_isStarted 31 = .ok (.istore 4, 2) := by decide +kernel
theorem dL_isStarted_33 : decode cL_isStarted 33 = .ok (.aload_n 1, 1) := by decide +kernel
theorem dL_isStarted_34 : decode cL_isStarted 34 = .ok (.iload_n 3, 1) := by decide +kernel
theorem dL_isStarted_35 : decode cL_isStarted 35 = .ok (.iconst 5, 1) := by decide +kernel
theorem dL_isStarted_36 : decode cL_isStarted 36 = .ok (.iadd, 1) := by decide +kernel
theorem dL_isStarted_37 : decode cL_isStarted 37 = .ok (.iload 4, 2) := by decide +kernel
theorem dL_isStarted_39 : decode cL_isStarted 39 = .ok (.ifCond .eq 7, 3) := by decide +kernel
theorem dL_isStarted_42 : decode cL_isStarted 42 = .ok (.iconst 0, 1) := by decide +kernel
theorem dL_isStarted_43 : decode cL_isStarted 43 = .ok (.goto 8, 3) := by decide +kernel
theorem dL_isStarted_46 : decode cL_isStarted 46 = .ok (.aload_n 1, 1) := by decide +kernel
theorem dL_isStarted_47 : decode cL_isStarted 47 = .ok (.iload_n 3, 1) := by decide +kernel
theorem dL_isStarted_48 : decode cL_isStarted 48 = .ok (.iconst 5, 1) := by decide +kernel
theorem dL_isStarted_49 : decode cL_isStarted 49 = .ok (.iadd, 1) := by decide +kernel
theorem dL_isStarted_50 : decode cL_isStarted 50 = .ok (.iaload, 1) := by decide +kernel
theorem dL_isStarted_51 : decode cL_isStarted 51 = .ok (.iastore, 1) := by decide +kernel
theorem dL_isStarted_52 : decode cL_isStarted 52 = .ok (.aload_n 0, 1) := by decide +kernel
theorem dL_isStarted_53 : decode cL_isStarted 53 = .ok (.iload_n 2, 1) := by decide +kernel
theorem dL_isStarted_54 : decode cL_isStarted 54 = .ok (.invokestatic 229, 3) := by decide +kernel
theorem dL_isStarted_57 : decode cL_isStarted 57 = .ok (.ldc 26, 2) := by decide +kernel
theorem dL_isStarted_59 : decode cL_isStarted 59 = .ok (.if_icmp .ne 25, 3) := by decide +kernel
theorem dL_isStarted_62 : decode cL_isStarted 62 = .ok (.iload 4, 2) := by decide +kernel
theorem dL_isStarted_64 : decode cL_isStarted 64 = .ok (.ifCond .eq 16, 3) := by decide +kernel
theorem dL_isStarted_67 : decode cL_isStarted 67 = .ok (.aload_n 0, 1) := by decide +kernel
theorem dL_isStarted_68 : decode cL_isStarted 68 = .ok (.iload_n 2, 1) := by decide +kernel
theorem dL_isStarted_69 : decode cL_isStarted 69 = .ok (.invokestatic 231, 3) := by decide +kernel
theorem dL_isStarted_72 : decode cL_isStarted 72 = .ok (.aload_n 1, 1) := by decide +kernel
theorem dL_isStarted_73 : decode cL_isStarted 73 = .ok (.iload_n 3, 1) := by decide +kernel
theorem dL_isStarted_74 : decode cL_isStarted 74 = .ok (.iconst 4, 1) := by decide +kernel
theorem dL_isStarted_75 : decode cL_isStarted 75 = .ok (.iadd, 1) := by decide +kernel
theorem dL_isStarted_76 : decode cL_isStarted 76 = .ok (.iaload, 1) := by decide +kernel
theorem dL_isStarted_77 : decode cL_isStarted 77 = .ok (.if_icmp .ne 7, 3) := by decide +kernel
theorem dL_isStarted_80 : decode cL_isStarted 80 = .ok (.iconst 1, 1) := by decide +kernel
theorem dL_isStarted_81 : decode cL_isStarted 81 = .ok (.goto 4, 3) := by decide +kernel
theorem dL_isStarted_84 : decode cL_isStarted 84 = .ok (.iconst 0, 1) := by decide +kernel
theorem dL_isStarted_85 : decode cL_isStarted 85 = .ok (.ireturn, 1) := by decide +kernel
theorem dL_isStarted_86 : decode cL_isStarted 86 = .ok (.aload_n 1, 1) := by decide +kernel
theorem dL_isStarted_87 : decode cL_isStarted 87 = .ok (.iload_n 3, 1) := by decide +kernel
theorem dL_isStarted_88 : decode cL_isStarted 88 = .ok (.iconst 4, 1) := by decide +kernel
theorem dL_isStarted_89 : decode cL_isStarted 89 = .ok (.iadd, 1) := by decide +kernel
theorem dL_isStarted_90 : decode cL_isStarted 90 = .ok (.iaload, 1) := by decide +kernel
theorem dL_isStarted_91 : decode cL_isStarted 91 = .ok (.aload_n 1, 1) := by decide +kernel
theorem dL_isStarted_92 : decode cL_isStarted 92 = .ok (.iload_n 3, 1) := by decide +kernel
theorem dL_isStarted_93 : decode cL_isStarted 93 = .ok (.iconst 1, 1) := by decide +kernel
theorem dL_isStarted_94 : decode cL_isStarted 94 = .ok (.iadd, 1) := by decide +kernel
theorem dL_isStarted_95 : decode cL_isStarted 95 = .ok (.iaload, 1) := by decide +kernel
theorem dL_isStarted_96 : decode cL_isStarted 96 = .ok (.if_icmp .ge 29, 3) := by decide +kernel
theorem dL_isStarted_99 : decode cL_isStarted 99 = .ok (.aload_n 0, 1) := by decide +kernel
theorem dL_isStarted_100 : decode cL_isStarted 100 = .ok (.iload_n 2, 1) := by decide +kernel
theorem dL_isStarted_101 : decode cL_isStarted 101 = .ok (.invokestatic 231, 3) := by decide +kernel
theorem dL_isStarted_104 : decode cL_isStarted 104 = .ok (.ldc 26, 2) := by decide +kernel
theorem dL_isStarted_106 : decode cL_isStarted 106 = .ok (.if_icmp .ne 17, 3) := by decide +kernel
theorem dL_isStarted_109 : decode cL_isStarted 109 = .ok (.aload_n 0, 1) := by decide +kernel
theorem dL_isStarted_110 : decode cL_isStarted 110 = .ok (.iload_n 2, 1) := by decide +kernel
theorem dL_isStarted_111 : decode cL_isStarted 111 = .ok (.invokestatic 229, 3) := by decide +kernel
theorem dL_isStarted_114 : decode cL_isStarted 114 = .ok (.ldc 30, 2) := by decide +kernel
theorem dL_isStarted_116 : decode cL_isStarted 116 = .ok (.if_icmp .ne 7, 3) := by decide +kernel
theorem dL_isStarted_119 : decode cL_isStarted 119 = .ok (.iconst 1, 1) := by decide +kernel
theorem dL_isStarted_120 : decode cL_isStarted 120 = .ok (.goto 4, 3) := by decide +kernel
theorem dL_isStarted_123 : decode cL_isStarted 123 = .ok (.iconst 0, 1) := by decide +kernel
theorem dL_isStarted_124 : decode cL_isStarted 124 = .ok (.ireturn, 1) := by decide +kernel
theorem dL_isStarted_125 : decode cL_isStarted 125 = .ok (.aload_n 1, 1) := by decide +kernel
theorem dL_isStarted_126 : decode cL_isStarted 126 = .ok (.iload_n 3, 1) := by decide +kernel
theorem dL_isStarted_127 : decode cL_isStarted 127 = .ok (.iconst 5, 1) := by decide +kernel
theorem dL_isStarted_128 : decode cL_isStarted 128 = .ok (.iadd, 1) := by decide +kernel
theorem dL_isStarted_129 : decode cL_isStarted 129 = .ok (.aload_n 1, 1) := by decide +kernel
theorem dL_isStarted_130 : decode cL_isStarted 130 = .ok (.iload_n 3, 1) := by decide +kernel
theorem dL_isStarted_131 : decode cL_isStarted 131 = .ok (.iconst 3, 1) := by decide +kernel
theorem dL_isStarted_132 : decode cL_isStarted 132 = .ok (.iadd, 1) := by decide +kernel
theorem dL_isStarted_133 : decode cL_isStarted 133 = .ok (.iaload, 1) := by decide +kernel
theorem dL_isStarted_134 : decode cL_isStarted 134 = .ok (.ifCond .ne 7, 3) := by decide +kernel
theorem dL_isStarted_137 : decode cL_isStarted 137 = .ok (.iconst 2, 1) := by decide +kernel
theorem dL_isStarted_138 : decode cL_isStarted 138 = .ok (.goto 4, 3) := by decide +kernel
theorem dL_isStarted_141 : decode cL_isStarted 141 = .ok (.iconst 1, 1) := by decide +kernel
theorem dL_isStarted_142 : decode cL_isStarted 142 = .ok (.iastore, 1) := by decide +kernel
theorem dL_isStarted_143 : decode cL_isStarted 143 = .ok (.aload_n 1, 1) := by decide +kernel
theorem dL_isStarted_144 : decode cL_isStarted 144 = .ok (.iload_n 3, 1) := by decide +kernel
theorem dL_isStarted_145 : decode cL_isStarted 145 = .ok (.bipush 6, 2) := by decide +kernel
theorem dL_isStarted_147 : decode cL_isStarted 147 = .ok (.iadd, 1) := by decide +kernel
theorem dL_isStarted_148 : decode cL_isStarted 148 = .ok (.aload_n 1, 1) := by decide +kernel
theorem dL_isStarted_149 : decode cL_isStarted 149 = .ok (.iload_n 3, 1) := by decide +kernel
theorem dL_isStarted_150 : decode cL_isStarted 150 = .ok (.iconst 3, 1) := by decide +kernel
theorem dL_isStarted_151 : decode cL_isStarted 151 = .ok (.iadd, 1) := by decide +kernel
theorem dL_isStarted_152 : decode cL_isStarted 152 = .ok (.iaload, 1) := by decide +kernel
theorem dL_isStarted_153 : decode cL_isStarted 153 = .ok (.iastore, 1) := by decide +kernel
theorem dL_isStarted_154 : decode cL_isStarted 154 = .ok (.aload_n 0, 1) := by decide +kernel
theorem dL_isStarted_155 : decode cL_isStarted 155 = .ok (.iload_n 2, 1) := by decide +kernel
theorem dL_isStarted_156 : decode cL_isStarted 156 = .ok (.invokestatic 229, 3) := by decide +kernel
theorem dL_isStarted_159 : decode cL_isStarted 159 = .ok (.aload_n 1, 1) := by decide +kernel
theorem dL_isStarted_160 : decode cL_isStarted 160 = .ok (.iload_n 3, 1) := by decide +kernel
theorem dL_isStarted_161 : decode cL_isStarted 161 = .ok (.iconst 3, 1) := by decide +kernel
theorem dL_isStarted_162 : decode cL_isStarted 162 = .ok (.iadd, 1) := by decide +kernel
theorem dL_isStarted_163 : decode cL_isStarted 163 = .ok (.iaload, 1) := by decide +kernel
theorem dL_isStarted_164 : decode cL_isStarted 164 = .ok (.if_icmp .ne 7, 3) := by decide +kernel
theorem dL_isStarted_167 : decode cL_isStarted 167 = .ok (.iconst 1, 1) := by decide +kernel
theorem dL_isStarted_168 : decode cL_isStarted 168 = .ok (.goto 4, 3) := by decide +kernel
theorem dL_isStarted_171 : decode cL_isStarted 171 = .ok (.iconst 0, 1) := by decide +kernel
theorem dL_isStarted_172 : decode cL_isStarted 172 = .ok (.ireturn, 1) := by decide +kernel
set_option maxRecDepth 20000 in
theorem ggL_isNext_L_island : GoodIn wsL_isNext wsL_island := goodIn_r _ [5] (by decide +kernel) (by decide +kernel)
set_option maxRecDepth 20000 in
theorem gL_isNext_L_island : GoodIn wsL_isNext (va_wsS RL 181 yL_island wsL_island) := goodIn_app (goodIn_of _ (by decide +kernel)) ggL_isNext_L_island
set_option maxRecDepth 20000 in
theorem ggL_isNext_L_startNext : GoodIn wsL_isNext wsL_startNext := goodIn_ca (goodIn_ca (goodIn_r _ [8, 9, 10, 11, 1, 12, 13, 14, 15, 16, 17, 18, 19, 20, 21, 22, 23, 24, 25, 26, 27, 28, 29, 30, 31, 32, 33, 34, 35, 36, 37, 38, 39, 40, 41, 42, 43, 44, 45, 46, 47, 48, 49, 50, 51, 52, 53, 54, 55, 56, 57, 58, 59, 60, 61, 62, 63, 64, 65, 66, 67, 68, 69, 70, 71, 72, 73, 74, 75, 76, 77, 78, 79, 80, 81, 82, 83, 84, 85, 86, 87, 88, 89, 90, 91, 92, 93] (by decide +kernel) (by decide +kernel)) (goodIn_sub (fun _ h => List.mem_cons_of_mem _ (List.mem_append_left _ (List.mem_append_right _ h))) (by decide +kernel))) (goodIn_sub (fun _ h => List.mem_cons_of_mem _ (List.mem_append_right _ h)) (by decide +kernel))
set_option maxRecDepth 20000 in
theorem gL_isNext_L_startNext : GoodIn wsL_isNext (va_wsS RL 233 yL_startNext wsL_startNext) := goodIn_app (goodIn_of _ (by decide +kernel)) ggL_isNext_L_startNext
theorem dL_isNext_0 : decode cL_isNext 0 = .ok (.iconst (-1), 1) := by decide +kernel
theorem dL_isNext_1 : decode cL_isNext 1 = .ok (.istore_n 3, 1) := by decide +kernel
theorem dL_isNext_2 : decode cL_isNext 2 = .ok (.aload_n 1, 1) := by decide +kernel
theorem dL_isNext_3 : decode cL_isNext 3 = .ok (.iconst 2, 1) := by decide +kernel
theorem dL_isNext_4 : decode cL_isNext 4 = .ok (.iaload, 1) := by decide +kernel
theorem dL_isNext_5 : decode cL_isNext 5 = .ok (.iconst 1, 1) := by decide +kernel
theorem dL_isNext_6 : decode cL_isNext 6 = .ok (.isub, 1) := by decide +kernel
theorem dL_isNext_7 : decode cL_isNext 7 = .ok (.istore 4, 2) := by decide +kernel
theorem dL_isNext_9 : decode cL_isNext 9 = .ok (.iload 4, 2) := by decide +kernel
theorem dL_isNext_11 : decode cL_isNext 11 = .ok (.ifCond .lt 129, 3) := by decide +kernel
theorem dL_isNext_14 : decode cL_isNext 14 = .ok (.bipush 50, 2) := by decide +kernel
theorem dL_isNext_16 : decode cL_isNext 16 = .ok (.bipush 9, 2) := by decide +kernel
theorem dL_isNext_18 : decode cL_isNext 18 = .ok (.iload 4, 2) := by decide +kernel
theorem dL_isNext_20 : decode cL_isNext 20 = .ok (.imul, 1) := by decide +kernel
theorem dL_isNext_21 : decode cL_isNext 21 = .ok (.iadd, 1) := by decide +kernel
theorem dL_isNext_22 : decode cL_isNext 22 = .ok (.istore 5, 2) := by decide +kernel
theorem dL_isNext_24 : decode cL_isNext 24 = .ok (.aload_n 1, 1) := by decide +kernel
theorem dL_isNext_25 : decode cL_isNext 25 = .ok (.iload 5, 2) := by decide +kernel
theorem dL_isNext_27 : decode cL_isNext 27 = .ok (.iconst 5, 1) := by decide +kernel
theorem dL_isNext_28 : decode cL_isNext 28 = .ok (.iadd, 1) := by decide +kernel
theorem dL_isNext_29 : decode cL_isNext 29 = .ok (.iaload, 1) := by decide +kernel
theorem dL_isNext_30 : decode cL_isNext 30 = .ok (.ifCond .ne 38, 3) := by decide +kernel
theorem dL_isNext_33 : decode cL_isNext 33 = .ok (.aload_n 1, 1) := by decide +kernel
theorem dL_isNext_34 : decode cL_isNext 34 = .ok (.iload 5, 2) := by decide +kernel
theorem dL_isNext_36 : decode cL_isNext 36 = .ok (.iconst 4, 1) := by decide +kernel
theorem dL_isNext_37 : decode cL_isNext 37 = .ok (.iadd, 1) := by decide +kernel
theorem dL_isNext_38 : decode cL_isNext 38 = .ok (.iaload, 1) := by decide +kernel
theorem dL_isNext_39 : decode cL_isNext 39 = .ok (.aload_n 1, 1) := by decide +kernel
theorem dL_isNext_40 : decode cL_isNext 40 = .ok (.iload 5, 2) := by decide +kernel
theorem dL_isNext_42 : decode cL_isNext 42 = .ok (.iconst 1, 1) := by decide +kernel
theorem dL_isNext_43 : decode cL_isNext 43 = .ok (.iadd, 1) := by decide +kernel
theorem dL_isNext_44 : decode cL_isNext 44 = .ok (.iaload, 1) := by decide +kernel
theorem dL_isNext_45 : decode cL_isNext 45 = .ok (.if_icmp .lt 23, 3) := by decide +kernel
theorem dL_isNext_48 : decode cL_isNext 48 = .ok (.aload_n 1, 1) := by decide +kernel
theorem dL_isNext_49 : decode cL_isNext 49 = .ok (.aload_n 1, 1) := by decide +kernel
theorem dL_isNext_50 : decode cL_isNext 50 = .ok (.iload 5, 2) := by decide +kernel
theorem dL_isNext_52 : decode cL_isNext 52 = .ok (.iaload, 1) := by decide +kernel
theorem dL_isNext_53 : decode cL_isNext 53 = .ok (.invokestatic 181, 3) := by decide +kernel
theorem dL_isNext_56 : decode cL_isNext 56 = .ok (.aload_n 1, 1) := by decide +kernel
theorem dL_isNext_57 : decode cL_isNext 57 = .ok (.iload_n 2, 1) := by decide +kernel
theorem dL_isNext_58 : decode cL_isNext 58 = .ok (.invokestatic 181, 3) := by decide +kernel
theorem dL_isNext_61 : decode cL_isNext 61 = .ok (.if_icmp .ne 7, 3) := by decide +kernel
theorem dL_isNext_64 : decode cL_isNext 64 = .ok (.iconst 1, 1) := by decide +kernel
theorem dL_isNext_65 : decode cL_isNext 65 = .ok (.goto 4, 3) := by decide +kernel
theorem dL_isNext_68 : decode cL_isNext 68 = .ok (.iconst 0, 1) := by decide +kernel
theorem dL_isNext_69 : decode cL_isNext 69 = .ok (.istore 6, 2) := by decide +kernel
theorem dL_isNext_71 : decode cL_isNext 71 = .ok (.sipush 1000, 3) := by decide +kernel
theorem dL_isNext_74 : decode cL_isNext 74 = .ok (.aload_n 1, 1) := by decide +kernel
theorem dL_isNext_75 : decode cL_isNext 75 = .ok (.iload 5, 2) := by decide +kernel
theorem dL_isNext_77 : decode cL_isNext 77 = .ok (.iconst 3, 1) := by decide +kernel
theorem dL_isNext_78 : decode cL_isNext 78 = .ok (.iadd, 1) := by decide +kernel
theorem dL_isNext_79 : decode cL_isNext 79 = .ok (.iaload, 1) := by decide +kernel
theorem dL_isNext_80 : decode cL_isNext 80 = .ok (.imul, 1) := by decide +kernel
theorem dL_isNext_81 : decode cL_isNext 81 = .ok (.aload_n 1, 1) := by decide +kernel
theorem dL_isNext_82 : decode cL_isNext 82 = .ok (.iload 5, 2) := by decide +kernel
theorem dL_isNext_84 : decode cL_isNext 84 = .ok (.iconst 2, 1) := by decide +kernel
theorem dL_isNext_85 : decode cL_isNext 85 = .ok (.iadd, 1) := by decide +kernel
theorem dL_isNext_86 : decode cL_isNext 86 = .ok (.iaload, 1) := by decide +kernel
theorem dL_isNext_87 : decode cL_isNext 87 = .ok (.isub, 1) := by decide +kernel
theorem dL_isNext_88 : decode cL_isNext 88 = .ok (.istore 7, 2) := by decide +kernel
theorem dL_isNext_90 : decode cL_isNext 90 = .ok (.iload 6, 2) := by decide +kernel
theorem dL_isNext_92 : decode cL_isNext 92 = .ok (.ifCond .eq 40, 3) := by decide +kernel
theorem dL_isNext_95 : decode cL_isNext 95 = .ok (.iload_n 3, 1) := by decide +kernel
theorem dL_isNext_96 : decode cL_isNext 96 = .ok (.ifCond .lt 31, 3) := by decide +kernel
theorem dL_isNext_99 : decode cL_isNext 99 = .ok (.iload 7, 2) := by decide +kernel
theorem dL_isNext_101 : decode cL_isNext 101 = .ok (.sipush 1000, 3) := by decide +kernel
theorem dL_isNext_104 : decode cL_isNext 104 = .ok (.aload_n 1, 1) := by decide +kernel
theorem dL_isNext_105 : decode cL_isNext 105 = .ok (.bipush 53, 2) := by decide +kernel
theorem dL_isNext_107 : decode cL_isNext 107 = .ok (.bipush 9, 2) := by decide +kernel
theorem dL_isNext_109 : decode cL_isNext 109 = .ok (.iload_n 3, 1) := by decide +kernel
theorem dL_isNext_110 : decode cL_isNext 110 = .ok (.imul, 1) := by decide +kernel
theorem dL_isNext_111 : decode cL_isNext 111 = .ok (.iadd, 1) := by decide +kernel
theorem dL_isNext_112 : decode cL_isNext 112 = .ok (.iaload, 1) := by decide +kernel
theorem dL_isNext_113 : decode cL_isNext 113 = .ok (.imul, 1) := by decide +kernel
theorem dL_isNext_114 : decode cL_isNext 114 = .ok (.aload_n 1, 1) := by decide +kernel
theorem dL_isNext_115 : decode cL_isNext 115 = .ok (.bipush 52, 2) := by decide +kernel
theorem dL_isNext_117 : decode cL_isNext 117 = .ok (.bipush 9, 2) := by decide +kernel
theorem dL_isNext_119 : decode cL_isNext 119 = .ok (.iload_n 3, 1) := by decide +kernel
theorem dL_isNext_120 : decode cL_isNext 120 = .ok (.imul, 1) := by decide +kernel
theorem dL_isNext_121 : decode cL_isNext 121 = .ok (.iadd, 1) := by decide +kernel
theorem dL_isNext_122 : decode cL_isNext 122 = .ok (.iaload, 1) := by decide +kernel
theorem dL_isNext_123 : decode cL_isNext 123 = .ok (.isub, 1) := by decide +kernel
theorem dL_isNext_124 : decode cL_isNext 124 = .ok (.if_icmp .gt 8, 3) := by decide +kernel
theorem dL_isNext_127 : decode cL_isNext 127 = .ok (.iload 4, 2) := by decide +kernel
theorem dL_isNext_129 : decode cL_isNext 129 = .ok (.goto 4, 3) := by decide +kernel
theorem dL_isNext_132 : decode cL_isNext 132 = .ok (.iload_n 3, 1) := by decide +kernel
theorem dL_isNext_133 : decode cL_isNext 133 = .ok (.istore_n 3, 1) := by decide +kernel
theorem dL_isNext_134 : decode cL_isNext 134 = .ok (.iinc 4 (-1), 3) := by decide +kernel
theorem dL_isNext_137 : decode cL_isNext 137 = .ok (.goto (-128), 3) := by decide +kernel
theorem dL_isNext_140 : decode cL_isNext 140 = .ok (.iload_n 3, 1) := by decide +kernel
theorem dL_isNext_141 : decode cL_isNext 141 = .ok (.ifCond .ge 19, 3) := by decide +kernel
theorem dL_isNext_144 : decode cL_isNext 144 = .ok (.aload_n 0, 1) := by decide +kernel
theorem dL_isNext_145 : decode cL_isNext 145 = .ok (.iload_n 2, 1) := by decide +kernel
theorem dL_isNext_146 : decode cL_isNext 146 = .ok (.invokestatic 233, 3) := by decide +kernel
theorem dL_isNext_149 : decode cL_isNext 149 = .ok (.ldc 26, 2) := by decide +kernel
theorem dL_isNext_151 : decode cL_isNext 151 = .ok (.if_icmp .ne 7, 3) := by decide +kernel
theorem dL_isNext_154 : decode cL_isNext 154 = .ok (.iconst 1, 1) := by decide +kernel
theorem dL_isNext_155 : decode cL_isNext 155 = .ok (.goto 4, 3) := by decide +kernel
theorem dL_isNext_158 : decode cL_isNext 158 = .ok (.iconst 0, 1) := by decide +kernel
theorem dL_isNext_159 : decode cL_isNext 159 = .ok (.ireturn, 1) := by decide +kernel
theorem dL_isNext_160 : decode cL_isNext 160 = .ok (.aload_n 1, 1) := by decide +kernel
theorem dL_isNext_161 : decode cL_isNext 161 = .ok (.bipush 55, 2) := by decide +kernel
theorem dL_isNext_163 : decode cL_isNext 163 = .ok (.bipush 9, 2) := by decide +kernel
theorem dL_isNext_165 : decode cL_isNext 165 = .ok (.iload_n 3, 1) := by decide +kernel
theorem dL_isNext_166 : decode cL_isNext 166 = .ok (.imul, 1) := by decide +kernel
theorem dL_isNext_167 : decode cL_isNext 167 = .ok (.iadd, 1) := by decide +kernel
theorem dL_isNext_168 : decode cL_isNext 168 = .ok (.aload_n 1, 1) := by decide +kernel
theorem dL_isNext_169 : decode cL_isNext 169 = .ok (.bipush 53, 2) := by decide +kernel
theorem dL_isNext_171 : decode cL_isNext 171 = .ok (.bipush 9, 2) := by decide +kernel
theorem dL_isNext_173 : decode cL_isNext 173 = .ok (.iload_n 3, 1) := by decide +kernel
theorem dL_isNext_174 : decode cL_isNext 174 = .ok (.imul, 1) := by decide +kernel
theorem dL_isNext_175 : decode cL_isNext 175 = .ok (.iadd, 1) := by decide +kernel
theorem dL_isNext_176 : decode cL_isNext 176 = .ok (.iaload, 1) := by decide +kernel
theorem dL_isNext_177 : decode cL_isNext 177 = .ok (.ifCond .ne 7, 3) := by decide +kernel
theorem dL_isNext_180 : decode cL_isNext 180 = .ok (.iconst 2, 1) := by decide +kernel
theorem dL_isNext_181 : decode cL_isNext 181 = .ok (.goto 4, 3) := by decide +kernel
theorem dL_isNext_184 : decode cL_isNext 184 = .ok (.iconst 1, 1) := by decide +kernel
theorem dL_isNext_185 : decode cL_isNext 185 = .ok (.iastore, 1) := by decide +kernel
theorem dL_isNext_186 : decode cL_isNext 186 = .ok (.aload_n 1, 1) := by decide +kernel
theorem dL_isNext_187 : decode cL_isNext 187 = .ok (.bipush 56, 2) := by decide +kernel
theorem dL_isNext_189 : decode cL_isNext 189 = .ok (.bipush 9, 2) := by decide +kernel
theorem dL_isNext_191 : decode cL_isNext 191 = .ok (.iload_n 3, 1) := by decide +kernel
theorem dL_isNext_192 : decode cL_isNext 192 = .ok (.imul, 1) := by decide +kernel
theorem dL_isNext_193 : decode cL_isNext 193 = .ok (.iadd, 1) := by decide +kernel
theorem dL_isNext_194 : decode cL_isNext 194 = .ok (.aload_n 1, 1) := by decide +kernel
theorem dL_isNext_195 : decode cL_isNext 195 = .ok (.bipush 53, 2) := by decide +kernel
theorem dL_isNext_197 : decode cL_isNext 197 = .ok (.bipush 9, 2) := by decide +kernel
theorem dL_isNext_199 : decode cL_isNext 199 = .ok (.iload_n 3, 1) := by decide +kernel
theorem dL_isNext_200 : decode cL_isNext 200 = .ok (.imul, 1) := by decide +kernel
theorem dL_isNext_201 : decode cL_isNext 201 = .ok (.iadd, 1) := by decide +kernel
theorem dL_isNext_202 : decode cL_isNext 202 = .ok (.iaload, 1) := by decide +kernel
theorem dL_isNext_203 : decode cL_isNext 203 = .ok (.iastore, 1) := by decide +kernel
theorem dL_isNext_204 : decode cL_isNext 204 = .ok (.aload_n 0, 1) := by decide +kernel
theorem dL_isNext_205 : decode cL_isNext 205 = .ok (.iload_n 2, 1) := by decide +kernel
theorem dL_isNext_206 : decode cL_isNext 206 = .ok (.invokestatic 233, 3) := by decide +kernel
theorem dL_isNext_209 : decode cL_isNext 209 = .ok (.iload_n 3, 1) := by decide +kernel
theorem dL_isNext_210 : decode cL_isNext 210 = .ok (.if_icmp .ne 7, 3) := by decide +kernel
theorem dL_isNext_213 : decode cL_isNext 213 = .ok (.iconst 1, 1) := by decide +kernel
theorem dL_isNext_214 : decode cL_isNext 214 = .ok (.goto 4, 3) := by decide +kernel
theorem dL_isNext_217 : decode cL_isNext 217 = .ok (.iconst 0, 1) := by decide +kernel
theorem dL_isNext_218 : decode cL_isNext 218 = .ok (.ireturn, 1) := by decide +kernel
set_option maxRecDepth 20000 in
theorem ggL_isPassed_L_ticks : GoodIn wsL_isPassed wsL_ticks := goodIn_r _ [4, 5, 6, 3, 7, 8, 9, 10, 11, 12, 13, 14, 15, 16, 17, 18, 19, 20, 21, 22, 23, 24, 25, 26, 27, 28, 29, 30, 31, 32, 33, 34, 35, 36, 37, 38, 39, 40] (by decide +kernel) (by decide +kernel)
set_option maxRecDepth 20000 in
theorem gL_isPassed_L_ticks : GoodIn wsL_isPassed (va_wsS RL 235 yL_ticks wsL_ticks) := goodIn_app (goodIn_of _ (by decide +kernel)) ggL_isPassed_L_ticks
