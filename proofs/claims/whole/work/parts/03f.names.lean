theorem dX9_burnt_6 : decode cX9_burnt 6 = .ok (.getfield 213, 3) := by decide +kernel
theorem dX9_burnt_9 : decode cX9_burnt 9 = .ok (.lreturn, 1) := by decide +kernel
theorem dX9_served_0 : decode cX9_served 0 = .ok (.aload_n 0, 1) := by decide +kernel
theorem dX9_served_1 : decode cX9_served 1 = .ok (.iconst 0, 1) := by decide +kernel
theorem dX9_served_2 : decode cX9_served 2 = .ok (.putfield 85, 3) := by decide +kernel
theorem dX9_served_5 : decode cX9_served 5 = .ok (.aload_n 0, 1) := by decide +kernel
theorem dX9_served_6 : decode cX9_served 6 = .ok (.getfield 209, 3) := by decide +kernel
theorem dX9_served_9 : decode cX9_served 9 = .ok (.lreturn, 1) := by decide +kernel
theorem dX9_lost_0 : decode cX9_lost 0 = .ok (.aload_n 0, 1) := by decide +kernel
theorem dX9_lost_1 : decode cX9_lost 1 = .ok (.iconst 0, 1) := by decide +kernel
theorem dX9_lost_2 : decode cX9_lost 2 = .ok (.putfield 85, 3) := by decide +kernel
theorem dX9_lost_5 : decode cX9_lost 5 = .ok (.aload_n 0, 1) := by decide +kernel
theorem dX9_lost_6 : decode cX9_lost 6 = .ok (.getfield 225, 3) := by decide +kernel
theorem dX9_lost_9 : decode cX9_lost 9 = .ok (.lreturn, 1) := by decide +kernel
theorem dX9_isBalanced_0 : decode cX9_isBalanced 0 = .ok (.aload_n 0, 1) := by decide +kernel
theorem dX9_isBalanced_1 : decode cX9_isBalanced 1 = .ok (.iconst 0, 1) := by decide +kernel
theorem dX9_isBalanced_2 : decode cX9_isBalanced 2 = .ok (.putfield 85, 3) := by decide +kernel
theorem dX9_isBalanced_5 : decode cX9_isBalanced 5 = .ok (.lconst 0, 1) := by decide +kernel
theorem dX9_isBalanced_6 : decode cX9_isBalanced 6 = .ok (.lstore_n 1, 1) := by decide +kernel
theorem dX9_isBalanced_7 : decode cX9_isBalanced 7 = .ok (.iconst 0, 1) := by decide +kernel
theorem dX9_isBalanced_8 : decode cX9_isBalanced 8 = .ok (.istore_n 3, 1) := by decide +kernel
theorem dX9_isBalanced_9 : decode cX9_isBalanced 9 = .ok (.iload_n 3, 1) := by decide +kernel
theorem dX9_isBalanced_10 : decode cX9_isBalanced 10 = .ok (.aload_n 0, 1) := by decide +kernel
theorem dX9_isBalanced_11 : decode cX9_isBalanced 11 = .ok (.getfield 105, 3) := by decide +kernel
theorem dX9_isBalanced_14 : decode cX9_isBalanced 14 = .ok (.if_icmp .ge 19, 3) := by decide +kernel
theorem dX9_isBalanced_17 : decode cX9_isBalanced 17 = .ok (.lload_n 1, 1) := by decide +kernel
theorem dX9_isBalanced_18 : decode cX9_isBalanced 18 = .ok (.aload_n 0, 1) := by decide +kernel
theorem dX9_isBalanced_19 : decode cX9_isBalanced 19 = .ok (.getfield 63, 3) := by decide +kernel
theorem dX9_isBalanced_22 : decode cX9_isBalanced 22 = .ok (.iload_n 3, 1) := by decide +kernel
theorem dX9_isBalanced_23 : decode cX9_isBalanced 23 = .ok (.iaload, 1) := by decide +kernel
theorem dX9_isBalanced_24 : decode cX9_isBalanced 24 = .ok (.i2l, 1) := by decide +kernel
theorem dX9_isBalanced_25 : decode cX9_isBalanced 25 = .ok (.ladd, 1) := by decide +kernel
theorem dX9_isBalanced_26 : decode cX9_isBalanced 26 = .ok (.lstore_n 1, 1) := by decide +kernel
theorem dX9_isBalanced_27 : decode cX9_isBalanced 27 = .ok (.iinc 3 1, 3) := by decide +kernel
theorem dX9_isBalanced_30 : decode cX9_isBalanced 30 = .ok (.goto (-21), 3) := by decide +kernel
theorem dX9_isBalanced_33 : decode cX9_isBalanced 33 = .ok (.aload_n 0, 1) := by decide +kernel
theorem dX9_isBalanced_34 : decode cX9_isBalanced 34 = .ok (.getfield 213, 3) := by decide +kernel
theorem dX9_isBalanced_37 : decode cX9_isBalanced 37 = .ok (.aload_n 0, 1) := by decide +kernel
theorem dX9_isBalanced_38 : decode cX9_isBalanced 38 = .ok (.getfield 216, 3) := by decide +kernel
theorem dX9_isBalanced_41 : decode cX9_isBalanced 41 = .ok (.ladd, 1) := by decide +kernel
theorem dX9_isBalanced_42 : decode cX9_isBalanced 42 = .ok (.aload_n 0, 1) := by decide +kernel
theorem dX9_isBalanced_43 : decode cX9_isBalanced 43 = .ok (.getfield 209, 3) := by decide +kernel
theorem dX9_isBalanced_46 : decode cX9_isBalanced 46 = .ok (.aload_n 0, 1) := by decide +kernel
theorem dX9_isBalanced_47 : decode cX9_isBalanced 47 = .ok (.getfield 225, 3) := by decide +kernel
theorem dX9_isBalanced_50 : decode cX9_isBalanced 50 = .ok (.ladd, 1) := by decide +kernel
theorem dX9_isBalanced_51 : decode cX9_isBalanced 51 = .ok (.aload_n 0, 1) := by decide +kernel
theorem dX9_isBalanced_52 : decode cX9_isBalanced 52 = .ok (.getfield 222, 3) := by decide +kernel
theorem dX9_isBalanced_55 : decode cX9_isBalanced 55 = .ok (.ladd, 1) := by decide +kernel
theorem dX9_isBalanced_56 : decode cX9_isBalanced 56 = .ok (.lload_n 1, 1) := by decide +kernel
theorem dX9_isBalanced_57 : decode cX9_isBalanced 57 = .ok (.ladd, 1) := by decide +kernel
theorem dX9_isBalanced_58 : decode cX9_isBalanced 58 = .ok (.lcmp, 1) := by decide +kernel
theorem dX9_isBalanced_59 : decode cX9_isBalanced 59 = .ok (.ifCond .ne 7, 3) := by decide +kernel
theorem dX9_isBalanced_62 : decode cX9_isBalanced 62 = .ok (.iconst 1, 1) := by decide +kernel
theorem dX9_isBalanced_63 : decode cX9_isBalanced 63 = .ok (.goto 4, 3) := by decide +kernel
theorem dX9_isBalanced_66 : decode cX9_isBalanced 66 = .ok (.iconst 0, 1) := by decide +kernel
theorem dX9_isBalanced_67 : decode cX9_isBalanced 67 = .ok (.ireturn, 1) := by decide +kernel
set_option maxRecDepth 20000 in
theorem ggX9_litShare_X9_isThrown : GoodIn wsX9_litShare wsX9_isThrown := goodIn_r _ [7, 8, 9, 10, 11, 12, 13, 14, 15, 16, 17, 18, 19, 20, 21, 22, 23, 24, 25, 26, 27, 28, 29, 30, 31, 32, 33, 34, 35, 36, 37, 38, 39, 40, 41, 42, 43, 44, 45, 46, 47] (by decide +kernel) (by decide +kernel)
set_option maxRecDepth 20000 in
theorem gX9_litShare_X9_isThrown : GoodIn wsX9_litShare (wsV RX9 95 RX9 yX9_isThrown wsX9_isThrown) := goodIn_app (goodIn_of _ (by decide +kernel)) ggX9_litShare_X9_isThrown
theorem dX9_litShare_0 : decode cX9_litShare 0 = .ok (.iconst 0, 1) := by decide +kernel
theorem dX9_litShare_1 : decode cX9_litShare 1 = .ok (.istore_n 1, 1) := by decide +kernel
theorem dX9_litShare_2 : decode cX9_litShare 2 = .ok (.iconst 0, 1) := by decide +kernel
theorem dX9_litShare_3 : decode cX9_litShare 3 = .ok (.istore_n 2, 1) := by decide +kernel
theorem dX9_litShare_4 : decode cX9_litShare 4 = .ok (.iload_n 2, 1) := by decide +kernel
theorem dX9_litShare_5 : decode cX9_litShare 5 = .ok (.aload_n 0, 1) := by decide +kernel
theorem dX9_litShare_6 : decode cX9_litShare 6 = .ok (.getfield 108, 3) := by decide +kernel
theorem dX9_litShare_9 : decode cX9_litShare 9 = .ok (.if_icmp .ge 26, 3) := by decide +kernel
theorem dX9_litShare_12 : decode cX9_litShare 12 = .ok (.iload_n 1, 1) := by decide +kernel
theorem dX9_litShare_13 : decode cX9_litShare 13 = .ok (.aload_n 0, 1) := by decide +kernel
theorem dX9_litShare_14 : decode cX9_litShare 14 = .ok (.getfield 26, 3) := by decide +kernel
theorem dX9_litShare_17 : decode cX9_litShare 17 = .ok (.iload_n 2, 1) := by decide +kernel
theorem dX9_litShare_18 : decode cX9_litShare 18 = .ok (.baload, 1) := by decide +kernel
theorem dX9_litShare_19 : decode cX9_litShare 19 = .ok (.ifCond .eq 7, 3) := by decide +kernel
theorem dX9_litShare_22 : decode cX9_litShare 22 = .ok (.iconst 0, 1) := by decide +kernel
theorem dX9_litShare_23 : decode cX9_litShare 23 = .ok (.goto 4, 3) := by decide +kernel
theorem dX9_litShare_26 : decode cX9_litShare 26 = .ok (.iconst 1, 1) := by decide +kernel
theorem dX9_litShare_27 : decode cX9_litShare 27 = .ok (.iadd, 1) := by decide +kernel
theorem dX9_litShare_28 : decode cX9_litShare 28 = .ok (.istore_n 1, 1) := by decide +kernel
theorem dX9_litShare_29 : decode cX9_litShare 29 = .ok (.iinc 2 1, 3) := by decide +kernel
theorem dX9_litShare_32 : decode cX9_litShare 32 = .ok (.goto (-28), 3) := by decide +kernel
theorem dX9_litShare_35 : decode cX9_litShare 35 = .ok (.aload_n 0, 1) := by decide +kernel
theorem dX9_litShare_36 : decode cX9_litShare 36 = .ok (.aload_n 0, 1) := by decide +kernel
theorem dX9_litShare_37 : decode cX9_litShare 37 = .ok (.getfield 108, 3) := by decide +kernel
theorem dX9_litShare_40 : decode cX9_litShare 40 = .ok (.ifCond .ne 7, 3) := by decide +kernel
theorem dX9_litShare_43 : decode cX9_litShare 43 = .ok (.iconst 1, 1) := by decide +kernel
theorem dX9_litShare_44 : decode cX9_litShare 44 = .ok (.goto 4, 3) := by decide +kernel
theorem dX9_litShare_47 : decode cX9_litShare 47 = .ok (.iconst 0, 1) := by decide +kernel
theorem dX9_litShare_48 : decode cX9_litShare 48 = .ok (.iconst 1, 1) := by decide +kernel
theorem dX9_litShare_49 : decode cX9_litShare 49 = .ok (.invokevirtual 95, 3) := by decide +kernel
theorem dX9_litShare_52 : decode cX9_litShare 52 = .ok (.ifCond .eq 7, 3) := by decide +kernel
theorem dX9_litShare_55 : decode cX9_litShare 55 = .ok (.fconst 0, 1) := by decide +kernel
theorem dX9_litShare_56 : decode cX9_litShare 56 = .ok (.goto 11, 3) := by decide +kernel
theorem dX9_litShare_59 : decode cX9_litShare 59 = .ok (.iload_n 1, 1) := by decide +kernel
theorem dX9_litShare_60 : decode cX9_litShare 60 = .ok (.i2f, 1) := by decide +kernel
theorem dX9_litShare_61 : decode cX9_litShare 61 = .ok (.aload_n 0, 1) := by decide +kernel
theorem dX9_litShare_62 : decode cX9_litShare 62 = .ok (.getfield 108, 3) := by decide +kernel
theorem dX9_litShare_65 : decode cX9_litShare 65 = .ok (.i2f, 1) := by decide +kernel
theorem dX9_litShare_66 : decode cX9_litShare 66 = .ok (.fdiv, 1) := by decide +kernel
theorem dX9_litShare_67 : decode cX9_litShare 67 = .ok (.freturn, 1) := by decide +kernel
theorem dJ9_abs_0f7a4_0 : decode cJ9_abs_0f7a4 0 = .ok (.iload_n 0, 1) := by decide +kernel
theorem dJ9_abs_0f7a4_1 : decode cJ9_abs_0f7a4 1 = .ok (.ifCond .ge 8, 3) := by decide +kernel
theorem dJ9_abs_0f7a4_4 : decode cJ9_abs_0f7a4 4 = .ok (.iload_n 0, 1) := by decide +kernel
theorem dJ9_abs_0f7a4_5 : decode cJ9_abs_0f7a4 5 = .ok (.ineg, 1) := by decide +kernel
theorem dJ9_abs_0f7a4_6 : decode cJ9_abs_0f7a4 6 = .ok (.goto 4, 3) := by decide +kernel
theorem dJ9_abs_0f7a4_9 : decode cJ9_abs_0f7a4 9 = .ok (.iload_n 0, 1) := by decide +kernel
theorem dJ9_abs_0f7a4_10 : decode cJ9_abs_0f7a4 10 = .ok (.ireturn, 1) := by decide +kernel
theorem dJ9_max_7cf53_0 : decode cJ9_max_7cf53 0 = .ok (.iload_n 0, 1) := by decide +kernel
theorem dJ9_max_7cf53_1 : decode cJ9_max_7cf53 1 = .ok (.iload_n 1, 1) := by decide +kernel
theorem dJ9_max_7cf53_2 : decode cJ9_max_7cf53 2 = .ok (.if_icmp .lt 7, 3) := by decide +kernel
theorem dJ9_max_7cf53_5 : decode cJ9_max_7cf53 5 = .ok (.iload_n 0, 1) := by decide +kernel
theorem dJ9_max_7cf53_6 : decode cJ9_max_7cf53 6 = .ok (.goto 4, 3) := by decide +kernel
theorem dJ9_max_7cf53_9 : decode cJ9_max_7cf53 9 = .ok (.iload_n 1, 1) := by decide +kernel
theorem dJ9_max_7cf53_10 : decode cJ9_max_7cf53 10 = .ok (.ireturn, 1) := by decide +kernel
theorem dJ9_min_7cf53_0 : decode cJ9_min_7cf53 0 = .ok (.iload_n 0, 1) := by decide +kernel
theorem dJ9_min_7cf53_1 : decode cJ9_min_7cf53 1 = .ok (.iload_n 1, 1) := by decide +kernel
theorem dJ9_min_7cf53_2 : decode cJ9_min_7cf53 2 = .ok (.if_icmp .gt 7, 3) := by decide +kernel
theorem dJ9_min_7cf53_5 : decode cJ9_min_7cf53 5 = .ok (.iload_n 0, 1) := by decide +kernel
theorem dJ9_min_7cf53_6 : decode cJ9_min_7cf53 6 = .ok (.goto 4, 3) := by decide +kernel
theorem dJ9_min_7cf53_9 : decode cJ9_min_7cf53 9 = .ok (.iload_n 1, 1) := by decide +kernel
theorem dJ9_min_7cf53_10 : decode cJ9_min_7cf53 10 = .ok (.ireturn, 1) := by decide +kernel
set_option maxRecDepth 20000 in
theorem ggL_addSite_X8_addSite : GoodIn wsL_addSite wsX8_addSite := goodIn_ca (goodIn_r _ [6, 7, 8, 9, 10, 11, 12, 13, 14, 15, 16, 17, 18, 19, 20, 21, 22, 23, 24, 25, 26, 27, 28, 29, 30, 31, 32, 33, 34, 35, 36, 37, 38, 39, 40, 41, 42, 43, 44, 45, 46, 47, 48, 49, 50, 51, 52] (by decide +kernel) (by decide +kernel)) (goodIn_sub (fun _ h => List.mem_cons_of_mem _ (List.mem_append_right _ h)) (by decide +kernel))
set_option maxRecDepth 20000 in
theorem gL_addSite_X8_addSite : GoodIn wsL_addSite (wsV RL 7 RX8 yX8_addSite wsX8_addSite) := goodIn_app (goodIn_of _ (by decide +kernel)) ggL_addSite_X8_addSite
theorem dL_addSite_0 : decode cL_addSite 0 = .ok (.aload_n 1, 1) := by decide +kernel
theorem dL_addSite_1 : decode cL_addSite 1 = .ok (.iconst 0, 1) := by decide +kernel
theorem dL_addSite_2 : decode cL_addSite 2 = .ok (.aload_n 0, 1) := by decide +kernel
theorem dL_addSite_3 : decode cL_addSite 3 = .ok (.invokevirtual 7, 3) := by decide +kernel
theorem dL_addSite_6 : decode cL_addSite 6 = .ok (.i2l, 1) := by decide +kernel
theorem dL_addSite_7 : decode cL_addSite 7 = .ok (.lastore, 1) := by decide +kernel
theorem dL_addSite_8 : decode cL_addSite 8 = .ok (.goto 6, 3) := by decide +kernel
theorem dL_addSite_11 : decode cL_addSite 11 = .ok (.astore_n 2, 1) := by decide +kernel
theorem dL_addSite_12 : decode cL_addSite 12 = .ok (.iconst 1, 1) := by decide +kernel
theorem dL_addSite_13 : decode cL_addSite 13 = .ok (.ireturn, 1) := by decide +kernel
theorem dL_addSite_14 : decode cL_addSite 14 = .ok (.iconst 0, 1) := by decide +kernel
theorem dL_addSite_15 : decode cL_addSite 15 = .ok (.ireturn, 1) := by decide +kernel
set_option maxRecDepth 20000 in
theorem ggL_setPhase_X8_setPhase : GoodIn wsL_setPhase wsX8_setPhase := goodIn_ca (goodIn_ca (goodIn_r _ [7, 8, 9, 10, 11, 12, 6, 13, 14, 15, 16, 17, 18, 19, 20, 21, 22, 23, 24, 25, 26, 27, 28, 29, 30, 31, 32, 33, 34, 35, 36, 37, 38, 39, 40, 41, 42] (by decide +kernel) (by decide +kernel)) (goodIn_sub (fun _ h => List.mem_cons_of_mem _ (List.mem_append_left _ (List.mem_append_right _ h))) (by decide +kernel))) (goodIn_sub (fun _ h => List.mem_cons_of_mem _ (List.mem_append_right _ h)) (by decide +kernel))
set_option maxRecDepth 20000 in
theorem gL_setPhase_X8_setPhase : GoodIn wsL_setPhase (wsV RL 15 RX8 yX8_setPhase wsX8_setPhase) := goodIn_app (goodIn_of _ (by decide +kernel)) ggL_setPhase_X8_setPhase
theorem dL_setPhase_0 : decode cL_setPhase 0 = .ok (.aload_n 3, 1) := by decide +kernel
theorem dL_setPhase_1 : decode cL_setPhase 1 = .ok (.iconst 0, 1) := by decide +kernel
theorem dL_setPhase_2 : decode cL_setPhase 2 = .ok (.aload_n 0, 1) := by decide +kernel
theorem dL_setPhase_3 : decode cL_setPhase 3 = .ok (.iload_n 1, 1) := by decide +kernel
theorem dL_setPhase_4 : decode cL_setPhase 4 = .ok (.iload_n 2, 1) := by decide +kernel
theorem dL_setPhase_5 : decode cL_setPhase 5 = .ok (.invokevirtual 15, 3) := by decide +kernel
theorem dL_setPhase_8 : decode cL_setPhase 8 = .ok (.i2l, 1) := by decide +kernel
theorem dL_setPhase_9 : decode cL_setPhase 9 = .ok (.lastore, 1) := by decide +kernel
theorem dL_setPhase_10 : decode cL_setPhase 10 = .ok (.goto 11, 3) := by decide +kernel
theorem dL_setPhase_13 : decode cL_setPhase 13 = .ok (.astore 4, 2) := by decide +kernel
theorem dL_setPhase_15 : decode cL_setPhase 15 = .ok (.iconst 1, 1) := by decide +kernel
theorem dL_setPhase_16 : decode cL_setPhase 16 = .ok (.ireturn, 1) := by decide +kernel
theorem dL_setPhase_17 : decode cL_setPhase 17 = .ok (.astore 4, 2) := by decide +kernel
theorem dL_setPhase_19 : decode cL_setPhase 19 = .ok (.iconst 2, 1) := by decide +kernel
theorem dL_setPhase_20 : decode cL_setPhase 20 = .ok (.ireturn, 1) := by decide +kernel
theorem dL_setPhase_21 : decode cL_setPhase 21 = .ok (.iconst 0, 1) := by decide +kernel
theorem dL_setPhase_22 : decode cL_setPhase 22 = .ok (.ireturn, 1) := by decide +kernel
set_option maxRecDepth 20000 in
theorem ggL_addLine_X8_addLine : GoodIn wsL_addLine wsX8_addLine := goodIn_ca (goodIn_ca (goodIn_ca (goodIn_r _ [8, 9, 10, 11, 12, 13, 14, 15, 16, 17, 7, 18, 19, 20, 21, 22, 23, 24, 25, 26, 27, 28, 29, 30, 31, 32, 33, 34, 35, 36, 37, 38, 39, 40, 41, 42, 43, 44, 45, 46, 47, 48, 49, 50] (by decide +kernel) (by decide +kernel)) (goodIn_sub (fun _ h => List.mem_cons_of_mem _ (List.mem_append_left _ (List.mem_append_left _ (List.mem_append_right _ h)))) (by decide +kernel))) (goodIn_sub (fun _ h => List.mem_cons_of_mem _ (List.mem_append_left _ (List.mem_append_right _ h))) (by decide +kernel))) (goodIn_sub (fun _ h => List.mem_cons_of_mem _ (List.mem_append_right _ h)) (by decide +kernel))
set_option maxRecDepth 20000 in
theorem gL_addLine_X8_addLine : GoodIn wsL_addLine (wsV RL 23 RX8 yX8_addLine wsX8_addLine) := goodIn_app (goodIn_of _ (by decide +kernel)) ggL_addLine_X8_addLine
theorem dL_addLine_0 : decode cL_addLine 0 = .ok (.aload_n 3, 1) := by decide +kernel
theorem dL_addLine_1 : decode cL_addLine 1 = .ok (.iconst 0, 1) := by decide +kernel
theorem dL_addLine_2 : decode cL_addLine 2 = .ok (.aload_n 0, 1) := by decide +kernel
theorem dL_addLine_3 : decode cL_addLine 3 = .ok (.iload_n 1, 1) := by decide +kernel
theorem dL_addLine_4 : decode cL_addLine 4 = .ok (.iload_n 2, 1) := by decide +kernel
theorem dL_addLine_5 : decode cL_addLine 5 = .ok (.invokevirtual 23, 3) := by decide +kernel
theorem dL_addLine_8 : decode cL_addLine 8 = .ok (.i2l, 1) := by decide +kernel
theorem dL_addLine_9 : decode cL_addLine 9 = .ok (.lastore, 1) := by decide +kernel
theorem dL_addLine_10 : decode cL_addLine 10 = .ok (.goto 15, 3) := by decide +kernel
theorem dL_addLine_13 : decode cL_addLine 13 = .ok (.astore 4, 2) := by decide +kernel
theorem dL_addLine_15 : decode cL_addLine 15 = .ok (.iconst 1, 1) := by decide +kernel
theorem dL_addLine_16 : decode cL_addLine 16 = .ok (.ireturn, 1) := by decide +kernel
theorem dL_addLine_17 : decode cL_addLine 17 = .ok (.astore 4, 2) := by decide +kernel
theorem dL_addLine_19 : decode cL_addLine 19 = .ok (.iconst 2, 1) := by decide +kernel
theorem dL_addLine_20 : decode cL_addLine 20 = .ok (.ireturn, 1) := by decide +kernel
theorem dL_addLine_21 : decode cL_addLine 21 = .ok (.astore 4, 2) := by decide +kernel
theorem dL_addLine_23 : decode cL_addLine 23 = .ok (.iconst 3, 1) := by decide +kernel
theorem dL_addLine_24 : decode cL_addLine 24 = .ok (.ireturn, 1) := by decide +kernel
theorem dL_addLine_25 : decode cL_addLine 25 = .ok (.iconst 0, 1) := by decide +kernel
theorem dL_addLine_26 : decode cL_addLine 26 = .ok (.ireturn, 1) := by decide +kernel
set_option maxRecDepth 20000 in
theorem ggL_close_X8_close : GoodIn wsL_close wsX8_close := goodIn_ca (goodIn_ca (goodIn_ca (goodIn_r _ [8, 9, 10, 11, 12, 13, 14, 15, 16, 17, 7, 18, 19, 20, 21, 22, 23, 24, 25, 26, 27, 28, 29, 30, 31, 32, 33, 34, 35, 36, 37, 38, 39, 40, 41, 42, 43, 44, 45, 46, 47, 48, 49, 50, 51, 52, 53, 54, 55, 56, 57, 58, 59, 60, 61, 62, 63, 64, 65, 66, 67, 68, 69, 70, 71, 72, 73, 74, 75, 76, 77, 78, 79, 80, 81, 82, 83, 84, 85, 86, 87, 88, 89, 90] (by decide +kernel) (by decide +kernel)) (goodIn_sub (fun _ h => List.mem_cons_of_mem _ (List.mem_append_left _ (List.mem_append_left _ (List.mem_append_right _ h)))) (by decide +kernel))) (goodIn_sub (fun _ h => List.mem_cons_of_mem _ (List.mem_append_left _ (List.mem_append_right _ h))) (by decide +kernel))) (goodIn_sub (fun _ h => List.mem_cons_of_mem _ (List.mem_append_right _ h)) (by decide +kernel))
set_option maxRecDepth 20000 in
theorem gL_close_X8_close : GoodIn wsL_close (wsV RL 26 RX8 yX8_close wsX8_close) := goodIn_app (goodIn_of _ (by decide +kernel)) ggL_close_X8_close
theorem dL_close_0 : decode cL_close 0 = .ok (.aload_n 2, 1) := by decide +kernel
theorem dL_close_1 : decode cL_close 1 = .ok (.iconst 0, 1) := by decide +kernel
theorem dL_close_2 : decode cL_close 2 = .ok (.aload_n 0, 1) := by decide +kernel
theorem dL_close_3 : decode cL_close 3 = .ok (.iload_n 1, 1) := by decide +kernel
theorem dL_close_4 : decode cL_close 4 = .ok (.invokevirtual 26, 3) := by decide +kernel
theorem dL_close_7 : decode cL_close 7 = .ok (.i2l, 1) := by decide +kernel
theorem dL_close_8 : decode cL_close 8 = .ok (.lastore, 1) := by decide +kernel
theorem dL_close_9 : decode cL_close 9 = .ok (.goto 12, 3) := by decide +kernel
theorem dL_close_12 : decode cL_close 12 = .ok (.astore_n 3, 1) := by decide +kernel
theorem dL_close_13 : decode cL_close 13 = .ok (.iconst 1, 1) := by decide +kernel
theorem dL_close_14 : decode cL_close 14 = .ok (.ireturn, 1) := by decide +kernel
theorem dL_close_15 : decode cL_close 15 = .ok (.astore_n 3, 1) := by decide +kernel
theorem dL_close_16 : decode cL_close 16 = .ok (.iconst 2, 1) := by decide +kernel
theorem dL_close_17 : decode cL_close 17 = .ok (.ireturn, 1) := by decide +kernel
theorem dL_close_18 : decode cL_close 18 = .ok (.astore_n 3, 1) := by decide +kernel
theorem dL_close_19 : decode cL_close 19 = .ok (.iconst 3, 1) := by decide +kernel
theorem dL_close_20 : decode cL_close 20 = .ok (.ireturn, 1) := by decide +kernel
theorem dL_close_21 : decode cL_close 21 = .ok (.iconst 0, 1) := by decide +kernel
theorem dL_close_22 : decode cL_close 22 = .ok (.ireturn, 1) := by decide +kernel
set_option maxRecDepth 20000 in
theorem ggL_open_X8_open : GoodIn wsL_open wsX8_open := goodIn_ca (goodIn_ca (goodIn_r _ [7, 8, 9, 10, 11, 12, 13, 14, 6, 15, 16, 17, 18, 19, 20, 21, 22, 23, 24, 25, 26, 27, 28, 29, 30, 31, 32, 33, 34, 35, 36, 37, 38, 39, 40, 41, 42, 43, 44, 45, 46, 47, 48, 49, 50, 51, 52, 53, 54, 55, 56, 57, 58, 59, 60, 61, 62, 63] (by decide +kernel) (by decide +kernel)) (goodIn_sub (fun _ h => List.mem_cons_of_mem _ (List.mem_append_left _ (List.mem_append_right _ h))) (by decide +kernel))) (goodIn_sub (fun _ h => List.mem_cons_of_mem _ (List.mem_append_right _ h)) (by decide +kernel))
set_option maxRecDepth 20000 in
theorem gL_open_X8_open : GoodIn wsL_open (wsV RL 32 RX8 yX8_open wsX8_open) := goodIn_app (goodIn_of _ (by decide +kernel)) ggL_open_X8_open
theorem dL_open_0 : decode cL_open 0 = .ok (.aload_n 2, 1) := by decide +kernel
theorem dL_open_1 : decode cL_open 1 = .ok (.iconst 0, 1) := by decide +kernel
theorem dL_open_2 : decode cL_open 2 = .ok (.aload_n 0, 1) := by decide +kernel
theorem dL_open_3 : decode cL_open 3 = .ok (.iload_n 1, 1) := by decide +kernel
theorem dL_open_4 : decode cL_open 4 = .ok (.invokevirtual 32, 3) := by decide +kernel
theorem dL_open_7 : decode cL_open 7 = .ok (.i2l, 1) := by decide +kernel
theorem dL_open_8 : decode cL_open 8 = .ok (.lastore, 1) := by decide +kernel
theorem dL_open_9 : decode cL_open 9 = .ok (.goto 9, 3) := by decide +kernel
theorem dL_open_12 : decode cL_open 12 = .ok (.astore_n 3, 1) := by decide +kernel
theorem dL_open_13 : decode cL_open 13 = .ok (.iconst 1, 1) := by decide +kernel
theorem dL_open_14 : decode cL_open 14 = .ok (.ireturn, 1) := by decide +kernel
theorem dL_open_15 : decode cL_open 15 = .ok (.astore_n 3, 1) := by decide +kernel
theorem dL_open_16 : decode cL_open 16 = .ok (.iconst 2, 1) := by decide +kernel
theorem dL_open_17 : decode cL_open 17 = .ok (.ireturn, 1) := by decide +kernel
theorem dL_open_18 : decode cL_open 18 = .ok (.iconst 0, 1) := by decide +kernel
theorem dL_open_19 : decode cL_open 19 = .ok (.ireturn, 1) := by decide +kernel
set_option maxRecDepth 20000 in
theorem ggL_tie_X8_tie : GoodIn wsL_tie wsX8_tie := goodIn_ca (goodIn_ca (goodIn_ca (goodIn_r _ [8, 9, 10, 11, 12, 13, 14, 15, 16, 17, 18, 19, 20, 21, 22, 23, 24, 25, 26, 27, 28, 29, 30, 31, 32, 33, 34, 35, 36, 37, 38, 39, 40, 41, 42, 43, 44, 45, 46, 47, 48, 49, 50, 51, 52, 53, 54, 55, 56, 57, 58, 59, 60, 61, 62] (by decide +kernel) (by decide +kernel)) (goodIn_sub (fun _ h => List.mem_cons_of_mem _ (List.mem_append_left _ (List.mem_append_left _ (List.mem_append_right _ h)))) (by decide +kernel))) (goodIn_sub (fun _ h => List.mem_cons_of_mem _ (List.mem_append_left _ (List.mem_append_right _ h))) (by decide +kernel))) (goodIn_sub (fun _ h => List.mem_cons_of_mem _ (List.mem_append_right _ h)) (by decide +kernel))
set_option maxRecDepth 20000 in
theorem gL_tie_X8_tie : GoodIn wsL_tie (wsV RL 35 RX8 yX8_tie wsX8_tie) := goodIn_app (goodIn_of _ (by decide +kernel)) ggL_tie_X8_tie
theorem dL_tie_0 : decode cL_tie 0 = .ok (.aload_n 1, 1) := by decide +kernel
theorem dL_tie_1 : decode cL_tie 1 = .ok (.iconst 0, 1) := by decide +kernel
theorem dL_tie_2 : decode cL_tie 2 = .ok (.aload_n 0, 1) := by decide +kernel
theorem dL_tie_3 : decode cL_tie 3 = .ok (.invokevirtual 35, 3) := by decide +kernel
theorem dL_tie_6 : decode cL_tie 6 = .ok (.i2l, 1) := by decide +kernel
theorem dL_tie_7 : decode cL_tie 7 = .ok (.lastore, 1) := by decide +kernel
theorem dL_tie_8 : decode cL_tie 8 = .ok (.goto 12, 3) := by decide +kernel
theorem dL_tie_11 : decode cL_tie 11 = .ok (.astore_n 2, 1) := by decide +kernel
theorem dL_tie_12 : decode cL_tie 12 = .ok (.iconst 1, 1) := by decide +kernel
theorem dL_tie_13 : decode cL_tie 13 = .ok (.ireturn, 1) := by decide +kernel
theorem dL_tie_14 : decode cL_tie 14 = .ok (.astore_n 2, 1) := by decide +kernel
theorem dL_tie_15 : decode cL_tie 15 = .ok (.iconst 2, 1) := by decide +kernel
theorem dL_tie_16 : decode cL_tie 16 = .ok (.ireturn, 1) := by decide +kernel
theorem dL_tie_17 : decode cL_tie 17 = .ok (.astore_n 2, 1) := by decide +kernel
theorem dL_tie_18 : decode cL_tie 18 = .ok (.iconst 3, 1) := by decide +kernel
theorem dL_tie_19 : decode cL_tie 19 = .ok (.ireturn, 1) := by decide +kernel
theorem dL_tie_20 : decode cL_tie 20 = .ok (.iconst 0, 1) := by decide +kernel
theorem dL_tie_21 : decode cL_tie 21 = .ok (.ireturn, 1) := by decide +kernel
set_option maxRecDepth 20000 in
theorem ggL_untie_X8_untie : GoodIn wsL_untie wsX8_untie := goodIn_ca (goodIn_r _ [6, 7, 8, 9, 10, 11, 12, 13, 14, 15, 16, 17, 18, 19, 20, 21, 22, 23, 24, 25, 26, 27, 28, 29, 30, 31, 32, 33, 34, 35] (by decide +kernel) (by decide +kernel)) (goodIn_sub (fun _ h => List.mem_cons_of_mem _ (List.mem_append_right _ h)) (by decide +kernel))
set_option maxRecDepth 20000 in
theorem gL_untie_X8_untie : GoodIn wsL_untie (wsV RL 40 RX8 yX8_untie wsX8_untie) := goodIn_app (goodIn_of _ (by decide +kernel)) ggL_untie_X8_untie
theorem dL_untie_0 : decode cL_untie 0 = .ok (.aload_n 1, 1) := by decide +kernel
theorem dL_untie_1 : decode cL_untie 1 = .ok (.iconst 0, 1) := by decide +kernel
theorem dL_untie_2 : decode cL_untie 2 = .ok (.aload_n 0, 1) := by decide +kernel
theorem dL_untie_3 : decode cL_untie 3 = .ok (.invokevirtual 40, 3) := by decide +kernel
theorem dL_untie_6 : decode cL_untie 6 = .ok (.i2l, 1) := by decide +kernel
theorem dL_untie_7 : decode cL_untie 7 = .ok (.lastore, 1) := by decide +kernel
theorem dL_untie_8 : decode cL_untie 8 = .ok (.goto 6, 3) := by decide +kernel
theorem dL_untie_11 : decode cL_untie 11 = .ok (.astore_n 2, 1) := by decide +kernel
theorem dL_untie_12 : decode cL_untie 12 = .ok (.iconst 1, 1) := by decide +kernel
theorem dL_untie_13 : decode cL_untie 13 = .ok (.ireturn, 1) := by decide +kernel
theorem dL_untie_14 : decode cL_untie 14 = .ok (.iconst 0, 1) := by decide +kernel
theorem dL_untie_15 : decode cL_untie 15 = .ok (.ireturn, 1) := by decide +kernel
set_option maxRecDepth 20000 in
theorem ggL_island_X8_island : GoodIn wsL_island wsX8_island := goodIn_ca (goodIn_r _ [6, 7, 8, 9, 10, 11, 5, 12, 13, 14, 15, 16, 17, 18, 19, 20, 21, 22, 23, 24, 25, 26, 27, 28, 29, 30, 31, 32, 33, 34, 35, 36] (by decide +kernel) (by decide +kernel)) (goodIn_sub (fun _ h => List.mem_cons_of_mem _ (List.mem_append_right _ h)) (by decide +kernel))
set_option maxRecDepth 20000 in
theorem gL_island_X8_island : GoodIn wsL_island (wsV RL 43 RX8 yX8_island wsX8_island) := goodIn_app (goodIn_of _ (by decide +kernel)) ggL_island_X8_island
theorem dL_island_0 : decode cL_island 0 = .ok (.aload_n 2, 1) := by decide +kernel
theorem dL_island_1 : decode cL_island 1 = .ok (.iconst 0, 1) := by decide +kernel
theorem dL_island_2 : decode cL_island 2 = .ok (.aload_n 0, 1) := by decide +kernel
theorem dL_island_3 : decode cL_island 3 = .ok (.iload_n 1, 1) := by decide +kernel
theorem dL_island_4 : decode cL_island 4 = .ok (.invokevirtual 43, 3) := by decide +kernel
theorem dL_island_7 : decode cL_island 7 = .ok (.i2l, 1) := by decide +kernel
theorem dL_island_8 : decode cL_island 8 = .ok (.lastore, 1) := by decide +kernel
theorem dL_island_9 : decode cL_island 9 = .ok (.goto 6, 3) := by decide +kernel
theorem dL_island_12 : decode cL_island 12 = .ok (.astore_n 3, 1) := by decide +kernel
theorem dL_island_13 : decode cL_island 13 = .ok (.iconst 1, 1) := by decide +kernel
theorem dL_island_14 : decode cL_island 14 = .ok (.ireturn, 1) := by decide +kernel
theorem dL_island_15 : decode cL_island 15 = .ok (.iconst 0, 1) := by decide +kernel
theorem dL_island_16 : decode cL_island 16 = .ok (.ireturn, 1) := by decide +kernel
set_option maxRecDepth 20000 in
theorem ggL_islandByRounds_X8_islandByRounds : GoodIn wsL_islandByRounds wsX8_islandByRounds := goodIn_ca (goodIn_r _ [6, 7, 8, 9, 10, 5, 11, 12, 13, 14, 15, 16, 17, 18, 19, 20, 21, 22, 23, 24, 25, 26, 27, 28, 29, 30, 31, 32, 33, 34, 35, 36, 37, 38, 39, 40, 41, 42, 43, 44, 45, 46, 47, 48, 49, 50] (by decide +kernel) (by decide +kernel)) (goodIn_sub (fun _ h => List.mem_cons_of_mem _ (List.mem_append_right _ h)) (by decide +kernel))
set_option maxRecDepth 20000 in
theorem gL_islandByRounds_X8_islandByRounds : GoodIn wsL_islandByRounds (wsV RL 46 RX8 yX8_islandByRounds wsX8_islandByRounds) := goodIn_app (goodIn_of _ (by decide +kernel)) ggL_islandByRounds_X8_islandByRounds
theorem dL_islandByRounds_0 : decode cL_islandByRounds 0 = .ok (.aload_n 2, 1) := by decide +kernel
theorem dL_islandByRounds_1 : decode cL_islandByRounds 1 = .ok (.iconst 0, 1) := by decide +kernel
theorem dL_islandByRounds_2 : decode cL_islandByRounds 2 = .ok (.aload_n 0, 1) := by decide +kernel
theorem dL_islandByRounds_3 : decode cL_islandByRounds 3 = .ok (.iload_n 1, 1) := by decide +kernel
theorem dL_islandByRounds_4 : decode cL_islandByRounds 4 = .ok (.invokevirtual 46, 3) := by decide +kernel
theorem dL_islandByRounds_7 : decode cL_islandByRounds 7 = .ok (.i2l, 1) := by decide +kernel
theorem dL_islandByRounds_8 : decode cL_islandByRounds 8 = .ok (.lastore, 1) := by decide +kernel
theorem dL_islandByRounds_9 : decode cL_islandByRounds 9 = .ok (.goto 6, 3) := by decide +kernel
theorem dL_islandByRounds_12 : decode cL_islandByRounds 12 = .ok (.astore_n 3, 1) := by decide +kernel
theorem dL_islandByRounds_13 : decode cL_islandByRounds 13 = .ok (.iconst 1, 1) := by decide +kernel
theorem dL_islandByRounds_14 : decode cL_islandByRounds 14 = .ok (.ireturn, 1) := by decide +kernel
theorem dL_islandByRounds_15 : decode cL_islandByRounds 15 = .ok (.iconst 0, 1) := by decide +kernel
theorem dL_islandByRounds_16 : decode cL_islandByRounds 16 = .ok (.ireturn, 1) := by decide +kernel
set_option maxRecDepth 20000 in
theorem ggL_phase_X8_phase : GoodIn wsL_phase wsX8_phase := goodIn_ca (goodIn_r _ [6, 7, 8, 9, 10, 11, 5, 12, 13, 14, 15, 16, 17, 18, 19, 20, 21, 22, 23, 24, 25, 26, 27, 28, 29, 30, 31, 32, 33, 34, 35, 36, 37, 38, 39, 40, 41, 42, 43, 44, 45, 46, 47] (by decide +kernel) (by decide +kernel)) (goodIn_sub (fun _ h => List.mem_cons_of_mem _ (List.mem_append_right _ h)) (by decide +kernel))
set_option maxRecDepth 20000 in
theorem gL_phase_X8_phase : GoodIn wsL_phase (wsV RL 49 RX8 yX8_phase wsX8_phase) := goodIn_app (goodIn_of _ (by decide +kernel)) ggL_phase_X8_phase
theorem dL_phase_0 : decode cL_phase 0 = .ok (.aload_n 2, 1) := by decide +kernel
theorem dL_phase_1 : decode cL_phase 1 = .ok (.iconst 0, 1) := by decide +kernel
theorem dL_phase_2 : decode cL_phase 2 = .ok (.aload_n 0, 1) := by decide +kernel
theorem dL_phase_3 : decode cL_phase 3 = .ok (.iload_n 1, 1) := by decide +kernel
theorem dL_phase_4 : decode cL_phase 4 = .ok (.invokevirtual 49, 3) := by decide +kernel
theorem dL_phase_7 : decode cL_phase 7 = .ok (.i2l, 1) := by decide +kernel
theorem dL_phase_8 : decode cL_phase 8 = .ok (.lastore, 1) := by decide +kernel
theorem dL_phase_9 : decode cL_phase 9 = .ok (.goto 6, 3) := by decide +kernel
theorem dL_phase_12 : decode cL_phase 12 = .ok (.astore_n 3, 1) := by decide +kernel
theorem dL_phase_13 : decode cL_phase 13 = .ok (.iconst 1, 1) := by decide +kernel
theorem dL_phase_14 : decode cL_phase 14 = .ok (.ireturn, 1) := by decide +kernel
theorem dL_phase_15 : decode cL_phase 15 = .ok (.iconst 0, 1) := by decide +kernel
theorem dL_phase_16 : decode cL_phase 16 = .ok (.ireturn, 1) := by decide +kernel
set_option maxRecDepth 20000 in
theorem ggL_gap_X8_gap : GoodIn wsL_gap wsX8_gap := goodIn_ca (goodIn_r _ [6, 7, 8, 9, 10, 5, 11, 12, 13, 14, 15, 16, 17, 18, 19, 20, 21, 22, 23, 24, 25, 26, 27, 28, 29, 30, 31, 32, 33, 34, 35, 36, 37, 38, 39, 40, 41, 42, 43, 44, 45, 46, 47, 48, 49, 50, 51, 52, 53, 54, 55, 56, 57, 58, 59] (by decide +kernel) (by decide +kernel)) (goodIn_sub (fun _ h => List.mem_cons_of_mem _ (List.mem_append_right _ h)) (by decide +kernel))
set_option maxRecDepth 20000 in
theorem gL_gap_X8_gap : GoodIn wsL_gap (wsV RL 52 RX8 yX8_gap wsX8_gap) := goodIn_app (goodIn_of _ (by decide +kernel)) ggL_gap_X8_gap
theorem dL_gap_0 : decode cL_gap 0 = .ok (.aload_n 2, 1) := by decide +kernel
theorem dL_gap_1 : decode cL_gap 1 = .ok (.iconst 0, 1) := by decide +kernel
theorem dL_gap_2 : decode cL_gap 2 = .ok (.aload_n 0, 1) := by decide +kernel
theorem dL_gap_3 : decode cL_gap 3 = .ok (.iload_n 1, 1) := by decide +kernel
theorem dL_gap_4 : decode cL_gap 4 = .ok (.invokevirtual 52, 3) := by decide +kernel
theorem dL_gap_7 : decode cL_gap 7 = .ok (.i2l, 1) := by decide +kernel
theorem dL_gap_8 : decode cL_gap 8 = .ok (.lastore, 1) := by decide +kernel
theorem dL_gap_9 : decode cL_gap 9 = .ok (.goto 6, 3) := by decide +kernel
theorem dL_gap_12 : decode cL_gap 12 = .ok (.astore_n 3, 1) := by decide +kernel
theorem dL_gap_13 : decode cL_gap 13 = .ok (.iconst 1, 1) := by decide +kernel
theorem dL_gap_14 : decode cL_gap 14 = .ok (.ireturn, 1) := by decide +kernel
theorem dL_gap_15 : decode cL_gap 15 = .ok (.iconst 0, 1) := by decide +kernel
theorem dL_gap_16 : decode cL_gap 16 = .ok (.ireturn, 1) := by decide +kernel
set_option maxRecDepth 20000 in
theorem ggL_addGenerator_X8_addGenerator : GoodIn wsL_addGenerator wsX8_addGenerator := goodIn_ca (goodIn_ca (goodIn_ca (goodIn_r _ [8, 9, 10, 11, 12, 13, 14, 15, 16, 17, 18, 19, 20, 21, 22, 7, 23, 24, 25, 26, 27, 28, 29, 30, 31, 32, 33, 34, 35, 36, 37, 38, 39, 40, 41, 42, 43, 44, 45, 46, 47, 48, 49, 50, 51, 52, 53, 54, 55, 56, 57, 58, 59, 60, 61, 62, 63, 64, 65, 66, 67, 68, 69, 70, 71, 72, 73, 74, 75, 76, 77, 78, 79, 80, 81, 82, 83, 84, 85] (by decide +kernel) (by decide +kernel)) (goodIn_sub (fun _ h => List.mem_cons_of_mem _ (List.mem_append_left _ (List.mem_append_left _ (List.mem_append_right _ h)))) (by decide +kernel))) (goodIn_sub (fun _ h => List.mem_cons_of_mem _ (List.mem_append_left _ (List.mem_append_right _ h))) (by decide +kernel))) (goodIn_sub (fun _ h => List.mem_cons_of_mem _ (List.mem_append_right _ h)) (by decide +kernel))
set_option maxRecDepth 20000 in
theorem gL_addGenerator_X8_addGenerator : GoodIn wsL_addGenerator (wsV RL 55 RX8 yX8_addGenerator wsX8_addGenerator) := goodIn_app (goodIn_of _ (by decide +kernel)) ggL_addGenerator_X8_addGenerator
theorem dL_addGenerator_0 : decode cL_addGenerator 0 = .ok (.aload 6, 2) := by decide +kernel
theorem dL_addGenerator_2 : decode cL_addGenerator 2 = .ok (.iconst 0, 1) := by decide +kernel
theorem dL_addGenerator_3 : decode cL_addGenerator 3 = .ok (.aload_n 0, 1) := by decide +kernel
theorem dL_addGenerator_4 : decode cL_addGenerator 4 = .ok (.iload_n 1, 1) := by decide +kernel
theorem dL_addGenerator_5 : decode cL_addGenerator 5 = .ok (.iload_n 2, 1) := by decide +kernel
theorem dL_addGenerator_6 : decode cL_addGenerator 6 = .ok (.iload_n 3, 1) := by decide +kernel
theorem dL_addGenerator_7 : decode cL_addGenerator 7 = .ok (.iload 4, 2) := by decide +kernel
theorem dL_addGenerator_9 : decode cL_addGenerator 9 = .ok (.iload 5, 2) := by decide +kernel
theorem dL_addGenerator_11 : decode cL_addGenerator 11 = .ok (.invokevirtual 55, 3) := by decide +kernel
theorem dL_addGenerator_14 : decode cL_addGenerator 14 = .ok (.i2l, 1) := by decide +kernel
theorem dL_addGenerator_15 : decode cL_addGenerator 15 = .ok (.lastore, 1) := by decide +kernel
theorem dL_addGenerator_16 : decode cL_addGenerator 16 = .ok (.goto 15, 3) := by decide +kernel
theorem dL_addGenerator_19 : decode cL_addGenerator 19 = .ok (.astore 7, 2) := by decide +kernel
theorem dL_addGenerator_21 : decode cL_addGenerator 21 = .ok (.iconst 1, 1) := by decide +kernel
theorem dL_addGenerator_22 : decode cL_addGenerator 22 = .ok (.ireturn, 1) := by decide +kernel
theorem dL_addGenerator_23 : decode cL_addGenerator 23 = .ok (.astore 7, 2) := by decide +kernel
theorem dL_addGenerator_25 : decode cL_addGenerator 25 = .ok (.iconst 2, 1) := by decide +kernel
theorem dL_addGenerator_26 : decode cL_addGenerator 26 = .ok (.ireturn, 1) := by decide +kernel
theorem dL_addGenerator_27 : decode cL_addGenerator 27 = .ok (.astore 7, 2) := by decide +kernel
theorem dL_addGenerator_29 : decode cL_addGenerator 29 = .ok (.iconst 3, 1) := by decide +kernel
theorem dL_addGenerator_30 : decode cL_addGenerator 30 = .ok (.ireturn, 1) := by decide +kernel
theorem dL_addGenerator_31 : decode cL_addGenerator 31 = .ok (.iconst 0, 1) := by decide +kernel
theorem dL_addGenerator_32 : decode cL_addGenerator 32 = .ok (.ireturn, 1) := by decide +kernel
set_option maxRecDepth 20000 in
theorem ggL_start_X8_start : GoodIn wsL_start wsX8_start := goodIn_ca (goodIn_ca (goodIn_ca (goodIn_r _ [8, 9, 10, 11, 12, 13, 14, 15, 16, 17, 7, 18, 19, 20, 21, 22, 23, 24, 25, 26, 27, 28, 29, 30, 31, 32, 33, 34, 35, 36, 37, 38, 39, 40, 41, 42, 43, 44, 45, 46, 47, 48, 49, 50, 51, 52, 53, 54, 55, 56, 57, 58, 59, 60, 61] (by decide +kernel) (by decide +kernel)) (goodIn_sub (fun _ h => List.mem_cons_of_mem _ (List.mem_append_left _ (List.mem_append_left _ (List.mem_append_right _ h)))) (by decide +kernel))) (goodIn_sub (fun _ h => List.mem_cons_of_mem _ (List.mem_append_left _ (List.mem_append_right _ h))) (by decide +kernel))) (goodIn_sub (fun _ h => List.mem_cons_of_mem _ (List.mem_append_right _ h)) (by decide +kernel))
set_option maxRecDepth 20000 in
theorem gL_start_X8_start : GoodIn wsL_start (wsV RL 59 RX8 yX8_start wsX8_start) := goodIn_app (goodIn_of _ (by decide +kernel)) ggL_start_X8_start
theorem dL_start_0 : decode cL_start 0 = .ok (.aload_n 2, 1) := by decide +kernel
theorem dL_start_1 : decode cL_start 1 = .ok (.iconst 0, 1) := by decide +kernel
theorem dL_start_2 : decode cL_start 2 = .ok (.aload_n 0, 1) := by decide +kernel
theorem dL_start_3 : decode cL_start 3 = .ok (.iload_n 1, 1) := by decide +kernel
theorem dL_start_4 : decode cL_start 4 = .ok (.invokevirtual 59, 3) := by decide +kernel
theorem dL_start_7 : decode cL_start 7 = .ok (.i2l, 1) := by decide +kernel
theorem dL_start_8 : decode cL_start 8 = .ok (.lastore, 1) := by decide +kernel
theorem dL_start_9 : decode cL_start 9 = .ok (.goto 12, 3) := by decide +kernel
theorem dL_start_12 : decode cL_start 12 = .ok (.astore_n 3, 1) := by decide +kernel
theorem dL_start_13 : decode cL_start 13 = .ok (.iconst 1, 1) := by decide +kernel
theorem dL_start_14 : decode cL_start 14 = .ok (.ireturn, 1) := by decide +kernel
theorem dL_start_15 : decode cL_start 15 = .ok (.astore_n 3, 1) := by decide +kernel
theorem dL_start_16 : decode cL_start 16 = .ok (.iconst 2, 1) := by decide +kernel
theorem dL_start_17 : decode cL_start 17 = .ok (.ireturn, 1) := by decide +kernel
theorem dL_start_18 : decode cL_start 18 = .ok (.astore_n 3, 1) := by decide +kernel
theorem dL_start_19 : decode cL_start 19 = .ok (.iconst 3, 1) := by decide +kernel
theorem dL_start_20 : decode cL_start 20 = .ok (.ireturn, 1) := by decide +kernel
theorem dL_start_21 : decode cL_start 21 = .ok (.iconst 0, 1) := by decide +kernel
theorem dL_start_22 : decode cL_start 22 = .ok (.ireturn, 1) := by decide +kernel
set_option maxRecDepth 20000 in
theorem ggL_stop_X8_stop : GoodIn wsL_stop wsX8_stop := goodIn_ca (goodIn_ca (goodIn_r _ [7, 8, 9, 10, 11, 12, 13, 14, 6, 15, 16, 17, 18, 19, 20, 21, 22, 23, 24, 25, 26, 27, 28, 29, 30, 31, 32, 33, 34, 35, 36, 37, 38, 39, 40, 41, 42, 43, 44, 45, 46, 47, 48, 49, 50] (by decide +kernel) (by decide +kernel)) (goodIn_sub (fun _ h => List.mem_cons_of_mem _ (List.mem_append_left _ (List.mem_append_right _ h))) (by decide +kernel))) (goodIn_sub (fun _ h => List.mem_cons_of_mem _ (List.mem_append_right _ h)) (by decide +kernel))
set_option maxRecDepth 20000 in
theorem gL_stop_X8_stop : GoodIn wsL_stop (wsV RL 62 RX8 yX8_stop wsX8_stop) := goodIn_app (goodIn_of _ (by decide +kernel)) ggL_stop_X8_stop
theorem dL_stop_0 : decode cL_stop 0 = .ok (.aload_n 2, 1) := by decide +kernel
theorem dL_stop_1 : decode cL_stop 1 = .ok (.iconst 0, 1) := by decide +kernel
theorem dL_stop_2 : decode cL_stop 2 = .ok (.aload_n 0, 1) := by decide +kernel
theorem dL_stop_3 : decode cL_stop 3 = .ok (.iload_n 1, 1) := by decide +kernel
theorem dL_stop_4 : decode cL_stop 4 = .ok (.invokevirtual 62, 3) := by decide +kernel
theorem dL_stop_7 : decode cL_stop 7 = .ok (.i2l, 1) := by decide +kernel
theorem dL_stop_8 : decode cL_stop 8 = .ok (.lastore, 1) := by decide +kernel
theorem dL_stop_9 : decode cL_stop 9 = .ok (.goto 9, 3) := by decide +kernel
theorem dL_stop_12 : decode cL_stop 12 = .ok (.astore_n 3, 1) := by decide +kernel
theorem dL_stop_13 : decode cL_stop 13 = .ok (.iconst 1, 1) := by decide +kernel
theorem dL_stop_14 : decode cL_stop 14 = .ok (.ireturn, 1) := by decide +kernel
theorem dL_stop_15 : decode cL_stop 15 = .ok (.astore_n 3, 1) := by decide +kernel
theorem dL_stop_16 : decode cL_stop 16 = .ok (.iconst 2, 1) := by decide +kernel
theorem dL_stop_17 : decode cL_stop 17 = .ok (.ireturn, 1) := by decide +kernel
theorem dL_stop_18 : decode cL_stop 18 = .ok (.iconst 0, 1) := by decide +kernel
theorem dL_stop_19 : decode cL_stop 19 = .ok (.ireturn, 1) := by decide +kernel
set_option maxRecDepth 20000 in
theorem ggL_startNext_X8_startNext : GoodIn wsL_startNext wsX8_startNext := goodIn_ca (goodIn_ca (goodIn_r _ [7, 8, 9, 10, 11, 12, 13, 14, 15, 16, 6, 17, 18, 19, 20, 21, 22, 23, 24, 25, 26, 27, 28, 29, 30, 31, 32, 33, 34, 35, 36, 37, 38, 39, 40, 41, 42, 43, 44, 45, 46, 47, 48, 49, 50, 51, 52, 53, 54, 55, 56, 57, 58, 59, 60, 61, 62, 63, 64, 65, 66, 67, 68, 69, 70, 71, 72, 73, 74, 75, 76, 77, 78, 79, 80, 81, 82, 83, 84] (by decide +kernel) (by decide +kernel)) (goodIn_sub (fun _ h => List.mem_cons_of_mem _ (List.mem_append_left _ (List.mem_append_right _ h))) (by decide +kernel))) (goodIn_sub (fun _ h => List.mem_cons_of_mem _ (List.mem_append_right _ h)) (by decide +kernel))
set_option maxRecDepth 20000 in
theorem gL_startNext_X8_startNext : GoodIn wsL_startNext (wsV RL 65 RX8 yX8_startNext wsX8_startNext) := goodIn_app (goodIn_of _ (by decide +kernel)) ggL_startNext_X8_startNext
theorem dL_startNext_0 : decode cL_startNext 0 = .ok (.aload_n 2, 1) := by decide +kernel
theorem dL_startNext_1 : decode cL_startNext 1 = .ok (.iconst 0, 1) := by decide +kernel
theorem dL_startNext_2 : decode cL_startNext 2 = .ok (.aload_n 0, 1) := by decide +kernel
theorem dL_startNext_3 : decode cL_startNext 3 = .ok (.iload_n 1, 1) := by decide +kernel
theorem dL_startNext_4 : decode cL_startNext 4 = .ok (.invokevirtual 65, 3) := by decide +kernel
theorem dL_startNext_7 : decode cL_startNext 7 = .ok (.i2l, 1) := by decide +kernel
theorem dL_startNext_8 : decode cL_startNext 8 = .ok (.lastore, 1) := by decide +kernel
theorem dL_startNext_9 : decode cL_startNext 9 = .ok (.goto 9, 3) := by decide +kernel
theorem dL_startNext_12 : decode cL_startNext 12 = .ok (.astore_n 3, 1) := by decide +kernel
theorem dL_startNext_13 : decode cL_startNext 13 = .ok (.iconst 1, 1) := by decide +kernel
theorem dL_startNext_14 : decode cL_startNext 14 = .ok (.ireturn, 1) := by decide +kernel
theorem dL_startNext_15 : decode cL_startNext 15 = .ok (.astore_n 3, 1) := by decide +kernel
theorem dL_startNext_16 : decode cL_startNext 16 = .ok (.iconst 2, 1) := by decide +kernel
theorem dL_startNext_17 : decode cL_startNext 17 = .ok (.ireturn, 1) := by decide +kernel
theorem dL_startNext_18 : decode cL_startNext 18 = .ok (.iconst 0, 1) := by decide +kernel
theorem dL_startNext_19 : decode cL_startNext 19 = .ok (.ireturn, 1) := by decide +kernel
set_option maxRecDepth 20000 in
theorem ggL_refuel_X8_refuel : GoodIn wsL_refuel wsX8_refuel := goodIn_ca (goodIn_ca (goodIn_ca (goodIn_r _ [8, 9, 10, 11, 12, 13, 14, 15, 7, 16, 17, 18, 19, 20, 21, 22, 23, 24, 25, 26, 27, 28, 29, 30, 31, 32, 33, 34, 35, 36, 37, 38, 39, 40, 41, 42, 43, 44, 45, 46, 47, 48, 49, 50] (by decide +kernel) (by decide +kernel)) (goodIn_sub (fun _ h => List.mem_cons_of_mem _ (List.mem_append_left _ (List.mem_append_left _ (List.mem_append_right _ h)))) (by decide +kernel))) (goodIn_sub (fun _ h => List.mem_cons_of_mem _ (List.mem_append_left _ (List.mem_append_right _ h))) (by decide +kernel))) (goodIn_sub (fun _ h => List.mem_cons_of_mem _ (List.mem_append_right _ h)) (by decide +kernel))
set_option maxRecDepth 20000 in
theorem gL_refuel_X8_refuel : GoodIn wsL_refuel (wsV RL 68 RX8 yX8_refuel wsX8_refuel) := goodIn_app (goodIn_of _ (by decide +kernel)) ggL_refuel_X8_refuel
theorem dL_refuel_0 : decode cL_refuel 0 = .ok (.aload_n 3, 1) := by decide +kernel
theorem dL_refuel_1 : decode cL_refuel 1 = .ok (.iconst 0, 1) := by decide +kernel
theorem dL_refuel_2 : decode cL_refuel 2 = .ok (.aload_n 0, 1) := by decide +kernel
theorem dL_refuel_3 : decode cL_refuel 3 = .ok (.iload_n 1, 1) := by decide +kernel
theorem dL_refuel_4 : decode cL_refuel 4 = .ok (.iload_n 2, 1) := by decide +kernel
theorem dL_refuel_5 : decode cL_refuel 5 = .ok (.invokevirtual 68, 3) := by decide +kernel
theorem dL_refuel_8 : decode cL_refuel 8 = .ok (.i2l, 1) := by decide +kernel
theorem dL_refuel_9 : decode cL_refuel 9 = .ok (.lastore, 1) := by decide +kernel
theorem dL_refuel_10 : decode cL_refuel 10 = .ok (.goto 15, 3) := by decide +kernel
theorem dL_refuel_13 : decode cL_refuel 13 = .ok (.astore 4, 2) := by decide +kernel
theorem dL_refuel_15 : decode cL_refuel 15 = .ok (.iconst 1, 1) := by decide +kernel
theorem dL_refuel_16 : decode cL_refuel 16 = .ok (.ireturn, 1) := by decide +kernel
theorem dL_refuel_17 : decode cL_refuel 17 = .ok (.astore 4, 2) := by decide +kernel
theorem dL_refuel_19 : decode cL_refuel 19 = .ok (.iconst 2, 1) := by decide +kernel
theorem dL_refuel_20 : decode cL_refuel 20 = .ok (.ireturn, 1) := by decide +kernel
theorem dL_refuel_21 : decode cL_refuel 21 = .ok (.astore 4, 2) := by decide +kernel
theorem dL_refuel_23 : decode cL_refuel 23 = .ok (.iconst 3, 1) := by decide +kernel
theorem dL_refuel_24 : decode cL_refuel 24 = .ok (.ireturn, 1) := by decide +kernel
theorem dL_refuel_25 : decode cL_refuel 25 = .ok (.iconst 0, 1) := by decide +kernel
theorem dL_refuel_26 : decode cL_refuel 26 = .ok (.ireturn, 1) := by decide +kernel
set_option maxRecDepth 20000 in
theorem ggL_state_X8_state : GoodIn wsL_state wsX8_state := goodIn_ca (goodIn_r _ [6, 7, 8, 9, 10, 5, 11, 12, 13, 14, 15, 16, 17, 18, 19, 20, 21, 22, 23, 24, 25, 26, 27, 28, 29, 30, 31, 32, 33, 34, 35, 36, 37, 38, 39, 40] (by decide +kernel) (by decide +kernel)) (goodIn_sub (fun _ h => List.mem_cons_of_mem _ (List.mem_append_right _ h)) (by decide +kernel))
set_option maxRecDepth 20000 in
theorem gL_state_X8_state : GoodIn wsL_state (wsV RL 71 RX8 yX8_state wsX8_state) := goodIn_app (goodIn_of _ (by decide +kernel)) ggL_state_X8_state
theorem dL_state_0 : decode cL_state 0 = .ok (.aload_n 2, 1) := by decide +kernel
theorem dL_state_1 : decode cL_state 1 = .ok (.iconst 0, 1) := by decide +kernel
theorem dL_state_2 : decode cL_state 2 = .ok (.aload_n 0, 1) := by decide +kernel
theorem dL_state_3 : decode cL_state 3 = .ok (.iload_n 1, 1) := by decide +kernel
theorem dL_state_4 : decode cL_state 4 = .ok (.invokevirtual 71, 3) := by decide +kernel
theorem dL_state_7 : decode cL_state 7 = .ok (.i2l, 1) := by decide +kernel
theorem dL_state_8 : decode cL_state 8 = .ok (.lastore, 1) := by decide +kernel
theorem dL_state_9 : decode cL_state 9 = .ok (.goto 6, 3) := by decide +kernel
theorem dL_state_12 : decode cL_state 12 = .ok (.astore_n 3, 1) := by decide +kernel
theorem dL_state_13 : decode cL_state 13 = .ok (.iconst 1, 1) := by decide +kernel
theorem dL_state_14 : decode cL_state 14 = .ok (.ireturn, 1) := by decide +kernel
theorem dL_state_15 : decode cL_state 15 = .ok (.iconst 0, 1) := by decide +kernel
theorem dL_state_16 : decode cL_state 16 = .ok (.ireturn, 1) := by decide +kernel
set_option maxRecDepth 20000 in
theorem ggL_fuel_X8_fuel : GoodIn wsL_fuel wsX8_fuel := goodIn_ca (goodIn_r _ [6, 7, 8, 9, 10, 5, 11, 12, 13, 14, 15, 16, 17, 18, 19, 20, 21, 22, 23, 24, 25, 26, 27, 28, 29, 30, 31, 32, 33, 34, 35, 36, 37, 38, 39, 40] (by decide +kernel) (by decide +kernel)) (goodIn_sub (fun _ h => List.mem_cons_of_mem _ (List.mem_append_right _ h)) (by decide +kernel))
set_option maxRecDepth 20000 in
theorem gL_fuel_X8_fuel : GoodIn wsL_fuel (wsV RL 75 RX8 yX8_fuel wsX8_fuel) := goodIn_app (goodIn_of _ (by decide +kernel)) ggL_fuel_X8_fuel
theorem dL_fuel_0 : decode cL_fuel 0 = .ok (.aload_n 2, 1) := by decide +kernel
theorem dL_fuel_1 : decode cL_fuel 1 = .ok (.iconst 0, 1) := by decide +kernel
theorem dL_fuel_2 : decode cL_fuel 2 = .ok (.aload_n 0, 1) := by decide +kernel
theorem dL_fuel_3 : decode cL_fuel 3 = .ok (.iload_n 1, 1) := by decide +kernel
theorem dL_fuel_4 : decode cL_fuel 4 = .ok (.invokevirtual 75, 3) := by decide +kernel
theorem dL_fuel_7 : decode cL_fuel 7 = .ok (.i2l, 1) := by decide +kernel
theorem dL_fuel_8 : decode cL_fuel 8 = .ok (.lastore, 1) := by decide +kernel
theorem dL_fuel_9 : decode cL_fuel 9 = .ok (.goto 6, 3) := by decide +kernel
theorem dL_fuel_12 : decode cL_fuel 12 = .ok (.astore_n 3, 1) := by decide +kernel
theorem dL_fuel_13 : decode cL_fuel 13 = .ok (.iconst 1, 1) := by decide +kernel
theorem dL_fuel_14 : decode cL_fuel 14 = .ok (.ireturn, 1) := by decide +kernel
theorem dL_fuel_15 : decode cL_fuel 15 = .ok (.iconst 0, 1) := by decide +kernel
theorem dL_fuel_16 : decode cL_fuel 16 = .ok (.ireturn, 1) := by decide +kernel
set_option maxRecDepth 20000 in
theorem ggL_toGo_X8_toGo : GoodIn wsL_toGo wsX8_toGo := goodIn_ca (goodIn_ca (goodIn_r _ [7, 8, 9, 10, 11, 12, 13, 14, 6, 15, 16, 17, 18, 19, 20, 21, 22, 23, 24, 25, 26, 27, 28, 29, 30, 31, 32, 33, 34, 35, 36, 37, 38, 39, 40, 41, 42, 43, 44] (by decide +kernel) (by decide +kernel)) (goodIn_sub (fun _ h => List.mem_cons_of_mem _ (List.mem_append_left _ (List.mem_append_right _ h))) (by decide +kernel))) (goodIn_sub (fun _ h => List.mem_cons_of_mem _ (List.mem_append_right _ h)) (by decide +kernel))
set_option maxRecDepth 20000 in
theorem gL_toGo_X8_toGo : GoodIn wsL_toGo (wsV RL 78 RX8 yX8_toGo wsX8_toGo) := goodIn_app (goodIn_of _ (by decide +kernel)) ggL_toGo_X8_toGo
theorem dL_toGo_0 : decode cL_toGo 0 = .ok (.aload_n 2, 1) := by decide +kernel
theorem dL_toGo_1 : decode cL_toGo 1 = .ok (.iconst 0, 1) := by decide +kernel
theorem dL_toGo_2 : decode cL_toGo 2 = .ok (.aload_n 0, 1) := by decide +kernel
theorem dL_toGo_3 : decode cL_toGo 3 = .ok (.iload_n 1, 1) := by decide +kernel
theorem dL_toGo_4 : decode cL_toGo 4 = .ok (.invokevirtual 78, 3) := by decide +kernel
theorem dL_toGo_7 : decode cL_toGo 7 = .ok (.i2l, 1) := by decide +kernel
theorem dL_toGo_8 : decode cL_toGo 8 = .ok (.lastore, 1) := by decide +kernel
theorem dL_toGo_9 : decode cL_toGo 9 = .ok (.goto 9, 3) := by decide +kernel
theorem dL_toGo_12 : decode cL_toGo 12 = .ok (.astore_n 3, 1) := by decide +kernel
theorem dL_toGo_13 : decode cL_toGo 13 = .ok (.iconst 1, 1) := by decide +kernel
theorem dL_toGo_14 : decode cL_toGo 14 = .ok (.ireturn, 1) := by decide +kernel
theorem dL_toGo_15 : decode cL_toGo 15 = .ok (.astore_n 3, 1) := by decide +kernel
theorem dL_toGo_16 : decode cL_toGo 16 = .ok (.iconst 2, 1) := by decide +kernel
theorem dL_toGo_17 : decode cL_toGo 17 = .ok (.ireturn, 1) := by decide +kernel
theorem dL_toGo_18 : decode cL_toGo 18 = .ok (.iconst 0, 1) := by decide +kernel
theorem dL_toGo_19 : decode cL_toGo 19 = .ok (.ireturn, 1) := by decide +kernel
set_option maxRecDepth 20000 in
theorem ggL_addStore_X8_addStore : GoodIn wsL_addStore wsX8_addStore := goodIn_ca (goodIn_ca (goodIn_ca (goodIn_r _ [8, 9, 10, 11, 12, 13, 14, 15, 16, 17, 18, 7, 19, 20, 21, 22, 23, 24, 25, 26, 27, 28, 29, 30, 31, 32, 33, 34, 35, 36, 37, 38, 39, 40, 41, 42, 43, 44, 45, 46, 47, 48, 49, 50, 51, 52, 53, 54, 55, 56, 57, 58, 59, 60, 61, 62, 63, 64, 65, 66, 67, 68, 69, 70, 71, 72, 73] (by decide +kernel) (by decide +kernel)) (goodIn_sub (fun _ h => List.mem_cons_of_mem _ (List.mem_append_left _ (List.mem_append_left _ (List.mem_append_right _ h)))) (by decide +kernel))) (goodIn_sub (fun _ h => List.mem_cons_of_mem _ (List.mem_append_left _ (List.mem_append_right _ h))) (by decide +kernel))) (goodIn_sub (fun _ h => List.mem_cons_of_mem _ (List.mem_append_right _ h)) (by decide +kernel))
set_option maxRecDepth 20000 in
theorem gL_addStore_X8_addStore : GoodIn wsL_addStore (wsV RL 81 RX8 yX8_addStore wsX8_addStore) := goodIn_app (goodIn_of _ (by decide +kernel)) ggL_addStore_X8_addStore
theorem dL_addStore_0 : decode cL_addStore 0 = .ok (.aload 4, 2) := by decide +kernel
theorem dL_addStore_2 : decode cL_addStore 2 = .ok (.iconst 0, 1) := by decide +kernel
theorem dL_addStore_3 : decode cL_addStore 3 = .ok (.aload_n 0, 1) := by decide +kernel
theorem dL_addStore_4 : decode cL_addStore 4 = .ok (.iload_n 1, 1) := by decide +kernel
theorem dL_addStore_5 : decode cL_addStore 5 = .ok (.iload_n 2, 1) := by decide +kernel
theorem dL_addStore_6 : decode cL_addStore 6 = .ok (.iload_n 3, 1) := by decide +kernel
theorem dL_addStore_7 : decode cL_addStore 7 = .ok (.invokevirtual 81, 3) := by decide +kernel
theorem dL_addStore_10 : decode cL_addStore 10 = .ok (.i2l, 1) := by decide +kernel
theorem dL_addStore_11 : decode cL_addStore 11 = .ok (.lastore, 1) := by decide +kernel
theorem dL_addStore_12 : decode cL_addStore 12 = .ok (.goto 15, 3) := by decide +kernel
theorem dL_addStore_15 : decode cL_addStore 15 = .ok (.astore 5, 2) := by decide +kernel
theorem dL_addStore_17 : decode cL_addStore 17 = .ok (.iconst 1, 1) := by decide +kernel
theorem dL_addStore_18 : decode cL_addStore 18 = .ok (.ireturn, 1) := by decide +kernel
theorem dL_addStore_19 : decode cL_addStore 19 = .ok (.astore 5, 2) := by decide +kernel
theorem dL_addStore_21 : decode cL_addStore 21 = .ok (.iconst 2, 1) := by decide +kernel
theorem dL_addStore_22 : decode cL_addStore 22 = .ok (.ireturn, 1) := by decide +kernel
theorem dL_addStore_23 : decode cL_addStore 23 = .ok (.astore 5, 2) := by decide +kernel
theorem dL_addStore_25 : decode cL_addStore 25 = .ok (.iconst 3, 1) := by decide +kernel
theorem dL_addStore_26 : decode cL_addStore 26 = .ok (.ireturn, 1) := by decide +kernel
theorem dL_addStore_27 : decode cL_addStore 27 = .ok (.iconst 0, 1) := by decide +kernel
theorem dL_addStore_28 : decode cL_addStore 28 = .ok (.ireturn, 1) := by decide +kernel
set_option maxRecDepth 20000 in
theorem ggL_charge_X8_charge : GoodIn wsL_charge wsX8_charge := goodIn_ca (goodIn_r _ [6, 7, 8, 9, 10, 5, 11, 12, 13, 14, 15, 16, 17, 18, 19, 20, 21, 22, 23, 24, 25, 26, 27, 28, 29, 30, 31, 32, 33, 34, 35] (by decide +kernel) (by decide +kernel)) (goodIn_sub (fun _ h => List.mem_cons_of_mem _ (List.mem_append_right _ h)) (by decide +kernel))
set_option maxRecDepth 20000 in
theorem gL_charge_X8_charge : GoodIn wsL_charge (wsV RL 85 RX8 yX8_charge wsX8_charge) := goodIn_app (goodIn_of _ (by decide +kernel)) ggL_charge_X8_charge
theorem dL_charge_0 : decode cL_charge 0 = .ok (.aload_n 2, 1) := by decide +kernel
theorem dL_charge_1 : decode cL_charge 1 = .ok (.iconst 0, 1) := by decide +kernel
theorem dL_charge_2 : decode cL_charge 2 = .ok (.aload_n 0, 1) := by decide +kernel
theorem dL_charge_3 : decode cL_charge 3 = .ok (.iload_n 1, 1) := by decide +kernel
theorem dL_charge_4 : decode cL_charge 4 = .ok (.invokevirtual 85, 3) := by decide +kernel
theorem dL_charge_7 : decode cL_charge 7 = .ok (.i2l, 1) := by decide +kernel
theorem dL_charge_8 : decode cL_charge 8 = .ok (.lastore, 1) := by decide +kernel
theorem dL_charge_9 : decode cL_charge 9 = .ok (.goto 6, 3) := by decide +kernel
theorem dL_charge_12 : decode cL_charge 12 = .ok (.astore_n 3, 1) := by decide +kernel
theorem dL_charge_13 : decode cL_charge 13 = .ok (.iconst 1, 1) := by decide +kernel
theorem dL_charge_14 : decode cL_charge 14 = .ok (.ireturn, 1) := by decide +kernel
theorem dL_charge_15 : decode cL_charge 15 = .ok (.iconst 0, 1) := by decide +kernel
theorem dL_charge_16 : decode cL_charge 16 = .ok (.ireturn, 1) := by decide +kernel
set_option maxRecDepth 20000 in
theorem ggL_addLoad_X8_addLoad : GoodIn wsL_addLoad wsX8_addLoad := goodIn_ca (goodIn_ca (goodIn_ca (goodIn_r _ [8, 9, 10, 11, 12, 13, 14, 15, 7, 16, 17, 18, 19, 20, 21, 22, 23, 24, 25, 26, 27, 28, 29, 30, 31, 32, 33, 34, 35, 36, 37, 38, 39, 40, 41, 42, 43, 44, 45, 46, 47, 48, 49, 50, 51, 52, 53, 54, 55, 56, 57, 58, 59, 60, 61, 62, 63, 64, 65, 66, 67, 68, 69, 70, 71, 72, 73, 74, 75, 76] (by decide +kernel) (by decide +kernel)) (goodIn_sub (fun _ h => List.mem_cons_of_mem _ (List.mem_append_left _ (List.mem_append_left _ (List.mem_append_right _ h)))) (by decide +kernel))) (goodIn_sub (fun _ h => List.mem_cons_of_mem _ (List.mem_append_left _ (List.mem_append_right _ h))) (by decide +kernel))) (goodIn_sub (fun _ h => List.mem_cons_of_mem _ (List.mem_append_right _ h)) (by decide +kernel))
set_option maxRecDepth 20000 in
theorem gL_addLoad_X8_addLoad : GoodIn wsL_addLoad (wsV RL 88 RX8 yX8_addLoad wsX8_addLoad) := goodIn_app (goodIn_of _ (by decide +kernel)) ggL_addLoad_X8_addLoad
theorem dL_addLoad_0 : decode cL_addLoad 0 = .ok (.aload 4, 2) := by decide +kernel
theorem dL_addLoad_2 : decode cL_addLoad 2 = .ok (.iconst 0, 1) := by decide +kernel
theorem dL_addLoad_3 : decode cL_addLoad 3 = .ok (.aload_n 0, 1) := by decide +kernel
theorem dL_addLoad_4 : decode cL_addLoad 4 = .ok (.iload_n 1, 1) := by decide +kernel
theorem dL_addLoad_5 : decode cL_addLoad 5 = .ok (.iload_n 2, 1) := by decide +kernel
theorem dL_addLoad_6 : decode cL_addLoad 6 = .ok (.iload_n 3, 1) := by decide +kernel
theorem dL_addLoad_7 : decode cL_addLoad 7 = .ok (.invokevirtual 88, 3) := by decide +kernel
theorem dL_addLoad_10 : decode cL_addLoad 10 = .ok (.i2l, 1) := by decide +kernel
theorem dL_addLoad_11 : decode cL_addLoad 11 = .ok (.lastore, 1) := by decide +kernel
theorem dL_addLoad_12 : decode cL_addLoad 12 = .ok (.goto 15, 3) := by decide +kernel
theorem dL_addLoad_15 : decode cL_addLoad 15 = .ok (.astore 5, 2) := by decide +kernel
theorem dL_addLoad_17 : decode cL_addLoad 17 = .ok (.iconst 1, 1) := by decide +kernel
theorem dL_addLoad_18 : decode cL_addLoad 18 = .ok (.ireturn, 1) := by decide +kernel
theorem dL_addLoad_19 : decode cL_addLoad 19 = .ok (.astore 5, 2) := by decide +kernel
theorem dL_addLoad_21 : decode cL_addLoad 21 = .ok (.iconst 2, 1) := by decide +kernel
theorem dL_addLoad_22 : decode cL_addLoad 22 = .ok (.ireturn, 1) := by decide +kernel
theorem dL_addLoad_23 : decode cL_addLoad 23 = .ok (.astore 5, 2) := by decide +kernel
theorem dL_addLoad_25 : decode cL_addLoad 25 = .ok (.iconst 3, 1) := by decide +kernel
theorem dL_addLoad_26 : decode cL_addLoad 26 = .ok (.ireturn, 1) := by decide +kernel
theorem dL_addLoad_27 : decode cL_addLoad 27 = .ok (.iconst 0, 1) := by decide +kernel
theorem dL_addLoad_28 : decode cL_addLoad 28 = .ok (.ireturn, 1) := by decide +kernel
set_option maxRecDepth 20000 in
theorem ggL_setRank_X8_setRank : GoodIn wsL_setRank wsX8_setRank := goodIn_ca (goodIn_ca (goodIn_r _ [7, 8, 9, 10, 11, 6, 12, 13, 14, 15, 16, 17, 18, 19, 20, 21, 22, 23, 24, 25, 26, 27, 28, 29, 30, 31, 32, 33, 34, 35, 36, 37, 38, 39, 40, 41, 42] (by decide +kernel) (by decide +kernel)) (goodIn_sub (fun _ h => List.mem_cons_of_mem _ (List.mem_append_left _ (List.mem_append_right _ h))) (by decide +kernel))) (goodIn_sub (fun _ h => List.mem_cons_of_mem _ (List.mem_append_right _ h)) (by decide +kernel))
set_option maxRecDepth 20000 in
theorem gL_setRank_X8_setRank : GoodIn wsL_setRank (wsV RL 91 RX8 yX8_setRank wsX8_setRank) := goodIn_app (goodIn_of _ (by decide +kernel)) ggL_setRank_X8_setRank
theorem dL_setRank_0 : decode cL_setRank 0 = .ok (.aload_n 3, 1) := by decide +kernel
theorem dL_setRank_1 : decode cL_setRank 1 = .ok (.iconst 0, 1) := by decide +kernel
theorem dL_setRank_2 : decode cL_setRank 2 = .ok (.aload_n 0, 1) := by decide +kernel
theorem dL_setRank_3 : decode cL_setRank 3 = .ok (.iload_n 1, 1) := by decide +kernel
theorem dL_setRank_4 : decode cL_setRank 4 = .ok (.iload_n 2, 1) := by decide +kernel
theorem dL_setRank_5 : decode cL_setRank 5 = .ok (.invokevirtual 91, 3) := by decide +kernel
theorem dL_setRank_8 : decode cL_setRank 8 = .ok (.i2l, 1) := by decide +kernel
theorem dL_setRank_9 : decode cL_setRank 9 = .ok (.lastore, 1) := by decide +kernel
theorem dL_setRank_10 : decode cL_setRank 10 = .ok (.goto 11, 3) := by decide +kernel
theorem dL_setRank_13 : decode cL_setRank 13 = .ok (.astore 4, 2) := by decide +kernel
theorem dL_setRank_15 : decode cL_setRank 15 = .ok (.iconst 1, 1) := by decide +kernel
theorem dL_setRank_16 : decode cL_setRank 16 = .ok (.ireturn, 1) := by decide +kernel
theorem dL_setRank_17 : decode cL_setRank 17 = .ok (.astore 4, 2) := by decide +kernel
theorem dL_setRank_19 : decode cL_setRank 19 = .ok (.iconst 2, 1) := by decide +kernel
theorem dL_setRank_20 : decode cL_setRank 20 = .ok (.ireturn, 1) := by decide +kernel
theorem dL_setRank_21 : decode cL_setRank 21 = .ok (.iconst 0, 1) := by decide +kernel
theorem dL_setRank_22 : decode cL_setRank 22 = .ok (.ireturn, 1) := by decide +kernel
set_option maxRecDepth 20000 in
theorem ggL_isLit_X8_isLit : GoodIn wsL_isLit wsX8_isLit := goodIn_ca (goodIn_r _ [6, 7, 8, 9, 10, 5, 11, 12, 13, 14, 15, 16, 17, 18, 19, 20, 21, 22, 23, 24, 25, 26, 27, 28, 29, 30, 31, 32, 33, 34, 35, 36] (by decide +kernel) (by decide +kernel)) (goodIn_sub (fun _ h => List.mem_cons_of_mem _ (List.mem_append_right _ h)) (by decide +kernel))
set_option maxRecDepth 20000 in
theorem gL_isLit_X8_isLit : GoodIn wsL_isLit (wsV RL 94 RX8 yX8_isLit wsX8_isLit) := goodIn_app (goodIn_of _ (by decide +kernel)) ggL_isLit_X8_isLit
theorem dL_isLit_0 : decode cL_isLit 0 = .ok (.aload_n 2, 1) := by decide +kernel
theorem dL_isLit_1 : decode cL_isLit 1 = .ok (.iconst 0, 1) := by decide +kernel
theorem dL_isLit_2 : decode cL_isLit 2 = .ok (.aload_n 0, 1) := by decide +kernel
theorem dL_isLit_3 : decode cL_isLit 3 = .ok (.iload_n 1, 1) := by decide +kernel
theorem dL_isLit_4 : decode cL_isLit 4 = .ok (.invokevirtual 94, 3) := by decide +kernel
theorem dL_isLit_7 : decode cL_isLit 7 = .ok (.ifCond .eq 7, 3) := by decide +kernel
theorem dL_isLit_10 : decode cL_isLit 10 = .ok (.lconst 1, 1) := by decide +kernel
theorem dL_isLit_11 : decode cL_isLit 11 = .ok (.goto 4, 3) := by decide +kernel
theorem dL_isLit_14 : decode cL_isLit 14 = .ok (.lconst 0, 1) := by decide +kernel
theorem dL_isLit_15 : decode cL_isLit 15 = .ok (.lastore, 1) := by decide +kernel
theorem dL_isLit_16 : decode cL_isLit 16 = .ok (.goto 6, 3) := by decide +kernel
theorem dL_isLit_19 : decode cL_isLit 19 = .ok (.astore_n 3, 1) := by decide +kernel
theorem dL_isLit_20 : decode cL_isLit 20 = .ok (.iconst 1, 1) := by decide +kernel
theorem dL_isLit_21 : decode cL_isLit 21 = .ok (.ireturn, 1) := by decide +kernel
theorem dL_isLit_22 : decode cL_isLit 22 = .ok (.iconst 0, 1) := by decide +kernel
theorem dL_isLit_23 : decode cL_isLit 23 = .ok (.ireturn, 1) := by decide +kernel
set_option maxRecDepth 20000 in
theorem ggL_waits_X8_waits : GoodIn wsL_waits wsX8_waits := goodIn_ca (goodIn_ca (goodIn_r _ [7, 8, 9, 10, 11, 12, 13, 14, 6, 15, 16, 17, 18, 19, 20, 21, 22, 23, 24, 25, 26, 27, 28, 29, 30, 31, 32, 33, 34, 35, 36, 37, 38, 39, 40] (by decide +kernel) (by decide +kernel)) (goodIn_sub (fun _ h => List.mem_cons_of_mem _ (List.mem_append_left _ (List.mem_append_right _ h))) (by decide +kernel))) (goodIn_sub (fun _ h => List.mem_cons_of_mem _ (List.mem_append_right _ h)) (by decide +kernel))
set_option maxRecDepth 20000 in
theorem gL_waits_X8_waits : GoodIn wsL_waits (wsV RL 98 RX8 yX8_waits wsX8_waits) := goodIn_app (goodIn_of _ (by decide +kernel)) ggL_waits_X8_waits
theorem dL_waits_0 : decode cL_waits 0 = .ok (.aload_n 2, 1) := by decide +kernel
theorem dL_waits_1 : decode cL_waits 1 = .ok (.iconst 0, 1) := by decide +kernel
theorem dL_waits_2 : decode cL_waits 2 = .ok (.aload_n 0, 1) := by decide +kernel
theorem dL_waits_3 : decode cL_waits 3 = .ok (.iload_n 1, 1) := by decide +kernel
theorem dL_waits_4 : decode cL_waits 4 = .ok (.invokevirtual 98, 3) := by decide +kernel
theorem dL_waits_7 : decode cL_waits 7 = .ok (.i2l, 1) := by decide +kernel
theorem dL_waits_8 : decode cL_waits 8 = .ok (.lastore, 1) := by decide +kernel
theorem dL_waits_9 : decode cL_waits 9 = .ok (.goto 9, 3) := by decide +kernel
theorem dL_waits_12 : decode cL_waits 12 = .ok (.astore_n 3, 1) := by decide +kernel
theorem dL_waits_13 : decode cL_waits 13 = .ok (.iconst 1, 1) := by decide +kernel
theorem dL_waits_14 : decode cL_waits 14 = .ok (.ireturn, 1) := by decide +kernel
theorem dL_waits_15 : decode cL_waits 15 = .ok (.astore_n 3, 1) := by decide +kernel
theorem dL_waits_16 : decode cL_waits 16 = .ok (.iconst 2, 1) := by decide +kernel
theorem dL_waits_17 : decode cL_waits 17 = .ok (.ireturn, 1) := by decide +kernel
theorem dL_waits_18 : decode cL_waits 18 = .ok (.iconst 0, 1) := by decide +kernel
theorem dL_waits_19 : decode cL_waits 19 = .ok (.ireturn, 1) := by decide +kernel
set_option maxRecDepth 20000 in
theorem ggL_setReserve_X8_setReserve : GoodIn wsL_setReserve wsX8_setReserve := goodIn_ca (goodIn_r _ [6, 7, 8, 9, 5, 10, 11, 12, 13, 14, 15, 16, 17, 18, 19, 20] (by decide +kernel) (by decide +kernel)) (goodIn_sub (fun _ h => List.mem_cons_of_mem _ (List.mem_append_right _ h)) (by decide +kernel))
set_option maxRecDepth 20000 in
theorem gL_setReserve_X8_setReserve : GoodIn wsL_setReserve (wsV RL 101 RX8 yX8_setReserve wsX8_setReserve) := goodIn_app (goodIn_of _ (by decide +kernel)) ggL_setReserve_X8_setReserve
theorem dL_setReserve_0 : decode cL_setReserve 0 = .ok (.aload_n 2, 1) := by decide +kernel
theorem dL_setReserve_1 : decode cL_setReserve 1 = .ok (.iconst 0, 1) := by decide +kernel
theorem dL_setReserve_2 : decode cL_setReserve 2 = .ok (.aload_n 0, 1) := by decide +kernel
theorem dL_setReserve_3 : decode cL_setReserve 3 = .ok (.iload_n 1, 1) := by decide +kernel
theorem dL_setReserve_4 : decode cL_setReserve 4 = .ok (.invokevirtual 101, 3) := by decide +kernel
theorem dL_setReserve_7 : decode cL_setReserve 7 = .ok (.i2l, 1) := by decide +kernel
theorem dL_setReserve_8 : decode cL_setReserve 8 = .ok (.lastore, 1) := by decide +kernel
theorem dL_setReserve_9 : decode cL_setReserve 9 = .ok (.goto 6, 3) := by decide +kernel
theorem dL_setReserve_12 : decode cL_setReserve 12 = .ok (.astore_n 3, 1) := by decide +kernel
theorem dL_setReserve_13 : decode cL_setReserve 13 = .ok (.iconst 1, 1) := by decide +kernel
theorem dL_setReserve_14 : decode cL_setReserve 14 = .ok (.ireturn, 1) := by decide +kernel
theorem dL_setReserve_15 : decode cL_setReserve 15 = .ok (.iconst 0, 1) := by decide +kernel
theorem dL_setReserve_16 : decode cL_setReserve 16 = .ok (.ireturn, 1) := by decide +kernel
set_option maxRecDepth 20000 in
theorem ggL_setDelay_X8_setDelay : GoodIn wsL_setDelay wsX8_setDelay := goodIn_ca (goodIn_r _ [6, 7, 8, 9, 5, 10, 11, 12, 13, 14, 15, 16, 17, 18, 19, 20] (by decide +kernel) (by decide +kernel)) (goodIn_sub (fun _ h => List.mem_cons_of_mem _ (List.mem_append_right _ h)) (by decide +kernel))
set_option maxRecDepth 20000 in
theorem gL_setDelay_X8_setDelay : GoodIn wsL_setDelay (wsV RL 104 RX8 yX8_setDelay wsX8_setDelay) := goodIn_app (goodIn_of _ (by decide +kernel)) ggL_setDelay_X8_setDelay
theorem dL_setDelay_0 : decode cL_setDelay 0 = .ok (.aload_n 2, 1) := by decide +kernel
theorem dL_setDelay_1 : decode cL_setDelay 1 = .ok (.iconst 0, 1) := by decide +kernel
theorem dL_setDelay_2 : decode cL_setDelay 2 = .ok (.aload_n 0, 1) := by decide +kernel
theorem dL_setDelay_3 : decode cL_setDelay 3 = .ok (.iload_n 1, 1) := by decide +kernel
theorem dL_setDelay_4 : decode cL_setDelay 4 = .ok (.invokevirtual 104, 3) := by decide +kernel
theorem dL_setDelay_7 : decode cL_setDelay 7 = .ok (.i2l, 1) := by decide +kernel
theorem dL_setDelay_8 : decode cL_setDelay 8 = .ok (.lastore, 1) := by decide +kernel
theorem dL_setDelay_9 : decode cL_setDelay 9 = .ok (.goto 6, 3) := by decide +kernel
theorem dL_setDelay_12 : decode cL_setDelay 12 = .ok (.astore_n 3, 1) := by decide +kernel
theorem dL_setDelay_13 : decode cL_setDelay 13 = .ok (.iconst 1, 1) := by decide +kernel
theorem dL_setDelay_14 : decode cL_setDelay 14 = .ok (.ireturn, 1) := by decide +kernel
theorem dL_setDelay_15 : decode cL_setDelay 15 = .ok (.iconst 0, 1) := by decide +kernel
theorem dL_setDelay_16 : decode cL_setDelay 16 = .ok (.ireturn, 1) := by decide +kernel
set_option maxRecDepth 20000 in
theorem ggL_bound_X8_bound : GoodIn wsL_bound wsX8_bound := goodIn_ca (goodIn_r _ [6, 7, 8, 9, 10, 11, 5, 12, 13, 14, 15, 16, 17, 18, 19, 20, 21, 22, 23, 24, 25, 26, 27, 28, 29, 30, 31, 32, 33, 34, 35, 36, 37, 38, 39, 40, 41, 42, 43, 44, 45, 46, 47, 48, 49, 50, 51, 52, 53, 54, 55, 56, 57, 58, 59, 60, 61, 62, 63, 64, 65, 66, 67, 68, 69, 70, 71, 72, 73, 74, 75, 76, 77, 78, 79, 80, 81, 82, 83, 84, 85, 86, 87, 88, 89, 90, 91, 92, 93, 94, 95, 96, 97, 98, 99, 100, 101, 102, 103, 104, 105, 106, 107, 108, 109, 110, 111, 112, 113, 114, 115, 116, 117, 118, 119, 120, 121] (by decide +kernel) (by decide +kernel)) (goodIn_sub (fun _ h => List.mem_cons_of_mem _ (List.mem_append_right _ h)) (by decide +kernel))
set_option maxRecDepth 20000 in
theorem gL_bound_X8_bound : GoodIn wsL_bound (wsV RL 107 RX8 yX8_bound wsX8_bound) := goodIn_app (goodIn_of _ (by decide +kernel)) ggL_bound_X8_bound
theorem dL_bound_0 : decode cL_bound 0 = .ok (.aload_n 2, 1) := by decide +kernel
theorem dL_bound_1 : decode cL_bound 1 = .ok (.iconst 0, 1) := by decide +kernel
theorem dL_bound_2 : decode cL_bound 2 = .ok (.aload_n 0, 1) := by decide +kernel
theorem dL_bound_3 : decode cL_bound 3 = .ok (.iload_n 1, 1) := by decide +kernel
theorem dL_bound_4 : decode cL_bound 4 = .ok (.invokevirtual 107, 3) := by decide +kernel
theorem dL_bound_7 : decode cL_bound 7 = .ok (.i2l, 1) := by decide +kernel
theorem dL_bound_8 : decode cL_bound 8 = .ok (.lastore, 1) := by decide +kernel
theorem dL_bound_9 : decode cL_bound 9 = .ok (.goto 6, 3) := by decide +kernel
theorem dL_bound_12 : decode cL_bound 12 = .ok (.astore_n 3, 1) := by decide +kernel
theorem dL_bound_13 : decode cL_bound 13 = .ok (.iconst 1, 1) := by decide +kernel
theorem dL_bound_14 : decode cL_bound 14 = .ok (.ireturn, 1) := by decide +kernel
theorem dL_bound_15 : decode cL_bound 15 = .ok (.iconst 0, 1) := by decide +kernel
theorem dL_bound_16 : decode cL_bound 16 = .ok (.ireturn, 1) := by decide +kernel
set_option maxRecDepth 20000 in
theorem ggL_demand_X8_demand : GoodIn wsL_demand wsX8_demand := goodIn_ca (goodIn_r _ [6, 7, 8, 9, 10, 11, 12, 5, 13, 14, 15, 16, 17, 18, 19, 20, 21, 22, 23, 24, 25, 26, 27, 28, 29, 30, 31, 32, 33, 34, 35, 36, 37, 38, 39, 40, 41, 42, 43, 44, 45, 46, 47, 48, 49, 50, 51, 52, 53, 54, 55, 56, 57, 58, 59, 60, 61, 62] (by decide +kernel) (by decide +kernel)) (goodIn_sub (fun _ h => List.mem_cons_of_mem _ (List.mem_append_right _ h)) (by decide +kernel))
set_option maxRecDepth 20000 in
theorem gL_demand_X8_demand : GoodIn wsL_demand (wsV RL 110 RX8 yX8_demand wsX8_demand) := goodIn_app (goodIn_of _ (by decide +kernel)) ggL_demand_X8_demand
theorem dL_demand_0 : decode cL_demand 0 = .ok (.aload_n 2, 1) := by decide +kernel
theorem dL_demand_1 : decode cL_demand 1 = .ok (.iconst 0, 1) := by decide +kernel
theorem dL_demand_2 : decode cL_demand 2 = .ok (.aload_n 0, 1) := by decide +kernel
theorem dL_demand_3 : decode cL_demand 3 = .ok (.iload_n 1, 1) := by decide +kernel
theorem dL_demand_4 : decode cL_demand 4 = .ok (.invokevirtual 110, 3) := by decide +kernel
theorem dL_demand_7 : decode cL_demand 7 = .ok (.i2l, 1) := by decide +kernel
theorem dL_demand_8 : decode cL_demand 8 = .ok (.lastore, 1) := by decide +kernel
theorem dL_demand_9 : decode cL_demand 9 = .ok (.goto 6, 3) := by decide +kernel
theorem dL_demand_12 : decode cL_demand 12 = .ok (.astore_n 3, 1) := by decide +kernel
theorem dL_demand_13 : decode cL_demand 13 = .ok (.iconst 1, 1) := by decide +kernel
theorem dL_demand_14 : decode cL_demand 14 = .ok (.ireturn, 1) := by decide +kernel
theorem dL_demand_15 : decode cL_demand 15 = .ok (.iconst 0, 1) := by decide +kernel
theorem dL_demand_16 : decode cL_demand 16 = .ok (.ireturn, 1) := by decide +kernel
set_option maxRecDepth 20000 in
theorem ggL_isKept_X8_isKept : GoodIn wsL_isKept wsX8_isKept := goodIn_ca (goodIn_r _ [6, 7, 8, 9, 10, 5, 11, 12, 13, 14, 15, 16, 17, 18, 19, 20, 21, 22, 23, 24, 25, 26, 27, 28, 29, 30, 31, 32, 33, 34, 35, 36, 37, 38, 39, 40, 41, 42, 43, 44, 45, 46, 47, 48, 49, 50, 51, 52, 53, 54, 55, 56, 57, 58, 59, 60, 61, 62, 63, 64, 65, 66, 67, 68, 69, 70, 71, 72, 73, 74, 75, 76, 77, 78, 79, 80, 81, 82, 83, 84, 85, 86, 87, 88, 89, 90, 91, 92, 93, 94, 95, 96, 97, 98, 99, 100, 101, 102, 103, 104, 105, 106, 107, 108, 109, 110, 111, 112, 113, 114, 115, 116, 117, 118, 119, 120, 121, 122, 123, 124, 125, 126, 127, 128, 129, 130, 131, 132, 133, 134, 135, 136, 137, 138, 139, 140, 141, 142, 143, 144, 145, 146, 147, 148, 149, 150, 151, 152, 153, 154, 155, 156, 157, 158, 159, 160, 161, 162, 163] (by decide +kernel) (by decide +kernel)) (goodIn_sub (fun _ h => List.mem_cons_of_mem _ (List.mem_append_right _ h)) (by decide +kernel))
set_option maxRecDepth 20000 in
theorem gL_isKept_X8_isKept : GoodIn wsL_isKept (wsV RL 113 RX8 yX8_isKept wsX8_isKept) := goodIn_app (goodIn_of _ (by decide +kernel)) ggL_isKept_X8_isKept
theorem dL_isKept_0 : decode cL_isKept 0 = .ok (.aload_n 2, 1) := by decide +kernel
theorem dL_isKept_1 : decode cL_isKept 1 = .ok (.iconst 0, 1) := by decide +kernel
theorem dL_isKept_2 : decode cL_isKept 2 = .ok (.aload_n 0, 1) := by decide +kernel
theorem dL_isKept_3 : decode cL_isKept 3 = .ok (.iload_n 1, 1) := by decide +kernel
theorem dL_isKept_4 : decode cL_isKept 4 = .ok (.invokevirtual 113, 3) := by decide +kernel
theorem dL_isKept_7 : decode cL_isKept 7 = .ok (.ifCond .eq 7, 3) := by decide +kernel
theorem dL_isKept_10 : decode cL_isKept 10 = .ok (.lconst 1, 1) := by decide +kernel
theorem dL_isKept_11 : decode cL_isKept 11 = .ok (.goto 4, 3) := by decide +kernel
theorem dL_isKept_14 : decode cL_isKept 14 = .ok (.lconst 0, 1) := by decide +kernel
theorem dL_isKept_15 : decode cL_isKept 15 = .ok (.lastore, 1) := by decide +kernel
theorem dL_isKept_16 : decode cL_isKept 16 = .ok (.goto 6, 3) := by decide +kernel
theorem dL_isKept_19 : decode cL_isKept 19 = .ok (.astore_n 3, 1) := by decide +kernel
theorem dL_isKept_20 : decode cL_isKept 20 = .ok (.iconst 1, 1) := by decide +kernel
theorem dL_isKept_21 : decode cL_isKept 21 = .ok (.ireturn, 1) := by decide +kernel
theorem dL_isKept_22 : decode cL_isKept 22 = .ok (.iconst 0, 1) := by decide +kernel
theorem dL_isKept_23 : decode cL_isKept 23 = .ok (.ireturn, 1) := by decide +kernel
set_option maxRecDepth 20000 in
theorem ggL_barrier_X8_barrier : GoodIn wsL_barrier wsX8_barrier := goodIn_ca (goodIn_ca (goodIn_r _ [7, 8, 9, 10, 11, 12, 13, 14, 6, 15, 16, 17, 18, 19, 20, 21, 22, 23, 24, 25, 26, 27, 28, 29, 30, 31, 32, 33, 34, 35, 36, 37, 38, 39, 40, 41, 42, 43, 44, 45, 46, 47, 48, 49, 50, 51, 52, 53, 54, 55, 56, 57, 58, 59, 60, 61, 62, 63, 64, 65, 66, 67, 68, 69, 70, 71, 72, 73, 74, 75, 76, 77, 78, 79, 80, 81, 82, 83, 84, 85, 86, 87, 88, 89, 90, 91, 92, 93, 94, 95, 96, 97, 98, 99, 100, 101, 102, 103, 104, 105, 106, 107, 108, 109, 110, 111, 112, 113, 114, 115, 116, 117, 118, 119, 120, 121, 122, 123, 124, 125, 126, 127, 128, 129, 130, 131, 132, 133, 134, 135, 136, 137, 138, 139, 140, 141, 142, 143, 144, 145, 146, 147, 148, 149, 150, 151, 152, 153, 154, 155, 156, 157, 158, 159, 160, 161, 162, 163, 164, 165, 166, 167, 168, 169, 170, 171, 172, 173, 174, 175] (by decide +kernel) (by decide +kernel)) (goodIn_sub (fun _ h => List.mem_cons_of_mem _ (List.mem_append_left _ (List.mem_append_right _ h))) (by decide +kernel))) (goodIn_sub (fun _ h => List.mem_cons_of_mem _ (List.mem_append_right _ h)) (by decide +kernel))
set_option maxRecDepth 20000 in
theorem gL_barrier_X8_barrier : GoodIn wsL_barrier (wsV RL 116 RX8 yX8_barrier wsX8_barrier) := goodIn_app (goodIn_of _ (by decide +kernel)) ggL_barrier_X8_barrier
theorem dL_barrier_0 : decode cL_barrier 0 = .ok (.aload_n 2, 1) := by decide +kernel
theorem dL_barrier_1 : decode cL_barrier 1 = .ok (.iconst 0, 1) := by decide +kernel
theorem dL_barrier_2 : decode cL_barrier 2 = .ok (.aload_n 0, 1) := by decide +kernel
theorem dL_barrier_3 : decode cL_barrier 3 = .ok (.iload_n 1, 1) := by decide +kernel
theorem dL_barrier_4 : decode cL_barrier 4 = .ok (.invokevirtual 116, 3) := by decide +kernel
theorem dL_barrier_7 : decode cL_barrier 7 = .ok (.i2l, 1) := by decide +kernel
theorem dL_barrier_8 : decode cL_barrier 8 = .ok (.lastore, 1) := by decide +kernel
theorem dL_barrier_9 : decode cL_barrier 9 = .ok (.goto 9, 3) := by decide +kernel
theorem dL_barrier_12 : decode cL_barrier 12 = .ok (.astore_n 3, 1) := by decide +kernel
theorem dL_barrier_13 : decode cL_barrier 13 = .ok (.iconst 1, 1) := by decide +kernel
theorem dL_barrier_14 : decode cL_barrier 14 = .ok (.ireturn, 1) := by decide +kernel
theorem dL_barrier_15 : decode cL_barrier 15 = .ok (.astore_n 3, 1) := by decide +kernel
theorem dL_barrier_16 : decode cL_barrier 16 = .ok (.iconst 2, 1) := by decide +kernel
theorem dL_barrier_17 : decode cL_barrier 17 = .ok (.ireturn, 1) := by decide +kernel
theorem dL_barrier_18 : decode cL_barrier 18 = .ok (.iconst 0, 1) := by decide +kernel
theorem dL_barrier_19 : decode cL_barrier 19 = .ok (.ireturn, 1) := by decide +kernel
set_option maxRecDepth 20000 in
theorem ggL_behind_X8_behind : GoodIn wsL_behind wsX8_behind := goodIn_ca (goodIn_ca (goodIn_r _ [7, 8, 9, 10, 11, 6, 12, 13, 14, 15, 16, 17, 18, 19, 20, 21, 22, 23, 24, 25, 26, 27, 28, 29, 30, 31, 32, 33, 34, 35, 36, 37, 38, 39, 40, 41, 42, 43, 44, 45, 46, 47, 48, 49, 50, 51, 52, 53, 54, 55, 56, 57, 58, 59, 60, 61, 62, 63, 64, 65, 66, 67, 68, 69, 70, 71, 72, 73, 74, 75, 76, 77, 78, 79, 80, 81, 82, 83, 84, 85, 86, 87, 88, 89, 90, 91, 92, 93, 94, 95, 96, 97, 98, 99, 100, 101, 102, 103, 104, 105, 106, 107, 108, 109, 110, 111, 112, 113, 114, 115, 116, 117, 118, 119, 120, 121, 122, 123, 124, 125, 126, 127, 128, 129, 130, 131, 132, 133, 134, 135, 136, 137, 138, 139, 140, 141, 142, 143, 144, 145, 146, 147, 148, 149, 150, 151, 152, 153, 154, 155, 156, 157, 158, 159, 160, 161, 162, 163, 164, 165, 166, 167, 168, 169, 170, 171, 172, 173, 174, 175] (by decide +kernel) (by decide +kernel)) (goodIn_sub (fun _ h => List.mem_cons_of_mem _ (List.mem_append_left _ (List.mem_append_right _ h))) (by decide +kernel))) (goodIn_sub (fun _ h => List.mem_cons_of_mem _ (List.mem_append_right _ h)) (by decide +kernel))
set_option maxRecDepth 20000 in
theorem gL_behind_X8_behind : GoodIn wsL_behind (wsV RL 119 RX8 yX8_behind wsX8_behind) := goodIn_app (goodIn_of _ (by decide +kernel)) ggL_behind_X8_behind
theorem dL_behind_0 : decode cL_behind 0 = .ok (.aload_n 2, 1) := by decide +kernel
theorem dL_behind_1 : decode cL_behind 1 = .ok (.iconst 0, 1) := by decide +kernel
theorem dL_behind_2 : decode cL_behind 2 = .ok (.aload_n 0, 1) := by decide +kernel
theorem dL_behind_3 : decode cL_behind 3 = .ok (.iload_n 1, 1) := by decide +kernel
theorem dL_behind_4 : decode cL_behind 4 = .ok (.invokevirtual 119, 3) := by decide +kernel
theorem dL_behind_7 : decode cL_behind 7 = .ok (.i2l, 1) := by decide +kernel
theorem dL_behind_8 : decode cL_behind 8 = .ok (.lastore, 1) := by decide +kernel
theorem dL_behind_9 : decode cL_behind 9 = .ok (.goto 9, 3) := by decide +kernel
theorem dL_behind_12 : decode cL_behind 12 = .ok (.astore_n 3, 1) := by decide +kernel
theorem dL_behind_13 : decode cL_behind 13 = .ok (.iconst 1, 1) := by decide +kernel
theorem dL_behind_14 : decode cL_behind 14 = .ok (.ireturn, 1) := by decide +kernel
theorem dL_behind_15 : decode cL_behind 15 = .ok (.astore_n 3, 1) := by decide +kernel
theorem dL_behind_16 : decode cL_behind 16 = .ok (.iconst 2, 1) := by decide +kernel
theorem dL_behind_17 : decode cL_behind 17 = .ok (.ireturn, 1) := by decide +kernel
theorem dL_behind_18 : decode cL_behind 18 = .ok (.iconst 0, 1) := by decide +kernel
theorem dL_behind_19 : decode cL_behind 19 = .ok (.ireturn, 1) := by decide +kernel
set_option maxRecDepth 20000 in
theorem ggL_share_X8_share : GoodIn wsL_share wsX8_share := goodIn_ca (goodIn_ca (goodIn_ca (goodIn_r _ [8, 9, 10, 11, 12, 13, 14, 7, 15, 16, 17, 18, 19, 20, 21, 22, 23, 24, 25, 26, 27, 28, 29, 30, 31, 32, 33, 34, 35, 36, 37, 38, 39, 40, 41, 42, 43, 44, 45, 46, 47, 48, 49, 50, 51, 52, 53, 54, 55, 56, 57, 58, 59, 60, 61, 62, 63, 64, 65, 66, 67, 68, 69, 70, 71, 72, 73, 74, 75, 76, 77, 78, 79, 80, 81, 82, 83, 84, 85, 86, 87, 88, 89, 90, 91, 92, 93, 94, 95, 96, 97, 98, 99, 100, 101, 102, 103, 104, 105, 106, 107, 108, 109, 110, 111, 112, 113, 114, 115, 116, 117, 118] (by decide +kernel) (by decide +kernel)) (goodIn_sub (fun _ h => List.mem_cons_of_mem _ (List.mem_append_left _ (List.mem_append_left _ (List.mem_append_right _ h)))) (by decide +kernel))) (goodIn_sub (fun _ h => List.mem_cons_of_mem _ (List.mem_append_left _ (List.mem_append_right _ h))) (by decide +kernel))) (goodIn_sub (fun _ h => List.mem_cons_of_mem _ (List.mem_append_right _ h)) (by decide +kernel))
set_option maxRecDepth 20000 in
theorem gL_share_X8_share : GoodIn wsL_share (wsV RL 122 RX8 yX8_share wsX8_share) := goodIn_app (goodIn_of _ (by decide +kernel)) ggL_share_X8_share
theorem dL_share_0 : decode cL_share 0 = .ok (.aload 4, 2) := by decide +kernel
theorem dL_share_2 : decode cL_share 2 = .ok (.iconst 0, 1) := by decide +kernel
theorem dL_share_3 : decode cL_share 3 = .ok (.aload_n 0, 1) := by decide +kernel
theorem dL_share_4 : decode cL_share 4 = .ok (.iload_n 1, 1) := by decide +kernel
theorem dL_share_5 : decode cL_share 5 = .ok (.iload_n 2, 1) := by decide +kernel
theorem dL_share_6 : decode cL_share 6 = .ok (.iload_n 3, 1) := by decide +kernel
theorem dL_share_7 : decode cL_share 7 = .ok (.invokevirtual 122, 3) := by decide +kernel
theorem dL_share_10 : decode cL_share 10 = .ok (.i2l, 1) := by decide +kernel
theorem dL_share_11 : decode cL_share 11 = .ok (.lastore, 1) := by decide +kernel
theorem dL_share_12 : decode cL_share 12 = .ok (.goto 15, 3) := by decide +kernel
theorem dL_share_15 : decode cL_share 15 = .ok (.astore 5, 2) := by decide +kernel
theorem dL_share_17 : decode cL_share 17 = .ok (.iconst 1, 1) := by decide +kernel
theorem dL_share_18 : decode cL_share 18 = .ok (.ireturn, 1) := by decide +kernel
theorem dL_share_19 : decode cL_share 19 = .ok (.astore 5, 2) := by decide +kernel
theorem dL_share_21 : decode cL_share 21 = .ok (.iconst 2, 1) := by decide +kernel
theorem dL_share_22 : decode cL_share 22 = .ok (.ireturn, 1) := by decide +kernel
theorem dL_share_23 : decode cL_share 23 = .ok (.astore 5, 2) := by decide +kernel
theorem dL_share_25 : decode cL_share 25 = .ok (.iconst 3, 1) := by decide +kernel
theorem dL_share_26 : decode cL_share 26 = .ok (.ireturn, 1) := by decide +kernel
theorem dL_share_27 : decode cL_share 27 = .ok (.iconst 0, 1) := by decide +kernel
theorem dL_share_28 : decode cL_share 28 = .ok (.ireturn, 1) := by decide +kernel
set_option maxRecDepth 20000 in
theorem ggL_shareBySteps_X8_shareBySteps : GoodIn wsL_shareBySteps wsX8_shareBySteps := goodIn_ca (goodIn_ca (goodIn_ca (goodIn_r _ [8, 9, 10, 11, 12, 13, 14, 7, 15, 16, 17, 18, 19, 20, 21, 22, 23, 24, 25, 26, 27, 28, 29, 30, 31, 32, 33, 34, 35, 36, 37, 38, 39, 40, 41, 42, 43, 44, 45, 46, 47, 48, 49, 50, 51, 52, 53, 54, 55, 56, 57, 58, 59, 60, 61, 62, 63, 64, 65, 66, 67, 68, 69, 70, 71, 72, 73, 74, 75, 76, 77, 78, 79, 80, 81, 82, 83, 84, 85, 86, 87, 88, 89, 90, 91, 92, 93, 94, 95, 96, 97, 98, 99, 100, 101, 102, 103, 104, 105, 106, 107, 108, 109, 110, 111, 112, 113, 114, 115, 116, 117, 118] (by decide +kernel) (by decide +kernel)) (goodIn_sub (fun _ h => List.mem_cons_of_mem _ (List.mem_append_left _ (List.mem_append_left _ (List.mem_append_right _ h)))) (by decide +kernel))) (goodIn_sub (fun _ h => List.mem_cons_of_mem _ (List.mem_append_left _ (List.mem_append_right _ h))) (by decide +kernel))) (goodIn_sub (fun _ h => List.mem_cons_of_mem _ (List.mem_append_right _ h)) (by decide +kernel))
set_option maxRecDepth 20000 in
theorem gL_shareBySteps_X8_shareBySteps : GoodIn wsL_shareBySteps (wsV RL 125 RX8 yX8_shareBySteps wsX8_shareBySteps) := goodIn_app (goodIn_of _ (by decide +kernel)) ggL_shareBySteps_X8_shareBySteps
theorem dL_shareBySteps_0 : decode cL_shareBySteps 0 = .ok (.aload 4, 2) := by decide +kernel
theorem dL_shareBySteps_2 : decode cL_shareBySteps 2 = .ok (.iconst 0, 1) := by decide +kernel
theorem dL_shareBySteps_3 : decode cL_shareBySteps 3 = .ok (.aload_n 0, 1) := by decide +kernel
theorem dL_shareBySteps_4 : decode cL_shareBySteps 4 = .ok (.iload_n 1, 1) := by decide +kernel
theorem dL_shareBySteps_5 : decode cL_shareBySteps 5 = .ok (.iload_n 2, 1) := by decide +kernel
theorem dL_shareBySteps_6 : decode cL_shareBySteps 6 = .ok (.iload_n 3, 1) := by decide +kernel
theorem dL_shareBySteps_7 : decode cL_shareBySteps 7 = .ok (.invokevirtual 125, 3) := by decide +kernel
theorem dL_shareBySteps_10 : decode cL_shareBySteps 10 = .ok (.i2l, 1) := by decide +kernel
theorem dL_shareBySteps_11 : decode cL_shareBySteps 11 = .ok (.lastore, 1) := by decide +kernel
theorem dL_shareBySteps_12 : decode cL_shareBySteps 12 = .ok (.goto 15, 3) := by decide +kernel
theorem dL_shareBySteps_15 : decode cL_shareBySteps 15 = .ok (.astore 5, 2) := by decide +kernel
theorem dL_shareBySteps_17 : decode cL_shareBySteps 17 = .ok (.iconst 1, 1) := by decide +kernel
theorem dL_shareBySteps_18 : decode cL_shareBySteps 18 = .ok (.ireturn, 1) := by decide +kernel
theorem dL_shareBySteps_19 : decode cL_shareBySteps 19 = .ok (.astore 5, 2) := by decide +kernel
theorem dL_shareBySteps_21 : decode cL_shareBySteps 21 = .ok (.iconst 2, 1) := by decide +kernel
theorem dL_shareBySteps_22 : decode cL_shareBySteps 22 = .ok (.ireturn, 1) := by decide +kernel
theorem dL_shareBySteps_23 : decode cL_shareBySteps 23 = .ok (.astore 5, 2) := by decide +kernel
theorem dL_shareBySteps_25 : decode cL_shareBySteps 25 = .ok (.iconst 3, 1) := by decide +kernel
theorem dL_shareBySteps_26 : decode cL_shareBySteps 26 = .ok (.ireturn, 1) := by decide +kernel
theorem dL_shareBySteps_27 : decode cL_shareBySteps 27 = .ok (.iconst 0, 1) := by decide +kernel
theorem dL_shareBySteps_28 : decode cL_shareBySteps 28 = .ok (.ireturn, 1) := by decide +kernel
set_option maxRecDepth 20000 in
theorem ggL_pass_X8_pass : GoodIn wsL_pass wsX8_pass := goodIn_ca (goodIn_r _ [6, 7, 8, 9, 5, 10, 11, 12, 13, 14, 15, 16, 17, 18, 19, 20, 21, 22, 23, 24, 25, 26, 27, 28, 29, 30, 31, 32, 33, 34, 35, 36, 37, 38, 39, 40, 41, 42, 43, 44, 45, 46, 47, 48, 49, 50, 51, 52, 53, 54, 55, 56, 57, 58, 59, 60, 61, 62, 63, 64, 65, 66, 67, 68, 69, 70, 71, 72, 73, 74, 75, 76, 77, 78, 79, 80, 81, 82, 83, 84, 85, 86, 87, 88, 89, 90, 91, 92, 93, 94, 95, 96, 97, 98, 99, 100, 101, 102, 103, 104, 105, 106, 107, 108, 109, 110, 111, 112, 113, 114, 115, 116, 117, 118, 119, 120, 121, 122, 123, 124, 125, 126, 127, 128, 129, 130, 131, 132, 133, 134, 135, 136, 137, 138, 139, 140, 141, 142, 143, 144, 145, 146, 147, 148, 149, 150, 151, 152, 153, 154, 155, 156, 157, 158, 159, 160, 161, 162, 163, 164, 165, 166, 167, 168, 169, 170, 171, 172, 173, 174, 175, 176, 177, 178, 179, 180, 181, 182, 183, 184, 185, 186, 187, 188, 189, 190, 191, 192, 193, 194, 195, 196, 197, 198, 199, 200, 201, 202, 203, 204, 205, 206, 207, 208, 209, 210, 211, 212, 213, 214, 215, 216, 217, 218, 219, 220, 221, 222, 223, 224, 225, 226, 227, 228, 229, 230, 231, 232, 233, 234, 235, 236, 237, 238, 239, 240, 241, 242, 243, 244, 245, 246, 247, 248, 249, 250, 251, 252, 253, 254, 255, 256, 257, 258, 259, 260, 261, 262, 263, 264, 265, 266, 267, 268, 269, 270, 271, 272, 273, 274, 275, 276, 277, 278] (by decide +kernel) (by decide +kernel)) (goodIn_sub (fun _ h => List.mem_cons_of_mem _ (List.mem_append_right _ h)) (by decide +kernel))
set_option maxRecDepth 20000 in
theorem gL_pass_X8_pass : GoodIn wsL_pass (wsV RL 128 RX8 yX8_pass wsX8_pass) := goodIn_app (goodIn_of _ (by decide +kernel)) ggL_pass_X8_pass
theorem dL_pass_0 : decode cL_pass 0 = .ok (.aload_n 2, 1) := by decide +kernel
theorem dL_pass_1 : decode cL_pass 1 = .ok (.iconst 0, 1) := by decide +kernel
theorem dL_pass_2 : decode cL_pass 2 = .ok (.aload_n 0, 1) := by decide +kernel
theorem dL_pass_3 : decode cL_pass 3 = .ok (.iload_n 1, 1) := by decide +kernel
theorem dL_pass_4 : decode cL_pass 4 = .ok (.invokevirtual 128, 3) := by decide +kernel
theorem dL_pass_7 : decode cL_pass 7 = .ok (.i2l, 1) := by decide +kernel
theorem dL_pass_8 : decode cL_pass 8 = .ok (.lastore, 1) := by decide +kernel
theorem dL_pass_9 : decode cL_pass 9 = .ok (.goto 6, 3) := by decide +kernel
theorem dL_pass_12 : decode cL_pass 12 = .ok (.astore_n 3, 1) := by decide +kernel
theorem dL_pass_13 : decode cL_pass 13 = .ok (.iconst 1, 1) := by decide +kernel
theorem dL_pass_14 : decode cL_pass 14 = .ok (.ireturn, 1) := by decide +kernel
theorem dL_pass_15 : decode cL_pass 15 = .ok (.iconst 0, 1) := by decide +kernel
theorem dL_pass_16 : decode cL_pass 16 = .ok (.ireturn, 1) := by decide +kernel
set_option maxRecDepth 20000 in
theorem ggL_given_X8_given : GoodIn wsL_given wsX8_given := goodIn_ca (goodIn_r _ [6, 7, 8, 9, 10, 5, 11, 12, 13, 14, 15, 16, 17, 18, 19, 20, 21, 22, 23, 24, 25, 26, 27, 28, 29, 30, 31, 32, 33, 34, 35, 36, 37, 38, 39, 40] (by decide +kernel) (by decide +kernel)) (goodIn_sub (fun _ h => List.mem_cons_of_mem _ (List.mem_append_right _ h)) (by decide +kernel))
set_option maxRecDepth 20000 in
theorem gL_given_X8_given : GoodIn wsL_given (wsV RL 131 RX8 yX8_given wsX8_given) := goodIn_app (goodIn_of _ (by decide +kernel)) ggL_given_X8_given
theorem dL_given_0 : decode cL_given 0 = .ok (.aload_n 2, 1) := by decide +kernel
theorem dL_given_1 : decode cL_given 1 = .ok (.iconst 0, 1) := by decide +kernel
theorem dL_given_2 : decode cL_given 2 = .ok (.aload_n 0, 1) := by decide +kernel
theorem dL_given_3 : decode cL_given 3 = .ok (.iload_n 1, 1) := by decide +kernel
theorem dL_given_4 : decode cL_given 4 = .ok (.invokevirtual 131, 3) := by decide +kernel
theorem dL_given_7 : decode cL_given 7 = .ok (.i2l, 1) := by decide +kernel
theorem dL_given_8 : decode cL_given 8 = .ok (.lastore, 1) := by decide +kernel
theorem dL_given_9 : decode cL_given 9 = .ok (.goto 6, 3) := by decide +kernel
theorem dL_given_12 : decode cL_given 12 = .ok (.astore_n 3, 1) := by decide +kernel
theorem dL_given_13 : decode cL_given 13 = .ok (.iconst 1, 1) := by decide +kernel
theorem dL_given_14 : decode cL_given 14 = .ok (.ireturn, 1) := by decide +kernel
theorem dL_given_15 : decode cL_given 15 = .ok (.iconst 0, 1) := by decide +kernel
theorem dL_given_16 : decode cL_given 16 = .ok (.ireturn, 1) := by decide +kernel
set_option maxRecDepth 20000 in
theorem ggL_flow_X8_flow : GoodIn wsL_flow wsX8_flow := goodIn_ca (goodIn_r _ [6, 7, 8, 9, 10, 5, 11, 12, 13, 14, 15, 16, 17, 18, 19, 20, 21, 22, 23, 24, 25, 26, 27, 28, 29, 30, 31, 32, 33, 34, 35] (by decide +kernel) (by decide +kernel)) (goodIn_sub (fun _ h => List.mem_cons_of_mem _ (List.mem_append_right _ h)) (by decide +kernel))
set_option maxRecDepth 20000 in
theorem gL_flow_X8_flow : GoodIn wsL_flow (wsV RL 134 RX8 yX8_flow wsX8_flow) := goodIn_app (goodIn_of _ (by decide +kernel)) ggL_flow_X8_flow
theorem dL_flow_0 : decode cL_flow 0 = .ok (.aload_n 2, 1) := by decide +kernel
theorem dL_flow_1 : decode cL_flow 1 = .ok (.iconst 0, 1) := by decide +kernel
theorem dL_flow_2 : decode cL_flow 2 = .ok (.aload_n 0, 1) := by decide +kernel
theorem dL_flow_3 : decode cL_flow 3 = .ok (.iload_n 1, 1) := by decide +kernel
theorem dL_flow_4 : decode cL_flow 4 = .ok (.invokevirtual 134, 3) := by decide +kernel
theorem dL_flow_7 : decode cL_flow 7 = .ok (.i2l, 1) := by decide +kernel
theorem dL_flow_8 : decode cL_flow 8 = .ok (.lastore, 1) := by decide +kernel
theorem dL_flow_9 : decode cL_flow 9 = .ok (.goto 6, 3) := by decide +kernel
theorem dL_flow_12 : decode cL_flow 12 = .ok (.astore_n 3, 1) := by decide +kernel
theorem dL_flow_13 : decode cL_flow 13 = .ok (.iconst 1, 1) := by decide +kernel
theorem dL_flow_14 : decode cL_flow 14 = .ok (.ireturn, 1) := by decide +kernel
theorem dL_flow_15 : decode cL_flow 15 = .ok (.iconst 0, 1) := by decide +kernel
theorem dL_flow_16 : decode cL_flow 16 = .ok (.ireturn, 1) := by decide +kernel
set_option maxRecDepth 20000 in
theorem ggL_litShare_X8_litShare : GoodIn wsL_litShare wsX8_litShare := goodIn_ca (goodIn_r _ [6, 7, 8, 9, 10, 11, 12, 13, 14, 15, 16, 17, 18, 19, 20, 21, 22, 23, 24, 25, 26, 27, 28, 29, 30, 31, 32, 33, 34, 35] (by decide +kernel) (by decide +kernel)) (goodIn_sub (fun _ h => List.mem_cons_of_mem _ (List.mem_append_right _ h)) (by decide +kernel))
set_option maxRecDepth 20000 in
theorem gL_litShare_X8_litShare : GoodIn wsL_litShare (wsV RL 137 RX8 yX8_litShare wsX8_litShare) := goodIn_app (goodIn_of _ (by decide +kernel)) ggL_litShare_X8_litShare
theorem dL_litShare_0 : decode cL_litShare 0 = .ok (.aload_n 1, 1) := by decide +kernel
theorem dL_litShare_1 : decode cL_litShare 1 = .ok (.iconst 0, 1) := by decide +kernel
theorem dL_litShare_2 : decode cL_litShare 2 = .ok (.aload_n 0, 1) := by decide +kernel
theorem dL_litShare_3 : decode cL_litShare 3 = .ok (.invokevirtual 137, 3) := by decide +kernel
theorem dL_litShare_6 : decode cL_litShare 6 = .ok (.f2d, 1) := by decide +kernel
theorem dL_litShare_7 : decode cL_litShare 7 = .ok (.dastore, 1) := by decide +kernel
theorem dL_litShare_8 : decode cL_litShare 8 = .ok (.goto 6, 3) := by decide +kernel
theorem dL_litShare_11 : decode cL_litShare 11 = .ok (.astore_n 2, 1) := by decide +kernel
theorem dL_litShare_12 : decode cL_litShare 12 = .ok (.iconst 1, 1) := by decide +kernel
theorem dL_litShare_13 : decode cL_litShare 13 = .ok (.ireturn, 1) := by decide +kernel
theorem dL_litShare_14 : decode cL_litShare 14 = .ok (.iconst 0, 1) := by decide +kernel
theorem dL_litShare_15 : decode cL_litShare 15 = .ok (.ireturn, 1) := by decide +kernel
set_option maxRecDepth 20000 in
theorem ggL_law_X8_init : GoodIn wsL_law wsX8_init := goodIn_r _ [10, 11, 12, 13, 14, 15, 16, 17, 18, 19, 20, 21, 22, 23, 24, 25, 26, 27, 28, 29, 30, 31, 32, 33, 34, 35, 36, 37, 38, 39, 40, 41, 42, 43, 44, 45, 46, 47, 48, 49, 50, 51, 52, 53, 54, 55, 56, 57, 58, 59, 60, 61, 62, 63, 64, 65, 66, 67, 68, 69, 70, 71, 72, 1155, 1156, 1157, 1158, 1159, 1160, 1161, 1162, 1163, 1164, 1108, 1109, 1110, 1111, 1112, 1113, 1114, 1115, 1165, 1166, 1167, 1168, 1169, 1170, 1171, 1172, 1173, 1174, 1175, 1176, 1177, 1178, 1179, 1180, 1181] (by decide +kernel) (by decide +kernel)
set_option maxRecDepth 20000 in
theorem gL_law_X8_init : GoodIn wsL_law (wsX8_init) := ggL_law_X8_init
set_option maxRecDepth 20000 in
theorem ggL_law_X9_init : GoodIn wsL_law wsX9_init := goodIn_r _ [75, 76, 12, 13, 38, 77, 78, 79, 80, 43, 81, 82, 83, 84, 85, 86, 87, 88, 89, 90, 91, 92, 93, 94, 95, 96, 97, 98, 99, 100, 101, 1116, 1117, 1118, 1119, 1120, 1121, 1122, 1123, 1124, 1125, 1126, 1127, 1128, 1129, 1130, 1131, 1132, 1133, 1134, 1135, 1136, 1137, 1138, 1139, 1140, 1141, 1142, 1143, 1144, 1145, 1146, 1147, 1148, 1149, 1150, 1151, 1152, 1153, 1154] (by decide +kernel) (by decide +kernel)
set_option maxRecDepth 20000 in
theorem gL_law_X9_init : GoodIn wsL_law (wsX9_init) := ggL_law_X9_init
set_option maxRecDepth 20000 in
theorem ggL_law_L_addSite : GoodIn wsL_law wsL_addSite := goodIn_ca (goodIn_r _ [105, 106, 107, 108, 109, 2, 110, 111, 112, 17, 113, 114, 115, 116, 16, 117, 118, 119, 120, 121, 122, 40, 123, 124, 125, 126, 45, 127, 128, 129, 130, 131, 44, 41, 42, 1108, 1109, 1110, 1111, 1112, 1113, 1114, 1115, 1155, 1156, 1157, 1158, 1159, 1160, 1161, 1162, 1163, 1164] (by decide +kernel) (by decide +kernel)) (goodIn_sub (fun _ h => List.mem_append_left _ (List.mem_append_left _ (List.mem_append_left _ (List.mem_append_left _ (List.mem_append_right _ h))))) (by decide +kernel))
set_option maxRecDepth 20000 in
theorem gL_law_L_addSite : GoodIn wsL_law (va_wsS RL 145 yL_addSite wsL_addSite) := goodIn_app (goodIn_of _ (by decide +kernel)) ggL_law_L_addSite
set_option maxRecDepth 20000 in
theorem ggL_law_X9_addSite : GoodIn wsL_law wsX9_addSite := goodIn_r _ [135, 136, 137, 138, 139, 5, 140, 141, 1116, 1117, 1118, 1119, 1120, 1121, 1122, 1123, 1124, 1125, 1126, 1127, 1128, 1129, 1130, 1131, 1132, 1133, 1134, 1135, 1136, 1137, 1138, 1139, 1140, 1141, 1142, 1143, 1144, 1145, 1146, 1147, 1148, 1149, 1150, 1151, 1152, 1153, 1154] (by decide +kernel) (by decide +kernel)
set_option maxRecDepth 20000 in
theorem gL_law_X9_addSite : GoodIn wsL_law (wsV RL 150 RX9 yX9_addSite wsX9_addSite) := goodIn_app (goodIn_of _ (by decide +kernel)) ggL_law_X9_addSite
set_option maxRecDepth 20000 in
theorem ggL_law_X9_thrown : GoodIn wsL_law wsX9_thrown := goodIn_r _ [145, 141, 1116, 1117, 1118, 1119, 1120, 1121, 1122, 1123, 1124, 1125, 1126, 1127, 1128, 1129, 1130, 1131, 1132, 1133, 1134, 1135, 1136, 1137, 1138, 1139, 1140, 1141, 1142, 1143, 1144, 1145, 1146, 1147, 1148, 1149, 1150, 1151, 1152, 1153, 1154] (by decide +kernel) (by decide +kernel)
set_option maxRecDepth 20000 in
theorem gL_law_X9_thrown : GoodIn wsL_law (wsV RL 151 RX9 yX9_thrown wsX9_thrown) := goodIn_app (goodIn_of _ (by decide +kernel)) ggL_law_X9_thrown
set_option maxRecDepth 20000 in
theorem ggL_law_L_setPhase : GoodIn wsL_law wsL_setPhase := goodIn_ca (goodIn_ca (goodIn_r _ [148, 149, 150, 151, 152, 153, 2, 154, 17, 155, 156, 157, 158, 159, 113, 160, 161, 162, 163, 164, 165, 166, 167, 168, 169, 1108, 1109, 1110, 1111, 1112, 1113, 1114, 1115, 1155, 1156, 1157, 1158, 1159, 1160, 1161, 1162, 1163, 1164] (by decide +kernel) (by decide +kernel)) (goodIn_sub (fun _ h => List.mem_append_left _ (List.mem_append_left _ (List.mem_append_left _ (List.mem_append_right _ h)))) (by decide +kernel))) (goodIn_sub (fun _ h => List.mem_append_left _ (List.mem_append_left _ (List.mem_append_right _ h))) (by decide +kernel))
set_option maxRecDepth 20000 in
theorem gL_law_L_setPhase : GoodIn wsL_law (va_wsS RL 154 yL_setPhase wsL_setPhase) := goodIn_app (goodIn_of _ (by decide +kernel)) ggL_law_L_setPhase
set_option maxRecDepth 20000 in
theorem ggL_law_X9_setPhase : GoodIn wsL_law wsX9_setPhase := goodIn_r _ [173, 77, 174, 175, 176, 5, 177, 136, 178, 179, 180, 137, 138, 139, 140, 141, 1116, 1117, 1118, 1119, 1120, 1121, 1122, 1123, 1124, 1125, 1126, 1127, 1128, 1129, 1130, 1131, 1132, 1133, 1134, 1135, 1136, 1137, 1138, 1139, 1140, 1141, 1142, 1143, 1144, 1145, 1146, 1147, 1148, 1149, 1150, 1151, 1152, 1153, 1154] (by decide +kernel) (by decide +kernel)
set_option maxRecDepth 20000 in
theorem gL_law_X9_setPhase : GoodIn wsL_law (wsV RL 157 RX9 yX9_setPhase wsX9_setPhase) := goodIn_app (goodIn_of _ (by decide +kernel)) ggL_law_X9_setPhase
set_option maxRecDepth 20000 in
theorem ggL_law_L_addLine : GoodIn wsL_law wsL_addLine := goodIn_ca (goodIn_ca (goodIn_ca (goodIn_r _ [183, 149, 150, 106, 184, 185, 186, 2, 187, 168, 169, 111, 112, 17, 188, 156, 157, 158, 159, 113, 160, 161, 162, 163, 164, 189, 190, 191, 16, 192, 127, 41, 42, 1108, 1109, 1110, 1111, 1112, 1113, 1114, 1115, 1155, 1156, 1157, 1158, 1159, 1160, 1161, 1162, 1163, 1164] (by decide +kernel) (by decide +kernel)) (goodIn_sub (fun _ h => List.mem_append_left _ (List.mem_append_left _ (List.mem_append_right _ h))) (by decide +kernel))) (goodIn_sub (fun _ h => List.mem_append_left _ (List.mem_append_left _ (List.mem_append_left _ (List.mem_append_left _ (List.mem_append_right _ h))))) (by decide +kernel))) (goodIn_sub (fun _ h => List.mem_append_left _ (List.mem_append_left _ (List.mem_append_left _ (List.mem_append_right _ h)))) (by decide +kernel))
set_option maxRecDepth 20000 in
theorem gL_law_L_addLine : GoodIn wsL_law (va_wsS RL 158 yL_addLine wsL_addLine) := goodIn_app (goodIn_of _ (by decide +kernel)) ggL_law_L_addLine
set_option maxRecDepth 20000 in
theorem ggL_law_X9_addLine : GoodIn wsL_law wsX9_addLine := goodIn_r _ [196, 136, 197, 79, 80, 178, 179, 5, 180, 137, 138, 139, 140, 141, 1116, 1117, 1118, 1119, 1120, 1121, 1122, 1123, 1124, 1125, 1126, 1127, 1128, 1129, 1130, 1131, 1132, 1133, 1134, 1135, 1136, 1137, 1138, 1139, 1140, 1141, 1142, 1143, 1144, 1145, 1146, 1147, 1148, 1149, 1150, 1151, 1152, 1153, 1154] (by decide +kernel) (by decide +kernel)
set_option maxRecDepth 20000 in
theorem gL_law_X9_addLine : GoodIn wsL_law (wsV RL 160 RX9 yX9_addLine wsX9_addLine) := goodIn_app (goodIn_of _ (by decide +kernel)) ggL_law_X9_addLine
set_option maxRecDepth 20000 in
theorem ggL_law_L_close : GoodIn wsL_law wsL_close := goodIn_ca (goodIn_ca (goodIn_ca (goodIn_r _ [200, 149, 106, 201, 202, 203, 204, 2, 205, 111, 112, 206, 207, 17, 188, 208, 160, 161, 162, 163, 164, 209, 210, 211, 16, 212, 40, 41, 42, 213, 214, 215, 216, 39, 217, 218, 219, 220, 221, 222, 223, 224, 225, 226, 227, 228, 229, 230, 231, 232, 233, 234, 235, 44, 119, 120, 121, 122, 118, 123, 124, 125, 126, 45, 127, 128, 129, 130, 131, 236, 237, 238, 239, 1108, 1109, 1110, 1111, 1112, 1113, 1114, 1115, 1155, 1156, 1157, 1158, 1159, 1160, 1161, 1162, 1163, 1164] (by decide +kernel) (by decide +kernel)) (goodIn_sub (fun _ h => List.mem_append_left _ (List.mem_append_left _ (List.mem_append_left _ (List.mem_append_left _ (List.mem_append_right _ h))))) (by decide +kernel))) (goodIn_sub (fun _ h => List.mem_append_left _ (List.mem_append_right _ h)) (by decide +kernel))) (goodIn_sub (fun _ h => List.mem_append_left _ (List.mem_append_left _ (List.mem_append_left _ (List.mem_append_right _ h)))) (by decide +kernel))
set_option maxRecDepth 20000 in
theorem gL_law_L_close : GoodIn wsL_law (va_wsS RL 161 yL_close wsL_close) := goodIn_app (goodIn_of _ (by decide +kernel)) ggL_law_L_close
set_option maxRecDepth 20000 in
theorem ggL_law_X9_close : GoodIn wsL_law wsX9_close := goodIn_r _ [243, 81, 244, 245, 246, 5, 247, 197, 178, 179, 180, 137, 138, 139, 140, 141, 248, 249, 250, 251, 79, 80, 252, 226, 227, 228, 253, 230, 231, 254, 255, 256, 257, 78, 258, 259, 260, 261, 136, 262, 263, 264, 265, 266, 77, 267, 268, 269, 270, 1116, 1117, 1118, 1119, 1120, 1121, 1122, 1123, 1124, 1125, 1126, 1127, 1128, 1129, 1130, 1131, 1132, 1133, 1134, 1135, 1136, 1137, 1138, 1139, 1140, 1141, 1142, 1143, 1144, 1145, 1146, 1147, 1148, 1149, 1150, 1151, 1152, 1153, 1154] (by decide +kernel) (by decide +kernel)
set_option maxRecDepth 20000 in
theorem gL_law_X9_close : GoodIn wsL_law (wsV RL 164 RX9 yX9_close wsX9_close) := goodIn_app (goodIn_of _ (by decide +kernel)) ggL_law_X9_close
set_option maxRecDepth 20000 in
theorem ggL_law_L_open : GoodIn wsL_law wsL_open := goodIn_ca (goodIn_ca (goodIn_r _ [273, 149, 106, 274, 275, 276, 2, 277, 111, 112, 17, 188, 208, 160, 161, 162, 163, 164, 232, 233, 234, 16, 235, 44, 119, 120, 121, 122, 118, 40, 123, 124, 125, 126, 45, 127, 128, 129, 130, 131, 41, 42, 236, 237, 238, 239, 1108, 1109, 1110, 1111, 1112, 1113, 1114, 1115, 1155, 1156, 1157, 1158, 1159, 1160, 1161, 1162, 1163, 1164] (by decide +kernel) (by decide +kernel)) (goodIn_sub (fun _ h => List.mem_append_left _ (List.mem_append_left _ (List.mem_append_left _ (List.mem_append_left _ (List.mem_append_right _ h))))) (by decide +kernel))) (goodIn_sub (fun _ h => List.mem_append_left _ (List.mem_append_left _ (List.mem_append_left _ (List.mem_append_right _ h)))) (by decide +kernel))
set_option maxRecDepth 20000 in
theorem gL_law_L_open : GoodIn wsL_law (va_wsS RL 165 yL_open wsL_open) := goodIn_app (goodIn_of _ (by decide +kernel)) ggL_law_L_open
set_option maxRecDepth 20000 in
theorem ggL_law_X9_open : GoodIn wsL_law wsX9_open := goodIn_r _ [281, 81, 244, 245, 246, 5, 247, 197, 178, 179, 180, 137, 138, 139, 140, 141, 267, 268, 269, 270, 136, 78, 258, 259, 260, 261, 79, 80, 253, 230, 227, 231, 1116, 1117, 1118, 1119, 1120, 1121, 1122, 1123, 1124, 1125, 1126, 1127, 1128, 1129, 1130, 1131, 1132, 1133, 1134, 1135, 1136, 1137, 1138, 1139, 1140, 1141, 1142, 1143, 1144, 1145, 1146, 1147, 1148, 1149, 1150, 1151, 1152, 1153, 1154] (by decide +kernel) (by decide +kernel)
set_option maxRecDepth 20000 in
theorem gL_law_X9_open : GoodIn wsL_law (wsV RL 167 RX9 yX9_open wsX9_open) := goodIn_app (goodIn_of _ (by decide +kernel)) ggL_law_X9_open
set_option maxRecDepth 20000 in
theorem ggL_law_L_tie : GoodIn wsL_law wsL_tie := goodIn_ca (goodIn_ca (goodIn_ca (goodIn_r _ [284, 285, 106, 201, 286, 287, 288, 2, 289, 290, 291, 111, 112, 206, 207, 17, 113, 292, 293, 214, 215, 16, 216, 39, 217, 218, 219, 220, 221, 294, 223, 224, 225, 226, 227, 228, 229, 230, 231, 295, 296, 297, 298, 118, 40, 1108, 1109, 1110, 1111, 1112, 1113, 1114, 1115, 1155, 1156, 1157, 1158, 1159, 1160, 1161, 1162, 1163, 1164] (by decide +kernel) (by decide +kernel)) (goodIn_sub (fun _ h => List.mem_append_right _ h) (by decide +kernel))) (goodIn_sub (fun _ h => List.mem_append_left _ (List.mem_append_left _ (List.mem_append_left _ (List.mem_append_left _ (List.mem_append_right _ h))))) (by decide +kernel))) (goodIn_sub (fun _ h => List.mem_append_left _ (List.mem_append_right _ h)) (by decide +kernel))
set_option maxRecDepth 20000 in
theorem gL_law_L_tie : GoodIn wsL_law (va_wsS RL 168 yL_tie wsL_tie) := goodIn_app (goodIn_of _ (by decide +kernel)) ggL_law_L_tie
set_option maxRecDepth 20000 in
theorem ggL_law_X9_tie : GoodIn wsL_law wsX9_tie := goodIn_r _ [302, 136, 266, 77, 253, 230, 227, 231, 137, 138, 139, 5, 140, 141, 303, 304, 305, 306, 78, 258, 259, 260, 261, 197, 81, 79, 80, 1116, 1117, 1118, 1119, 1120, 1121, 1122, 1123, 1124, 1125, 1126, 1127, 1128, 1129, 1130, 1131, 1132, 1133, 1134, 1135, 1136, 1137, 1138, 1139, 1140, 1141, 1142, 1143, 1144, 1145, 1146, 1147, 1148, 1149, 1150, 1151, 1152, 1153, 1154] (by decide +kernel) (by decide +kernel)
set_option maxRecDepth 20000 in
theorem gL_law_X9_tie : GoodIn wsL_law (wsV RL 170 RX9 yX9_tie wsX9_tie) := goodIn_app (goodIn_of _ (by decide +kernel)) ggL_law_X9_tie
set_option maxRecDepth 20000 in
theorem ggL_law_L_untie : GoodIn wsL_law wsL_untie := goodIn_ca (goodIn_r _ [309, 106, 310, 311, 312, 2, 313, 111, 112, 17, 292, 295, 296, 297, 16, 298, 118, 40, 1108, 1109, 1110, 1111, 1112, 1113, 1114, 1115, 1155, 1156, 1157, 1158, 1159, 1160, 1161, 1162, 1163, 1164] (by decide +kernel) (by decide +kernel)) (goodIn_sub (fun _ h => List.mem_append_left _ (List.mem_append_left _ (List.mem_append_left _ (List.mem_append_left _ (List.mem_append_right _ h))))) (by decide +kernel))
set_option maxRecDepth 20000 in
theorem gL_law_L_untie : GoodIn wsL_law (va_wsS RL 171 yL_untie wsL_untie) := goodIn_app (goodIn_of _ (by decide +kernel)) ggL_law_L_untie
set_option maxRecDepth 20000 in
theorem ggL_law_X9_untie : GoodIn wsL_law wsX9_untie := goodIn_r _ [317, 266, 137, 138, 139, 5, 140, 141, 303, 304, 305, 306, 136, 78, 258, 259, 260, 261, 197, 81, 79, 80, 253, 230, 227, 231, 1116, 1117, 1118, 1119, 1120, 1121, 1122, 1123, 1124, 1125, 1126, 1127, 1128, 1129, 1130, 1131, 1132, 1133, 1134, 1135, 1136, 1137, 1138, 1139, 1140, 1141, 1142, 1143, 1144, 1145, 1146, 1147, 1148, 1149, 1150, 1151, 1152, 1153, 1154] (by decide +kernel) (by decide +kernel)
set_option maxRecDepth 20000 in
theorem gL_law_X9_untie : GoodIn wsL_law (wsV RL 173 RX9 yX9_untie wsX9_untie) := goodIn_app (goodIn_of _ (by decide +kernel)) ggL_law_X9_untie
set_option maxRecDepth 20000 in
theorem ggL_law_L_island : GoodIn wsL_law wsL_island := goodIn_ca (goodIn_r _ [320, 149, 321, 322, 323, 2, 324, 17, 325, 156, 157, 158, 159, 113, 160, 161, 162, 163, 164, 1108, 1109, 1110, 1111, 1112, 1113, 1114, 1115, 1155, 1156, 1157, 1158, 1159, 1160, 1161, 1162, 1163, 1164] (by decide +kernel) (by decide +kernel)) (goodIn_sub (fun _ h => List.mem_append_left _ (List.mem_append_left _ (List.mem_append_left _ (List.mem_append_right _ h)))) (by decide +kernel))
set_option maxRecDepth 20000 in
theorem gL_law_L_island : GoodIn wsL_law (va_wsS RL 174 yL_island wsL_island) := goodIn_app (goodIn_of _ (by decide +kernel)) ggL_law_L_island
set_option maxRecDepth 20000 in
theorem ggL_law_X9_island : GoodIn wsL_law wsX9_island := goodIn_r _ [329, 174, 175, 176, 5, 177, 136, 178, 179, 180, 137, 138, 139, 140, 141, 254, 255, 256, 257, 78, 258, 259, 260, 261, 197, 81, 79, 80, 253, 230, 227, 231, 1116, 1117, 1118, 1119, 1120, 1121, 1122, 1123, 1124, 1125, 1126, 1127, 1128, 1129, 1130, 1131, 1132, 1133, 1134, 1135, 1136, 1137, 1138, 1139, 1140, 1141, 1142, 1143, 1144, 1145, 1146, 1147, 1148, 1149, 1150, 1151, 1152, 1153, 1154] (by decide +kernel) (by decide +kernel)
set_option maxRecDepth 20000 in
theorem gL_law_X9_island : GoodIn wsL_law (wsV RL 176 RX9 yX9_island wsX9_island) := goodIn_app (goodIn_of _ (by decide +kernel)) ggL_law_X9_island
set_option maxRecDepth 20000 in
theorem ggL_law_L_islandByRounds : GoodIn wsL_law wsL_islandByRounds := goodIn_ca (goodIn_r _ [332, 149, 333, 334, 335, 2, 336, 17, 156, 157, 158, 159, 113, 160, 161, 162, 163, 164, 337, 338, 339, 16, 340, 118, 46, 127, 44, 41, 42, 229, 230, 227, 231, 1108, 1109, 1110, 1111, 1112, 1113, 1114, 1115, 1155, 1156, 1157, 1158, 1159, 1160, 1161, 1162, 1163, 1164] (by decide +kernel) (by decide +kernel)) (goodIn_sub (fun _ h => List.mem_append_left _ (List.mem_append_left _ (List.mem_append_left _ (List.mem_append_right _ h)))) (by decide +kernel))
set_option maxRecDepth 20000 in
theorem gL_law_L_islandByRounds : GoodIn wsL_law (va_wsS RL 177 yL_islandByRounds wsL_islandByRounds) := goodIn_app (goodIn_of _ (by decide +kernel)) ggL_law_L_islandByRounds
set_option maxRecDepth 20000 in
theorem ggL_law_X9_islandByRounds : GoodIn wsL_law wsX9_islandByRounds := goodIn_r _ [344, 345, 327, 328, 5, 329, 174, 175, 176, 177, 136, 178, 179, 180, 137, 138, 139, 140, 141, 254, 255, 256, 257, 78, 258, 259, 260, 261, 197, 81, 79, 80, 253, 230, 227, 231, 1116, 1117, 1118, 1119, 1120, 1121, 1122, 1123, 1124, 1125, 1126, 1127, 1128, 1129, 1130, 1131, 1132, 1133, 1134, 1135, 1136, 1137, 1138, 1139, 1140, 1141, 1142, 1143, 1144, 1145, 1146, 1147, 1148, 1149, 1150, 1151, 1152, 1153, 1154] (by decide +kernel) (by decide +kernel)
set_option maxRecDepth 20000 in
theorem gL_law_X9_islandByRounds : GoodIn wsL_law (wsV RL 179 RX9 yX9_islandByRounds wsX9_islandByRounds) := goodIn_app (goodIn_of _ (by decide +kernel)) ggL_law_X9_islandByRounds
set_option maxRecDepth 20000 in
theorem ggL_law_X8_islands : GoodIn wsL_law wsX8_islands := goodIn_r _ [349, 17, 236, 237, 238, 16, 239, 118, 40, 1108, 1109, 1110, 1111, 1112, 1113, 1114, 1115, 1155, 1156, 1157, 1158, 1159, 1160, 1161, 1162, 1163, 1164] (by decide +kernel) (by decide +kernel)
set_option maxRecDepth 20000 in
theorem gL_law_X8_islands : GoodIn wsL_law (wsV RL 180 RX8 yX8_islands wsX8_islands) := goodIn_app (goodIn_of _ (by decide +kernel)) ggL_law_X8_islands
set_option maxRecDepth 20000 in
theorem ggL_law_X9_islands : GoodIn wsL_law wsX9_islands := goodIn_r _ [353, 141, 267, 268, 269, 5, 270, 136, 78, 258, 259, 260, 261, 197, 81, 79, 80, 253, 230, 227, 231, 1116, 1117, 1118, 1119, 1120, 1121, 1122, 1123, 1124, 1125, 1126, 1127, 1128, 1129, 1130, 1131, 1132, 1133, 1134, 1135, 1136, 1137, 1138, 1139, 1140, 1141, 1142, 1143, 1144, 1145, 1146, 1147, 1148, 1149, 1150, 1151, 1152, 1153, 1154] (by decide +kernel) (by decide +kernel)
set_option maxRecDepth 20000 in
theorem gL_law_X9_islands : GoodIn wsL_law (wsV RL 183 RX9 yX9_islands wsX9_islands) := goodIn_app (goodIn_of _ (by decide +kernel)) ggL_law_X9_islands
set_option maxRecDepth 20000 in
theorem ggL_law_L_phase : GoodIn wsL_law wsL_phase := goodIn_ca (goodIn_r _ [356, 149, 357, 358, 359, 2, 360, 17, 325, 156, 157, 158, 159, 113, 160, 161, 162, 163, 164, 293, 214, 215, 16, 216, 39, 217, 218, 219, 220, 221, 1108, 1109, 1110, 1111, 1112, 1113, 1114, 1115, 1155, 1156, 1157, 1158, 1159, 1160, 1161, 1162, 1163, 1164] (by decide +kernel) (by decide +kernel)) (goodIn_sub (fun _ h => List.mem_append_left _ (List.mem_append_left _ (List.mem_append_left _ (List.mem_append_right _ h)))) (by decide +kernel))
set_option maxRecDepth 20000 in
theorem gL_law_L_phase : GoodIn wsL_law (va_wsS RL 184 yL_phase wsL_phase) := goodIn_app (goodIn_of _ (by decide +kernel)) ggL_law_L_phase
set_option maxRecDepth 20000 in
theorem ggL_law_X9_phase : GoodIn wsL_law wsX9_phase := goodIn_r _ [364, 174, 175, 176, 5, 177, 136, 178, 179, 180, 137, 138, 139, 140, 141, 262, 263, 264, 265, 266, 77, 254, 255, 256, 257, 78, 258, 259, 260, 261, 197, 81, 79, 80, 253, 230, 227, 231, 1116, 1117, 1118, 1119, 1120, 1121, 1122, 1123, 1124, 1125, 1126, 1127, 1128, 1129, 1130, 1131, 1132, 1133, 1134, 1135, 1136, 1137, 1138, 1139, 1140, 1141, 1142, 1143, 1144, 1145, 1146, 1147, 1148, 1149, 1150, 1151, 1152, 1153, 1154] (by decide +kernel) (by decide +kernel)
set_option maxRecDepth 20000 in
theorem gL_law_X9_phase : GoodIn wsL_law (wsV RL 186 RX9 yX9_phase wsX9_phase) := goodIn_app (goodIn_of _ (by decide +kernel)) ggL_law_X9_phase
set_option maxRecDepth 20000 in
theorem ggL_law_L_gap : GoodIn wsL_law wsL_gap := goodIn_ca (goodIn_r _ [367, 149, 368, 369, 370, 2, 371, 17, 188, 160, 161, 162, 163, 164, 209, 210, 211, 16, 212, 40, 41, 42, 213, 214, 215, 216, 39, 217, 218, 219, 220, 221, 222, 223, 224, 225, 226, 227, 228, 229, 230, 231, 1108, 1109, 1110, 1111, 1112, 1113, 1114, 1115, 1155, 1156, 1157, 1158, 1159, 1160, 1161, 1162, 1163, 1164] (by decide +kernel) (by decide +kernel)) (goodIn_sub (fun _ h => List.mem_append_left _ (List.mem_append_left _ (List.mem_append_left _ (List.mem_append_right _ h)))) (by decide +kernel))
set_option maxRecDepth 20000 in
theorem gL_law_L_gap : GoodIn wsL_law (va_wsS RL 187 yL_gap wsL_gap) := goodIn_app (goodIn_of _ (by decide +kernel)) ggL_law_L_gap
set_option maxRecDepth 20000 in
theorem ggL_law_X9_gap : GoodIn wsL_law wsX9_gap := goodIn_r _ [375, 244, 245, 246, 5, 247, 197, 178, 179, 180, 137, 138, 139, 140, 141, 248, 249, 250, 251, 79, 80, 252, 226, 227, 228, 253, 230, 231, 254, 255, 256, 257, 78, 258, 259, 260, 261, 136, 81, 262, 263, 264, 265, 266, 77, 1116, 1117, 1118, 1119, 1120, 1121, 1122, 1123, 1124, 1125, 1126, 1127, 1128, 1129, 1130, 1131, 1132, 1133, 1134, 1135, 1136, 1137, 1138, 1139, 1140, 1141, 1142, 1143, 1144, 1145, 1146, 1147, 1148, 1149, 1150, 1151, 1152, 1153, 1154] (by decide +kernel) (by decide +kernel)
set_option maxRecDepth 20000 in
theorem gL_law_X9_gap : GoodIn wsL_law (wsV RL 189 RX9 yX9_gap wsX9_gap) := goodIn_app (goodIn_of _ (by decide +kernel)) ggL_law_X9_gap
set_option maxRecDepth 20000 in
theorem ggL_law_L_addGenerator : GoodIn wsL_law wsL_addGenerator := goodIn_ca (goodIn_ca (goodIn_ca (goodIn_r _ [378, 149, 150, 106, 379, 380, 381, 2, 382, 111, 112, 383, 384, 227, 385, 21, 386, 387, 388, 389, 156, 157, 158, 159, 17, 113, 160, 161, 162, 163, 164, 165, 166, 167, 168, 169, 390, 391, 392, 393, 12, 13, 394, 395, 396, 397, 398, 399, 400, 401, 402, 20, 403, 404, 52, 1108, 1109, 1110, 1111, 1112, 1113, 1114, 1115, 1165, 1166, 1167, 1168, 1169, 1182, 1183, 1184, 1185, 1186, 1187, 1188, 1189, 1155, 1156, 1157, 1158, 1159, 1160, 1161, 1162, 1163, 1164] (by decide +kernel) (by decide +kernel)) (goodIn_sub (fun _ h => List.mem_append_left _ (List.mem_append_left _ (List.mem_append_left _ (List.mem_append_left _ (List.mem_append_right _ h))))) (by decide +kernel))) (goodIn_sub (fun _ h => List.mem_append_left _ (List.mem_append_left _ (List.mem_append_left _ (List.mem_append_right _ h)))) (by decide +kernel))) (goodIn_sub (fun _ h => List.mem_append_left _ (List.mem_append_left _ (List.mem_append_right _ h))) (by decide +kernel))
set_option maxRecDepth 20000 in
theorem gL_law_L_addGenerator : GoodIn wsL_law (va_wsS RL 190 yL_addGenerator wsL_addGenerator) := goodIn_app (goodIn_of _ (by decide +kernel)) ggL_law_L_addGenerator
set_option maxRecDepth 20000 in
theorem ggL_law_X9_addGenerator : GoodIn wsL_law wsX9_addGenerator := goodIn_r _ [408, 409, 83, 84, 85, 86, 87, 91, 178, 179, 5, 180, 174, 175, 176, 177, 136, 137, 138, 139, 140, 141, 1116, 1117, 1118, 1119, 1120, 1121, 1122, 1123, 1124, 1125, 1126, 1127, 1128, 1129, 1130, 1131, 1132, 1133, 1134, 1135, 1136, 1137, 1138, 1139, 1140, 1141, 1142, 1143, 1144, 1145, 1146, 1147, 1148, 1149, 1150, 1151, 1152, 1153, 1154] (by decide +kernel) (by decide +kernel)
set_option maxRecDepth 20000 in
theorem gL_law_X9_addGenerator : GoodIn wsL_law (wsV RL 193 RX9 yX9_addGenerator wsX9_addGenerator) := goodIn_app (goodIn_of _ (by decide +kernel)) ggL_law_X9_addGenerator
set_option maxRecDepth 20000 in
theorem ggL_law_L_start : GoodIn wsL_law wsL_start := goodIn_ca (goodIn_ca (goodIn_ca (goodIn_r _ [412, 149, 106, 285, 413, 414, 415, 2, 416, 111, 112, 290, 291, 417, 418, 419, 420, 421, 422, 21, 386, 423, 160, 161, 162, 163, 164, 424, 425, 426, 389, 427, 399, 396, 428, 429, 430, 431, 398, 432, 394, 1182, 1183, 1184, 1185, 1186, 1187, 1188, 1189, 1108, 1109, 1110, 1111, 1112, 1113, 1114, 1115, 1165, 1166, 1167, 1168, 1169] (by decide +kernel) (by decide +kernel)) (goodIn_sub (fun _ h => List.mem_append_left _ (List.mem_append_left _ (List.mem_append_left _ (List.mem_append_left _ (List.mem_append_right _ h))))) (by decide +kernel))) (goodIn_sub (fun _ h => List.mem_append_right _ h) (by decide +kernel))) (goodIn_sub (fun _ h => List.mem_append_left _ (List.mem_append_left _ (List.mem_append_left _ (List.mem_append_right _ h)))) (by decide +kernel))
set_option maxRecDepth 20000 in
theorem gL_law_L_start : GoodIn wsL_law (va_wsS RL 194 yL_start wsL_start) := goodIn_app (goodIn_of _ (by decide +kernel)) ggL_law_L_start
set_option maxRecDepth 20000 in
theorem ggL_law_X9_start : GoodIn wsL_law wsX9_start := goodIn_r _ [436, 91, 87, 84, 86, 437, 438, 439, 5, 440, 409, 178, 179, 180, 137, 138, 139, 140, 141, 441, 442, 443, 444, 88, 1116, 1117, 1118, 1119, 1120, 1121, 1122, 1123, 1124, 1125, 1126, 1127, 1128, 1129, 1130, 1131, 1132, 1133, 1134, 1135, 1136, 1137, 1138, 1139, 1140, 1141, 1142, 1143, 1144, 1145, 1146, 1147, 1148, 1149, 1150, 1151, 1152, 1153, 1154] (by decide +kernel) (by decide +kernel)
set_option maxRecDepth 20000 in
theorem gL_law_X9_start : GoodIn wsL_law (wsV RL 196 RX9 yX9_start wsX9_start) := goodIn_app (goodIn_of _ (by decide +kernel)) ggL_law_X9_start
set_option maxRecDepth 20000 in
theorem ggL_law_L_stop : GoodIn wsL_law wsL_stop := goodIn_ca (goodIn_ca (goodIn_r _ [447, 149, 106, 448, 449, 450, 2, 451, 111, 112, 417, 452, 419, 420, 421, 422, 21, 386, 423, 160, 161, 162, 163, 164, 453, 454, 455, 389, 456, 394, 1182, 1183, 1184, 1185, 1186, 1187, 1188, 1189, 1108, 1109, 1110, 1111, 1112, 1113, 1114, 1115, 1165, 1166, 1167, 1168, 1169] (by decide +kernel) (by decide +kernel)) (goodIn_sub (fun _ h => List.mem_append_left _ (List.mem_append_left _ (List.mem_append_left _ (List.mem_append_left _ (List.mem_append_right _ h))))) (by decide +kernel))) (goodIn_sub (fun _ h => List.mem_append_left _ (List.mem_append_left _ (List.mem_append_left _ (List.mem_append_right _ h)))) (by decide +kernel))
set_option maxRecDepth 20000 in
theorem gL_law_L_stop : GoodIn wsL_law (va_wsS RL 197 yL_stop wsL_stop) := goodIn_app (goodIn_of _ (by decide +kernel)) ggL_law_L_stop
set_option maxRecDepth 20000 in
theorem ggL_law_X9_stop : GoodIn wsL_law wsX9_stop := goodIn_r _ [460, 91, 87, 437, 438, 439, 5, 440, 409, 178, 179, 180, 137, 138, 139, 140, 141, 1116, 1117, 1118, 1119, 1120, 1121, 1122, 1123, 1124, 1125, 1126, 1127, 1128, 1129, 1130, 1131, 1132, 1133, 1134, 1135, 1136, 1137, 1138, 1139, 1140, 1141, 1142, 1143, 1144, 1145, 1146, 1147, 1148, 1149, 1150, 1151, 1152, 1153, 1154] (by decide +kernel) (by decide +kernel)
set_option maxRecDepth 20000 in
theorem gL_law_X9_stop : GoodIn wsL_law (wsV RL 199 RX9 yX9_stop wsX9_stop) := goodIn_app (goodIn_of _ (by decide +kernel)) ggL_law_X9_stop
set_option maxRecDepth 20000 in
theorem ggL_law_L_startNext : GoodIn wsL_law wsL_startNext := goodIn_ca (goodIn_ca (goodIn_r _ [463, 149, 285, 464, 465, 466, 2, 467, 290, 291, 21, 17, 325, 423, 156, 157, 158, 159, 113, 160, 161, 162, 163, 164, 468, 469, 470, 20, 471, 404, 52, 472, 55, 473, 474, 475, 425, 426, 389, 427, 399, 396, 476, 477, 478, 479, 398, 397, 428, 429, 430, 431, 432, 394, 1108, 1109, 1110, 1111, 1112, 1113, 1114, 1115, 1155, 1156, 1157, 1158, 1159, 1160, 1161, 1162, 1163, 1164, 1165, 1166, 1167, 1168, 1169, 1182, 1183, 1184, 1185, 1186, 1187, 1188, 1189] (by decide +kernel) (by decide +kernel)) (goodIn_sub (fun _ h => List.mem_append_right _ h) (by decide +kernel))) (goodIn_sub (fun _ h => List.mem_append_left _ (List.mem_append_left _ (List.mem_append_left _ (List.mem_append_right _ h)))) (by decide +kernel))
set_option maxRecDepth 20000 in
theorem gL_law_L_startNext : GoodIn wsL_law (va_wsS RL 200 yL_startNext wsL_startNext) := goodIn_app (goodIn_of _ (by decide +kernel)) ggL_law_L_startNext
set_option maxRecDepth 20000 in
theorem ggL_law_X9_startNext : GoodIn wsL_law wsX9_startNext := goodIn_r _ [483, 409, 78, 83, 91, 87, 84, 86, 85, 174, 175, 176, 5, 177, 136, 178, 179, 180, 137, 138, 139, 140, 141, 254, 255, 256, 257, 258, 259, 260, 261, 197, 81, 79, 80, 253, 230, 227, 231, 441, 442, 443, 444, 88, 1116, 1117, 1118, 1119, 1120, 1121, 1122, 1123, 1124, 1125, 1126, 1127, 1128, 1129, 1130, 1131, 1132, 1133, 1134, 1135, 1136, 1137, 1138, 1139, 1140, 1141, 1142, 1143, 1144, 1145, 1146, 1147, 1148, 1149, 1150, 1151, 1152, 1153, 1154] (by decide +kernel) (by decide +kernel)
set_option maxRecDepth 20000 in
theorem gL_law_X9_startNext : GoodIn wsL_law (wsV RL 202 RX9 yX9_startNext wsX9_startNext) := goodIn_app (goodIn_of _ (by decide +kernel)) ggL_law_X9_startNext
set_option maxRecDepth 20000 in
theorem ggL_law_L_refuel : GoodIn wsL_law wsL_refuel := goodIn_ca (goodIn_ca (goodIn_ca (goodIn_r _ [486, 149, 150, 106, 487, 488, 489, 2, 490, 111, 112, 452, 491, 419, 420, 421, 422, 21, 386, 423, 160, 161, 162, 163, 164, 165, 166, 167, 168, 169, 1182, 1183, 1184, 1185, 1186, 1187, 1188, 1189, 1108, 1109, 1110, 1111, 1112, 1113, 1114, 1115, 1165, 1166, 1167, 1168, 1169] (by decide +kernel) (by decide +kernel)) (goodIn_sub (fun _ h => List.mem_append_left _ (List.mem_append_left _ (List.mem_append_left _ (List.mem_append_left _ (List.mem_append_right _ h))))) (by decide +kernel))) (goodIn_sub (fun _ h => List.mem_append_left _ (List.mem_append_left _ (List.mem_append_left _ (List.mem_append_right _ h)))) (by decide +kernel))) (goodIn_sub (fun _ h => List.mem_append_left _ (List.mem_append_left _ (List.mem_append_right _ h))) (by decide +kernel))
set_option maxRecDepth 20000 in
theorem gL_law_L_refuel : GoodIn wsL_law (va_wsS RL 203 yL_refuel wsL_refuel) := goodIn_app (goodIn_of _ (by decide +kernel)) ggL_law_L_refuel
set_option maxRecDepth 20000 in
theorem ggL_law_X9_refuel : GoodIn wsL_law wsX9_refuel := goodIn_r _ [495, 87, 496, 437, 438, 439, 5, 440, 409, 178, 179, 180, 137, 138, 139, 140, 141, 1116, 1117, 1118, 1119, 1120, 1121, 1122, 1123, 1124, 1125, 1126, 1127, 1128, 1129, 1130, 1131, 1132, 1133, 1134, 1135, 1136, 1137, 1138, 1139, 1140, 1141, 1142, 1143, 1144, 1145, 1146, 1147, 1148, 1149, 1150, 1151, 1152, 1153, 1154] (by decide +kernel) (by decide +kernel)
set_option maxRecDepth 20000 in
theorem gL_law_X9_refuel : GoodIn wsL_law (wsV RL 205 RX9 yX9_refuel wsX9_refuel) := goodIn_app (goodIn_of _ (by decide +kernel)) ggL_law_X9_refuel
set_option maxRecDepth 20000 in
theorem ggL_law_L_state : GoodIn wsL_law wsL_state := goodIn_ca (goodIn_r _ [499, 149, 500, 501, 502, 2, 503, 417, 419, 420, 421, 422, 21, 386, 423, 160, 161, 162, 163, 164, 1182, 1183, 1184, 1185, 1186, 1187, 1188, 1189, 1108, 1109, 1110, 1111, 1112, 1113, 1114, 1115, 1165, 1166, 1167, 1168, 1169] (by decide +kernel) (by decide +kernel)) (goodIn_sub (fun _ h => List.mem_append_left _ (List.mem_append_left _ (List.mem_append_left _ (List.mem_append_right _ h)))) (by decide +kernel))
set_option maxRecDepth 20000 in
theorem gL_law_L_state : GoodIn wsL_law (va_wsS RL 206 yL_state wsL_state) := goodIn_app (goodIn_of _ (by decide +kernel)) ggL_law_L_state
set_option maxRecDepth 20000 in
theorem ggL_law_X9_state : GoodIn wsL_law wsX9_state := goodIn_r _ [507, 91, 437, 438, 439, 5, 440, 409, 178, 179, 180, 137, 138, 139, 140, 141, 1116, 1117, 1118, 1119, 1120, 1121, 1122, 1123, 1124, 1125, 1126, 1127, 1128, 1129, 1130, 1131, 1132, 1133, 1134, 1135, 1136, 1137, 1138, 1139, 1140, 1141, 1142, 1143, 1144, 1145, 1146, 1147, 1148, 1149, 1150, 1151, 1152, 1153, 1154] (by decide +kernel) (by decide +kernel)
set_option maxRecDepth 20000 in
theorem gL_law_X9_state : GoodIn wsL_law (wsV RL 208 RX9 yX9_state wsX9_state) := goodIn_app (goodIn_of _ (by decide +kernel)) ggL_law_X9_state
set_option maxRecDepth 20000 in
theorem ggL_law_L_fuel : GoodIn wsL_law wsL_fuel := goodIn_ca (goodIn_r _ [510, 149, 511, 512, 513, 2, 514, 452, 419, 420, 421, 422, 21, 386, 423, 160, 161, 162, 163, 164, 1182, 1183, 1184, 1185, 1186, 1187, 1188, 1189, 1108, 1109, 1110, 1111, 1112, 1113, 1114, 1115, 1165, 1166, 1167, 1168, 1169] (by decide +kernel) (by decide +kernel)) (goodIn_sub (fun _ h => List.mem_append_left _ (List.mem_append_left _ (List.mem_append_left _ (List.mem_append_right _ h)))) (by decide +kernel))
set_option maxRecDepth 20000 in
theorem gL_law_L_fuel : GoodIn wsL_law (va_wsS RL 209 yL_fuel wsL_fuel) := goodIn_app (goodIn_of _ (by decide +kernel)) ggL_law_L_fuel
set_option maxRecDepth 20000 in
theorem ggL_law_X9_fuel : GoodIn wsL_law wsX9_fuel := goodIn_r _ [518, 87, 437, 438, 439, 5, 440, 409, 178, 179, 180, 137, 138, 139, 140, 141, 1116, 1117, 1118, 1119, 1120, 1121, 1122, 1123, 1124, 1125, 1126, 1127, 1128, 1129, 1130, 1131, 1132, 1133, 1134, 1135, 1136, 1137, 1138, 1139, 1140, 1141, 1142, 1143, 1144, 1145, 1146, 1147, 1148, 1149, 1150, 1151, 1152, 1153, 1154] (by decide +kernel) (by decide +kernel)
set_option maxRecDepth 20000 in
theorem gL_law_X9_fuel : GoodIn wsL_law (wsV RL 211 RX9 yX9_fuel wsX9_fuel) := goodIn_app (goodIn_of _ (by decide +kernel)) ggL_law_X9_fuel
set_option maxRecDepth 20000 in
theorem ggL_law_L_toGo : GoodIn wsL_law wsL_toGo := goodIn_ca (goodIn_ca (goodIn_r _ [521, 149, 285, 522, 523, 524, 2, 525, 290, 291, 417, 418, 419, 420, 421, 422, 21, 386, 423, 160, 161, 162, 163, 164, 1182, 1183, 1184, 1185, 1186, 1187, 1188, 1189, 1108, 1109, 1110, 1111, 1112, 1113, 1114, 1115, 1165, 1166, 1167, 1168, 1169] (by decide +kernel) (by decide +kernel)) (goodIn_sub (fun _ h => List.mem_append_right _ h) (by decide +kernel))) (goodIn_sub (fun _ h => List.mem_append_left _ (List.mem_append_left _ (List.mem_append_left _ (List.mem_append_right _ h)))) (by decide +kernel))
set_option maxRecDepth 20000 in
theorem gL_law_L_toGo : GoodIn wsL_law (va_wsS RL 212 yL_toGo wsL_toGo) := goodIn_app (goodIn_of _ (by decide +kernel)) ggL_law_L_toGo
set_option maxRecDepth 20000 in
theorem ggL_law_X9_toGo : GoodIn wsL_law wsX9_toGo := goodIn_r _ [529, 91, 88, 437, 438, 439, 5, 440, 409, 178, 179, 180, 137, 138, 139, 140, 141, 1116, 1117, 1118, 1119, 1120, 1121, 1122, 1123, 1124, 1125, 1126, 1127, 1128, 1129, 1130, 1131, 1132, 1133, 1134, 1135, 1136, 1137, 1138, 1139, 1140, 1141, 1142, 1143, 1144, 1145, 1146, 1147, 1148, 1149, 1150, 1151, 1152, 1153, 1154] (by decide +kernel) (by decide +kernel)
set_option maxRecDepth 20000 in
theorem gL_law_X9_toGo : GoodIn wsL_law (wsV RL 214 RX9 yX9_toGo wsX9_toGo) := goodIn_app (goodIn_of _ (by decide +kernel)) ggL_law_X9_toGo
set_option maxRecDepth 20000 in
theorem ggL_law_L_addStore : GoodIn wsL_law wsL_addStore := goodIn_ca (goodIn_ca (goodIn_ca (goodIn_r _ [532, 149, 150, 106, 533, 534, 535, 2, 536, 111, 112, 25, 537, 538, 539, 540, 156, 157, 158, 159, 17, 113, 160, 161, 162, 163, 164, 165, 166, 167, 168, 169, 541, 542, 543, 544, 12, 13, 545, 546, 547, 548, 549, 550, 24, 551, 552, 61, 1108, 1109, 1110, 1111, 1112, 1113, 1114, 1115, 1170, 1171, 1172, 1190, 1191, 1192, 1193, 1194, 1155, 1156, 1157, 1158, 1159, 1160, 1161, 1162, 1163, 1164] (by decide +kernel) (by decide +kernel)) (goodIn_sub (fun _ h => List.mem_append_left _ (List.mem_append_left _ (List.mem_append_left _ (List.mem_append_left _ (List.mem_append_right _ h))))) (by decide +kernel))) (goodIn_sub (fun _ h => List.mem_append_left _ (List.mem_append_left _ (List.mem_append_left _ (List.mem_append_right _ h)))) (by decide +kernel))) (goodIn_sub (fun _ h => List.mem_append_left _ (List.mem_append_left _ (List.mem_append_right _ h))) (by decide +kernel))
set_option maxRecDepth 20000 in
theorem gL_law_L_addStore : GoodIn wsL_law (va_wsS RL 215 yL_addStore wsL_addStore) := goodIn_app (goodIn_of _ (by decide +kernel)) ggL_law_L_addStore
set_option maxRecDepth 20000 in
theorem ggL_law_X9_addStore : GoodIn wsL_law wsX9_addStore := goodIn_r _ [556, 557, 92, 93, 94, 174, 175, 176, 5, 177, 136, 178, 179, 180, 137, 138, 139, 140, 141, 1116, 1117, 1118, 1119, 1120, 1121, 1122, 1123, 1124, 1125, 1126, 1127, 1128, 1129, 1130, 1131, 1132, 1133, 1134, 1135, 1136, 1137, 1138, 1139, 1140, 1141, 1142, 1143, 1144, 1145, 1146, 1147, 1148, 1149, 1150, 1151, 1152, 1153, 1154] (by decide +kernel) (by decide +kernel)
set_option maxRecDepth 20000 in
theorem gL_law_X9_addStore : GoodIn wsL_law (wsV RL 218 RX9 yX9_addStore wsX9_addStore) := goodIn_app (goodIn_of _ (by decide +kernel)) ggL_law_X9_addStore
set_option maxRecDepth 20000 in
theorem ggL_law_L_charge : GoodIn wsL_law wsL_charge := goodIn_ca (goodIn_r _ [560, 149, 561, 562, 563, 2, 564, 565, 566, 567, 568, 569, 25, 537, 570, 160, 161, 162, 163, 164, 1190, 1191, 1192, 1193, 1194, 1108, 1109, 1110, 1111, 1112, 1113, 1114, 1115, 1170, 1171, 1172] (by decide +kernel) (by decide +kernel)) (goodIn_sub (fun _ h => List.mem_append_left _ (List.mem_append_left _ (List.mem_append_left _ (List.mem_append_right _ h)))) (by decide +kernel))
set_option maxRecDepth 20000 in
theorem gL_law_L_charge : GoodIn wsL_law (va_wsS RL 219 yL_charge wsL_charge) := goodIn_app (goodIn_of _ (by decide +kernel)) ggL_law_L_charge
set_option maxRecDepth 20000 in
theorem ggL_law_X9_charge : GoodIn wsL_law wsX9_charge := goodIn_r _ [574, 95, 575, 576, 577, 5, 578, 557, 178, 179, 180, 137, 138, 139, 140, 141, 1116, 1117, 1118, 1119, 1120, 1121, 1122, 1123, 1124, 1125, 1126, 1127, 1128, 1129, 1130, 1131, 1132, 1133, 1134, 1135, 1136, 1137, 1138, 1139, 1140, 1141, 1142, 1143, 1144, 1145, 1146, 1147, 1148, 1149, 1150, 1151, 1152, 1153, 1154] (by decide +kernel) (by decide +kernel)
set_option maxRecDepth 20000 in
theorem gL_law_X9_charge : GoodIn wsL_law (wsV RL 221 RX9 yX9_charge wsX9_charge) := goodIn_app (goodIn_of _ (by decide +kernel)) ggL_law_X9_charge
set_option maxRecDepth 20000 in
theorem ggL_law_L_addLoad : GoodIn wsL_law wsL_addLoad := goodIn_ca (goodIn_ca (goodIn_ca (goodIn_r _ [581, 149, 150, 106, 582, 583, 584, 2, 585, 111, 112, 29, 586, 156, 157, 158, 159, 17, 113, 160, 161, 162, 163, 164, 165, 166, 167, 168, 169, 587, 588, 589, 28, 590, 591, 68, 67, 592, 593, 594, 595, 596, 597, 12, 13, 598, 599, 600, 601, 602, 1108, 1109, 1110, 1111, 1112, 1113, 1114, 1115, 1173, 1174, 1175, 1155, 1156, 1157, 1158, 1159, 1160, 1161, 1162, 1163, 1164, 1195, 1196, 1197, 1198, 1199, 1200] (by decide +kernel) (by decide +kernel)) (goodIn_sub (fun _ h => List.mem_append_left _ (List.mem_append_left _ (List.mem_append_left _ (List.mem_append_left _ (List.mem_append_right _ h))))) (by decide +kernel))) (goodIn_sub (fun _ h => List.mem_append_left _ (List.mem_append_left _ (List.mem_append_left _ (List.mem_append_right _ h)))) (by decide +kernel))) (goodIn_sub (fun _ h => List.mem_append_left _ (List.mem_append_left _ (List.mem_append_right _ h))) (by decide +kernel))
set_option maxRecDepth 20000 in
theorem gL_law_L_addLoad : GoodIn wsL_law (va_wsS RL 222 yL_addLoad wsL_addLoad) := goodIn_app (goodIn_of _ (by decide +kernel)) ggL_law_L_addLoad
set_option maxRecDepth 20000 in
theorem ggL_law_X9_addLoad : GoodIn wsL_law wsX9_addLoad := goodIn_r _ [606, 607, 97, 98, 99, 174, 175, 176, 5, 177, 136, 178, 179, 180, 137, 138, 139, 140, 141, 1116, 1117, 1118, 1119, 1120, 1121, 1122, 1123, 1124, 1125, 1126, 1127, 1128, 1129, 1130, 1131, 1132, 1133, 1134, 1135, 1136, 1137, 1138, 1139, 1140, 1141, 1142, 1143, 1144, 1145, 1146, 1147, 1148, 1149, 1150, 1151, 1152, 1153, 1154] (by decide +kernel) (by decide +kernel)
set_option maxRecDepth 20000 in
theorem gL_law_X9_addLoad : GoodIn wsL_law (wsV RL 224 RX9 yX9_addLoad wsX9_addLoad) := goodIn_app (goodIn_of _ (by decide +kernel)) ggL_law_X9_addLoad
set_option maxRecDepth 20000 in
theorem ggL_law_L_setRank : GoodIn wsL_law wsL_setRank := goodIn_ca (goodIn_ca (goodIn_r _ [610, 149, 150, 611, 612, 613, 2, 614, 615, 616, 617, 618, 619, 29, 586, 620, 160, 161, 162, 163, 164, 165, 166, 167, 168, 169, 1195, 1196, 1197, 1198, 1199, 1200, 1108, 1109, 1110, 1111, 1112, 1113, 1114, 1115, 1173, 1174, 1175] (by decide +kernel) (by decide +kernel)) (goodIn_sub (fun _ h => List.mem_append_left _ (List.mem_append_left _ (List.mem_append_left _ (List.mem_append_right _ h)))) (by decide +kernel))) (goodIn_sub (fun _ h => List.mem_append_left _ (List.mem_append_left _ (List.mem_append_right _ h))) (by decide +kernel))
set_option maxRecDepth 20000 in
theorem gL_law_L_setRank : GoodIn wsL_law (va_wsS RL 225 yL_setRank wsL_setRank) := goodIn_app (goodIn_of _ (by decide +kernel)) ggL_law_L_setRank
set_option maxRecDepth 20000 in
theorem ggL_law_X9_setRank : GoodIn wsL_law wsX9_setRank := goodIn_r _ [624, 99, 625, 626, 627, 5, 628, 607, 178, 179, 180, 137, 138, 139, 140, 141, 1116, 1117, 1118, 1119, 1120, 1121, 1122, 1123, 1124, 1125, 1126, 1127, 1128, 1129, 1130, 1131, 1132, 1133, 1134, 1135, 1136, 1137, 1138, 1139, 1140, 1141, 1142, 1143, 1144, 1145, 1146, 1147, 1148, 1149, 1150, 1151, 1152, 1153, 1154] (by decide +kernel) (by decide +kernel)
set_option maxRecDepth 20000 in
theorem gL_law_X9_setRank : GoodIn wsL_law (wsV RL 227 RX9 yX9_setRank wsX9_setRank) := goodIn_app (goodIn_of _ (by decide +kernel)) ggL_law_X9_setRank
set_option maxRecDepth 20000 in
theorem ggL_law_L_isLit : GoodIn wsL_law wsL_isLit := goodIn_ca (goodIn_r _ [631, 149, 632, 633, 634, 2, 635, 636, 616, 617, 618, 619, 29, 586, 620, 160, 161, 162, 163, 164, 1195, 1196, 1197, 1198, 1199, 1200, 1108, 1109, 1110, 1111, 1112, 1113, 1114, 1115, 1173, 1174, 1175] (by decide +kernel) (by decide +kernel)) (goodIn_sub (fun _ h => List.mem_append_left _ (List.mem_append_left _ (List.mem_append_left _ (List.mem_append_right _ h)))) (by decide +kernel))
set_option maxRecDepth 20000 in
theorem gL_law_L_isLit : GoodIn wsL_law (va_wsS RL 228 yL_isLit wsL_isLit) := goodIn_app (goodIn_of _ (by decide +kernel)) ggL_law_L_isLit
set_option maxRecDepth 20000 in
theorem ggL_law_X9_isLit : GoodIn wsL_law wsX9_isLit := goodIn_r _ [640, 82, 625, 626, 627, 5, 628, 607, 178, 179, 180, 137, 138, 139, 140, 141, 1116, 1117, 1118, 1119, 1120, 1121, 1122, 1123, 1124, 1125, 1126, 1127, 1128, 1129, 1130, 1131, 1132, 1133, 1134, 1135, 1136, 1137, 1138, 1139, 1140, 1141, 1142, 1143, 1144, 1145, 1146, 1147, 1148, 1149, 1150, 1151, 1152, 1153, 1154] (by decide +kernel) (by decide +kernel)
set_option maxRecDepth 20000 in
theorem gL_law_X9_isLit : GoodIn wsL_law (wsV RL 230 RX9 yX9_isLit wsX9_isLit) := goodIn_app (goodIn_of _ (by decide +kernel)) ggL_law_X9_isLit
set_option maxRecDepth 20000 in
theorem ggL_law_L_waits : GoodIn wsL_law wsL_waits := goodIn_ca (goodIn_ca (goodIn_r _ [643, 149, 285, 644, 645, 646, 2, 647, 290, 291, 636, 648, 616, 617, 618, 619, 29, 586, 620, 160, 161, 162, 163, 164, 1195, 1196, 1197, 1198, 1199, 1200, 1108, 1109, 1110, 1111, 1112, 1113, 1114, 1115, 1173, 1174, 1175] (by decide +kernel) (by decide +kernel)) (goodIn_sub (fun _ h => List.mem_append_right _ h) (by decide +kernel))) (goodIn_sub (fun _ h => List.mem_append_left _ (List.mem_append_left _ (List.mem_append_left _ (List.mem_append_right _ h)))) (by decide +kernel))
set_option maxRecDepth 20000 in
theorem gL_law_L_waits : GoodIn wsL_law (va_wsS RL 231 yL_waits wsL_waits) := goodIn_app (goodIn_of _ (by decide +kernel)) ggL_law_L_waits
set_option maxRecDepth 20000 in
theorem ggL_law_X9_waits : GoodIn wsL_law wsX9_waits := goodIn_r _ [652, 82, 100, 625, 626, 627, 5, 628, 607, 178, 179, 180, 137, 138, 139, 140, 141, 1116, 1117, 1118, 1119, 1120, 1121, 1122, 1123, 1124, 1125, 1126, 1127, 1128, 1129, 1130, 1131, 1132, 1133, 1134, 1135, 1136, 1137, 1138, 1139, 1140, 1141, 1142, 1143, 1144, 1145, 1146, 1147, 1148, 1149, 1150, 1151, 1152, 1153, 1154] (by decide +kernel) (by decide +kernel)
set_option maxRecDepth 20000 in
theorem gL_law_X9_waits : GoodIn wsL_law (wsV RL 233 RX9 yX9_waits wsX9_waits) := goodIn_app (goodIn_of _ (by decide +kernel)) ggL_law_X9_waits
set_option maxRecDepth 20000 in
theorem ggL_law_L_setReserve : GoodIn wsL_law wsL_setReserve := goodIn_ca (goodIn_r _ [655, 150, 656, 657, 658, 2, 659, 660, 165, 166, 167, 168, 169, 1108, 1109, 1110, 1111, 1112, 1113, 1114, 1115] (by decide +kernel) (by decide +kernel)) (goodIn_sub (fun _ h => List.mem_append_left _ (List.mem_append_left _ (List.mem_append_right _ h))) (by decide +kernel))
set_option maxRecDepth 20000 in
theorem gL_law_L_setReserve : GoodIn wsL_law (va_wsS RL 234 yL_setReserve wsL_setReserve) := goodIn_app (goodIn_of _ (by decide +kernel)) ggL_law_L_setReserve
set_option maxRecDepth 20000 in
theorem ggL_law_X9_setReserve : GoodIn wsL_law wsX9_setReserve := goodIn_r _ [664, 665, 178, 179, 5, 180, 137, 138, 139, 140, 141, 1116, 1117, 1118, 1119, 1120, 1121, 1122, 1123, 1124, 1125, 1126, 1127, 1128, 1129, 1130, 1131, 1132, 1133, 1134, 1135, 1136, 1137, 1138, 1139, 1140, 1141, 1142, 1143, 1144, 1145, 1146, 1147, 1148, 1149, 1150, 1151, 1152, 1153, 1154] (by decide +kernel) (by decide +kernel)
set_option maxRecDepth 20000 in
theorem gL_law_X9_setReserve : GoodIn wsL_law (wsV RL 236 RX9 yX9_setReserve wsX9_setReserve) := goodIn_app (goodIn_of _ (by decide +kernel)) ggL_law_X9_setReserve
set_option maxRecDepth 20000 in
theorem ggL_law_L_setDelay : GoodIn wsL_law wsL_setDelay := goodIn_ca (goodIn_r _ [668, 150, 669, 670, 671, 2, 672, 34, 165, 166, 167, 168, 169, 1108, 1109, 1110, 1111, 1112, 1113, 1114, 1115] (by decide +kernel) (by decide +kernel)) (goodIn_sub (fun _ h => List.mem_append_left _ (List.mem_append_left _ (List.mem_append_right _ h))) (by decide +kernel))
set_option maxRecDepth 20000 in
theorem gL_law_L_setDelay : GoodIn wsL_law (va_wsS RL 237 yL_setDelay wsL_setDelay) := goodIn_app (goodIn_of _ (by decide +kernel)) ggL_law_L_setDelay
set_option maxRecDepth 20000 in
theorem ggL_law_X9_setDelay : GoodIn wsL_law wsX9_setDelay := goodIn_r _ [676, 101, 178, 179, 5, 180, 137, 138, 139, 140, 141, 1116, 1117, 1118, 1119, 1120, 1121, 1122, 1123, 1124, 1125, 1126, 1127, 1128, 1129, 1130, 1131, 1132, 1133, 1134, 1135, 1136, 1137, 1138, 1139, 1140, 1141, 1142, 1143, 1144, 1145, 1146, 1147, 1148, 1149, 1150, 1151, 1152, 1153, 1154] (by decide +kernel) (by decide +kernel)
set_option maxRecDepth 20000 in
theorem gL_law_X9_setDelay : GoodIn wsL_law (wsV RL 239 RX9 yX9_setDelay wsX9_setDelay) := goodIn_app (goodIn_of _ (by decide +kernel)) ggL_law_X9_setDelay
set_option maxRecDepth 20000 in
theorem ggL_law_L_bound : GoodIn wsL_law wsL_bound := goodIn_ca (goodIn_r _ [679, 149, 680, 681, 682, 2, 683, 17, 325, 156, 157, 158, 159, 113, 160, 161, 162, 163, 164, 684, 685, 686, 687, 21, 25, 660, 383, 384, 227, 385, 688, 218, 219, 16, 220, 221, 689, 690, 691, 20, 692, 404, 52, 693, 694, 695, 696, 472, 55, 473, 474, 697, 698, 699, 389, 700, 397, 399, 701, 230, 231, 702, 703, 704, 24, 705, 552, 61, 706, 707, 708, 709, 62, 710, 711, 712, 713, 714, 540, 715, 547, 716, 717, 1108, 1109, 1110, 1111, 1112, 1113, 1114, 1115, 1155, 1156, 1157, 1158, 1159, 1160, 1161, 1162, 1163, 1164, 1165, 1166, 1167, 1168, 1169, 1182, 1183, 1184, 1185, 1186, 1187, 1188, 1189, 1170, 1171, 1172, 1190, 1191, 1192, 1193, 1194] (by decide +kernel) (by decide +kernel)) (goodIn_sub (fun _ h => List.mem_append_left _ (List.mem_append_left _ (List.mem_append_left _ (List.mem_append_right _ h)))) (by decide +kernel))
set_option maxRecDepth 20000 in
theorem gL_law_L_bound : GoodIn wsL_law (va_wsS RL 240 yL_bound wsL_bound) := goodIn_app (goodIn_of _ (by decide +kernel)) ggL_law_L_bound
set_option maxRecDepth 20000 in
theorem ggL_law_X9_bound : GoodIn wsL_law wsX9_bound := goodIn_r _ [721, 174, 175, 176, 5, 177, 136, 178, 179, 180, 137, 138, 139, 140, 141, 254, 255, 256, 257, 78, 258, 259, 260, 261, 197, 81, 79, 80, 253, 230, 227, 231, 722, 723, 724, 725, 266, 726, 727, 728, 729, 409, 85, 87, 557, 92, 94, 95, 665, 730, 384, 385, 731, 732, 733, 734, 91, 83, 1116, 1117, 1118, 1119, 1120, 1121, 1122, 1123, 1124, 1125, 1126, 1127, 1128, 1129, 1130, 1131, 1132, 1133, 1134, 1135, 1136, 1137, 1138, 1139, 1140, 1141, 1142, 1143, 1144, 1145, 1146, 1147, 1148, 1149, 1150, 1151, 1152, 1153, 1154] (by decide +kernel) (by decide +kernel)
set_option maxRecDepth 20000 in
theorem gL_law_X9_bound : GoodIn wsL_law (wsV RL 242 RX9 yX9_bound wsX9_bound) := goodIn_app (goodIn_of _ (by decide +kernel)) ggL_law_X9_bound
set_option maxRecDepth 20000 in
theorem ggL_law_L_demand : GoodIn wsL_law wsL_demand := goodIn_ca (goodIn_r _ [737, 149, 738, 739, 740, 2, 741, 29, 17, 325, 156, 157, 158, 159, 113, 160, 161, 162, 163, 164, 742, 743, 744, 28, 745, 591, 68, 746, 747, 748, 749, 750, 751, 69, 752, 753, 1108, 1109, 1110, 1111, 1112, 1113, 1114, 1115, 1155, 1156, 1157, 1158, 1159, 1160, 1161, 1162, 1163, 1164, 1173, 1174, 1175, 1195, 1196, 1197, 1198, 1199, 1200] (by decide +kernel) (by decide +kernel)) (goodIn_sub (fun _ h => List.mem_append_left _ (List.mem_append_left _ (List.mem_append_left _ (List.mem_append_right _ h)))) (by decide +kernel))
set_option maxRecDepth 20000 in
theorem gL_law_L_demand : GoodIn wsL_law (va_wsS RL 243 yL_demand wsL_demand) := goodIn_app (goodIn_of _ (by decide +kernel)) ggL_law_L_demand
set_option maxRecDepth 20000 in
theorem ggL_law_X9_demand : GoodIn wsL_law wsX9_demand := goodIn_r _ [757, 174, 175, 176, 5, 177, 136, 178, 179, 180, 137, 138, 139, 140, 141, 254, 255, 256, 257, 78, 258, 259, 260, 261, 197, 81, 79, 80, 253, 230, 227, 231, 758, 759, 760, 761, 607, 97, 82, 98, 1116, 1117, 1118, 1119, 1120, 1121, 1122, 1123, 1124, 1125, 1126, 1127, 1128, 1129, 1130, 1131, 1132, 1133, 1134, 1135, 1136, 1137, 1138, 1139, 1140, 1141, 1142, 1143, 1144, 1145, 1146, 1147, 1148, 1149, 1150, 1151, 1152, 1153, 1154] (by decide +kernel) (by decide +kernel)
set_option maxRecDepth 20000 in
theorem gL_law_X9_demand : GoodIn wsL_law (wsV RL 245 RX9 yX9_demand wsX9_demand) := goodIn_app (goodIn_of _ (by decide +kernel)) ggL_law_X9_demand
set_option maxRecDepth 20000 in
theorem ggL_law_L_isKept : GoodIn wsL_law wsL_isKept := goodIn_ca (goodIn_r _ [764, 149, 765, 766, 767, 2, 768, 29, 616, 617, 618, 619, 586, 620, 160, 161, 162, 163, 164, 769, 770, 771, 772, 17, 325, 773, 684, 685, 686, 687, 21, 25, 660, 383, 384, 227, 385, 688, 218, 219, 16, 220, 221, 689, 690, 691, 20, 692, 404, 52, 693, 694, 695, 696, 472, 55, 473, 474, 697, 698, 699, 389, 700, 397, 399, 701, 230, 231, 702, 703, 704, 24, 705, 552, 61, 706, 707, 708, 709, 62, 710, 711, 712, 713, 714, 540, 715, 547, 716, 717, 774, 775, 776, 28, 777, 778, 779, 780, 781, 69, 752, 753, 747, 591, 68, 748, 749, 750, 751, 782, 783, 784, 593, 785, 602, 599, 1108, 1109, 1110, 1111, 1112, 1113, 1114, 1115, 1173, 1174, 1175, 1155, 1156, 1157, 1158, 1159, 1160, 1161, 1162, 1163, 1164, 1195, 1196, 1197, 1198, 1199, 1200, 1165, 1166, 1167, 1168, 1169, 1182, 1183, 1184, 1185, 1186, 1187, 1188, 1189, 1170, 1171, 1172, 1190, 1191, 1192, 1193, 1194] (by decide +kernel) (by decide +kernel)) (goodIn_sub (fun _ h => List.mem_append_left _ (List.mem_append_left _ (List.mem_append_left _ (List.mem_append_right _ h)))) (by decide +kernel))
set_option maxRecDepth 20000 in
theorem gL_law_L_isKept : GoodIn wsL_law (va_wsS RL 246 yL_isKept wsL_isKept) := goodIn_app (goodIn_of _ (by decide +kernel)) ggL_law_L_isKept
set_option maxRecDepth 20000 in
theorem ggL_law_X9_isKept : GoodIn wsL_law wsX9_isKept := goodIn_r _ [789, 258, 259, 260, 5, 261, 136, 78, 197, 81, 79, 80, 253, 230, 227, 231, 625, 626, 627, 628, 607, 178, 179, 180, 137, 138, 139, 140, 141, 790, 791, 792, 793, 97, 98, 794, 795, 796, 797, 99, 722, 723, 724, 725, 266, 726, 727, 728, 729, 409, 85, 87, 557, 92, 94, 95, 665, 730, 384, 385, 731, 732, 733, 734, 91, 83, 1116, 1117, 1118, 1119, 1120, 1121, 1122, 1123, 1124, 1125, 1126, 1127, 1128, 1129, 1130, 1131, 1132, 1133, 1134, 1135, 1136, 1137, 1138, 1139, 1140, 1141, 1142, 1143, 1144, 1145, 1146, 1147, 1148, 1149, 1150, 1151, 1152, 1153, 1154] (by decide +kernel) (by decide +kernel)
set_option maxRecDepth 20000 in
theorem gL_law_X9_isKept : GoodIn wsL_law (wsV RL 248 RX9 yX9_isKept wsX9_isKept) := goodIn_app (goodIn_of _ (by decide +kernel)) ggL_law_X9_isKept
set_option maxRecDepth 20000 in
theorem ggL_law_L_barrier : GoodIn wsL_law wsL_barrier := goodIn_ca (goodIn_ca (goodIn_r _ [800, 149, 285, 801, 802, 803, 2, 804, 29, 17, 325, 773, 805, 806, 807, 808, 290, 291, 616, 617, 618, 619, 586, 620, 160, 161, 162, 163, 164, 769, 770, 771, 772, 684, 685, 686, 687, 21, 25, 660, 383, 384, 227, 385, 688, 218, 219, 16, 220, 221, 689, 690, 691, 20, 692, 404, 52, 693, 694, 695, 696, 472, 55, 473, 474, 697, 698, 699, 389, 700, 397, 399, 701, 230, 231, 702, 703, 704, 24, 705, 552, 61, 706, 707, 708, 709, 62, 710, 711, 712, 713, 714, 540, 715, 547, 716, 717, 774, 775, 776, 28, 777, 778, 779, 780, 781, 69, 752, 753, 747, 591, 68, 748, 749, 750, 751, 782, 783, 784, 593, 785, 602, 599, 809, 810, 811, 812, 813, 1108, 1109, 1110, 1111, 1112, 1113, 1114, 1115, 1155, 1156, 1157, 1158, 1159, 1160, 1161, 1162, 1163, 1164, 1195, 1196, 1197, 1198, 1199, 1200, 1173, 1174, 1175, 1165, 1166, 1167, 1168, 1169, 1182, 1183, 1184, 1185, 1186, 1187, 1188, 1189, 1170, 1171, 1172, 1190, 1191, 1192, 1193, 1194] (by decide +kernel) (by decide +kernel)) (goodIn_sub (fun _ h => List.mem_append_right _ h) (by decide +kernel))) (goodIn_sub (fun _ h => List.mem_append_left _ (List.mem_append_left _ (List.mem_append_left _ (List.mem_append_right _ h)))) (by decide +kernel))
set_option maxRecDepth 20000 in
theorem gL_law_L_barrier : GoodIn wsL_law (va_wsS RL 249 yL_barrier wsL_barrier) := goodIn_app (goodIn_of _ (by decide +kernel)) ggL_law_L_barrier
set_option maxRecDepth 20000 in
theorem ggL_law_X9_barrier : GoodIn wsL_law wsX9_barrier := goodIn_r _ [817, 258, 259, 260, 5, 261, 136, 78, 197, 81, 79, 80, 253, 230, 227, 231, 625, 626, 627, 628, 607, 178, 179, 180, 137, 138, 139, 140, 141, 790, 791, 792, 793, 97, 98, 794, 795, 796, 797, 99, 722, 723, 724, 725, 266, 726, 727, 728, 729, 409, 85, 87, 557, 92, 94, 95, 665, 730, 384, 385, 731, 732, 733, 734, 91, 83, 818, 819, 820, 821, 1116, 1117, 1118, 1119, 1120, 1121, 1122, 1123, 1124, 1125, 1126, 1127, 1128, 1129, 1130, 1131, 1132, 1133, 1134, 1135, 1136, 1137, 1138, 1139, 1140, 1141, 1142, 1143, 1144, 1145, 1146, 1147, 1148, 1149, 1150, 1151, 1152, 1153, 1154] (by decide +kernel) (by decide +kernel)
set_option maxRecDepth 20000 in
theorem gL_law_X9_barrier : GoodIn wsL_law (wsV RL 251 RX9 yX9_barrier wsX9_barrier) := goodIn_app (goodIn_of _ (by decide +kernel)) ggL_law_X9_barrier
set_option maxRecDepth 20000 in
theorem ggL_law_L_behind : GoodIn wsL_law wsL_behind := goodIn_ca (goodIn_ca (goodIn_r _ [824, 149, 285, 825, 826, 827, 2, 828, 29, 805, 806, 807, 808, 290, 291, 616, 617, 618, 619, 586, 620, 160, 161, 162, 163, 164, 769, 770, 771, 772, 17, 325, 773, 684, 685, 686, 687, 21, 25, 660, 383, 384, 227, 385, 688, 218, 219, 16, 220, 221, 689, 690, 691, 20, 692, 404, 52, 693, 694, 695, 696, 472, 55, 473, 474, 697, 698, 699, 389, 700, 397, 399, 701, 230, 231, 702, 703, 704, 24, 705, 552, 61, 706, 707, 708, 709, 62, 710, 711, 712, 713, 714, 540, 715, 547, 716, 717, 774, 775, 776, 28, 777, 778, 779, 780, 781, 69, 752, 753, 747, 591, 68, 748, 749, 750, 751, 782, 783, 784, 593, 785, 602, 599, 829, 830, 831, 832, 813, 1108, 1109, 1110, 1111, 1112, 1113, 1114, 1115, 1173, 1174, 1175, 1155, 1156, 1157, 1158, 1159, 1160, 1161, 1162, 1163, 1164, 1195, 1196, 1197, 1198, 1199, 1200, 1165, 1166, 1167, 1168, 1169, 1182, 1183, 1184, 1185, 1186, 1187, 1188, 1189, 1170, 1171, 1172, 1190, 1191, 1192, 1193, 1194] (by decide +kernel) (by decide +kernel)) (goodIn_sub (fun _ h => List.mem_append_right _ h) (by decide +kernel))) (goodIn_sub (fun _ h => List.mem_append_left _ (List.mem_append_left _ (List.mem_append_left _ (List.mem_append_right _ h)))) (by decide +kernel))
