theorem dX9_addStore_47 : decode cX9_addStore 47 = .ok (.iconst 4, 1) := by decide +kernel
theorem dX9_addStore_48 : decode cX9_addStore 48 = .ok (.if_icmp .ne 7, 3) := by decide +kernel
theorem dX9_addStore_51 : decode cX9_addStore 51 = .ok (.iconst 1, 1) := by decide +kernel
theorem dX9_addStore_52 : decode cX9_addStore 52 = .ok (.goto 4, 3) := by decide +kernel
theorem dX9_addStore_55 : decode cX9_addStore 55 = .ok (.iconst 0, 1) := by decide +kernel
theorem dX9_addStore_56 : decode cX9_addStore 56 = .ok (.iconst 3, 1) := by decide +kernel
theorem dX9_addStore_57 : decode cX9_addStore 57 = .ok (.invokevirtual 95, 3) := by decide +kernel
theorem dX9_addStore_60 : decode cX9_addStore 60 = .ok (.ifCond .eq 5, 3) := by decide +kernel
theorem dX9_addStore_63 : decode cX9_addStore 63 = .ok (.iconst 0, 1) := by decide +kernel
theorem dX9_addStore_64 : decode cX9_addStore 64 = .ok (.ireturn, 1) := by decide +kernel
theorem dX9_addStore_65 : decode cX9_addStore 65 = .ok (.aload_n 0, 1) := by decide +kernel
theorem dX9_addStore_66 : decode cX9_addStore 66 = .ok (.getfield 54, 3) := by decide +kernel
theorem dX9_addStore_69 : decode cX9_addStore 69 = .ok (.aload_n 0, 1) := by decide +kernel
theorem dX9_addStore_70 : decode cX9_addStore 70 = .ok (.getfield 105, 3) := by decide +kernel
theorem dX9_addStore_73 : decode cX9_addStore 73 = .ok (.iload_n 1, 1) := by decide +kernel
theorem dX9_addStore_74 : decode cX9_addStore 74 = .ok (.iastore, 1) := by decide +kernel
theorem dX9_addStore_75 : decode cX9_addStore 75 = .ok (.aload_n 0, 1) := by decide +kernel
theorem dX9_addStore_76 : decode cX9_addStore 76 = .ok (.getfield 57, 3) := by decide +kernel
theorem dX9_addStore_79 : decode cX9_addStore 79 = .ok (.aload_n 0, 1) := by decide +kernel
theorem dX9_addStore_80 : decode cX9_addStore 80 = .ok (.getfield 105, 3) := by decide +kernel
theorem dX9_addStore_83 : decode cX9_addStore 83 = .ok (.iload_n 2, 1) := by decide +kernel
theorem dX9_addStore_84 : decode cX9_addStore 84 = .ok (.iastore, 1) := by decide +kernel
theorem dX9_addStore_85 : decode cX9_addStore 85 = .ok (.aload_n 0, 1) := by decide +kernel
theorem dX9_addStore_86 : decode cX9_addStore 86 = .ok (.getfield 60, 3) := by decide +kernel
theorem dX9_addStore_89 : decode cX9_addStore 89 = .ok (.aload_n 0, 1) := by decide +kernel
theorem dX9_addStore_90 : decode cX9_addStore 90 = .ok (.getfield 105, 3) := by decide +kernel
theorem dX9_addStore_93 : decode cX9_addStore 93 = .ok (.iload_n 3, 1) := by decide +kernel
theorem dX9_addStore_94 : decode cX9_addStore 94 = .ok (.iastore, 1) := by decide +kernel
theorem dX9_addStore_95 : decode cX9_addStore 95 = .ok (.aload_n 0, 1) := by decide +kernel
theorem dX9_addStore_96 : decode cX9_addStore 96 = .ok (.dup, 1) := by decide +kernel
theorem dX9_addStore_97 : decode cX9_addStore 97 = .ok (.getfield 105, 3) := by decide +kernel
theorem dX9_addStore_100 : decode cX9_addStore 100 = .ok (.iconst 1, 1) := by decide +kernel
theorem dX9_addStore_101 : decode cX9_addStore 101 = .ok (.iadd, 1) := by decide +kernel
theorem dX9_addStore_102 : decode cX9_addStore 102 = .ok (.putfield 105, 3) := by decide +kernel
theorem dX9_addStore_105 : decode cX9_addStore 105 = .ok (.aload_n 0, 1) := by decide +kernel
theorem dX9_addStore_106 : decode cX9_addStore 106 = .ok (.getfield 105, 3) := by decide +kernel
theorem dX9_addStore_109 : decode cX9_addStore 109 = .ok (.iconst 1, 1) := by decide +kernel
theorem dX9_addStore_110 : decode cX9_addStore 110 = .ok (.isub, 1) := by decide +kernel
theorem dX9_addStore_111 : decode cX9_addStore 111 = .ok (.ireturn, 1) := by decide +kernel
set_option maxRecDepth 20000 in
theorem ggX9_charge_X9_isNoStore : GoodIn wsX9_charge wsX9_isNoStore := goodIn_r _ [6, 7, 8, 9, 5, 10, 11, 12, 13, 14, 15, 16, 17, 18, 19, 20, 21, 22, 23, 24, 25, 26, 27, 28, 29, 30, 31, 32, 33, 34, 35, 36, 37, 38, 39, 40, 41, 42, 43, 44, 45, 46, 47, 48, 49, 50, 51, 52, 53, 54] (by decide +kernel) (by decide +kernel)
set_option maxRecDepth 20000 in
theorem gX9_charge_X9_isNoStore : GoodIn wsX9_charge (wsV RX9 162 RX9 yX9_isNoStore wsX9_isNoStore) := goodIn_app (goodIn_of _ (by decide +kernel)) ggX9_charge_X9_isNoStore
theorem dX9_charge_0 : decode cX9_charge 0 = .ok (.aload_n 0, 1) := by decide +kernel
theorem dX9_charge_1 : decode cX9_charge 1 = .ok (.iload_n 1, 1) := by decide +kernel
theorem dX9_charge_2 : decode cX9_charge 2 = .ok (.invokevirtual 162, 3) := by decide +kernel
theorem dX9_charge_5 : decode cX9_charge 5 = .ok (.ifCond .eq 7, 3) := by decide +kernel
theorem dX9_charge_8 : decode cX9_charge 8 = .ok (.iconst 0, 1) := by decide +kernel
theorem dX9_charge_9 : decode cX9_charge 9 = .ok (.goto 9, 3) := by decide +kernel
theorem dX9_charge_12 : decode cX9_charge 12 = .ok (.aload_n 0, 1) := by decide +kernel
theorem dX9_charge_13 : decode cX9_charge 13 = .ok (.getfield 63, 3) := by decide +kernel
theorem dX9_charge_16 : decode cX9_charge 16 = .ok (.iload_n 1, 1) := by decide +kernel
theorem dX9_charge_17 : decode cX9_charge 17 = .ok (.iaload, 1) := by decide +kernel
theorem dX9_charge_18 : decode cX9_charge 18 = .ok (.ireturn, 1) := by decide +kernel
set_option maxRecDepth 20000 in
theorem ggX9_addLoad_X9_isNoSite : GoodIn wsX9_addLoad wsX9_isNoSite := goodIn_r _ [9, 10, 11, 12, 8, 13, 14, 15, 16, 17, 18, 19, 20, 21, 22, 23, 24, 25, 26, 27, 28, 29, 30, 31, 32, 33, 34, 35, 36, 37, 38, 39, 40, 41, 42, 43, 44, 45, 46, 47, 48, 49, 50, 51, 52, 53, 54, 55, 56, 57] (by decide +kernel) (by decide +kernel)
set_option maxRecDepth 20000 in
theorem gX9_addLoad_X9_isNoSite : GoodIn wsX9_addLoad (wsV RX9 111 RX9 yX9_isNoSite wsX9_isNoSite) := goodIn_app (goodIn_of _ (by decide +kernel)) ggX9_addLoad_X9_isNoSite
set_option maxRecDepth 20000 in
theorem ggX9_addLoad_X9_isIn : GoodIn wsX9_addLoad wsX9_isIn := goodIn_r _ [13] (by decide +kernel) (by decide +kernel)
set_option maxRecDepth 20000 in
theorem gX9_addLoad_X9_isIn : GoodIn wsX9_addLoad (va_wsS RX9 91 yX9_isIn wsX9_isIn) := goodIn_app (goodIn_of _ (by decide +kernel)) ggX9_addLoad_X9_isIn
set_option maxRecDepth 20000 in
theorem ggX9_addLoad_X9_isThrown : GoodIn wsX9_addLoad wsX9_isThrown := goodIn_r _ [17, 18, 19, 20, 21, 22, 23, 24, 25, 26, 27, 28, 29, 30, 31, 32, 33, 34, 35, 36, 37, 38, 39, 40, 41, 42, 43, 44, 45, 46, 47, 48, 49, 50, 51, 52, 53, 54, 55, 56, 57] (by decide +kernel) (by decide +kernel)
set_option maxRecDepth 20000 in
theorem gX9_addLoad_X9_isThrown : GoodIn wsX9_addLoad (wsV RX9 95 RX9 yX9_isThrown wsX9_isThrown) := goodIn_app (goodIn_of _ (by decide +kernel)) ggX9_addLoad_X9_isThrown
theorem dX9_addLoad_0 : decode cX9_addLoad 0 = .ok (.aload_n 0, 1) := by decide +kernel
theorem dX9_addLoad_1 : decode cX9_addLoad 1 = .ok (.iload_n 1, 1) := by decide +kernel
theorem dX9_addLoad_2 : decode cX9_addLoad 2 = .ok (.invokevirtual 111, 3) := by decide +kernel
theorem dX9_addLoad_5 : decode cX9_addLoad 5 = .ok (.ifCond .ne 59, 3) := by decide +kernel
theorem dX9_addLoad_8 : decode cX9_addLoad 8 = .ok (.aload_n 0, 1) := by decide +kernel
theorem dX9_addLoad_9 : decode cX9_addLoad 9 = .ok (.iload_n 2, 1) := by decide +kernel
theorem dX9_addLoad_10 : decode cX9_addLoad 10 = .ok (.iconst 1, 1) := by decide +kernel
theorem dX9_addLoad_11 : decode cX9_addLoad 11 = .ok (.sipush 200, 3) := by decide +kernel
theorem dX9_addLoad_14 : decode cX9_addLoad 14 = .ok (.invokestatic 91, 3) := by decide +kernel
theorem dX9_addLoad_17 : decode cX9_addLoad 17 = .ok (.ifCond .eq 13, 3) := by decide +kernel
theorem dX9_addLoad_20 : decode cX9_addLoad 20 = .ok (.iload_n 3, 1) := by decide +kernel
theorem dX9_addLoad_21 : decode cX9_addLoad 21 = .ok (.iconst 1, 1) := by decide +kernel
theorem dX9_addLoad_22 : decode cX9_addLoad 22 = .ok (.bipush 9, 2) := by decide +kernel
theorem dX9_addLoad_24 : decode cX9_addLoad 24 = .ok (.invokestatic 91, 3) := by decide +kernel
theorem dX9_addLoad_27 : decode cX9_addLoad 27 = .ok (.ifCond .ne 7, 3) := by decide +kernel
theorem dX9_addLoad_30 : decode cX9_addLoad 30 = .ok (.iconst 1, 1) := by decide +kernel
theorem dX9_addLoad_31 : decode cX9_addLoad 31 = .ok (.goto 4, 3) := by decide +kernel
theorem dX9_addLoad_34 : decode cX9_addLoad 34 = .ok (.iconst 0, 1) := by decide +kernel
theorem dX9_addLoad_35 : decode cX9_addLoad 35 = .ok (.iconst 2, 1) := by decide +kernel
theorem dX9_addLoad_36 : decode cX9_addLoad 36 = .ok (.invokevirtual 95, 3) := by decide +kernel
theorem dX9_addLoad_39 : decode cX9_addLoad 39 = .ok (.ifCond .ne 25, 3) := by decide +kernel
theorem dX9_addLoad_42 : decode cX9_addLoad 42 = .ok (.aload_n 0, 1) := by decide +kernel
theorem dX9_addLoad_43 : decode cX9_addLoad 43 = .ok (.aload_n 0, 1) := by decide +kernel
theorem dX9_addLoad_44 : decode cX9_addLoad 44 = .ok (.getfield 108, 3) := by decide +kernel
theorem dX9_addLoad_47 : decode cX9_addLoad 47 = .ok (.bipush 10, 2) := by decide +kernel
theorem dX9_addLoad_49 : decode cX9_addLoad 49 = .ok (.if_icmp .ne 7, 3) := by decide +kernel
theorem dX9_addLoad_52 : decode cX9_addLoad 52 = .ok (.iconst 1, 1) := by decide +kernel
theorem dX9_addLoad_53 : decode cX9_addLoad 53 = .ok (.goto 4, 3) := by decide +kernel
theorem dX9_addLoad_56 : decode cX9_addLoad 56 = .ok (.iconst 0, 1) := by decide +kernel
theorem dX9_addLoad_57 : decode cX9_addLoad 57 = .ok (.iconst 3, 1) := by decide +kernel
theorem dX9_addLoad_58 : decode cX9_addLoad 58 = .ok (.invokevirtual 95, 3) := by decide +kernel
theorem dX9_addLoad_61 : decode cX9_addLoad 61 = .ok (.ifCond .eq 5, 3) := by decide +kernel
theorem dX9_addLoad_64 : decode cX9_addLoad 64 = .ok (.iconst 0, 1) := by decide +kernel
theorem dX9_addLoad_65 : decode cX9_addLoad 65 = .ok (.ireturn, 1) := by decide +kernel
theorem dX9_addLoad_66 : decode cX9_addLoad 66 = .ok (.aload_n 0, 1) := by decide +kernel
theorem dX9_addLoad_67 : decode cX9_addLoad 67 = .ok (.getfield 69, 3) := by decide +kernel
theorem dX9_addLoad_70 : decode cX9_addLoad 70 = .ok (.aload_n 0, 1) := by decide +kernel
theorem dX9_addLoad_71 : decode cX9_addLoad 71 = .ok (.getfield 108, 3) := by decide +kernel
theorem dX9_addLoad_74 : decode cX9_addLoad 74 = .ok (.iload_n 1, 1) := by decide +kernel
theorem dX9_addLoad_75 : decode cX9_addLoad 75 = .ok (.iastore, 1) := by decide +kernel
theorem dX9_addLoad_76 : decode cX9_addLoad 76 = .ok (.aload_n 0, 1) := by decide +kernel
theorem dX9_addLoad_77 : decode cX9_addLoad 77 = .ok (.getfield 72, 3) := by decide +kernel
theorem dX9_addLoad_80 : decode cX9_addLoad 80 = .ok (.aload_n 0, 1) := by decide +kernel
theorem dX9_addLoad_81 : decode cX9_addLoad 81 = .ok (.getfield 108, 3) := by decide +kernel
theorem dX9_addLoad_84 : decode cX9_addLoad 84 = .ok (.iload_n 2, 1) := by decide +kernel
theorem dX9_addLoad_85 : decode cX9_addLoad 85 = .ok (.iastore, 1) := by decide +kernel
theorem dX9_addLoad_86 : decode cX9_addLoad 86 = .ok (.aload_n 0, 1) := by decide +kernel
theorem dX9_addLoad_87 : decode cX9_addLoad 87 = .ok (.getfield 75, 3) := by decide +kernel
theorem dX9_addLoad_90 : decode cX9_addLoad 90 = .ok (.aload_n 0, 1) := by decide +kernel
theorem dX9_addLoad_91 : decode cX9_addLoad 91 = .ok (.getfield 108, 3) := by decide +kernel
theorem dX9_addLoad_94 : decode cX9_addLoad 94 = .ok (.iload_n 3, 1) := by decide +kernel
theorem dX9_addLoad_95 : decode cX9_addLoad 95 = .ok (.iastore, 1) := by decide +kernel
theorem dX9_addLoad_96 : decode cX9_addLoad 96 = .ok (.aload_n 0, 1) := by decide +kernel
theorem dX9_addLoad_97 : decode cX9_addLoad 97 = .ok (.dup, 1) := by decide +kernel
theorem dX9_addLoad_98 : decode cX9_addLoad 98 = .ok (.getfield 108, 3) := by decide +kernel
theorem dX9_addLoad_101 : decode cX9_addLoad 101 = .ok (.iconst 1, 1) := by decide +kernel
theorem dX9_addLoad_102 : decode cX9_addLoad 102 = .ok (.iadd, 1) := by decide +kernel
theorem dX9_addLoad_103 : decode cX9_addLoad 103 = .ok (.putfield 108, 3) := by decide +kernel
theorem dX9_addLoad_106 : decode cX9_addLoad 106 = .ok (.aload_n 0, 1) := by decide +kernel
theorem dX9_addLoad_107 : decode cX9_addLoad 107 = .ok (.getfield 108, 3) := by decide +kernel
theorem dX9_addLoad_110 : decode cX9_addLoad 110 = .ok (.iconst 1, 1) := by decide +kernel
theorem dX9_addLoad_111 : decode cX9_addLoad 111 = .ok (.isub, 1) := by decide +kernel
theorem dX9_addLoad_112 : decode cX9_addLoad 112 = .ok (.ireturn, 1) := by decide +kernel
set_option maxRecDepth 20000 in
theorem ggX9_setRank_X9_isNoLoad : GoodIn wsX9_setRank wsX9_isNoLoad := goodIn_r _ [6, 7, 8, 9, 5, 10, 11, 12, 13, 14, 15, 16, 17, 18, 19, 20, 21, 22, 23, 24, 25, 26, 27, 28, 29, 30, 31, 32, 33, 34, 35, 36, 37, 38, 39, 40, 41, 42, 43, 44, 45, 46, 47, 48, 49, 50, 51, 52, 53, 54] (by decide +kernel) (by decide +kernel)
set_option maxRecDepth 20000 in
theorem gX9_setRank_X9_isNoLoad : GoodIn wsX9_setRank (wsV RX9 165 RX9 yX9_isNoLoad wsX9_isNoLoad) := goodIn_app (goodIn_of _ (by decide +kernel)) ggX9_setRank_X9_isNoLoad
set_option maxRecDepth 20000 in
theorem ggX9_setRank_X9_isIn : GoodIn wsX9_setRank wsX9_isIn := goodIn_r _ [10] (by decide +kernel) (by decide +kernel)
set_option maxRecDepth 20000 in
theorem gX9_setRank_X9_isIn : GoodIn wsX9_setRank (va_wsS RX9 91 yX9_isIn wsX9_isIn) := goodIn_app (goodIn_of _ (by decide +kernel)) ggX9_setRank_X9_isIn
set_option maxRecDepth 20000 in
theorem ggX9_setRank_X9_isThrown : GoodIn wsX9_setRank wsX9_isThrown := goodIn_r _ [14, 15, 16, 17, 18, 19, 20, 21, 22, 23, 24, 25, 26, 27, 28, 29, 30, 31, 32, 33, 34, 35, 36, 37, 38, 39, 40, 41, 42, 43, 44, 45, 46, 47, 48, 49, 50, 51, 52, 53, 54] (by decide +kernel) (by decide +kernel)
set_option maxRecDepth 20000 in
theorem gX9_setRank_X9_isThrown : GoodIn wsX9_setRank (wsV RX9 95 RX9 yX9_isThrown wsX9_isThrown) := goodIn_app (goodIn_of _ (by decide +kernel)) ggX9_setRank_X9_isThrown
theorem dX9_setRank_0 : decode cX9_setRank 0 = .ok (.aload_n 0, 1) := by decide +kernel
theorem dX9_setRank_1 : decode cX9_setRank 1 = .ok (.iload_n 1, 1) := by decide +kernel
theorem dX9_setRank_2 : decode cX9_setRank 2 = .ok (.invokevirtual 165, 3) := by decide +kernel
theorem dX9_setRank_5 : decode cX9_setRank 5 = .ok (.ifCond .ne 26, 3) := by decide +kernel
theorem dX9_setRank_8 : decode cX9_setRank 8 = .ok (.aload_n 0, 1) := by decide +kernel
theorem dX9_setRank_9 : decode cX9_setRank 9 = .ok (.iload_n 2, 1) := by decide +kernel
theorem dX9_setRank_10 : decode cX9_setRank 10 = .ok (.iconst 1, 1) := by decide +kernel
theorem dX9_setRank_11 : decode cX9_setRank 11 = .ok (.bipush 9, 2) := by decide +kernel
theorem dX9_setRank_13 : decode cX9_setRank 13 = .ok (.invokestatic 91, 3) := by decide +kernel
theorem dX9_setRank_16 : decode cX9_setRank 16 = .ok (.ifCond .ne 7, 3) := by decide +kernel
theorem dX9_setRank_19 : decode cX9_setRank 19 = .ok (.iconst 1, 1) := by decide +kernel
theorem dX9_setRank_20 : decode cX9_setRank 20 = .ok (.goto 4, 3) := by decide +kernel
theorem dX9_setRank_23 : decode cX9_setRank 23 = .ok (.iconst 0, 1) := by decide +kernel
theorem dX9_setRank_24 : decode cX9_setRank 24 = .ok (.iconst 2, 1) := by decide +kernel
theorem dX9_setRank_25 : decode cX9_setRank 25 = .ok (.invokevirtual 95, 3) := by decide +kernel
theorem dX9_setRank_28 : decode cX9_setRank 28 = .ok (.ifCond .eq 5, 3) := by decide +kernel
theorem dX9_setRank_31 : decode cX9_setRank 31 = .ok (.iconst 0, 1) := by decide +kernel
theorem dX9_setRank_32 : decode cX9_setRank 32 = .ok (.ireturn, 1) := by decide +kernel
theorem dX9_setRank_33 : decode cX9_setRank 33 = .ok (.aload_n 0, 1) := by decide +kernel
theorem dX9_setRank_34 : decode cX9_setRank 34 = .ok (.getfield 75, 3) := by decide +kernel
theorem dX9_setRank_37 : decode cX9_setRank 37 = .ok (.iload_n 1, 1) := by decide +kernel
theorem dX9_setRank_38 : decode cX9_setRank 38 = .ok (.iaload, 1) := by decide +kernel
theorem dX9_setRank_39 : decode cX9_setRank 39 = .ok (.istore_n 3, 1) := by decide +kernel
theorem dX9_setRank_40 : decode cX9_setRank 40 = .ok (.aload_n 0, 1) := by decide +kernel
theorem dX9_setRank_41 : decode cX9_setRank 41 = .ok (.getfield 75, 3) := by decide +kernel
theorem dX9_setRank_44 : decode cX9_setRank 44 = .ok (.iload_n 1, 1) := by decide +kernel
theorem dX9_setRank_45 : decode cX9_setRank 45 = .ok (.iload_n 2, 1) := by decide +kernel
theorem dX9_setRank_46 : decode cX9_setRank 46 = .ok (.iastore, 1) := by decide +kernel
theorem dX9_setRank_47 : decode cX9_setRank 47 = .ok (.iload_n 3, 1) := by decide +kernel
theorem dX9_setRank_48 : decode cX9_setRank 48 = .ok (.ireturn, 1) := by decide +kernel
set_option maxRecDepth 20000 in
theorem ggX9_isLit_X9_isNoLoad : GoodIn wsX9_isLit wsX9_isNoLoad := goodIn_r _ [6, 7, 8, 9, 5, 10, 11, 12, 13, 14, 15, 16, 17, 18, 19, 20, 21, 22, 23, 24, 25, 26, 27, 28, 29, 30, 31, 32, 33, 34, 35, 36, 37, 38, 39, 40, 41, 42, 43, 44, 45, 46, 47, 48, 49, 50, 51, 52, 53, 54] (by decide +kernel) (by decide +kernel)
set_option maxRecDepth 20000 in
theorem gX9_isLit_X9_isNoLoad : GoodIn wsX9_isLit (wsV RX9 165 RX9 yX9_isNoLoad wsX9_isNoLoad) := goodIn_app (goodIn_of _ (by decide +kernel)) ggX9_isLit_X9_isNoLoad
theorem dX9_isLit_0 : decode cX9_isLit 0 = .ok (.aload_n 0, 1) := by decide +kernel
theorem dX9_isLit_1 : decode cX9_isLit 1 = .ok (.iload_n 1, 1) := by decide +kernel
theorem dX9_isLit_2 : decode cX9_isLit 2 = .ok (.invokevirtual 165, 3) := by decide +kernel
theorem dX9_isLit_5 : decode cX9_isLit 5 = .ok (.ifCond .ne 16, 3) := by decide +kernel
theorem dX9_isLit_8 : decode cX9_isLit 8 = .ok (.aload_n 0, 1) := by decide +kernel
theorem dX9_isLit_9 : decode cX9_isLit 9 = .ok (.getfield 26, 3) := by decide +kernel
theorem dX9_isLit_12 : decode cX9_isLit 12 = .ok (.iload_n 1, 1) := by decide +kernel
theorem dX9_isLit_13 : decode cX9_isLit 13 = .ok (.baload, 1) := by decide +kernel
theorem dX9_isLit_14 : decode cX9_isLit 14 = .ok (.ifCond .ne 7, 3) := by decide +kernel
theorem dX9_isLit_17 : decode cX9_isLit 17 = .ok (.iconst 1, 1) := by decide +kernel
theorem dX9_isLit_18 : decode cX9_isLit 18 = .ok (.goto 4, 3) := by decide +kernel
theorem dX9_isLit_21 : decode cX9_isLit 21 = .ok (.iconst 0, 1) := by decide +kernel
theorem dX9_isLit_22 : decode cX9_isLit 22 = .ok (.ireturn, 1) := by decide +kernel
set_option maxRecDepth 20000 in
theorem ggX9_waits_X9_isNoLoad : GoodIn wsX9_waits wsX9_isNoLoad := goodIn_r _ [7, 8, 9, 10, 6, 11, 12, 13, 14, 15, 16, 17, 18, 19, 20, 21, 22, 23, 24, 25, 26, 27, 28, 29, 30, 31, 32, 33, 34, 35, 36, 37, 38, 39, 40, 41, 42, 43, 44, 45, 46, 47, 48, 49, 50, 51, 52, 53, 54, 55] (by decide +kernel) (by decide +kernel)
set_option maxRecDepth 20000 in
theorem gX9_waits_X9_isNoLoad : GoodIn wsX9_waits (wsV RX9 165 RX9 yX9_isNoLoad wsX9_isNoLoad) := goodIn_app (goodIn_of _ (by decide +kernel)) ggX9_waits_X9_isNoLoad
set_option maxRecDepth 20000 in
theorem ggX9_waits_X9_isThrown : GoodIn wsX9_waits wsX9_isThrown := goodIn_r _ [15, 16, 17, 18, 19, 20, 21, 22, 23, 24, 25, 26, 27, 28, 29, 30, 31, 32, 33, 34, 35, 36, 37, 38, 39, 40, 41, 42, 43, 44, 45, 46, 47, 48, 49, 50, 51, 52, 53, 54, 55] (by decide +kernel) (by decide +kernel)
set_option maxRecDepth 20000 in
theorem gX9_waits_X9_isThrown : GoodIn wsX9_waits (wsV RX9 95 RX9 yX9_isThrown wsX9_isThrown) := goodIn_app (goodIn_of _ (by decide +kernel)) ggX9_waits_X9_isThrown
theorem dX9_waits_0 : decode cX9_waits 0 = .ok (.aload_n 0, 1) := by decide +kernel
theorem dX9_waits_1 : decode cX9_waits 1 = .ok (.iload_n 1, 1) := by decide +kernel
theorem dX9_waits_2 : decode cX9_waits 2 = .ok (.invokevirtual 165, 3) := by decide +kernel
theorem dX9_waits_5 : decode cX9_waits 5 = .ok (.ifCond .ne 25, 3) := by decide +kernel
theorem dX9_waits_8 : decode cX9_waits 8 = .ok (.aload_n 0, 1) := by decide +kernel
theorem dX9_waits_9 : decode cX9_waits 9 = .ok (.aload_n 0, 1) := by decide +kernel
theorem dX9_waits_10 : decode cX9_waits 10 = .ok (.getfield 26, 3) := by decide +kernel
theorem dX9_waits_13 : decode cX9_waits 13 = .ok (.iload_n 1, 1) := by decide +kernel
theorem dX9_waits_14 : decode cX9_waits 14 = .ok (.baload, 1) := by decide +kernel
theorem dX9_waits_15 : decode cX9_waits 15 = .ok (.ifCond .ne 7, 3) := by decide +kernel
theorem dX9_waits_18 : decode cX9_waits 18 = .ok (.iconst 1, 1) := by decide +kernel
theorem dX9_waits_19 : decode cX9_waits 19 = .ok (.goto 4, 3) := by decide +kernel
theorem dX9_waits_22 : decode cX9_waits 22 = .ok (.iconst 0, 1) := by decide +kernel
theorem dX9_waits_23 : decode cX9_waits 23 = .ok (.iconst 2, 1) := by decide +kernel
theorem dX9_waits_24 : decode cX9_waits 24 = .ok (.invokevirtual 95, 3) := by decide +kernel
theorem dX9_waits_27 : decode cX9_waits 27 = .ok (.ifCond .eq 7, 3) := by decide +kernel
theorem dX9_waits_30 : decode cX9_waits 30 = .ok (.iconst 0, 1) := by decide +kernel
theorem dX9_waits_31 : decode cX9_waits 31 = .ok (.goto 9, 3) := by decide +kernel
theorem dX9_waits_34 : decode cX9_waits 34 = .ok (.aload_n 0, 1) := by decide +kernel
theorem dX9_waits_35 : decode cX9_waits 35 = .ok (.getfield 78, 3) := by decide +kernel
theorem dX9_waits_38 : decode cX9_waits 38 = .ok (.iload_n 1, 1) := by decide +kernel
theorem dX9_waits_39 : decode cX9_waits 39 = .ok (.iaload, 1) := by decide +kernel
theorem dX9_waits_40 : decode cX9_waits 40 = .ok (.ireturn, 1) := by decide +kernel
set_option maxRecDepth 20000 in
theorem ggX9_setReserve_X9_isIn : GoodIn wsX9_setReserve wsX9_isIn := goodIn_r _ [5] (by decide +kernel) (by decide +kernel)
set_option maxRecDepth 20000 in
theorem gX9_setReserve_X9_isIn : GoodIn wsX9_setReserve (va_wsS RX9 91 yX9_isIn wsX9_isIn) := goodIn_app (goodIn_of _ (by decide +kernel)) ggX9_setReserve_X9_isIn
set_option maxRecDepth 20000 in
theorem ggX9_setReserve_X9_isThrown : GoodIn wsX9_setReserve wsX9_isThrown := goodIn_r _ [9, 10, 11, 12, 13, 14, 15, 16, 17, 18, 19, 20, 21, 22, 23, 24, 25, 26, 27, 28, 29, 30, 31, 32, 33, 34, 35, 36, 37, 38, 39, 40, 41, 42, 43, 44, 45, 46, 47, 48, 49] (by decide +kernel) (by decide +kernel)
set_option maxRecDepth 20000 in
theorem gX9_setReserve_X9_isThrown : GoodIn wsX9_setReserve (wsV RX9 95 RX9 yX9_isThrown wsX9_isThrown) := goodIn_app (goodIn_of _ (by decide +kernel)) ggX9_setReserve_X9_isThrown
theorem dX9_setReserve_0 : decode cX9_setReserve 0 = .ok (.aload_n 0, 1) := by decide +kernel
theorem dX9_setReserve_1 : decode cX9_setReserve 1 = .ok (.iload_n 1, 1) := by decide +kernel
theorem dX9_setReserve_2 : decode cX9_setReserve 2 = .ok (.iconst 0, 1) := by decide +kernel
theorem dX9_setReserve_3 : decode cX9_setReserve 3 = .ok (.sipush 999, 3) := by decide +kernel
theorem dX9_setReserve_6 : decode cX9_setReserve 6 = .ok (.invokestatic 91, 3) := by decide +kernel
theorem dX9_setReserve_9 : decode cX9_setReserve 9 = .ok (.ifCond .ne 7, 3) := by decide +kernel
theorem dX9_setReserve_12 : decode cX9_setReserve 12 = .ok (.iconst 1, 1) := by decide +kernel
theorem dX9_setReserve_13 : decode cX9_setReserve 13 = .ok (.goto 4, 3) := by decide +kernel
theorem dX9_setReserve_16 : decode cX9_setReserve 16 = .ok (.iconst 0, 1) := by decide +kernel
theorem dX9_setReserve_17 : decode cX9_setReserve 17 = .ok (.iconst 1, 1) := by decide +kernel
theorem dX9_setReserve_18 : decode cX9_setReserve 18 = .ok (.invokevirtual 95, 3) := by decide +kernel
theorem dX9_setReserve_21 : decode cX9_setReserve 21 = .ok (.ifCond .eq 5, 3) := by decide +kernel
theorem dX9_setReserve_24 : decode cX9_setReserve 24 = .ok (.iconst 0, 1) := by decide +kernel
theorem dX9_setReserve_25 : decode cX9_setReserve 25 = .ok (.ireturn, 1) := by decide +kernel
theorem dX9_setReserve_26 : decode cX9_setReserve 26 = .ok (.aload_n 0, 1) := by decide +kernel
theorem dX9_setReserve_27 : decode cX9_setReserve 27 = .ok (.getfield 168, 3) := by decide +kernel
theorem dX9_setReserve_30 : decode cX9_setReserve 30 = .ok (.istore_n 2, 1) := by decide +kernel
theorem dX9_setReserve_31 : decode cX9_setReserve 31 = .ok (.aload_n 0, 1) := by decide +kernel
theorem dX9_setReserve_32 : decode cX9_setReserve 32 = .ok (.iload_n 1, 1) := by decide +kernel
theorem dX9_setReserve_33 : decode cX9_setReserve 33 = .ok (.putfield 168, 3) := by decide +kernel
theorem dX9_setReserve_36 : decode cX9_setReserve 36 = .ok (.iload_n 2, 1) := by decide +kernel
theorem dX9_setReserve_37 : decode cX9_setReserve 37 = .ok (.ireturn, 1) := by decide +kernel
set_option maxRecDepth 20000 in
theorem ggX9_setDelay_X9_isIn : GoodIn wsX9_setDelay wsX9_isIn := goodIn_r _ [5] (by decide +kernel) (by decide +kernel)
set_option maxRecDepth 20000 in
theorem gX9_setDelay_X9_isIn : GoodIn wsX9_setDelay (va_wsS RX9 91 yX9_isIn wsX9_isIn) := goodIn_app (goodIn_of _ (by decide +kernel)) ggX9_setDelay_X9_isIn
set_option maxRecDepth 20000 in
theorem ggX9_setDelay_X9_isThrown : GoodIn wsX9_setDelay wsX9_isThrown := goodIn_r _ [9, 10, 11, 12, 13, 14, 15, 16, 17, 18, 19, 20, 21, 22, 23, 24, 25, 26, 27, 28, 29, 30, 31, 32, 33, 34, 35, 36, 37, 38, 39, 40, 41, 42, 43, 44, 45, 46, 47, 48, 49] (by decide +kernel) (by decide +kernel)
set_option maxRecDepth 20000 in
theorem gX9_setDelay_X9_isThrown : GoodIn wsX9_setDelay (wsV RX9 95 RX9 yX9_isThrown wsX9_isThrown) := goodIn_app (goodIn_of _ (by decide +kernel)) ggX9_setDelay_X9_isThrown
theorem dX9_setDelay_0 : decode cX9_setDelay 0 = .ok (.aload_n 0, 1) := by decide +kernel
theorem dX9_setDelay_1 : decode cX9_setDelay 1 = .ok (.iload_n 1, 1) := by decide +kernel
theorem dX9_setDelay_2 : decode cX9_setDelay 2 = .ok (.iconst 0, 1) := by decide +kernel
theorem dX9_setDelay_3 : decode cX9_setDelay 3 = .ok (.bipush 9, 2) := by decide +kernel
theorem dX9_setDelay_5 : decode cX9_setDelay 5 = .ok (.invokestatic 91, 3) := by decide +kernel
theorem dX9_setDelay_8 : decode cX9_setDelay 8 = .ok (.ifCond .ne 7, 3) := by decide +kernel
theorem dX9_setDelay_11 : decode cX9_setDelay 11 = .ok (.iconst 1, 1) := by decide +kernel
theorem dX9_setDelay_12 : decode cX9_setDelay 12 = .ok (.goto 4, 3) := by decide +kernel
theorem dX9_setDelay_15 : decode cX9_setDelay 15 = .ok (.iconst 0, 1) := by decide +kernel
theorem dX9_setDelay_16 : decode cX9_setDelay 16 = .ok (.iconst 1, 1) := by decide +kernel
theorem dX9_setDelay_17 : decode cX9_setDelay 17 = .ok (.invokevirtual 95, 3) := by decide +kernel
theorem dX9_setDelay_20 : decode cX9_setDelay 20 = .ok (.ifCond .eq 5, 3) := by decide +kernel
theorem dX9_setDelay_23 : decode cX9_setDelay 23 = .ok (.iconst 0, 1) := by decide +kernel
theorem dX9_setDelay_24 : decode cX9_setDelay 24 = .ok (.ireturn, 1) := by decide +kernel
theorem dX9_setDelay_25 : decode cX9_setDelay 25 = .ok (.aload_n 0, 1) := by decide +kernel
theorem dX9_setDelay_26 : decode cX9_setDelay 26 = .ok (.getfield 81, 3) := by decide +kernel
theorem dX9_setDelay_29 : decode cX9_setDelay 29 = .ok (.istore_n 2, 1) := by decide +kernel
theorem dX9_setDelay_30 : decode cX9_setDelay 30 = .ok (.aload_n 0, 1) := by decide +kernel
theorem dX9_setDelay_31 : decode cX9_setDelay 31 = .ok (.iload_n 1, 1) := by decide +kernel
theorem dX9_setDelay_32 : decode cX9_setDelay 32 = .ok (.putfield 81, 3) := by decide +kernel
theorem dX9_setDelay_35 : decode cX9_setDelay 35 = .ok (.iload_n 2, 1) := by decide +kernel
theorem dX9_setDelay_36 : decode cX9_setDelay 36 = .ok (.ireturn, 1) := by decide +kernel
theorem dX9_isTiedOne_0 : decode cX9_isTiedOne 0 = .ok (.aload_n 0, 1) := by decide +kernel
theorem dX9_isTiedOne_1 : decode cX9_isTiedOne 1 = .ok (.getfield 128, 3) := by decide +kernel
theorem dX9_isTiedOne_4 : decode cX9_isTiedOne 4 = .ok (.ifCond .eq 11, 3) := by decide +kernel
theorem dX9_isTiedOne_7 : decode cX9_isTiedOne 7 = .ok (.iload_n 1, 1) := by decide +kernel
theorem dX9_isTiedOne_8 : decode cX9_isTiedOne 8 = .ok (.ifCond .ne 7, 3) := by decide +kernel
theorem dX9_isTiedOne_11 : decode cX9_isTiedOne 11 = .ok (.iconst 1, 1) := by decide +kernel
theorem dX9_isTiedOne_12 : decode cX9_isTiedOne 12 = .ok (.goto 4, 3) := by decide +kernel
theorem dX9_isTiedOne_15 : decode cX9_isTiedOne 15 = .ok (.iconst 0, 1) := by decide +kernel
theorem dX9_isTiedOne_16 : decode cX9_isTiedOne 16 = .ok (.ireturn, 1) := by decide +kernel
theorem dX9_runs_0 : decode cX9_runs 0 = .ok (.aload_n 0, 1) := by decide +kernel
theorem dX9_runs_1 : decode cX9_runs 1 = .ok (.getfield 50, 3) := by decide +kernel
theorem dX9_runs_4 : decode cX9_runs 4 = .ok (.iload_n 1, 1) := by decide +kernel
theorem dX9_runs_5 : decode cX9_runs 5 = .ok (.caload, 1) := by decide +kernel
theorem dX9_runs_6 : decode cX9_runs 6 = .ok (.bipush 114, 2) := by decide +kernel
theorem dX9_runs_8 : decode cX9_runs 8 = .ok (.if_icmp .ne 22, 3) := by decide +kernel
theorem dX9_runs_11 : decode cX9_runs 11 = .ok (.aload_n 0, 1) := by decide +kernel
theorem dX9_runs_12 : decode cX9_runs 12 = .ok (.getfield 13, 3) := by decide +kernel
theorem dX9_runs_15 : decode cX9_runs 15 = .ok (.aload_n 0, 1) := by decide +kernel
theorem dX9_runs_16 : decode cX9_runs 16 = .ok (.getfield 29, 3) := by decide +kernel
theorem dX9_runs_19 : decode cX9_runs 19 = .ok (.iload_n 1, 1) := by decide +kernel
theorem dX9_runs_20 : decode cX9_runs 20 = .ok (.iaload, 1) := by decide +kernel
theorem dX9_runs_21 : decode cX9_runs 21 = .ok (.iaload, 1) := by decide +kernel
theorem dX9_runs_22 : decode cX9_runs 22 = .ok (.iload_n 2, 1) := by decide +kernel
theorem dX9_runs_23 : decode cX9_runs 23 = .ok (.if_icmp .ne 7, 3) := by decide +kernel
theorem dX9_runs_26 : decode cX9_runs 26 = .ok (.iconst 1, 1) := by decide +kernel
theorem dX9_runs_27 : decode cX9_runs 27 = .ok (.goto 4, 3) := by decide +kernel
theorem dX9_runs_30 : decode cX9_runs 30 = .ok (.iconst 0, 1) := by decide +kernel
theorem dX9_runs_31 : decode cX9_runs 31 = .ok (.ireturn, 1) := by decide +kernel
set_option maxRecDepth 20000 in
theorem ggX9_bounded_X9_runs : GoodIn wsX9_bounded wsX9_runs := goodIn_r _ [21, 22, 9, 23, 24, 25, 26, 27, 28, 29, 30, 31, 32, 33, 34, 35, 36, 37, 38, 39, 40, 41, 42, 43, 44, 45, 46, 47, 48, 49, 50, 51, 52, 53, 54, 55, 56, 57, 58, 59, 60, 61, 62] (by decide +kernel) (by decide +kernel)
set_option maxRecDepth 20000 in
theorem gX9_bounded_X9_runs : GoodIn wsX9_bounded (wsV RX9 171 RX9 yX9_runs wsX9_runs) := goodIn_app (goodIn_of _ (by decide +kernel)) ggX9_bounded_X9_runs
theorem dX9_bounded_0 : decode cX9_bounded 0 = .ok (.iconst 0, 1) := by decide +kernel
theorem dX9_bounded_1 : decode cX9_bounded 1 = .ok (.istore_n 2, 1) := by decide +kernel
theorem dX9_bounded_2 : decode cX9_bounded 2 = .ok (.iconst 0, 1) := by decide +kernel
theorem dX9_bounded_3 : decode cX9_bounded 3 = .ok (.istore_n 3, 1) := by decide +kernel
theorem dX9_bounded_4 : decode cX9_bounded 4 = .ok (.iload_n 3, 1) := by decide +kernel
theorem dX9_bounded_5 : decode cX9_bounded 5 = .ok (.aload_n 0, 1) := by decide +kernel
theorem dX9_bounded_6 : decode cX9_bounded 6 = .ok (.getfield 102, 3) := by decide +kernel
theorem dX9_bounded_9 : decode cX9_bounded 9 = .ok (.if_icmp .ge 40, 3) := by decide +kernel
theorem dX9_bounded_12 : decode cX9_bounded 12 = .ok (.iload_n 2, 1) := by decide +kernel
theorem dX9_bounded_13 : decode cX9_bounded 13 = .ok (.aload_n 0, 1) := by decide +kernel
theorem dX9_bounded_14 : decode cX9_bounded 14 = .ok (.iload_n 3, 1) := by decide +kernel
theorem dX9_bounded_15 : decode cX9_bounded 15 = .ok (.iload_n 1, 1) := by decide +kernel
theorem dX9_bounded_16 : decode cX9_bounded 16 = .ok (.invokevirtual 171, 3) := by decide +kernel
theorem dX9_bounded_19 : decode cX9_bounded 19 = .ok (.ifCond .eq 21, 3) := by decide +kernel
theorem dX9_bounded_22 : decode cX9_bounded 22 = .ok (.aload_n 0, 1) := by decide +kernel
theorem dX9_bounded_23 : decode cX9_bounded 23 = .ok (.getfield 35, 3) := by decide +kernel
theorem dX9_bounded_26 : decode cX9_bounded 26 = .ok (.iload_n 3, 1) := by decide +kernel
theorem dX9_bounded_27 : decode cX9_bounded 27 = .ok (.iaload, 1) := by decide +kernel
theorem dX9_bounded_28 : decode cX9_bounded 28 = .ok (.aload_n 0, 1) := by decide +kernel
theorem dX9_bounded_29 : decode cX9_bounded 29 = .ok (.getfield 41, 3) := by decide +kernel
theorem dX9_bounded_32 : decode cX9_bounded 32 = .ok (.iload_n 3, 1) := by decide +kernel
theorem dX9_bounded_33 : decode cX9_bounded 33 = .ok (.iaload, 1) := by decide +kernel
theorem dX9_bounded_34 : decode cX9_bounded 34 = .ok (.invokestatic 115, 3) := by decide +kernel
theorem dX9_bounded_37 : decode cX9_bounded 37 = .ok (.goto 4, 3) := by decide +kernel
theorem dX9_bounded_40 : decode cX9_bounded 40 = .ok (.iconst 0, 1) := by decide +kernel
theorem dX9_bounded_41 : decode cX9_bounded 41 = .ok (.iadd, 1) := by decide +kernel
theorem dX9_bounded_42 : decode cX9_bounded 42 = .ok (.istore_n 2, 1) := by decide +kernel
theorem dX9_bounded_43 : decode cX9_bounded 43 = .ok (.iinc 3 1, 3) := by decide +kernel
theorem dX9_bounded_46 : decode cX9_bounded 46 = .ok (.goto (-42), 3) := by decide +kernel
theorem dX9_bounded_49 : decode cX9_bounded 49 = .ok (.iconst 0, 1) := by decide +kernel
theorem dX9_bounded_50 : decode cX9_bounded 50 = .ok (.istore_n 3, 1) := by decide +kernel
theorem dX9_bounded_51 : decode cX9_bounded 51 = .ok (.iload_n 3, 1) := by decide +kernel
theorem dX9_bounded_52 : decode cX9_bounded 52 = .ok (.aload_n 0, 1) := by decide +kernel
theorem dX9_bounded_53 : decode cX9_bounded 53 = .ok (.getfield 105, 3) := by decide +kernel
theorem dX9_bounded_56 : decode cX9_bounded 56 = .ok (.if_icmp .ge 46, 3) := by decide +kernel
theorem dX9_bounded_59 : decode cX9_bounded 59 = .ok (.iload_n 2, 1) := by decide +kernel
theorem dX9_bounded_60 : decode cX9_bounded 60 = .ok (.aload_n 0, 1) := by decide +kernel
theorem dX9_bounded_61 : decode cX9_bounded 61 = .ok (.getfield 13, 3) := by decide +kernel
theorem dX9_bounded_64 : decode cX9_bounded 64 = .ok (.aload_n 0, 1) := by decide +kernel
theorem dX9_bounded_65 : decode cX9_bounded 65 = .ok (.getfield 54, 3) := by decide +kernel
theorem dX9_bounded_68 : decode cX9_bounded 68 = .ok (.iload_n 3, 1) := by decide +kernel
theorem dX9_bounded_69 : decode cX9_bounded 69 = .ok (.iaload, 1) := by decide +kernel
theorem dX9_bounded_70 : decode cX9_bounded 70 = .ok (.iaload, 1) := by decide +kernel
theorem dX9_bounded_71 : decode cX9_bounded 71 = .ok (.iload_n 1, 1) := by decide +kernel
theorem dX9_bounded_72 : decode cX9_bounded 72 = .ok (.if_icmp .ne 21, 3) := by decide +kernel
theorem dX9_bounded_75 : decode cX9_bounded 75 = .ok (.aload_n 0, 1) := by decide +kernel
theorem dX9_bounded_76 : decode cX9_bounded 76 = .ok (.getfield 60, 3) := by decide +kernel
theorem dX9_bounded_79 : decode cX9_bounded 79 = .ok (.iload_n 3, 1) := by decide +kernel
theorem dX9_bounded_80 : decode cX9_bounded 80 = .ok (.iaload, 1) := by decide +kernel
theorem dX9_bounded_81 : decode cX9_bounded 81 = .ok (.aload_n 0, 1) := by decide +kernel
theorem dX9_bounded_82 : decode cX9_bounded 82 = .ok (.getfield 63, 3) := by decide +kernel
theorem dX9_bounded_85 : decode cX9_bounded 85 = .ok (.iload_n 3, 1) := by decide +kernel
theorem dX9_bounded_86 : decode cX9_bounded 86 = .ok (.iaload, 1) := by decide +kernel
theorem dX9_bounded_87 : decode cX9_bounded 87 = .ok (.invokestatic 115, 3) := by decide +kernel
theorem dX9_bounded_90 : decode cX9_bounded 90 = .ok (.goto 4, 3) := by decide +kernel
theorem dX9_bounded_93 : decode cX9_bounded 93 = .ok (.iconst 0, 1) := by decide +kernel
theorem dX9_bounded_94 : decode cX9_bounded 94 = .ok (.iadd, 1) := by decide +kernel
theorem dX9_bounded_95 : decode cX9_bounded 95 = .ok (.istore_n 2, 1) := by decide +kernel
theorem dX9_bounded_96 : decode cX9_bounded 96 = .ok (.iinc 3 1, 3) := by decide +kernel
theorem dX9_bounded_99 : decode cX9_bounded 99 = .ok (.goto (-48), 3) := by decide +kernel
theorem dX9_bounded_102 : decode cX9_bounded 102 = .ok (.iconst 0, 1) := by decide +kernel
theorem dX9_bounded_103 : decode cX9_bounded 103 = .ok (.iload_n 2, 1) := by decide +kernel
theorem dX9_bounded_104 : decode cX9_bounded 104 = .ok (.aload_n 0, 1) := by decide +kernel
theorem dX9_bounded_105 : decode cX9_bounded 105 = .ok (.getfield 168, 3) := by decide +kernel
theorem dX9_bounded_108 : decode cX9_bounded 108 = .ok (.isub, 1) := by decide +kernel
theorem dX9_bounded_109 : decode cX9_bounded 109 = .ok (.invokestatic 175, 3) := by decide +kernel
theorem dX9_bounded_112 : decode cX9_bounded 112 = .ok (.ireturn, 1) := by decide +kernel
theorem dX9_demanded_0 : decode cX9_demanded 0 = .ok (.iconst 0, 1) := by decide +kernel
theorem dX9_demanded_1 : decode cX9_demanded 1 = .ok (.istore_n 2, 1) := by decide +kernel
theorem dX9_demanded_2 : decode cX9_demanded 2 = .ok (.iconst 0, 1) := by decide +kernel
theorem dX9_demanded_3 : decode cX9_demanded 3 = .ok (.istore_n 3, 1) := by decide +kernel
theorem dX9_demanded_4 : decode cX9_demanded 4 = .ok (.iload_n 3, 1) := by decide +kernel
theorem dX9_demanded_5 : decode cX9_demanded 5 = .ok (.aload_n 0, 1) := by decide +kernel
theorem dX9_demanded_6 : decode cX9_demanded 6 = .ok (.getfield 108, 3) := by decide +kernel
theorem dX9_demanded_9 : decode cX9_demanded 9 = .ok (.if_icmp .ge 46, 3) := by decide +kernel
theorem dX9_demanded_12 : decode cX9_demanded 12 = .ok (.iload_n 2, 1) := by decide +kernel
theorem dX9_demanded_13 : decode cX9_demanded 13 = .ok (.aload_n 0, 1) := by decide +kernel
theorem dX9_demanded_14 : decode cX9_demanded 14 = .ok (.getfield 13, 3) := by decide +kernel
theorem dX9_demanded_17 : decode cX9_demanded 17 = .ok (.aload_n 0, 1) := by decide +kernel
theorem dX9_demanded_18 : decode cX9_demanded 18 = .ok (.getfield 69, 3) := by decide +kernel
theorem dX9_demanded_21 : decode cX9_demanded 21 = .ok (.iload_n 3, 1) := by decide +kernel
theorem dX9_demanded_22 : decode cX9_demanded 22 = .ok (.iaload, 1) := by decide +kernel
theorem dX9_demanded_23 : decode cX9_demanded 23 = .ok (.iaload, 1) := by decide +kernel
theorem dX9_demanded_24 : decode cX9_demanded 24 = .ok (.iload_n 1, 1) := by decide +kernel
theorem dX9_demanded_25 : decode cX9_demanded 25 = .ok (.if_icmp .ne 21, 3) := by decide +kernel
theorem dX9_demanded_28 : decode cX9_demanded 28 = .ok (.aload_n 0, 1) := by decide +kernel
theorem dX9_demanded_29 : decode cX9_demanded 29 = .ok (.getfield 26, 3) := by decide +kernel
theorem dX9_demanded_32 : decode cX9_demanded 32 = .ok (.iload_n 3, 1) := by decide +kernel
theorem dX9_demanded_33 : decode cX9_demanded 33 = .ok (.baload, 1) := by decide +kernel
theorem dX9_demanded_34 : decode cX9_demanded 34 = .ok (.ifCond .ne 12, 3) := by decide +kernel
theorem dX9_demanded_37 : decode cX9_demanded 37 = .ok (.aload_n 0, 1) := by decide +kernel
theorem dX9_demanded_38 : decode cX9_demanded 38 = .ok (.getfield 72, 3) := by decide +kernel
theorem dX9_demanded_41 : decode cX9_demanded 41 = .ok (.iload_n 3, 1) := by decide +kernel
theorem dX9_demanded_42 : decode cX9_demanded 42 = .ok (.iaload, 1) := by decide +kernel
theorem dX9_demanded_43 : decode cX9_demanded 43 = .ok (.goto 4, 3) := by decide +kernel
theorem dX9_demanded_46 : decode cX9_demanded 46 = .ok (.iconst 0, 1) := by decide +kernel
theorem dX9_demanded_47 : decode cX9_demanded 47 = .ok (.iadd, 1) := by decide +kernel
theorem dX9_demanded_48 : decode cX9_demanded 48 = .ok (.istore_n 2, 1) := by decide +kernel
theorem dX9_demanded_49 : decode cX9_demanded 49 = .ok (.iinc 3 1, 3) := by decide +kernel
theorem dX9_demanded_52 : decode cX9_demanded 52 = .ok (.goto (-48), 3) := by decide +kernel
theorem dX9_demanded_55 : decode cX9_demanded 55 = .ok (.iload_n 2, 1) := by decide +kernel
theorem dX9_demanded_56 : decode cX9_demanded 56 = .ok (.ireturn, 1) := by decide +kernel
theorem dX9_isAhead_0 : decode cX9_isAhead 0 = .ok (.aload_n 0, 1) := by decide +kernel
theorem dX9_isAhead_1 : decode cX9_isAhead 1 = .ok (.getfield 13, 3) := by decide +kernel
theorem dX9_isAhead_4 : decode cX9_isAhead 4 = .ok (.aload_n 0, 1) := by decide +kernel
theorem dX9_isAhead_5 : decode cX9_isAhead 5 = .ok (.getfield 69, 3) := by decide +kernel
theorem dX9_isAhead_8 : decode cX9_isAhead 8 = .ok (.iload_n 1, 1) := by decide +kernel
theorem dX9_isAhead_9 : decode cX9_isAhead 9 = .ok (.iaload, 1) := by decide +kernel
theorem dX9_isAhead_10 : decode cX9_isAhead 10 = .ok (.iaload, 1) := by decide +kernel
theorem dX9_isAhead_11 : decode cX9_isAhead 11 = .ok (.aload_n 0, 1) := by decide +kernel
theorem dX9_isAhead_12 : decode cX9_isAhead 12 = .ok (.getfield 13, 3) := by decide +kernel
theorem dX9_isAhead_15 : decode cX9_isAhead 15 = .ok (.aload_n 0, 1) := by decide +kernel
theorem dX9_isAhead_16 : decode cX9_isAhead 16 = .ok (.getfield 69, 3) := by decide +kernel
theorem dX9_isAhead_19 : decode cX9_isAhead 19 = .ok (.iload_n 2, 1) := by decide +kernel
theorem dX9_isAhead_20 : decode cX9_isAhead 20 = .ok (.iaload, 1) := by decide +kernel
theorem dX9_isAhead_21 : decode cX9_isAhead 21 = .ok (.iaload, 1) := by decide +kernel
theorem dX9_isAhead_22 : decode cX9_isAhead 22 = .ok (.if_icmp .ne 42, 3) := by decide +kernel
theorem dX9_isAhead_25 : decode cX9_isAhead 25 = .ok (.aload_n 0, 1) := by decide +kernel
theorem dX9_isAhead_26 : decode cX9_isAhead 26 = .ok (.getfield 75, 3) := by decide +kernel
theorem dX9_isAhead_29 : decode cX9_isAhead 29 = .ok (.iload_n 1, 1) := by decide +kernel
theorem dX9_isAhead_30 : decode cX9_isAhead 30 = .ok (.iaload, 1) := by decide +kernel
theorem dX9_isAhead_31 : decode cX9_isAhead 31 = .ok (.aload_n 0, 1) := by decide +kernel
theorem dX9_isAhead_32 : decode cX9_isAhead 32 = .ok (.getfield 75, 3) := by decide +kernel
theorem dX9_isAhead_35 : decode cX9_isAhead 35 = .ok (.iload_n 2, 1) := by decide +kernel
theorem dX9_isAhead_36 : decode cX9_isAhead 36 = .ok (.iaload, 1) := by decide +kernel
theorem dX9_isAhead_37 : decode cX9_isAhead 37 = .ok (.if_icmp .lt 23, 3) := by decide +kernel
theorem dX9_isAhead_40 : decode cX9_isAhead 40 = .ok (.aload_n 0, 1) := by decide +kernel
theorem dX9_isAhead_41 : decode cX9_isAhead 41 = .ok (.getfield 75, 3) := by decide +kernel
theorem dX9_isAhead_44 : decode cX9_isAhead 44 = .ok (.iload_n 1, 1) := by decide +kernel
theorem dX9_isAhead_45 : decode cX9_isAhead 45 = .ok (.iaload, 1) := by decide +kernel
theorem dX9_isAhead_46 : decode cX9_isAhead 46 = .ok (.aload_n 0, 1) := by decide +kernel
theorem dX9_isAhead_47 : decode cX9_isAhead 47 = .ok (.getfield 75, 3) := by decide +kernel
theorem dX9_isAhead_50 : decode cX9_isAhead 50 = .ok (.iload_n 2, 1) := by decide +kernel
theorem dX9_isAhead_51 : decode cX9_isAhead 51 = .ok (.iaload, 1) := by decide +kernel
theorem dX9_isAhead_52 : decode cX9_isAhead 52 = .ok (.if_icmp .ne 12, 3) := by decide +kernel
theorem dX9_isAhead_55 : decode cX9_isAhead 55 = .ok (.iload_n 1, 1) := by decide +kernel
theorem dX9_isAhead_56 : decode cX9_isAhead 56 = .ok (.iload_n 2, 1) := by decide +kernel
theorem dX9_isAhead_57 : decode cX9_isAhead 57 = .ok (.if_icmp .ge 7, 3) := by decide +kernel
theorem dX9_isAhead_60 : decode cX9_isAhead 60 = .ok (.iconst 1, 1) := by decide +kernel
theorem dX9_isAhead_61 : decode cX9_isAhead 61 = .ok (.goto 4, 3) := by decide +kernel
theorem dX9_isAhead_64 : decode cX9_isAhead 64 = .ok (.iconst 0, 1) := by decide +kernel
theorem dX9_isAhead_65 : decode cX9_isAhead 65 = .ok (.ireturn, 1) := by decide +kernel
set_option maxRecDepth 20000 in
theorem ggX9_keeps_X9_isAhead : GoodIn wsX9_keeps wsX9_isAhead := goodIn_r _ [9, 1, 2, 10, 41, 42, 43, 44, 45, 46, 47, 48, 49, 50, 51, 52, 53, 54, 55, 56, 57, 58, 59, 60, 61, 62, 63, 64, 65, 66, 67, 68, 69, 70, 71, 72, 73, 74, 75, 76, 77, 78, 79] (by decide +kernel) (by decide +kernel)
set_option maxRecDepth 20000 in
theorem gX9_keeps_X9_isAhead : GoodIn wsX9_keeps (wsV RX9 178 RX9 yX9_isAhead wsX9_isAhead) := goodIn_app (goodIn_of _ (by decide +kernel)) ggX9_keeps_X9_isAhead
set_option maxRecDepth 20000 in
theorem ggX9_keeps_X9_isTiedOne : GoodIn wsX9_keeps wsX9_isTiedOne := goodIn_r _ [14, 15, 41, 42, 43, 44, 45, 46, 47, 48, 49, 50, 51, 52, 53, 54, 55, 56, 57, 58, 59, 60, 61, 62, 63, 64, 65, 66, 67, 68, 69, 70, 71, 72, 73, 74, 75, 76, 77, 78, 79] (by decide +kernel) (by decide +kernel)
set_option maxRecDepth 20000 in
theorem gX9_keeps_X9_isTiedOne : GoodIn wsX9_keeps (wsV RX9 181 RX9 yX9_isTiedOne wsX9_isTiedOne) := goodIn_app (goodIn_of _ (by decide +kernel)) ggX9_keeps_X9_isTiedOne
set_option maxRecDepth 20000 in
theorem ggX9_keeps_X9_bounded : GoodIn wsX9_keeps wsX9_bounded := goodIn_r _ [19, 20, 21, 22, 23, 24, 25, 26, 27, 1, 28, 29, 30, 31, 32, 33, 34, 35, 36, 37, 8, 38, 39, 40, 41, 42, 43, 44, 45, 46, 47, 48, 49, 50, 51, 52, 53, 54, 55, 56, 57, 58, 59, 60, 61, 62, 63, 64, 65, 66, 67, 68, 69, 70, 71, 72, 73, 74, 75, 76, 77, 78, 79] (by decide +kernel) (by decide +kernel)
set_option maxRecDepth 20000 in
theorem gX9_keeps_X9_bounded : GoodIn wsX9_keeps (wsV RX9 184 RX9 yX9_bounded wsX9_bounded) := goodIn_app (goodIn_of _ (by decide +kernel)) ggX9_keeps_X9_bounded
theorem dX9_keeps_0 : decode cX9_keeps 0 = .ok (.aload_n 0, 1) := by decide +kernel
theorem dX9_keeps_1 : decode cX9_keeps 1 = .ok (.getfield 13, 3) := by decide +kernel
theorem dX9_keeps_4 : decode cX9_keeps 4 = .ok (.aload_n 0, 1) := by decide +kernel
theorem dX9_keeps_5 : decode cX9_keeps 5 = .ok (.getfield 69, 3) := by decide +kernel
theorem dX9_keeps_8 : decode cX9_keeps 8 = .ok (.iload_n 1, 1) := by decide +kernel
theorem dX9_keeps_9 : decode cX9_keeps 9 = .ok (.iaload, 1) := by decide +kernel
theorem dX9_keeps_10 : decode cX9_keeps 10 = .ok (.iaload, 1) := by decide +kernel
theorem dX9_keeps_11 : decode cX9_keeps 11 = .ok (.istore_n 2, 1) := by decide +kernel
theorem dX9_keeps_12 : decode cX9_keeps 12 = .ok (.aload_n 0, 1) := by decide +kernel
theorem dX9_keeps_13 : decode cX9_keeps 13 = .ok (.getfield 72, 3) := by decide +kernel
theorem dX9_keeps_16 : decode cX9_keeps 16 = .ok (.iload_n 1, 1) := by decide +kernel
theorem dX9_keeps_17 : decode cX9_keeps 17 = .ok (.iaload, 1) := by decide +kernel
theorem dX9_keeps_18 : decode cX9_keeps 18 = .ok (.istore_n 3, 1) := by decide +kernel
theorem dX9_keeps_19 : decode cX9_keeps 19 = .ok (.iconst 0, 1) := by decide +kernel
theorem dX9_keeps_20 : decode cX9_keeps 20 = .ok (.istore 4, 2) := by decide +kernel
theorem dX9_keeps_22 : decode cX9_keeps 22 = .ok (.iload 4, 2) := by decide +kernel
theorem dX9_keeps_24 : decode cX9_keeps 24 = .ok (.aload_n 0, 1) := by decide +kernel
theorem dX9_keeps_25 : decode cX9_keeps 25 = .ok (.getfield 108, 3) := by decide +kernel
theorem dX9_keeps_28 : decode cX9_keeps 28 = .ok (.if_icmp .ge 33, 3) := by decide +kernel
theorem dX9_keeps_31 : decode cX9_keeps 31 = .ok (.iload_n 3, 1) := by decide +kernel
theorem dX9_keeps_32 : decode cX9_keeps 32 = .ok (.aload_n 0, 1) := by decide +kernel
theorem dX9_keeps_33 : decode cX9_keeps 33 = .ok (.iload 4, 2) := by decide +kernel
theorem dX9_keeps_35 : decode cX9_keeps 35 = .ok (.iload_n 1, 1) := by decide +kernel
theorem dX9_keeps_36 : decode cX9_keeps 36 = .ok (.invokevirtual 178, 3) := by decide +kernel
theorem dX9_keeps_39 : decode cX9_keeps 39 = .ok (.ifCond .eq 13, 3) := by decide +kernel
theorem dX9_keeps_42 : decode cX9_keeps 42 = .ok (.aload_n 0, 1) := by decide +kernel
theorem dX9_keeps_43 : decode cX9_keeps 43 = .ok (.getfield 72, 3) := by decide +kernel
theorem dX9_keeps_46 : decode cX9_keeps 46 = .ok (.iload 4, 2) := by decide +kernel
theorem dX9_keeps_48 : decode cX9_keeps 48 = .ok (.iaload, 1) := by decide +kernel
theorem dX9_keeps_49 : decode cX9_keeps 49 = .ok (.goto 4, 3) := by decide +kernel
theorem dX9_keeps_52 : decode cX9_keeps 52 = .ok (.iconst 0, 1) := by decide +kernel
theorem dX9_keeps_53 : decode cX9_keeps 53 = .ok (.iadd, 1) := by decide +kernel
theorem dX9_keeps_54 : decode cX9_keeps 54 = .ok (.istore_n 3, 1) := by decide +kernel
theorem dX9_keeps_55 : decode cX9_keeps 55 = .ok (.iinc 4 1, 3) := by decide +kernel
theorem dX9_keeps_58 : decode cX9_keeps 58 = .ok (.goto (-36), 3) := by decide +kernel
theorem dX9_keeps_61 : decode cX9_keeps 61 = .ok (.aload_n 0, 1) := by decide +kernel
theorem dX9_keeps_62 : decode cX9_keeps 62 = .ok (.iload_n 2, 1) := by decide +kernel
theorem dX9_keeps_63 : decode cX9_keeps 63 = .ok (.invokevirtual 181, 3) := by decide +kernel
theorem dX9_keeps_66 : decode cX9_keeps 66 = .ok (.ifCond .ne 12, 3) := by decide +kernel
theorem dX9_keeps_69 : decode cX9_keeps 69 = .ok (.iload_n 3, 1) := by decide +kernel
theorem dX9_keeps_70 : decode cX9_keeps 70 = .ok (.aload_n 0, 1) := by decide +kernel
theorem dX9_keeps_71 : decode cX9_keeps 71 = .ok (.iload_n 2, 1) := by decide +kernel
theorem dX9_keeps_72 : decode cX9_keeps 72 = .ok (.invokevirtual 184, 3) := by decide +kernel
theorem dX9_keeps_75 : decode cX9_keeps 75 = .ok (.if_icmp .gt 7, 3) := by decide +kernel
theorem dX9_keeps_78 : decode cX9_keeps 78 = .ok (.iconst 1, 1) := by decide +kernel
theorem dX9_keeps_79 : decode cX9_keeps 79 = .ok (.goto 4, 3) := by decide +kernel
theorem dX9_keeps_82 : decode cX9_keeps 82 = .ok (.iconst 0, 1) := by decide +kernel
theorem dX9_keeps_83 : decode cX9_keeps 83 = .ok (.ireturn, 1) := by decide +kernel
set_option maxRecDepth 20000 in
theorem ggX9_bound_X9_isNoSite : GoodIn wsX9_bound wsX9_isNoSite := goodIn_r _ [5, 6, 7, 8, 4, 9, 10, 11, 12, 13, 14, 58, 59, 60, 61, 62, 63, 64, 65, 66, 67, 68, 69, 70, 71, 72, 73, 74, 75, 76, 77, 78, 79, 80, 81, 82, 83, 84, 85, 86, 87, 88, 89, 90, 91, 92, 93, 94, 95, 96] (by decide +kernel) (by decide +kernel)
set_option maxRecDepth 20000 in
theorem gX9_bound_X9_isNoSite : GoodIn wsX9_bound (wsV RX9 111 RX9 yX9_isNoSite wsX9_isNoSite) := goodIn_app (goodIn_of _ (by decide +kernel)) ggX9_bound_X9_isNoSite
set_option maxRecDepth 20000 in
theorem ggX9_bound_X9_islandOf : GoodIn wsX9_bound wsX9_islandOf := goodIn_r _ [18, 19, 20, 21, 22, 4, 23, 6, 24, 25, 26, 27, 28, 29, 30, 31, 58, 59, 60, 61, 62, 63, 64, 65, 66, 67, 68, 69, 70, 71, 72, 73, 74, 75, 76, 77, 78, 79, 80, 81, 82, 83, 84, 85, 86, 87, 88, 89, 90, 91, 92, 93, 94, 95, 96] (by decide +kernel) (by decide +kernel)
set_option maxRecDepth 20000 in
theorem gX9_bound_X9_islandOf : GoodIn wsX9_bound (wsV RX9 124 RX9 yX9_islandOf wsX9_islandOf) := goodIn_app (goodIn_of _ (by decide +kernel)) ggX9_bound_X9_islandOf
set_option maxRecDepth 20000 in
theorem ggX9_bound_X9_isTiedOne : GoodIn wsX9_bound wsX9_isTiedOne := goodIn_r _ [35, 36, 58, 59, 60, 61, 62, 63, 64, 65, 66, 67, 68, 69, 70, 71, 72, 73, 74, 75, 76, 77, 78, 79, 80, 81, 82, 83, 84, 85, 86, 87, 88, 89, 90, 91, 92, 93, 94, 95, 96] (by decide +kernel) (by decide +kernel)
set_option maxRecDepth 20000 in
theorem gX9_bound_X9_isTiedOne : GoodIn wsX9_bound (wsV RX9 181 RX9 yX9_isTiedOne wsX9_isTiedOne) := goodIn_app (goodIn_of _ (by decide +kernel)) ggX9_bound_X9_isTiedOne
set_option maxRecDepth 20000 in
theorem ggX9_bound_X9_bounded : GoodIn wsX9_bound wsX9_bounded := goodIn_r _ [40, 41, 42, 43, 28, 29, 30, 31, 44, 19, 45, 46, 47, 48, 49, 50, 51, 52, 53, 54, 4, 55, 56, 57, 58, 59, 60, 61, 62, 63, 64, 65, 66, 67, 68, 69, 70, 71, 72, 73, 74, 75, 76, 77, 78, 79, 80, 81, 82, 83, 84, 85, 86, 87, 88, 89, 90, 91, 92, 93, 94, 95, 96] (by decide +kernel) (by decide +kernel)
set_option maxRecDepth 20000 in
theorem gX9_bound_X9_bounded : GoodIn wsX9_bound (wsV RX9 184 RX9 yX9_bounded wsX9_bounded) := goodIn_app (goodIn_of _ (by decide +kernel)) ggX9_bound_X9_bounded
theorem dX9_bound_0 : decode cX9_bound 0 = .ok (.aload_n 0, 1) := by decide +kernel
theorem dX9_bound_1 : decode cX9_bound 1 = .ok (.iload_n 1, 1) := by decide +kernel
theorem dX9_bound_2 : decode cX9_bound 2 = .ok (.invokevirtual 111, 3) := by decide +kernel
theorem dX9_bound_5 : decode cX9_bound 5 = .ok (.ifCond .eq 5, 3) := by decide +kernel
theorem dX9_bound_8 : decode cX9_bound 8 = .ok (.iconst 0, 1) := by decide +kernel
theorem dX9_bound_9 : decode cX9_bound 9 = .ok (.ireturn, 1) := by decide +kernel
theorem dX9_bound_10 : decode cX9_bound 10 = .ok (.aload_n 0, 1) := by decide +kernel
theorem dX9_bound_11 : decode cX9_bound 11 = .ok (.iload_n 1, 1) := by decide +kernel
theorem dX9_bound_12 : decode cX9_bound 12 = .ok (.invokevirtual 124, 3) := by decide +kernel
theorem dX9_bound_15 : decode cX9_bound 15 = .ok (.istore_n 2, 1) := by decide +kernel
theorem dX9_bound_16 : decode cX9_bound 16 = .ok (.aload_n 0, 1) := by decide +kernel
theorem dX9_bound_17 : decode cX9_bound 17 = .ok (.iload_n 2, 1) := by decide +kernel
theorem dX9_bound_18 : decode cX9_bound 18 = .ok (.invokevirtual 181, 3) := by decide +kernel
theorem dX9_bound_21 : decode cX9_bound 21 = .ok (.ifCond .eq 7, 3) := by decide +kernel
theorem dX9_bound_24 : decode cX9_bound 24 = .ok (.iconst (-1), 1) := by decide +kernel
theorem dX9_bound_25 : decode cX9_bound 25 = .ok (.goto 8, 3) := by decide +kernel
theorem dX9_bound_28 : decode cX9_bound 28 = .ok (.aload_n 0, 1) := by decide +kernel
theorem dX9_bound_29 : decode cX9_bound 29 = .ok (.iload_n 2, 1) := by decide +kernel
theorem dX9_bound_30 : decode cX9_bound 30 = .ok (.invokevirtual 184, 3) := by decide +kernel
theorem dX9_bound_33 : decode cX9_bound 33 = .ok (.ireturn, 1) := by decide +kernel
set_option maxRecDepth 20000 in
theorem ggX9_demand_X9_isNoSite : GoodIn wsX9_demand wsX9_isNoSite := goodIn_r _ [5, 6, 7, 8, 4, 9, 10, 11, 12, 13, 14, 40, 41, 42, 43, 44, 45, 46, 47, 48, 49, 50, 51, 52, 53, 54, 55, 56, 57, 58, 59, 60, 61, 62, 63, 64, 65, 66, 67, 68, 69, 70, 71, 72, 73, 74, 75, 76, 77, 78] (by decide +kernel) (by decide +kernel)
set_option maxRecDepth 20000 in
theorem gX9_demand_X9_isNoSite : GoodIn wsX9_demand (wsV RX9 111 RX9 yX9_isNoSite wsX9_isNoSite) := goodIn_app (goodIn_of _ (by decide +kernel)) ggX9_demand_X9_isNoSite
set_option maxRecDepth 20000 in
theorem ggX9_demand_X9_islandOf : GoodIn wsX9_demand wsX9_islandOf := goodIn_r _ [18, 19, 20, 21, 22, 4, 23, 6, 24, 25, 26, 27, 28, 29, 30, 31, 40, 41, 42, 43, 44, 45, 46, 47, 48, 49, 50, 51, 52, 53, 54, 55, 56, 57, 58, 59, 60, 61, 62, 63, 64, 65, 66, 67, 68, 69, 70, 71, 72, 73, 74, 75, 76, 77, 78] (by decide +kernel) (by decide +kernel)
set_option maxRecDepth 20000 in
theorem gX9_demand_X9_islandOf : GoodIn wsX9_demand (wsV RX9 124 RX9 yX9_islandOf wsX9_islandOf) := goodIn_app (goodIn_of _ (by decide +kernel)) ggX9_demand_X9_islandOf
set_option maxRecDepth 20000 in
theorem ggX9_demand_X9_demanded : GoodIn wsX9_demand wsX9_demanded := goodIn_r _ [35, 36, 19, 37, 38, 39, 40, 41, 42, 43, 44, 45, 46, 47, 48, 49, 50, 51, 52, 53, 54, 55, 56, 57, 58, 59, 60, 61, 62, 63, 64, 65, 66, 67, 68, 69, 70, 71, 72, 73, 74, 75, 76, 77, 78] (by decide +kernel) (by decide +kernel)
set_option maxRecDepth 20000 in
theorem gX9_demand_X9_demanded : GoodIn wsX9_demand (wsV RX9 187 RX9 yX9_demanded wsX9_demanded) := goodIn_app (goodIn_of _ (by decide +kernel)) ggX9_demand_X9_demanded
theorem dX9_demand_0 : decode cX9_demand 0 = .ok (.aload_n 0, 1) := by decide +kernel
theorem dX9_demand_1 : decode cX9_demand 1 = .ok (.iload_n 1, 1) := by decide +kernel
theorem dX9_demand_2 : decode cX9_demand 2 = .ok (.invokevirtual 111, 3) := by decide +kernel
theorem dX9_demand_5 : decode cX9_demand 5 = .ok (.ifCond .eq 7, 3) := by decide +kernel
theorem dX9_demand_8 : decode cX9_demand 8 = .ok (.iconst 0, 1) := by decide +kernel
theorem dX9_demand_9 : decode cX9_demand 9 = .ok (.goto 12, 3) := by decide +kernel
theorem dX9_demand_12 : decode cX9_demand 12 = .ok (.aload_n 0, 1) := by decide +kernel
theorem dX9_demand_13 : decode cX9_demand 13 = .ok (.aload_n 0, 1) := by decide +kernel
theorem dX9_demand_14 : decode cX9_demand 14 = .ok (.iload_n 1, 1) := by decide +kernel
theorem dX9_demand_15 : decode cX9_demand 15 = .ok (.invokevirtual 124, 3) := by decide +kernel
theorem dX9_demand_18 : decode cX9_demand 18 = .ok (.invokevirtual 187, 3) := by decide +kernel
theorem dX9_demand_21 : decode cX9_demand 21 = .ok (.ireturn, 1) := by decide +kernel
set_option maxRecDepth 20000 in
theorem ggX9_isKept_X9_marks : GoodIn wsX9_isKept wsX9_marks := goodIn_r _ [5, 6, 7, 8, 9, 10, 11, 12, 13, 14, 15, 66, 67, 68, 69, 70, 71, 72, 73, 74, 75, 76, 77, 78, 79, 80, 81, 82, 83, 84, 85, 86, 87, 88, 89, 90, 91, 92, 93, 94, 95, 96, 97, 98, 99, 100, 101, 102, 103, 104] (by decide +kernel) (by decide +kernel)
set_option maxRecDepth 20000 in
theorem gX9_isKept_X9_marks : GoodIn wsX9_isKept (wsV RX9 121 RX9 yX9_marks wsX9_marks) := goodIn_app (goodIn_of _ (by decide +kernel)) ggX9_isKept_X9_marks
set_option maxRecDepth 20000 in
theorem ggX9_isKept_X9_isNoLoad : GoodIn wsX9_isKept wsX9_isNoLoad := goodIn_r _ [19, 20, 21, 22, 4, 23, 24, 25, 26, 27, 28, 66, 67, 68, 69, 70, 71, 72, 73, 74, 75, 76, 77, 78, 79, 80, 81, 82, 83, 84, 85, 86, 87, 88, 89, 90, 91, 92, 93, 94, 95, 96, 97, 98, 99, 100, 101, 102, 103, 104] (by decide +kernel) (by decide +kernel)
set_option maxRecDepth 20000 in
theorem gX9_isKept_X9_isNoLoad : GoodIn wsX9_isKept (wsV RX9 165 RX9 yX9_isNoLoad wsX9_isNoLoad) := goodIn_app (goodIn_of _ (by decide +kernel)) ggX9_isKept_X9_isNoLoad
set_option maxRecDepth 20000 in
theorem ggX9_isKept_X9_keeps : GoodIn wsX9_isKept wsX9_keeps := goodIn_r _ [32, 7, 33, 34, 20, 35, 36, 37, 4, 38, 39, 40, 41, 42, 43, 44, 45, 46, 47, 48, 49, 50, 51, 12, 13, 14, 15, 52, 53, 54, 55, 56, 57, 58, 59, 60, 61, 62, 63, 64, 65, 66, 67, 68, 69, 70, 71, 72, 73, 74, 75, 76, 77, 78, 79, 80, 81, 82, 83, 84, 85, 86, 87, 88, 89, 90, 91, 92, 93, 94, 95, 96, 97, 98, 99, 100, 101, 102, 103, 104] (by decide +kernel) (by decide +kernel)
set_option maxRecDepth 20000 in
theorem gX9_isKept_X9_keeps : GoodIn wsX9_isKept (wsV RX9 190 RX9 yX9_keeps wsX9_keeps) := goodIn_app (goodIn_of _ (by decide +kernel)) ggX9_isKept_X9_keeps
theorem dX9_isKept_0 : decode cX9_isKept 0 = .ok (.aload_n 0, 1) := by decide +kernel
theorem dX9_isKept_1 : decode cX9_isKept 1 = .ok (.invokevirtual 121, 3) := by decide +kernel
theorem dX9_isKept_4 : decode cX9_isKept 4 = .ok (.aload_n 0, 1) := by decide +kernel
theorem dX9_isKept_5 : decode cX9_isKept 5 = .ok (.iload_n 1, 1) := by decide +kernel
theorem dX9_isKept_6 : decode cX9_isKept 6 = .ok (.invokevirtual 165, 3) := by decide +kernel
theorem dX9_isKept_9 : decode cX9_isKept 9 = .ok (.ifCond .ne 15, 3) := by decide +kernel
theorem dX9_isKept_12 : decode cX9_isKept 12 = .ok (.aload_n 0, 1) := by decide +kernel
theorem dX9_isKept_13 : decode cX9_isKept 13 = .ok (.iload_n 1, 1) := by decide +kernel
theorem dX9_isKept_14 : decode cX9_isKept 14 = .ok (.invokevirtual 190, 3) := by decide +kernel
theorem dX9_isKept_17 : decode cX9_isKept 17 = .ok (.ifCond .eq 7, 3) := by decide +kernel
theorem dX9_isKept_20 : decode cX9_isKept 20 = .ok (.iconst 1, 1) := by decide +kernel
theorem dX9_isKept_21 : decode cX9_isKept 21 = .ok (.goto 4, 3) := by decide +kernel
theorem dX9_isKept_24 : decode cX9_isKept 24 = .ok (.iconst 0, 1) := by decide +kernel
theorem dX9_isKept_25 : decode cX9_isKept 25 = .ok (.ireturn, 1) := by decide +kernel
set_option maxRecDepth 20000 in
theorem ggX9_firstOff_X9_keeps : GoodIn wsX9_firstOff wsX9_keeps := goodIn_r _ [8, 2, 3, 9, 1, 10, 11, 12, 7, 13, 14, 15, 16, 17, 18, 19, 20, 21, 22, 23, 24, 25, 26, 27, 28, 29, 30, 31, 32, 33, 34, 35, 36, 37, 38, 39, 40, 41, 42, 43, 44, 45, 46, 47, 48, 49, 50, 51, 52, 53, 54, 55, 56, 57, 58, 59, 60, 61, 62, 63, 64, 65, 66, 67, 68, 69, 70, 71, 72, 73, 74, 75, 76, 77, 78, 79, 80, 81, 82, 83] (by decide +kernel) (by decide +kernel)
set_option maxRecDepth 20000 in
theorem gX9_firstOff_X9_keeps : GoodIn wsX9_firstOff (wsV RX9 190 RX9 yX9_keeps wsX9_keeps) := goodIn_app (goodIn_of _ (by decide +kernel)) ggX9_firstOff_X9_keeps
set_option maxRecDepth 20000 in
theorem ggX9_firstOff_X9_isAhead : GoodIn wsX9_firstOff wsX9_isAhead := goodIn_r _ [13, 2, 3, 14, 45, 46, 47, 48, 49, 50, 51, 52, 53, 54, 55, 56, 57, 58, 59, 60, 61, 62, 63, 64, 65, 66, 67, 68, 69, 70, 71, 72, 73, 74, 75, 76, 77, 78, 79, 80, 81, 82, 83] (by decide +kernel) (by decide +kernel)
set_option maxRecDepth 20000 in
theorem gX9_firstOff_X9_isAhead : GoodIn wsX9_firstOff (wsV RX9 178 RX9 yX9_isAhead wsX9_isAhead) := goodIn_app (goodIn_of _ (by decide +kernel)) ggX9_firstOff_X9_isAhead
theorem dX9_firstOff_0 : decode cX9_firstOff 0 = .ok (.iload_n 1, 1) := by decide +kernel
theorem dX9_firstOff_1 : decode cX9_firstOff 1 = .ok (.istore_n 2, 1) := by decide +kernel
theorem dX9_firstOff_2 : decode cX9_firstOff 2 = .ok (.iconst 0, 1) := by decide +kernel
theorem dX9_firstOff_3 : decode cX9_firstOff 3 = .ok (.istore_n 3, 1) := by decide +kernel
theorem dX9_firstOff_4 : decode cX9_firstOff 4 = .ok (.iload_n 3, 1) := by decide +kernel
theorem dX9_firstOff_5 : decode cX9_firstOff 5 = .ok (.aload_n 0, 1) := by decide +kernel
theorem dX9_firstOff_6 : decode cX9_firstOff 6 = .ok (.getfield 108, 3) := by decide +kernel
theorem dX9_firstOff_9 : decode cX9_firstOff 9 = .ok (.if_icmp .ge 57, 3) := by decide +kernel
theorem dX9_firstOff_12 : decode cX9_firstOff 12 = .ok (.aload_n 0, 1) := by decide +kernel
theorem dX9_firstOff_13 : decode cX9_firstOff 13 = .ok (.getfield 13, 3) := by decide +kernel
theorem dX9_firstOff_16 : decode cX9_firstOff 16 = .ok (.aload_n 0, 1) := by decide +kernel
theorem dX9_firstOff_17 : decode cX9_firstOff 17 = .ok (.getfield 69, 3) := by decide +kernel
theorem dX9_firstOff_20 : decode cX9_firstOff 20 = .ok (.iload_n 3, 1) := by decide +kernel
theorem dX9_firstOff_21 : decode cX9_firstOff 21 = .ok (.iaload, 1) := by decide +kernel
theorem dX9_firstOff_22 : decode cX9_firstOff 22 = .ok (.iaload, 1) := by decide +kernel
theorem dX9_firstOff_23 : decode cX9_firstOff 23 = .ok (.aload_n 0, 1) := by decide +kernel
theorem dX9_firstOff_24 : decode cX9_firstOff 24 = .ok (.getfield 13, 3) := by decide +kernel
theorem dX9_firstOff_27 : decode cX9_firstOff 27 = .ok (.aload_n 0, 1) := by decide +kernel
theorem dX9_firstOff_28 : decode cX9_firstOff 28 = .ok (.getfield 69, 3) := by decide +kernel
theorem dX9_firstOff_31 : decode cX9_firstOff 31 = .ok (.iload_n 1, 1) := by decide +kernel
theorem dX9_firstOff_32 : decode cX9_firstOff 32 = .ok (.iaload, 1) := by decide +kernel
theorem dX9_firstOff_33 : decode cX9_firstOff 33 = .ok (.iaload, 1) := by decide +kernel
theorem dX9_firstOff_34 : decode cX9_firstOff 34 = .ok (.if_icmp .ne 24, 3) := by decide +kernel
theorem dX9_firstOff_37 : decode cX9_firstOff 37 = .ok (.aload_n 0, 1) := by decide +kernel
theorem dX9_firstOff_38 : decode cX9_firstOff 38 = .ok (.iload_n 3, 1) := by decide +kernel
theorem dX9_firstOff_39 : decode cX9_firstOff 39 = .ok (.invokevirtual 190, 3) := by decide +kernel
theorem dX9_firstOff_42 : decode cX9_firstOff 42 = .ok (.ifCond .ne 16, 3) := by decide +kernel
theorem dX9_firstOff_45 : decode cX9_firstOff 45 = .ok (.aload_n 0, 1) := by decide +kernel
theorem dX9_firstOff_46 : decode cX9_firstOff 46 = .ok (.iload_n 3, 1) := by decide +kernel
theorem dX9_firstOff_47 : decode cX9_firstOff 47 = .ok (.iload_n 2, 1) := by decide +kernel
theorem dX9_firstOff_48 : decode cX9_firstOff 48 = .ok (.invokevirtual 178, 3) := by decide +kernel
theorem dX9_firstOff_51 : decode cX9_firstOff 51 = .ok (.ifCond .eq 7, 3) := by decide +kernel
theorem dX9_firstOff_54 : decode cX9_firstOff 54 = .ok (.iload_n 3, 1) := by decide +kernel
theorem dX9_firstOff_55 : decode cX9_firstOff 55 = .ok (.goto 4, 3) := by decide +kernel
theorem dX9_firstOff_58 : decode cX9_firstOff 58 = .ok (.iload_n 2, 1) := by decide +kernel
theorem dX9_firstOff_59 : decode cX9_firstOff 59 = .ok (.istore_n 2, 1) := by decide +kernel
theorem dX9_firstOff_60 : decode cX9_firstOff 60 = .ok (.iinc 3 1, 3) := by decide +kernel
theorem dX9_firstOff_63 : decode cX9_firstOff 63 = .ok (.goto (-59), 3) := by decide +kernel
theorem dX9_firstOff_66 : decode cX9_firstOff 66 = .ok (.iload_n 2, 1) := by decide +kernel
theorem dX9_firstOff_67 : decode cX9_firstOff 67 = .ok (.ireturn, 1) := by decide +kernel
set_option maxRecDepth 20000 in
theorem ggX9_barrier_X9_marks : GoodIn wsX9_barrier wsX9_marks := goodIn_r _ [5, 6, 7, 8, 9, 10, 11, 12, 13, 14, 15, 70, 71, 72, 73, 74, 75, 76, 77, 78, 79, 80, 81, 82, 83, 84, 85, 86, 87, 88, 89, 90, 91, 92, 93, 94, 95, 96, 97, 98, 99, 100, 101, 102, 103, 104, 105, 106, 107, 108] (by decide +kernel) (by decide +kernel)
set_option maxRecDepth 20000 in
theorem gX9_barrier_X9_marks : GoodIn wsX9_barrier (wsV RX9 121 RX9 yX9_marks wsX9_marks) := goodIn_app (goodIn_of _ (by decide +kernel)) ggX9_barrier_X9_marks
set_option maxRecDepth 20000 in
theorem ggX9_barrier_X9_isNoLoad : GoodIn wsX9_barrier wsX9_isNoLoad := goodIn_r _ [19, 20, 21, 22, 4, 23, 24, 25, 26, 27, 28, 70, 71, 72, 73, 74, 75, 76, 77, 78, 79, 80, 81, 82, 83, 84, 85, 86, 87, 88, 89, 90, 91, 92, 93, 94, 95, 96, 97, 98, 99, 100, 101, 102, 103, 104, 105, 106, 107, 108] (by decide +kernel) (by decide +kernel)
set_option maxRecDepth 20000 in
theorem gX9_barrier_X9_isNoLoad : GoodIn wsX9_barrier (wsV RX9 165 RX9 yX9_isNoLoad wsX9_isNoLoad) := goodIn_app (goodIn_of _ (by decide +kernel)) ggX9_barrier_X9_isNoLoad
set_option maxRecDepth 20000 in
theorem ggX9_barrier_X9_keeps : GoodIn wsX9_barrier wsX9_keeps := goodIn_r _ [32, 7, 33, 34, 20, 35, 36, 37, 4, 38, 39, 40, 41, 42, 43, 44, 45, 46, 47, 48, 49, 50, 51, 12, 13, 14, 15, 52, 53, 54, 55, 56, 57, 58, 59, 60, 61, 62, 63, 64, 65, 70, 71, 72, 73, 74, 75, 76, 77, 78, 79, 80, 81, 82, 83, 84, 85, 86, 87, 88, 89, 90, 91, 92, 93, 94, 95, 96, 97, 98, 99, 100, 101, 102, 103, 104, 105, 106, 107, 108] (by decide +kernel) (by decide +kernel)
set_option maxRecDepth 20000 in
theorem gX9_barrier_X9_keeps : GoodIn wsX9_barrier (wsV RX9 190 RX9 yX9_keeps wsX9_keeps) := goodIn_app (goodIn_of _ (by decide +kernel)) ggX9_barrier_X9_keeps
set_option maxRecDepth 20000 in
theorem ggX9_barrier_X9_isThrown : GoodIn wsX9_barrier wsX9_isThrown := goodIn_r _ [27, 28, 70, 71, 72, 73, 74, 75, 76, 77, 78, 79, 80, 81, 82, 83, 84, 85, 86, 87, 88, 89, 90, 91, 92, 93, 94, 95, 96, 97, 98, 99, 100, 101, 102, 103, 104, 105, 106, 107, 108] (by decide +kernel) (by decide +kernel)
set_option maxRecDepth 20000 in
theorem gX9_barrier_X9_isThrown : GoodIn wsX9_barrier (wsV RX9 95 RX9 yX9_isThrown wsX9_isThrown) := goodIn_app (goodIn_of _ (by decide +kernel)) ggX9_barrier_X9_isThrown
set_option maxRecDepth 20000 in
theorem ggX9_barrier_X9_firstOff : GoodIn wsX9_barrier wsX9_firstOff := goodIn_r _ [69, 20, 7, 33, 29, 30, 31, 4, 32, 34, 35, 36, 37, 38, 39, 40, 41, 42, 43, 44, 45, 46, 47, 48, 49, 50, 51, 12, 13, 14, 15, 52, 53, 54, 55, 56, 57, 58, 59, 60, 61, 62, 63, 64, 65, 70, 71, 72, 73, 74, 75, 76, 77, 78, 79, 80, 81, 82, 83, 84, 85, 86, 87, 88, 89, 90, 91, 92, 93, 94, 95, 96, 97, 98, 99, 100, 101, 102, 103, 104, 105, 106, 107, 108] (by decide +kernel) (by decide +kernel)
set_option maxRecDepth 20000 in
theorem gX9_barrier_X9_firstOff : GoodIn wsX9_barrier (wsV RX9 193 RX9 yX9_firstOff wsX9_firstOff) := goodIn_app (goodIn_of _ (by decide +kernel)) ggX9_barrier_X9_firstOff
theorem dX9_barrier_0 : decode cX9_barrier 0 = .ok (.aload_n 0, 1) := by decide +kernel
theorem dX9_barrier_1 : decode cX9_barrier 1 = .ok (.invokevirtual 121, 3) := by decide +kernel
theorem dX9_barrier_4 : decode cX9_barrier 4 = .ok (.aload_n 0, 1) := by decide +kernel
theorem dX9_barrier_5 : decode cX9_barrier 5 = .ok (.iload_n 1, 1) := by decide +kernel
theorem dX9_barrier_6 : decode cX9_barrier 6 = .ok (.invokevirtual 165, 3) := by decide +kernel
theorem dX9_barrier_9 : decode cX9_barrier 9 = .ok (.ifCond .ne 16, 3) := by decide +kernel
theorem dX9_barrier_12 : decode cX9_barrier 12 = .ok (.aload_n 0, 1) := by decide +kernel
theorem dX9_barrier_13 : decode cX9_barrier 13 = .ok (.aload_n 0, 1) := by decide +kernel
theorem dX9_barrier_14 : decode cX9_barrier 14 = .ok (.iload_n 1, 1) := by decide +kernel
theorem dX9_barrier_15 : decode cX9_barrier 15 = .ok (.invokevirtual 190, 3) := by decide +kernel
theorem dX9_barrier_18 : decode cX9_barrier 18 = .ok (.iconst 2, 1) := by decide +kernel
theorem dX9_barrier_19 : decode cX9_barrier 19 = .ok (.invokevirtual 95, 3) := by decide +kernel
theorem dX9_barrier_22 : decode cX9_barrier 22 = .ok (.ifCond .eq 7, 3) := by decide +kernel
theorem dX9_barrier_25 : decode cX9_barrier 25 = .ok (.iconst 0, 1) := by decide +kernel
theorem dX9_barrier_26 : decode cX9_barrier 26 = .ok (.goto 8, 3) := by decide +kernel
theorem dX9_barrier_29 : decode cX9_barrier 29 = .ok (.aload_n 0, 1) := by decide +kernel
theorem dX9_barrier_30 : decode cX9_barrier 30 = .ok (.iload_n 1, 1) := by decide +kernel
theorem dX9_barrier_31 : decode cX9_barrier 31 = .ok (.invokevirtual 193, 3) := by decide +kernel
theorem dX9_barrier_34 : decode cX9_barrier 34 = .ok (.ireturn, 1) := by decide +kernel
set_option maxRecDepth 20000 in
theorem ggX9_behind_X9_marks : GoodIn wsX9_behind wsX9_marks := goodIn_r _ [6, 7, 8, 9, 10, 11, 12, 13, 14, 15, 16, 70, 71, 72, 73, 74, 75, 76, 77, 78, 79, 80, 81, 82, 83, 84, 85, 86, 87, 88, 89, 90, 91, 92, 93, 94, 95, 96, 97, 98, 99, 100, 101, 102, 103, 104, 105, 106, 107, 108] (by decide +kernel) (by decide +kernel)
set_option maxRecDepth 20000 in
theorem gX9_behind_X9_marks : GoodIn wsX9_behind (wsV RX9 121 RX9 yX9_marks wsX9_marks) := goodIn_app (goodIn_of _ (by decide +kernel)) ggX9_behind_X9_marks
set_option maxRecDepth 20000 in
theorem ggX9_behind_X9_isNoLoad : GoodIn wsX9_behind wsX9_isNoLoad := goodIn_r _ [20, 1, 21, 22, 5, 23, 24, 25, 26, 27, 28, 70, 71, 72, 73, 74, 75, 76, 77, 78, 79, 80, 81, 82, 83, 84, 85, 86, 87, 88, 89, 90, 91, 92, 93, 94, 95, 96, 97, 98, 99, 100, 101, 102, 103, 104, 105, 106, 107, 108] (by decide +kernel) (by decide +kernel)
set_option maxRecDepth 20000 in
theorem gX9_behind_X9_isNoLoad : GoodIn wsX9_behind (wsV RX9 165 RX9 yX9_isNoLoad wsX9_isNoLoad) := goodIn_app (goodIn_of _ (by decide +kernel)) ggX9_behind_X9_isNoLoad
set_option maxRecDepth 20000 in
theorem ggX9_behind_X9_keeps : GoodIn wsX9_behind wsX9_keeps := goodIn_r _ [32, 8, 33, 34, 1, 35, 36, 37, 5, 38, 39, 40, 41, 42, 43, 44, 45, 46, 47, 48, 49, 50, 51, 13, 14, 15, 16, 52, 53, 54, 55, 56, 57, 58, 59, 60, 61, 62, 63, 64, 65, 70, 71, 72, 73, 74, 75, 76, 77, 78, 79, 80, 81, 82, 83, 84, 85, 86, 87, 88, 89, 90, 91, 92, 93, 94, 95, 96, 97, 98, 99, 100, 101, 102, 103, 104, 105, 106, 107, 108] (by decide +kernel) (by decide +kernel)
set_option maxRecDepth 20000 in
theorem gX9_behind_X9_keeps : GoodIn wsX9_behind (wsV RX9 190 RX9 yX9_keeps wsX9_keeps) := goodIn_app (goodIn_of _ (by decide +kernel)) ggX9_behind_X9_keeps
set_option maxRecDepth 20000 in
theorem ggX9_behind_X9_isThrown : GoodIn wsX9_behind wsX9_isThrown := goodIn_r _ [27, 28, 70, 71, 72, 73, 74, 75, 76, 77, 78, 79, 80, 81, 82, 83, 84, 85, 86, 87, 88, 89, 90, 91, 92, 93, 94, 95, 96, 97, 98, 99, 100, 101, 102, 103, 104, 105, 106, 107, 108] (by decide +kernel) (by decide +kernel)
set_option maxRecDepth 20000 in
theorem gX9_behind_X9_isThrown : GoodIn wsX9_behind (wsV RX9 95 RX9 yX9_isThrown wsX9_isThrown) := goodIn_app (goodIn_of _ (by decide +kernel)) ggX9_behind_X9_isThrown
set_option maxRecDepth 20000 in
theorem ggX9_behind_X9_firstOff : GoodIn wsX9_behind wsX9_firstOff := goodIn_r _ [69, 1, 8, 33, 29, 30, 31, 5, 32, 34, 35, 36, 37, 38, 39, 40, 41, 42, 43, 44, 45, 46, 47, 48, 49, 50, 51, 13, 14, 15, 16, 52, 53, 54, 55, 56, 57, 58, 59, 60, 61, 62, 63, 64, 65, 70, 71, 72, 73, 74, 75, 76, 77, 78, 79, 80, 81, 82, 83, 84, 85, 86, 87, 88, 89, 90, 91, 92, 93, 94, 95, 96, 97, 98, 99, 100, 101, 102, 103, 104, 105, 106, 107, 108] (by decide +kernel) (by decide +kernel)
set_option maxRecDepth 20000 in
theorem gX9_behind_X9_firstOff : GoodIn wsX9_behind (wsV RX9 193 RX9 yX9_firstOff wsX9_firstOff) := goodIn_app (goodIn_of _ (by decide +kernel)) ggX9_behind_X9_firstOff
set_option maxRecDepth 20000 in
theorem ggX9_behind_X9_isAhead : GoodIn wsX9_behind wsX9_isAhead := goodIn_r _ [38, 8, 33, 39, 70, 71, 72, 73, 74, 75, 76, 77, 78, 79, 80, 81, 82, 83, 84, 85, 86, 87, 88, 89, 90, 91, 92, 93, 94, 95, 96, 97, 98, 99, 100, 101, 102, 103, 104, 105, 106, 107, 108] (by decide +kernel) (by decide +kernel)
set_option maxRecDepth 20000 in
theorem gX9_behind_X9_isAhead : GoodIn wsX9_behind (wsV RX9 178 RX9 yX9_isAhead wsX9_isAhead) := goodIn_app (goodIn_of _ (by decide +kernel)) ggX9_behind_X9_isAhead
theorem dX9_behind_0 : decode cX9_behind 0 = .ok (.aload_n 0, 1) := by decide +kernel
theorem dX9_behind_1 : decode cX9_behind 1 = .ok (.invokevirtual 121, 3) := by decide +kernel
theorem dX9_behind_4 : decode cX9_behind 4 = .ok (.aload_n 0, 1) := by decide +kernel
theorem dX9_behind_5 : decode cX9_behind 5 = .ok (.iload_n 1, 1) := by decide +kernel
theorem dX9_behind_6 : decode cX9_behind 6 = .ok (.invokevirtual 165, 3) := by decide +kernel
theorem dX9_behind_9 : decode cX9_behind 9 = .ok (.ifCond .ne 16, 3) := by decide +kernel
theorem dX9_behind_12 : decode cX9_behind 12 = .ok (.aload_n 0, 1) := by decide +kernel
theorem dX9_behind_13 : decode cX9_behind 13 = .ok (.aload_n 0, 1) := by decide +kernel
theorem dX9_behind_14 : decode cX9_behind 14 = .ok (.iload_n 1, 1) := by decide +kernel
theorem dX9_behind_15 : decode cX9_behind 15 = .ok (.invokevirtual 190, 3) := by decide +kernel
theorem dX9_behind_18 : decode cX9_behind 18 = .ok (.iconst 2, 1) := by decide +kernel
theorem dX9_behind_19 : decode cX9_behind 19 = .ok (.invokevirtual 95, 3) := by decide +kernel
theorem dX9_behind_22 : decode cX9_behind 22 = .ok (.ifCond .eq 5, 3) := by decide +kernel
theorem dX9_behind_25 : decode cX9_behind 25 = .ok (.iconst 0, 1) := by decide +kernel
theorem dX9_behind_26 : decode cX9_behind 26 = .ok (.ireturn, 1) := by decide +kernel
theorem dX9_behind_27 : decode cX9_behind 27 = .ok (.aload_n 0, 1) := by decide +kernel
theorem dX9_behind_28 : decode cX9_behind 28 = .ok (.iload_n 1, 1) := by decide +kernel
theorem dX9_behind_29 : decode cX9_behind 29 = .ok (.invokevirtual 193, 3) := by decide +kernel
theorem dX9_behind_32 : decode cX9_behind 32 = .ok (.istore_n 2, 1) := by decide +kernel
theorem dX9_behind_33 : decode cX9_behind 33 = .ok (.iconst 0, 1) := by decide +kernel
theorem dX9_behind_34 : decode cX9_behind 34 = .ok (.istore_n 3, 1) := by decide +kernel
theorem dX9_behind_35 : decode cX9_behind 35 = .ok (.iconst 0, 1) := by decide +kernel
theorem dX9_behind_36 : decode cX9_behind 36 = .ok (.istore 4, 2) := by decide +kernel
theorem dX9_behind_38 : decode cX9_behind 38 = .ok (.iload 4, 2) := by decide +kernel
theorem dX9_behind_40 : decode cX9_behind 40 = .ok (.aload_n 0, 1) := by decide +kernel
theorem dX9_behind_41 : decode cX9_behind 41 = .ok (.getfield 108, 3) := by decide +kernel
theorem dX9_behind_44 : decode cX9_behind 44 = .ok (.if_icmp .ge 37, 3) := by decide +kernel
theorem dX9_behind_47 : decode cX9_behind 47 = .ok (.iload_n 3, 1) := by decide +kernel
theorem dX9_behind_48 : decode cX9_behind 48 = .ok (.aload_n 0, 1) := by decide +kernel
theorem dX9_behind_49 : decode cX9_behind 49 = .ok (.iload 4, 2) := by decide +kernel
theorem dX9_behind_51 : decode cX9_behind 51 = .ok (.iload_n 1, 1) := by decide +kernel
theorem dX9_behind_52 : decode cX9_behind 52 = .ok (.invokevirtual 178, 3) := by decide +kernel
theorem dX9_behind_55 : decode cX9_behind 55 = .ok (.ifCond .eq 17, 3) := by decide +kernel
theorem dX9_behind_58 : decode cX9_behind 58 = .ok (.aload_n 0, 1) := by decide +kernel
theorem dX9_behind_59 : decode cX9_behind 59 = .ok (.iload 4, 2) := by decide +kernel
theorem dX9_behind_61 : decode cX9_behind 61 = .ok (.iload_n 2, 1) := by decide +kernel
theorem dX9_behind_62 : decode cX9_behind 62 = .ok (.invokevirtual 178, 3) := by decide +kernel
theorem dX9_behind_65 : decode cX9_behind 65 = .ok (.ifCond .ne 7, 3) := by decide +kernel
theorem dX9_behind_68 : decode cX9_behind 68 = .ok (.iconst 1, 1) := by decide +kernel
theorem dX9_behind_69 : decode cX9_behind 69 = .ok (.goto 4, 3) := by decide +kernel
theorem dX9_behind_72 : decode cX9_behind 72 = .ok (.iconst 0, 1) := by decide +kernel
theorem dX9_behind_73 : decode cX9_behind 73 = .ok (.iadd, 1) := by decide +kernel
theorem dX9_behind_74 : decode cX9_behind 74 = .ok (.istore_n 3, 1) := by decide +kernel
theorem dX9_behind_75 : decode cX9_behind 75 = .ok (.iinc 4 1, 3) := by decide +kernel
theorem dX9_behind_78 : decode cX9_behind 78 = .ok (.goto (-40), 3) := by decide +kernel
theorem dX9_behind_81 : decode cX9_behind 81 = .ok (.iload_n 3, 1) := by decide +kernel
theorem dX9_behind_82 : decode cX9_behind 82 = .ok (.ireturn, 1) := by decide +kernel
set_option maxRecDepth 20000 in
theorem ggX9_gives_X9_runs : GoodIn wsX9_gives wsX9_runs := goodIn_r _ [14, 15, 16, 17, 22, 23, 24, 25, 26, 27, 28, 29, 30, 31, 32, 33, 34, 35, 36, 37, 38, 39, 40, 41, 42, 43, 44, 45, 46, 47, 48, 49, 50, 51, 52, 53, 54, 55, 56, 57, 58, 59, 60] (by decide +kernel) (by decide +kernel)
set_option maxRecDepth 20000 in
theorem gX9_gives_X9_runs : GoodIn wsX9_gives (wsV RX9 171 RX9 yX9_runs wsX9_runs) := goodIn_app (goodIn_of _ (by decide +kernel)) ggX9_gives_X9_runs
set_option maxRecDepth 20000 in
theorem ggX9_gives_X9_isLess : GoodIn wsX9_gives wsX9_isLess := goodIn_r _ [21, 4, 5, 6, 7, 8, 9, 3, 2, 22, 23, 24, 25, 26, 27, 28, 29, 30, 31, 32, 33, 34, 35, 36, 37, 38, 39, 40, 41, 42, 43, 44, 45, 46, 47, 48, 49, 50, 51, 52, 53, 54, 55, 56, 57, 58, 59, 60] (by decide +kernel) (by decide +kernel)
set_option maxRecDepth 20000 in
theorem gX9_gives_X9_isLess : GoodIn wsX9_gives (wsV RX9 196 RX9 yX9_isLess wsX9_isLess) := goodIn_app (goodIn_of _ (by decide +kernel)) ggX9_gives_X9_isLess
theorem dX9_gives_0 : decode cX9_gives 0 = .ok (.iconst 0, 1) := by decide +kernel
theorem dX9_gives_1 : decode cX9_gives 1 = .ok (.istore_n 3, 1) := by decide +kernel
theorem dX9_gives_2 : decode cX9_gives 2 = .ok (.iconst 0, 1) := by decide +kernel
theorem dX9_gives_3 : decode cX9_gives 3 = .ok (.istore 4, 2) := by decide +kernel
theorem dX9_gives_5 : decode cX9_gives 5 = .ok (.iload 4, 2) := by decide +kernel
theorem dX9_gives_7 : decode cX9_gives 7 = .ok (.aload_n 0, 1) := by decide +kernel
theorem dX9_gives_8 : decode cX9_gives 8 = .ok (.getfield 102, 3) := by decide +kernel
theorem dX9_gives_11 : decode cX9_gives 11 = .ok (.if_icmp .ge 43, 3) := by decide +kernel
theorem dX9_gives_14 : decode cX9_gives 14 = .ok (.aload_n 0, 1) := by decide +kernel
theorem dX9_gives_15 : decode cX9_gives 15 = .ok (.iload 4, 2) := by decide +kernel
theorem dX9_gives_17 : decode cX9_gives 17 = .ok (.iload_n 1, 1) := by decide +kernel
theorem dX9_gives_18 : decode cX9_gives 18 = .ok (.invokevirtual 171, 3) := by decide +kernel
theorem dX9_gives_21 : decode cX9_gives 21 = .ok (.ifCond .eq 27, 3) := by decide +kernel
theorem dX9_gives_24 : decode cX9_gives 24 = .ok (.aload_n 0, 1) := by decide +kernel
theorem dX9_gives_25 : decode cX9_gives 25 = .ok (.getfield 47, 3) := by decide +kernel
theorem dX9_gives_28 : decode cX9_gives 28 = .ok (.iload 4, 2) := by decide +kernel
theorem dX9_gives_30 : decode cX9_gives 30 = .ok (.aload_n 0, 1) := by decide +kernel
theorem dX9_gives_31 : decode cX9_gives 31 = .ok (.getfield 32, 3) := by decide +kernel
theorem dX9_gives_34 : decode cX9_gives 34 = .ok (.iload 4, 2) := by decide +kernel
theorem dX9_gives_36 : decode cX9_gives 36 = .ok (.iaload, 1) := by decide +kernel
theorem dX9_gives_37 : decode cX9_gives 37 = .ok (.iastore, 1) := by decide +kernel
theorem dX9_gives_38 : decode cX9_gives 38 = .ok (.iload_n 3, 1) := by decide +kernel
theorem dX9_gives_39 : decode cX9_gives 39 = .ok (.aload_n 0, 1) := by decide +kernel
theorem dX9_gives_40 : decode cX9_gives 40 = .ok (.getfield 32, 3) := by decide +kernel
theorem dX9_gives_43 : decode cX9_gives 43 = .ok (.iload 4, 2) := by decide +kernel
theorem dX9_gives_45 : decode cX9_gives 45 = .ok (.iaload, 1) := by decide +kernel
theorem dX9_gives_46 : decode cX9_gives 46 = .ok (.iadd, 1) := by decide +kernel
theorem dX9_gives_47 : decode cX9_gives 47 = .ok (.istore_n 3, 1) := by decide +kernel
theorem dX9_gives_48 : decode cX9_gives 48 = .ok (.iinc 4 1, 3) := by decide +kernel
theorem dX9_gives_51 : decode cX9_gives 51 = .ok (.goto (-46), 3) := by decide +kernel
theorem dX9_gives_54 : decode cX9_gives 54 = .ok (.iconst 0, 1) := by decide +kernel
theorem dX9_gives_55 : decode cX9_gives 55 = .ok (.istore 4, 2) := by decide +kernel
theorem dX9_gives_57 : decode cX9_gives 57 = .ok (.iload_n 3, 1) := by decide +kernel
theorem dX9_gives_58 : decode cX9_gives 58 = .ok (.iload_n 2, 1) := by decide +kernel
theorem dX9_gives_59 : decode cX9_gives 59 = .ok (.if_icmp .ge 112, 3) := by decide +kernel
theorem dX9_gives_62 : decode cX9_gives 62 = .ok (.iload 4, 2) := by decide +kernel
theorem dX9_gives_64 : decode cX9_gives 64 = .ok (.ifCond .lt 107, 3) := by decide +kernel
theorem dX9_gives_67 : decode cX9_gives 67 = .ok (.iconst (-1), 1) := by decide +kernel
theorem dX9_gives_68 : decode cX9_gives 68 = .ok (.istore 4, 2) := by decide +kernel
theorem dX9_gives_70 : decode cX9_gives 70 = .ok (.iconst 0, 1) := by decide +kernel
theorem dX9_gives_71 : decode cX9_gives 71 = .ok (.istore 5, 2) := by decide +kernel
theorem dX9_gives_73 : decode cX9_gives 73 = .ok (.iload 5, 2) := by decide +kernel
theorem dX9_gives_75 : decode cX9_gives 75 = .ok (.aload_n 0, 1) := by decide +kernel
theorem dX9_gives_76 : decode cX9_gives 76 = .ok (.getfield 102, 3) := by decide +kernel
theorem dX9_gives_79 : decode cX9_gives 79 = .ok (.if_icmp .ge 70, 3) := by decide +kernel
theorem dX9_gives_82 : decode cX9_gives 82 = .ok (.aload_n 0, 1) := by decide +kernel
theorem dX9_gives_83 : decode cX9_gives 83 = .ok (.getfield 35, 3) := by decide +kernel
theorem dX9_gives_86 : decode cX9_gives 86 = .ok (.iload 5, 2) := by decide +kernel
theorem dX9_gives_88 : decode cX9_gives 88 = .ok (.iaload, 1) := by decide +kernel
theorem dX9_gives_89 : decode cX9_gives 89 = .ok (.aload_n 0, 1) := by decide +kernel
theorem dX9_gives_90 : decode cX9_gives 90 = .ok (.getfield 41, 3) := by decide +kernel
theorem dX9_gives_93 : decode cX9_gives 93 = .ok (.iload 5, 2) := by decide +kernel
theorem dX9_gives_95 : decode cX9_gives 95 = .ok (.iaload, 1) := by decide +kernel
theorem dX9_gives_96 : decode cX9_gives 96 = .ok (.invokestatic 115, 3) := by decide +kernel
theorem dX9_gives_99 : decode cX9_gives 99 = .ok (.istore 6, 2) := by decide +kernel
theorem dX9_gives_101 : decode cX9_gives 101 = .ok (.aload_n 0, 1) := by decide +kernel
theorem dX9_gives_102 : decode cX9_gives 102 = .ok (.iload 5, 2) := by decide +kernel
theorem dX9_gives_104 : decode cX9_gives 104 = .ok (.iload_n 1, 1) := by decide +kernel
theorem dX9_gives_105 : decode cX9_gives 105 = .ok (.invokevirtual 171, 3) := by decide +kernel
theorem dX9_gives_108 : decode cX9_gives 108 = .ok (.ifCond .eq 35, 3) := by decide +kernel
theorem dX9_gives_111 : decode cX9_gives 111 = .ok (.aload_n 0, 1) := by decide +kernel
theorem dX9_gives_112 : decode cX9_gives 112 = .ok (.getfield 47, 3) := by decide +kernel
theorem dX9_gives_115 : decode cX9_gives 115 = .ok (.iload 5, 2) := by decide +kernel
theorem dX9_gives_117 : decode cX9_gives 117 = .ok (.iaload, 1) := by decide +kernel
theorem dX9_gives_118 : decode cX9_gives 118 = .ok (.iload 6, 2) := by decide +kernel
theorem dX9_gives_120 : decode cX9_gives 120 = .ok (.if_icmp .ge 23, 3) := by decide +kernel
theorem dX9_gives_123 : decode cX9_gives 123 = .ok (.iload 4, 2) := by decide +kernel
theorem dX9_gives_125 : decode cX9_gives 125 = .ok (.ifCond .lt 14, 3) := by decide +kernel
theorem dX9_gives_128 : decode cX9_gives 128 = .ok (.aload_n 0, 1) := by decide +kernel
theorem dX9_gives_129 : decode cX9_gives 129 = .ok (.iload 5, 2) := by decide +kernel
theorem dX9_gives_131 : decode cX9_gives 131 = .ok (.iload 4, 2) := by decide +kernel
theorem dX9_gives_133 : decode cX9_gives 133 = .ok (.invokevirtual 196, 3) := by decide +kernel
theorem dX9_gives_136 : decode cX9_gives 136 = .ok (.ifCond .eq 7, 3) := by decide +kernel
theorem dX9_gives_139 : decode cX9_gives 139 = .ok (.iload 5, 2) := by decide +kernel
theorem dX9_gives_141 : decode cX9_gives 141 = .ok (.istore 4, 2) := by decide +kernel
theorem dX9_gives_143 : decode cX9_gives 143 = .ok (.iinc 5 1, 3) := by decide +kernel
theorem dX9_gives_146 : decode cX9_gives 146 = .ok (.goto (-73), 3) := by decide +kernel
theorem dX9_gives_149 : decode cX9_gives 149 = .ok (.iload 4, 2) := by decide +kernel
theorem dX9_gives_151 : decode cX9_gives 151 = .ok (.ifCond .lt (-94), 3) := by decide +kernel
theorem dX9_gives_154 : decode cX9_gives 154 = .ok (.aload_n 0, 1) := by decide +kernel
theorem dX9_gives_155 : decode cX9_gives 155 = .ok (.getfield 47, 3) := by decide +kernel
theorem dX9_gives_158 : decode cX9_gives 158 = .ok (.iload 4, 2) := by decide +kernel
theorem dX9_gives_160 : decode cX9_gives 160 = .ok (.dup2, 1) := by decide +kernel
theorem dX9_gives_161 : decode cX9_gives 161 = .ok (.iaload, 1) := by decide +kernel
theorem dX9_gives_162 : decode cX9_gives 162 = .ok (.iconst 1, 1) := by decide +kernel
theorem dX9_gives_163 : decode cX9_gives 163 = .ok (.iadd, 1) := by decide +kernel
theorem dX9_gives_164 : decode cX9_gives 164 = .ok (.iastore, 1) := by decide +kernel
theorem dX9_gives_165 : decode cX9_gives 165 = .ok (.iinc 3 1, 3) := by decide +kernel
theorem dX9_gives_168 : decode cX9_gives 168 = .ok (.goto (-111), 3) := by decide +kernel
theorem dX9_gives_171 : decode cX9_gives 171 = .ok (.iload_n 3, 1) := by decide +kernel
theorem dX9_gives_172 : decode cX9_gives 172 = .ok (.ireturn, 1) := by decide +kernel
theorem dX9_isLess_0 : decode cX9_isLess 0 = .ok (.aload_n 0, 1) := by decide +kernel
theorem dX9_isLess_1 : decode cX9_isLess 1 = .ok (.getfield 35, 3) := by decide +kernel
theorem dX9_isLess_4 : decode cX9_isLess 4 = .ok (.iload_n 1, 1) := by decide +kernel
theorem dX9_isLess_5 : decode cX9_isLess 5 = .ok (.iaload, 1) := by decide +kernel
theorem dX9_isLess_6 : decode cX9_isLess 6 = .ok (.aload_n 0, 1) := by decide +kernel
theorem dX9_isLess_7 : decode cX9_isLess 7 = .ok (.getfield 41, 3) := by decide +kernel
theorem dX9_isLess_10 : decode cX9_isLess 10 = .ok (.iload_n 1, 1) := by decide +kernel
theorem dX9_isLess_11 : decode cX9_isLess 11 = .ok (.iaload, 1) := by decide +kernel
theorem dX9_isLess_12 : decode cX9_isLess 12 = .ok (.invokestatic 115, 3) := by decide +kernel
theorem dX9_isLess_15 : decode cX9_isLess 15 = .ok (.aload_n 0, 1) := by decide +kernel
theorem dX9_isLess_16 : decode cX9_isLess 16 = .ok (.getfield 32, 3) := by decide +kernel
theorem dX9_isLess_19 : decode cX9_isLess 19 = .ok (.iload_n 1, 1) := by decide +kernel
theorem dX9_isLess_20 : decode cX9_isLess 20 = .ok (.iaload, 1) := by decide +kernel
theorem dX9_isLess_21 : decode cX9_isLess 21 = .ok (.isub, 1) := by decide +kernel
theorem dX9_isLess_22 : decode cX9_isLess 22 = .ok (.istore_n 3, 1) := by decide +kernel
theorem dX9_isLess_23 : decode cX9_isLess 23 = .ok (.aload_n 0, 1) := by decide +kernel
theorem dX9_isLess_24 : decode cX9_isLess 24 = .ok (.getfield 35, 3) := by decide +kernel
theorem dX9_isLess_27 : decode cX9_isLess 27 = .ok (.iload_n 2, 1) := by decide +kernel
theorem dX9_isLess_28 : decode cX9_isLess 28 = .ok (.iaload, 1) := by decide +kernel
theorem dX9_isLess_29 : decode cX9_isLess 29 = .ok (.aload_n 0, 1) := by decide +kernel
theorem dX9_isLess_30 : decode cX9_isLess 30 = .ok (.getfield 41, 3) := by decide +kernel
theorem dX9_isLess_33 : decode cX9_isLess 33 = .ok (.iload_n 2, 1) := by decide +kernel
theorem dX9_isLess_34 : decode cX9_isLess 34 = .ok (.iaload, 1) := by decide +kernel
theorem dX9_isLess_35 : decode cX9_isLess 35 = .ok (.invokestatic 115, 3) := by decide +kernel
theorem dX9_isLess_38 : decode cX9_isLess 38 = .ok (.aload_n 0, 1) := by decide +kernel
theorem dX9_isLess_39 : decode cX9_isLess 39 = .ok (.getfield 32, 3) := by decide +kernel
theorem dX9_isLess_42 : decode cX9_isLess 42 = .ok (.iload_n 2, 1) := by decide +kernel
theorem dX9_isLess_43 : decode cX9_isLess 43 = .ok (.iaload, 1) := by decide +kernel
theorem dX9_isLess_44 : decode cX9_isLess 44 = .ok (.isub, 1) := by decide +kernel
theorem dX9_isLess_45 : decode cX9_isLess 45 = .ok (.istore 4, 2) := by decide +kernel
theorem dX9_isLess_47 : decode cX9_isLess 47 = .ok (.aload_n 0, 1) := by decide +kernel
theorem dX9_isLess_48 : decode cX9_isLess 48 = .ok (.getfield 47, 3) := by decide +kernel
theorem dX9_isLess_51 : decode cX9_isLess 51 = .ok (.iload_n 1, 1) := by decide +kernel
theorem dX9_isLess_52 : decode cX9_isLess 52 = .ok (.iaload, 1) := by decide +kernel
theorem dX9_isLess_53 : decode cX9_isLess 53 = .ok (.aload_n 0, 1) := by decide +kernel
theorem dX9_isLess_54 : decode cX9_isLess 54 = .ok (.getfield 32, 3) := by decide +kernel
theorem dX9_isLess_57 : decode cX9_isLess 57 = .ok (.iload_n 1, 1) := by decide +kernel
theorem dX9_isLess_58 : decode cX9_isLess 58 = .ok (.iaload, 1) := by decide +kernel
theorem dX9_isLess_59 : decode cX9_isLess 59 = .ok (.isub, 1) := by decide +kernel
theorem dX9_isLess_60 : decode cX9_isLess 60 = .ok (.iload 4, 2) := by decide +kernel
theorem dX9_isLess_62 : decode cX9_isLess 62 = .ok (.imul, 1) := by decide +kernel
theorem dX9_isLess_63 : decode cX9_isLess 63 = .ok (.aload_n 0, 1) := by decide +kernel
theorem dX9_isLess_64 : decode cX9_isLess 64 = .ok (.getfield 47, 3) := by decide +kernel
theorem dX9_isLess_67 : decode cX9_isLess 67 = .ok (.iload_n 2, 1) := by decide +kernel
theorem dX9_isLess_68 : decode cX9_isLess 68 = .ok (.iaload, 1) := by decide +kernel
theorem dX9_isLess_69 : decode cX9_isLess 69 = .ok (.aload_n 0, 1) := by decide +kernel
theorem dX9_isLess_70 : decode cX9_isLess 70 = .ok (.getfield 32, 3) := by decide +kernel
theorem dX9_isLess_73 : decode cX9_isLess 73 = .ok (.iload_n 2, 1) := by decide +kernel
theorem dX9_isLess_74 : decode cX9_isLess 74 = .ok (.iaload, 1) := by decide +kernel
theorem dX9_isLess_75 : decode cX9_isLess 75 = .ok (.isub, 1) := by decide +kernel
theorem dX9_isLess_76 : decode cX9_isLess 76 = .ok (.iload_n 3, 1) := by decide +kernel
theorem dX9_isLess_77 : decode cX9_isLess 77 = .ok (.imul, 1) := by decide +kernel
theorem dX9_isLess_78 : decode cX9_isLess 78 = .ok (.if_icmp .ge 7, 3) := by decide +kernel
theorem dX9_isLess_81 : decode cX9_isLess 81 = .ok (.iconst 1, 1) := by decide +kernel
theorem dX9_isLess_82 : decode cX9_isLess 82 = .ok (.goto 4, 3) := by decide +kernel
theorem dX9_isLess_85 : decode cX9_isLess 85 = .ok (.iconst 0, 1) := by decide +kernel
theorem dX9_isLess_86 : decode cX9_isLess 86 = .ok (.ireturn, 1) := by decide +kernel
set_option maxRecDepth 20000 in
theorem ggX9_share_X9_isIn : GoodIn wsX9_share wsX9_isIn := goodIn_r _ [8] (by decide +kernel) (by decide +kernel)
set_option maxRecDepth 20000 in
theorem gX9_share_X9_isIn : GoodIn wsX9_share (va_wsS RX9 91 yX9_isIn wsX9_isIn) := goodIn_app (goodIn_of _ (by decide +kernel)) ggX9_share_X9_isIn
set_option maxRecDepth 20000 in
theorem ggX9_share_X9_isThrown : GoodIn wsX9_share wsX9_isThrown := goodIn_r _ [12, 13, 48, 49, 50, 51, 52, 53, 54, 55, 56, 57, 58, 59, 60, 61, 62, 63, 64, 65, 66, 67, 68, 69, 70, 71, 72, 73, 74, 75, 76, 77, 78, 79, 80, 81, 82, 83, 84, 85, 86] (by decide +kernel) (by decide +kernel)
set_option maxRecDepth 20000 in
theorem gX9_share_X9_isThrown : GoodIn wsX9_share (wsV RX9 95 RX9 yX9_isThrown wsX9_isThrown) := goodIn_app (goodIn_of _ (by decide +kernel)) ggX9_share_X9_isThrown
set_option maxRecDepth 20000 in
theorem ggX9_share_X9_islandOf : GoodIn wsX9_share wsX9_islandOf := goodIn_r _ [17, 18, 19, 20, 21, 7, 22, 1, 23, 24, 25, 26, 27, 28, 29, 30, 48, 49, 50, 51, 52, 53, 54, 55, 56, 57, 58, 59, 60, 61, 62, 63, 64, 65, 66, 67, 68, 69, 70, 71, 72, 73, 74, 75, 76, 77, 78, 79, 80, 81, 82, 83, 84, 85, 86] (by decide +kernel) (by decide +kernel)
set_option maxRecDepth 20000 in
theorem gX9_share_X9_islandOf : GoodIn wsX9_share (wsV RX9 124 RX9 yX9_islandOf wsX9_islandOf) := goodIn_app (goodIn_of _ (by decide +kernel)) ggX9_share_X9_islandOf
set_option maxRecDepth 20000 in
theorem ggX9_share_X9_runs : GoodIn wsX9_share wsX9_runs := goodIn_r _ [34, 35, 18, 36, 48, 49, 50, 51, 52, 53, 54, 55, 56, 57, 58, 59, 60, 61, 62, 63, 64, 65, 66, 67, 68, 69, 70, 71, 72, 73, 74, 75, 76, 77, 78, 79, 80, 81, 82, 83, 84, 85, 86] (by decide +kernel) (by decide +kernel)
set_option maxRecDepth 20000 in
theorem gX9_share_X9_runs : GoodIn wsX9_share (wsV RX9 171 RX9 yX9_runs wsX9_runs) := goodIn_app (goodIn_of _ (by decide +kernel)) ggX9_share_X9_runs
set_option maxRecDepth 20000 in
theorem ggX9_share_X9_gives : GoodIn wsX9_share wsX9_gives := goodIn_r _ [40, 2, 4, 41, 42, 43, 27, 28, 29, 30, 31, 32, 33, 7, 34, 35, 18, 36, 44, 45, 46, 47, 48, 49, 50, 51, 52, 53, 54, 55, 56, 57, 58, 59, 60, 61, 62, 63, 64, 65, 66, 67, 68, 69, 70, 71, 72, 73, 74, 75, 76, 77, 78, 79, 80, 81, 82, 83, 84, 85, 86] (by decide +kernel) (by decide +kernel)
set_option maxRecDepth 20000 in
theorem gX9_share_X9_gives : GoodIn wsX9_share (wsV RX9 199 RX9 yX9_gives wsX9_gives) := goodIn_app (goodIn_of _ (by decide +kernel)) ggX9_share_X9_gives
theorem dX9_share_0 : decode cX9_share 0 = .ok (.aload_n 0, 1) := by decide +kernel
theorem dX9_share_1 : decode cX9_share 1 = .ok (.iload_n 1, 1) := by decide +kernel
theorem dX9_share_2 : decode cX9_share 2 = .ok (.iconst 0, 1) := by decide +kernel
theorem dX9_share_3 : decode cX9_share 3 = .ok (.aload_n 0, 1) := by decide +kernel
theorem dX9_share_4 : decode cX9_share 4 = .ok (.getfield 88, 3) := by decide +kernel
theorem dX9_share_7 : decode cX9_share 7 = .ok (.iconst 1, 1) := by decide +kernel
theorem dX9_share_8 : decode cX9_share 8 = .ok (.isub, 1) := by decide +kernel
theorem dX9_share_9 : decode cX9_share 9 = .ok (.invokestatic 91, 3) := by decide +kernel
theorem dX9_share_12 : decode cX9_share 12 = .ok (.ifCond .eq 17, 3) := by decide +kernel
theorem dX9_share_15 : decode cX9_share 15 = .ok (.iload_n 3, 1) := by decide +kernel
theorem dX9_share_16 : decode cX9_share 16 = .ok (.iconst 0, 1) := by decide +kernel
theorem dX9_share_17 : decode cX9_share 17 = .ok (.aload_n 0, 1) := by decide +kernel
theorem dX9_share_18 : decode cX9_share 18 = .ok (.getfield 102, 3) := by decide +kernel
theorem dX9_share_21 : decode cX9_share 21 = .ok (.iconst 1, 1) := by decide +kernel
theorem dX9_share_22 : decode cX9_share 22 = .ok (.isub, 1) := by decide +kernel
theorem dX9_share_23 : decode cX9_share 23 = .ok (.invokestatic 91, 3) := by decide +kernel
theorem dX9_share_26 : decode cX9_share 26 = .ok (.ifCond .ne 7, 3) := by decide +kernel
theorem dX9_share_29 : decode cX9_share 29 = .ok (.iconst 1, 1) := by decide +kernel
theorem dX9_share_30 : decode cX9_share 30 = .ok (.goto 4, 3) := by decide +kernel
theorem dX9_share_33 : decode cX9_share 33 = .ok (.iconst 0, 1) := by decide +kernel
theorem dX9_share_34 : decode cX9_share 34 = .ok (.iconst 1, 1) := by decide +kernel
theorem dX9_share_35 : decode cX9_share 35 = .ok (.invokevirtual 95, 3) := by decide +kernel
theorem dX9_share_38 : decode cX9_share 38 = .ok (.ifCond .ne 27, 3) := by decide +kernel
theorem dX9_share_41 : decode cX9_share 41 = .ok (.aload_n 0, 1) := by decide +kernel
theorem dX9_share_42 : decode cX9_share 42 = .ok (.iload_n 2, 1) := by decide +kernel
theorem dX9_share_43 : decode cX9_share 43 = .ok (.iconst 0, 1) := by decide +kernel
theorem dX9_share_44 : decode cX9_share 44 = .ok (.sipush 1200, 3) := by decide +kernel
theorem dX9_share_47 : decode cX9_share 47 = .ok (.invokestatic 91, 3) := by decide +kernel
theorem dX9_share_50 : decode cX9_share 50 = .ok (.ifCond .ne 7, 3) := by decide +kernel
theorem dX9_share_53 : decode cX9_share 53 = .ok (.iconst 1, 1) := by decide +kernel
theorem dX9_share_54 : decode cX9_share 54 = .ok (.goto 4, 3) := by decide +kernel
theorem dX9_share_57 : decode cX9_share 57 = .ok (.iconst 0, 1) := by decide +kernel
theorem dX9_share_58 : decode cX9_share 58 = .ok (.iconst 2, 1) := by decide +kernel
theorem dX9_share_59 : decode cX9_share 59 = .ok (.invokevirtual 95, 3) := by decide +kernel
theorem dX9_share_62 : decode cX9_share 62 = .ok (.ifCond .eq 5, 3) := by decide +kernel
theorem dX9_share_65 : decode cX9_share 65 = .ok (.iconst 0, 1) := by decide +kernel
theorem dX9_share_66 : decode cX9_share 66 = .ok (.ireturn, 1) := by decide +kernel
theorem dX9_share_67 : decode cX9_share 67 = .ok (.aload_n 0, 1) := by decide +kernel
theorem dX9_share_68 : decode cX9_share 68 = .ok (.iload_n 1, 1) := by decide +kernel
theorem dX9_share_69 : decode cX9_share 69 = .ok (.invokevirtual 124, 3) := by decide +kernel
theorem dX9_share_72 : decode cX9_share 72 = .ok (.istore 4, 2) := by decide +kernel
theorem dX9_share_74 : decode cX9_share 74 = .ok (.aload_n 0, 1) := by decide +kernel
theorem dX9_share_75 : decode cX9_share 75 = .ok (.aload_n 0, 1) := by decide +kernel
theorem dX9_share_76 : decode cX9_share 76 = .ok (.iload_n 3, 1) := by decide +kernel
theorem dX9_share_77 : decode cX9_share 77 = .ok (.iload 4, 2) := by decide +kernel
theorem dX9_share_79 : decode cX9_share 79 = .ok (.invokevirtual 171, 3) := by decide +kernel
theorem dX9_share_82 : decode cX9_share 82 = .ok (.ifCond .ne 7, 3) := by decide +kernel
theorem dX9_share_85 : decode cX9_share 85 = .ok (.iconst 1, 1) := by decide +kernel
theorem dX9_share_86 : decode cX9_share 86 = .ok (.goto 4, 3) := by decide +kernel
theorem dX9_share_89 : decode cX9_share 89 = .ok (.iconst 0, 1) := by decide +kernel
theorem dX9_share_90 : decode cX9_share 90 = .ok (.iconst 3, 1) := by decide +kernel
theorem dX9_share_91 : decode cX9_share 91 = .ok (.invokevirtual 95, 3) := by decide +kernel
theorem dX9_share_94 : decode cX9_share 94 = .ok (.ifCond .eq 5, 3) := by decide +kernel
theorem dX9_share_97 : decode cX9_share 97 = .ok (.iconst 0, 1) := by decide +kernel
theorem dX9_share_98 : decode cX9_share 98 = .ok (.ireturn, 1) := by decide +kernel
theorem dX9_share_99 : decode cX9_share 99 = .ok (.bipush 6, 2) := by decide +kernel
theorem dX9_share_101 : decode cX9_share 101 = .ok (.newarray .int, 2) := by decide +kernel
theorem dX9_share_103 : decode cX9_share 103 = .ok (.astore 5, 2) := by decide +kernel
theorem dX9_share_105 : decode cX9_share 105 = .ok (.iconst 0, 1) := by decide +kernel
theorem dX9_share_106 : decode cX9_share 106 = .ok (.istore 6, 2) := by decide +kernel
theorem dX9_share_108 : decode cX9_share 108 = .ok (.iload 6, 2) := by decide +kernel
theorem dX9_share_110 : decode cX9_share 110 = .ok (.aload_n 0, 1) := by decide +kernel
theorem dX9_share_111 : decode cX9_share 111 = .ok (.getfield 102, 3) := by decide +kernel
theorem dX9_share_114 : decode cX9_share 114 = .ok (.if_icmp .ge 21, 3) := by decide +kernel
theorem dX9_share_117 : decode cX9_share 117 = .ok (.aload 5, 2) := by decide +kernel
theorem dX9_share_119 : decode cX9_share 119 = .ok (.iload 6, 2) := by decide +kernel
theorem dX9_share_121 : decode cX9_share 121 = .ok (.aload_n 0, 1) := by decide +kernel
theorem dX9_share_122 : decode cX9_share 122 = .ok (.getfield 47, 3) := by decide +kernel
theorem dX9_share_125 : decode cX9_share 125 = .ok (.iload 6, 2) := by decide +kernel
theorem dX9_share_127 : decode cX9_share 127 = .ok (.iaload, 1) := by decide +kernel
theorem dX9_share_128 : decode cX9_share 128 = .ok (.iastore, 1) := by decide +kernel
theorem dX9_share_129 : decode cX9_share 129 = .ok (.iinc 6 1, 3) := by decide +kernel
theorem dX9_share_132 : decode cX9_share 132 = .ok (.goto (-24), 3) := by decide +kernel
theorem dX9_share_135 : decode cX9_share 135 = .ok (.aload_n 0, 1) := by decide +kernel
theorem dX9_share_136 : decode cX9_share 136 = .ok (.iload 4, 2) := by decide +kernel
theorem dX9_share_138 : decode cX9_share 138 = .ok (.iload_n 2, 1) := by decide +kernel
theorem dX9_share_139 : decode cX9_share 139 = .ok (.invokevirtual 199, 3) := by decide +kernel
theorem dX9_share_142 : decode cX9_share 142 = .ok (.pop, 1) := by decide +kernel
theorem dX9_share_143 : decode cX9_share 143 = .ok (.aload_n 0, 1) := by decide +kernel
theorem dX9_share_144 : decode cX9_share 144 = .ok (.getfield 47, 3) := by decide +kernel
theorem dX9_share_147 : decode cX9_share 147 = .ok (.iload_n 3, 1) := by decide +kernel
theorem dX9_share_148 : decode cX9_share 148 = .ok (.iaload, 1) := by decide +kernel
theorem dX9_share_149 : decode cX9_share 149 = .ok (.istore 6, 2) := by decide +kernel
theorem dX9_share_151 : decode cX9_share 151 = .ok (.iconst 0, 1) := by decide +kernel
theorem dX9_share_152 : decode cX9_share 152 = .ok (.istore 7, 2) := by decide +kernel
theorem dX9_share_154 : decode cX9_share 154 = .ok (.iload 7, 2) := by decide +kernel
theorem dX9_share_156 : decode cX9_share 156 = .ok (.aload_n 0, 1) := by decide +kernel
theorem dX9_share_157 : decode cX9_share 157 = .ok (.getfield 102, 3) := by decide +kernel
theorem dX9_share_160 : decode cX9_share 160 = .ok (.if_icmp .ge 21, 3) := by decide +kernel
theorem dX9_share_163 : decode cX9_share 163 = .ok (.aload_n 0, 1) := by decide +kernel
theorem dX9_share_164 : decode cX9_share 164 = .ok (.getfield 47, 3) := by decide +kernel
theorem dX9_share_167 : decode cX9_share 167 = .ok (.iload 7, 2) := by decide +kernel
theorem dX9_share_169 : decode cX9_share 169 = .ok (.aload 5, 2) := by decide +kernel
theorem dX9_share_171 : decode cX9_share 171 = .ok (.iload 7, 2) := by decide +kernel
theorem dX9_share_173 : decode cX9_share 173 = .ok (.iaload, 1) := by decide +kernel
theorem dX9_share_174 : decode cX9_share 174 = .ok (.iastore, 1) := by decide +kernel
theorem dX9_share_175 : decode cX9_share 175 = .ok (.iinc 7 1, 3) := by decide +kernel
theorem dX9_share_178 : decode cX9_share 178 = .ok (.goto (-24), 3) := by decide +kernel
theorem dX9_share_181 : decode cX9_share 181 = .ok (.iload 6, 2) := by decide +kernel
theorem dX9_share_183 : decode cX9_share 183 = .ok (.ireturn, 1) := by decide +kernel
set_option maxRecDepth 20000 in
theorem ggX9_shareBySteps_X9_share : GoodIn wsX9_shareBySteps wsX9_share := goodIn_r _ [5, 6, 7, 8, 9, 10, 11, 4, 12, 13, 14, 15, 16, 17, 18, 19, 20, 21, 22, 23, 24, 25, 26, 27, 28, 29, 30, 31, 32, 33, 34, 35, 36, 37, 38, 39, 40, 41, 42, 43, 44, 45, 46, 47, 48, 49, 50, 51, 52, 53, 54, 55, 56, 57, 58, 59, 60, 61, 62, 63, 64, 65, 66, 67, 68, 69, 70, 71, 72, 73, 74, 75, 76, 77, 78, 79, 80, 81, 82, 83, 84, 85, 86, 87, 88, 89, 90] (by decide +kernel) (by decide +kernel)
set_option maxRecDepth 20000 in
theorem gX9_shareBySteps_X9_share : GoodIn wsX9_shareBySteps (wsV RX9 202 RX9 yX9_share wsX9_share) := goodIn_app (goodIn_of _ (by decide +kernel)) ggX9_shareBySteps_X9_share
theorem dX9_shareBySteps_0 : decode cX9_shareBySteps 0 = .ok (.aload_n 0, 1) := by decide +kernel
theorem dX9_shareBySteps_1 : decode cX9_shareBySteps 1 = .ok (.iload_n 1, 1) := by decide +kernel
theorem dX9_shareBySteps_2 : decode cX9_shareBySteps 2 = .ok (.iload_n 2, 1) := by decide +kernel
theorem dX9_shareBySteps_3 : decode cX9_shareBySteps 3 = .ok (.iload_n 3, 1) := by decide +kernel
theorem dX9_shareBySteps_4 : decode cX9_shareBySteps 4 = .ok (.invokevirtual 202, 3) := by decide +kernel
theorem dX9_shareBySteps_7 : decode cX9_shareBySteps 7 = .ok (.ireturn, 1) := by decide +kernel
set_option maxRecDepth 20000 in
theorem ggX9_sheds_X9_keeps : GoodIn wsX9_sheds wsX9_keeps := goodIn_r _ [11, 2, 3, 12, 1, 13, 14, 15, 10, 16, 17, 18, 19, 20, 21, 22, 23, 24, 25, 26, 27, 28, 29, 30, 31, 32, 33, 34, 35, 36, 37, 38, 39, 40, 41, 42, 43, 44, 45, 46, 47, 48, 49, 50, 51, 52, 53, 54, 55, 56, 57, 58, 59, 60, 61, 62, 63, 64, 65, 66, 67, 68, 69, 70, 71, 72, 73, 74, 75, 76, 77, 78, 79, 80, 81, 82, 83, 84, 85, 86] (by decide +kernel) (by decide +kernel)
set_option maxRecDepth 20000 in
theorem gX9_sheds_X9_keeps : GoodIn wsX9_sheds (wsV RX9 190 RX9 yX9_keeps wsX9_keeps) := goodIn_app (goodIn_of _ (by decide +kernel)) ggX9_sheds_X9_keeps
theorem dX9_sheds_0 : decode cX9_sheds 0 = .ok (.iconst 0, 1) := by decide +kernel
theorem dX9_sheds_1 : decode cX9_sheds 1 = .ok (.istore_n 2, 1) := by decide +kernel
theorem dX9_sheds_2 : decode cX9_sheds 2 = .ok (.iload_n 2, 1) := by decide +kernel
theorem dX9_sheds_3 : decode cX9_sheds 3 = .ok (.aload_n 0, 1) := by decide +kernel
theorem dX9_sheds_4 : decode cX9_sheds 4 = .ok (.getfield 108, 3) := by decide +kernel
theorem dX9_sheds_7 : decode cX9_sheds 7 = .ok (.if_icmp .ge 99, 3) := by decide +kernel
theorem dX9_sheds_10 : decode cX9_sheds 10 = .ok (.aload_n 0, 1) := by decide +kernel
theorem dX9_sheds_11 : decode cX9_sheds 11 = .ok (.getfield 13, 3) := by decide +kernel
theorem dX9_sheds_14 : decode cX9_sheds 14 = .ok (.aload_n 0, 1) := by decide +kernel
theorem dX9_sheds_15 : decode cX9_sheds 15 = .ok (.getfield 69, 3) := by decide +kernel
theorem dX9_sheds_18 : decode cX9_sheds 18 = .ok (.iload_n 2, 1) := by decide +kernel
theorem dX9_sheds_19 : decode cX9_sheds 19 = .ok (.iaload, 1) := by decide +kernel
theorem dX9_sheds_20 : decode cX9_sheds 20 = .ok (.iaload, 1) := by decide +kernel
theorem dX9_sheds_21 : decode cX9_sheds 21 = .ok (.iload_n 1, 1) := by decide +kernel
theorem dX9_sheds_22 : decode cX9_sheds 22 = .ok (.if_icmp .ne 78, 3) := by decide +kernel
theorem dX9_sheds_25 : decode cX9_sheds 25 = .ok (.aload_n 0, 1) := by decide +kernel
theorem dX9_sheds_26 : decode cX9_sheds 26 = .ok (.iload_n 2, 1) := by decide +kernel
theorem dX9_sheds_27 : decode cX9_sheds 27 = .ok (.invokevirtual 190, 3) := by decide +kernel
theorem dX9_sheds_30 : decode cX9_sheds 30 = .ok (.ifCond .ne 23, 3) := by decide +kernel
theorem dX9_sheds_33 : decode cX9_sheds 33 = .ok (.aload_n 0, 1) := by decide +kernel
theorem dX9_sheds_34 : decode cX9_sheds 34 = .ok (.getfield 26, 3) := by decide +kernel
theorem dX9_sheds_37 : decode cX9_sheds 37 = .ok (.iload_n 2, 1) := by decide +kernel
theorem dX9_sheds_38 : decode cX9_sheds 38 = .ok (.iconst 1, 1) := by decide +kernel
theorem dX9_sheds_39 : decode cX9_sheds 39 = .ok (.bastore, 1) := by decide +kernel
theorem dX9_sheds_40 : decode cX9_sheds 40 = .ok (.aload_n 0, 1) := by decide +kernel
theorem dX9_sheds_41 : decode cX9_sheds 41 = .ok (.getfield 78, 3) := by decide +kernel
theorem dX9_sheds_44 : decode cX9_sheds 44 = .ok (.iload_n 2, 1) := by decide +kernel
theorem dX9_sheds_45 : decode cX9_sheds 45 = .ok (.aload_n 0, 1) := by decide +kernel
theorem dX9_sheds_46 : decode cX9_sheds 46 = .ok (.getfield 81, 3) := by decide +kernel
theorem dX9_sheds_49 : decode cX9_sheds 49 = .ok (.iastore, 1) := by decide +kernel
theorem dX9_sheds_50 : decode cX9_sheds 50 = .ok (.goto 50, 3) := by decide +kernel
theorem dX9_sheds_53 : decode cX9_sheds 53 = .ok (.aload_n 0, 1) := by decide +kernel
theorem dX9_sheds_54 : decode cX9_sheds 54 = .ok (.getfield 26, 3) := by decide +kernel
theorem dX9_sheds_57 : decode cX9_sheds 57 = .ok (.iload_n 2, 1) := by decide +kernel
theorem dX9_sheds_58 : decode cX9_sheds 58 = .ok (.baload, 1) := by decide +kernel
theorem dX9_sheds_59 : decode cX9_sheds 59 = .ok (.ifCond .eq 22, 3) := by decide +kernel
theorem dX9_sheds_62 : decode cX9_sheds 62 = .ok (.aload_n 0, 1) := by decide +kernel
theorem dX9_sheds_63 : decode cX9_sheds 63 = .ok (.getfield 78, 3) := by decide +kernel
theorem dX9_sheds_66 : decode cX9_sheds 66 = .ok (.iload_n 2, 1) := by decide +kernel
theorem dX9_sheds_67 : decode cX9_sheds 67 = .ok (.iaload, 1) := by decide +kernel
theorem dX9_sheds_68 : decode cX9_sheds 68 = .ok (.ifCond .ne 13, 3) := by decide +kernel
theorem dX9_sheds_71 : decode cX9_sheds 71 = .ok (.aload_n 0, 1) := by decide +kernel
theorem dX9_sheds_72 : decode cX9_sheds 72 = .ok (.getfield 26, 3) := by decide +kernel
theorem dX9_sheds_75 : decode cX9_sheds 75 = .ok (.iload_n 2, 1) := by decide +kernel
theorem dX9_sheds_76 : decode cX9_sheds 76 = .ok (.iconst 0, 1) := by decide +kernel
theorem dX9_sheds_77 : decode cX9_sheds 77 = .ok (.bastore, 1) := by decide +kernel
theorem dX9_sheds_78 : decode cX9_sheds 78 = .ok (.goto 22, 3) := by decide +kernel
theorem dX9_sheds_81 : decode cX9_sheds 81 = .ok (.aload_n 0, 1) := by decide +kernel
theorem dX9_sheds_82 : decode cX9_sheds 82 = .ok (.getfield 26, 3) := by decide +kernel
theorem dX9_sheds_85 : decode cX9_sheds 85 = .ok (.iload_n 2, 1) := by decide +kernel
theorem dX9_sheds_86 : decode cX9_sheds 86 = .ok (.baload, 1) := by decide +kernel
theorem dX9_sheds_87 : decode cX9_sheds 87 = .ok (.ifCond .eq 13, 3) := by decide +kernel
theorem dX9_sheds_90 : decode cX9_sheds 90 = .ok (.aload_n 0, 1) := by decide +kernel
theorem dX9_sheds_91 : decode cX9_sheds 91 = .ok (.getfield 78, 3) := by decide +kernel
theorem dX9_sheds_94 : decode cX9_sheds 94 = .ok (.iload_n 2, 1) := by decide +kernel
theorem dX9_sheds_95 : decode cX9_sheds 95 = .ok (.dup2, 1) := by decide +kernel
theorem dX9_sheds_96 : decode cX9_sheds 96 = .ok (.iaload, 1) := by decide +kernel
theorem dX9_sheds_97 : decode cX9_sheds 97 = .ok (.iconst 1, 1) := by decide +kernel
theorem dX9_sheds_98 : decode cX9_sheds 98 = .ok (.isub, 1) := by decide +kernel
theorem dX9_sheds_99 : decode cX9_sheds 99 = .ok (.iastore, 1) := by decide +kernel
theorem dX9_sheds_100 : decode cX9_sheds 100 = .ok (.iinc 2 1, 3) := by decide +kernel
theorem dX9_sheds_103 : decode cX9_sheds 103 = .ok (.goto (-101), 3) := by decide +kernel
theorem dX9_sheds_106 : decode cX9_sheds 106 = .ok (.return_, 1) := by decide +kernel
set_option maxRecDepth 20000 in
theorem ggX9_balances_X9_sheds : GoodIn wsX9_balances wsX9_sheds := goodIn_r _ [28, 29, 11, 30, 31, 32, 33, 34, 35, 36, 27, 37, 38, 39, 40, 41, 42, 43, 44, 45, 46, 47, 48, 49, 50, 51, 52, 7, 53, 8, 15, 16, 5, 17, 10, 12, 13, 14, 54, 3, 4, 6, 55, 56, 57, 58, 59, 60, 74, 75, 76, 77, 78, 79, 80, 81, 82, 83, 84, 85, 86, 87, 88, 89, 90, 91, 92, 93, 94, 95, 96, 97, 98, 99, 100, 101, 102, 103, 104, 105, 106, 107, 108, 109, 110, 111, 112] (by decide +kernel) (by decide +kernel)
set_option maxRecDepth 20000 in
theorem gX9_balances_X9_sheds : GoodIn wsX9_balances (wsV RX9 206 RX9 yX9_sheds wsX9_sheds) := goodIn_app (goodIn_of _ (by decide +kernel)) ggX9_balances_X9_sheds
set_option maxRecDepth 20000 in
theorem ggX9_balances_X9_demanded : GoodIn wsX9_balances wsX9_demanded := goodIn_r _ [64, 29, 11, 30, 31, 38, 74, 75, 76, 77, 78, 79, 80, 81, 82, 83, 84, 85, 86, 87, 88, 89, 90, 91, 92, 93, 94, 95, 96, 97, 98, 99, 100, 101, 102, 103, 104, 105, 106, 107, 108, 109, 110, 111, 112] (by decide +kernel) (by decide +kernel)
set_option maxRecDepth 20000 in
theorem gX9_balances_X9_demanded : GoodIn wsX9_balances (wsV RX9 187 RX9 yX9_demanded wsX9_demanded) := goodIn_app (goodIn_of _ (by decide +kernel)) ggX9_balances_X9_demanded
set_option maxRecDepth 20000 in
theorem ggX9_balances_X9_gives : GoodIn wsX9_balances wsX9_gives := goodIn_r _ [68, 7, 9, 69, 53, 8, 15, 16, 5, 17, 55, 56, 57, 27, 58, 59, 11, 60, 70, 71, 72, 73, 74, 75, 76, 77, 78, 79, 80, 81, 82, 83, 84, 85, 86, 87, 88, 89, 90, 91, 92, 93, 94, 95, 96, 97, 98, 99, 100, 101, 102, 103, 104, 105, 106, 107, 108, 109, 110, 111, 112] (by decide +kernel) (by decide +kernel)
set_option maxRecDepth 20000 in
theorem gX9_balances_X9_gives : GoodIn wsX9_balances (wsV RX9 199 RX9 yX9_gives wsX9_gives) := goodIn_app (goodIn_of _ (by decide +kernel)) ggX9_balances_X9_gives
set_option maxRecDepth 20000 in
theorem ggX9_balances_X9_runs : GoodIn wsX9_balances wsX9_runs := goodIn_r _ [58, 59, 11, 60, 74, 75, 76, 77, 78, 79, 80, 81, 82, 83, 84, 85, 86, 87, 88, 89, 90, 91, 92, 93, 94, 95, 96, 97, 98, 99, 100, 101, 102, 103, 104, 105, 106, 107, 108, 109, 110, 111, 112] (by decide +kernel) (by decide +kernel)
set_option maxRecDepth 20000 in
theorem gX9_balances_X9_runs : GoodIn wsX9_balances (wsV RX9 171 RX9 yX9_runs wsX9_runs) := goodIn_app (goodIn_of _ (by decide +kernel)) ggX9_balances_X9_runs
set_option maxRecDepth 20000 in
theorem ggX9_balances_X9_isTiedOne : GoodIn wsX9_balances wsX9_isTiedOne := goodIn_r _ [47, 48, 74, 75, 76, 77, 78, 79, 80, 81, 82, 83, 84, 85, 86, 87, 88, 89, 90, 91, 92, 93, 94, 95, 96, 97, 98, 99, 100, 101, 102, 103, 104, 105, 106, 107, 108, 109, 110, 111, 112] (by decide +kernel) (by decide +kernel)
set_option maxRecDepth 20000 in
theorem gX9_balances_X9_isTiedOne : GoodIn wsX9_balances (wsV RX9 181 RX9 yX9_isTiedOne wsX9_isTiedOne) := goodIn_app (goodIn_of _ (by decide +kernel)) ggX9_balances_X9_isTiedOne
theorem dX9_balances_0 : decode cX9_balances 0 = .ok (.aload_n 0, 1) := by decide +kernel
theorem dX9_balances_1 : decode cX9_balances 1 = .ok (.iload_n 1, 1) := by decide +kernel
theorem dX9_balances_2 : decode cX9_balances 2 = .ok (.invokevirtual 206, 3) := by decide +kernel
theorem dX9_balances_5 : decode cX9_balances 5 = .ok (.aload_n 0, 1) := by decide +kernel
theorem dX9_balances_6 : decode cX9_balances 6 = .ok (.iload_n 1, 1) := by decide +kernel
theorem dX9_balances_7 : decode cX9_balances 7 = .ok (.invokevirtual 187, 3) := by decide +kernel
theorem dX9_balances_10 : decode cX9_balances 10 = .ok (.istore_n 2, 1) := by decide +kernel
theorem dX9_balances_11 : decode cX9_balances 11 = .ok (.aload_n 0, 1) := by decide +kernel
theorem dX9_balances_12 : decode cX9_balances 12 = .ok (.iload_n 1, 1) := by decide +kernel
theorem dX9_balances_13 : decode cX9_balances 13 = .ok (.iload_n 2, 1) := by decide +kernel
theorem dX9_balances_14 : decode cX9_balances 14 = .ok (.invokevirtual 199, 3) := by decide +kernel
theorem dX9_balances_17 : decode cX9_balances 17 = .ok (.istore_n 3, 1) := by decide +kernel
theorem dX9_balances_18 : decode cX9_balances 18 = .ok (.aload_n 0, 1) := by decide +kernel
theorem dX9_balances_19 : decode cX9_balances 19 = .ok (.dup, 1) := by decide +kernel
theorem dX9_balances_20 : decode cX9_balances 20 = .ok (.getfield 209, 3) := by decide +kernel
theorem dX9_balances_23 : decode cX9_balances 23 = .ok (.iload_n 2, 1) := by decide +kernel
theorem dX9_balances_24 : decode cX9_balances 24 = .ok (.i2l, 1) := by decide +kernel
theorem dX9_balances_25 : decode cX9_balances 25 = .ok (.ladd, 1) := by decide +kernel
theorem dX9_balances_26 : decode cX9_balances 26 = .ok (.putfield 209, 3) := by decide +kernel
theorem dX9_balances_29 : decode cX9_balances 29 = .ok (.aload_n 0, 1) := by decide +kernel
theorem dX9_balances_30 : decode cX9_balances 30 = .ok (.dup, 1) := by decide +kernel
theorem dX9_balances_31 : decode cX9_balances 31 = .ok (.getfield 213, 3) := by decide +kernel
theorem dX9_balances_34 : decode cX9_balances 34 = .ok (.iload_n 3, 1) := by decide +kernel
theorem dX9_balances_35 : decode cX9_balances 35 = .ok (.i2l, 1) := by decide +kernel
theorem dX9_balances_36 : decode cX9_balances 36 = .ok (.ladd, 1) := by decide +kernel
theorem dX9_balances_37 : decode cX9_balances 37 = .ok (.putfield 213, 3) := by decide +kernel
theorem dX9_balances_40 : decode cX9_balances 40 = .ok (.iconst 0, 1) := by decide +kernel
theorem dX9_balances_41 : decode cX9_balances 41 = .ok (.iload_n 2, 1) := by decide +kernel
theorem dX9_balances_42 : decode cX9_balances 42 = .ok (.iload_n 3, 1) := by decide +kernel
theorem dX9_balances_43 : decode cX9_balances 43 = .ok (.isub, 1) := by decide +kernel
theorem dX9_balances_44 : decode cX9_balances 44 = .ok (.invokestatic 175, 3) := by decide +kernel
theorem dX9_balances_47 : decode cX9_balances 47 = .ok (.istore 4, 2) := by decide +kernel
theorem dX9_balances_49 : decode cX9_balances 49 = .ok (.iconst 0, 1) := by decide +kernel
theorem dX9_balances_50 : decode cX9_balances 50 = .ok (.iload_n 3, 1) := by decide +kernel
theorem dX9_balances_51 : decode cX9_balances 51 = .ok (.iload_n 2, 1) := by decide +kernel
theorem dX9_balances_52 : decode cX9_balances 52 = .ok (.isub, 1) := by decide +kernel
theorem dX9_balances_53 : decode cX9_balances 53 = .ok (.invokestatic 175, 3) := by decide +kernel
theorem dX9_balances_56 : decode cX9_balances 56 = .ok (.istore 5, 2) := by decide +kernel
theorem dX9_balances_58 : decode cX9_balances 58 = .ok (.iconst 0, 1) := by decide +kernel
theorem dX9_balances_59 : decode cX9_balances 59 = .ok (.istore 6, 2) := by decide +kernel
theorem dX9_balances_61 : decode cX9_balances 61 = .ok (.iload 6, 2) := by decide +kernel
theorem dX9_balances_63 : decode cX9_balances 63 = .ok (.aload_n 0, 1) := by decide +kernel
theorem dX9_balances_64 : decode cX9_balances 64 = .ok (.getfield 102, 3) := by decide +kernel
theorem dX9_balances_67 : decode cX9_balances 67 = .ok (.if_icmp .ge 40, 3) := by decide +kernel
theorem dX9_balances_70 : decode cX9_balances 70 = .ok (.aload_n 0, 1) := by decide +kernel
theorem dX9_balances_71 : decode cX9_balances 71 = .ok (.getfield 41, 3) := by decide +kernel
theorem dX9_balances_74 : decode cX9_balances 74 = .ok (.iload 6, 2) := by decide +kernel
theorem dX9_balances_76 : decode cX9_balances 76 = .ok (.dup2, 1) := by decide +kernel
theorem dX9_balances_77 : decode cX9_balances 77 = .ok (.iaload, 1) := by decide +kernel
theorem dX9_balances_78 : decode cX9_balances 78 = .ok (.aload_n 0, 1) := by decide +kernel
theorem dX9_balances_79 : decode cX9_balances 79 = .ok (.iload 6, 2) := by decide +kernel
theorem dX9_balances_81 : decode cX9_balances 81 = .ok (.iload_n 1, 1) := by decide +kernel
theorem dX9_balances_82 : decode cX9_balances 82 = .ok (.invokevirtual 171, 3) := by decide +kernel
theorem dX9_balances_85 : decode cX9_balances 85 = .ok (.ifCond .eq 13, 3) := by decide +kernel
theorem dX9_balances_88 : decode cX9_balances 88 = .ok (.aload_n 0, 1) := by decide +kernel
theorem dX9_balances_89 : decode cX9_balances 89 = .ok (.getfield 47, 3) := by decide +kernel
theorem dX9_balances_92 : decode cX9_balances 92 = .ok (.iload 6, 2) := by decide +kernel
theorem dX9_balances_94 : decode cX9_balances 94 = .ok (.iaload, 1) := by decide +kernel
theorem dX9_balances_95 : decode cX9_balances 95 = .ok (.goto 4, 3) := by decide +kernel
theorem dX9_balances_98 : decode cX9_balances 98 = .ok (.iconst 0, 1) := by decide +kernel
theorem dX9_balances_99 : decode cX9_balances 99 = .ok (.isub, 1) := by decide +kernel
theorem dX9_balances_100 : decode cX9_balances 100 = .ok (.iastore, 1) := by decide +kernel
theorem dX9_balances_101 : decode cX9_balances 101 = .ok (.iinc 6 1, 3) := by decide +kernel
theorem dX9_balances_104 : decode cX9_balances 104 = .ok (.goto (-43), 3) := by decide +kernel
theorem dX9_balances_107 : decode cX9_balances 107 = .ok (.iconst 0, 1) := by decide +kernel
theorem dX9_balances_108 : decode cX9_balances 108 = .ok (.istore 6, 2) := by decide +kernel
theorem dX9_balances_110 : decode cX9_balances 110 = .ok (.iload 6, 2) := by decide +kernel
theorem dX9_balances_112 : decode cX9_balances 112 = .ok (.aload_n 0, 1) := by decide +kernel
theorem dX9_balances_113 : decode cX9_balances 113 = .ok (.getfield 105, 3) := by decide +kernel
theorem dX9_balances_116 : decode cX9_balances 116 = .ok (.if_icmp .ge 122, 3) := by decide +kernel
theorem dX9_balances_119 : decode cX9_balances 119 = .ok (.aload_n 0, 1) := by decide +kernel
theorem dX9_balances_120 : decode cX9_balances 120 = .ok (.getfield 13, 3) := by decide +kernel
theorem dX9_balances_123 : decode cX9_balances 123 = .ok (.aload_n 0, 1) := by decide +kernel
theorem dX9_balances_124 : decode cX9_balances 124 = .ok (.getfield 54, 3) := by decide +kernel
theorem dX9_balances_127 : decode cX9_balances 127 = .ok (.iload 6, 2) := by decide +kernel
theorem dX9_balances_129 : decode cX9_balances 129 = .ok (.iaload, 1) := by decide +kernel
theorem dX9_balances_130 : decode cX9_balances 130 = .ok (.iaload, 1) := by decide +kernel
theorem dX9_balances_131 : decode cX9_balances 131 = .ok (.iload_n 1, 1) := by decide +kernel
theorem dX9_balances_132 : decode cX9_balances 132 = .ok (.if_icmp .ne 100, 3) := by decide +kernel
theorem dX9_balances_135 : decode cX9_balances 135 = .ok (.iload 4, 2) := by decide +kernel
theorem dX9_balances_137 : decode cX9_balances 137 = .ok (.aload_n 0, 1) := by decide +kernel
theorem dX9_balances_138 : decode cX9_balances 138 = .ok (.getfield 60, 3) := by decide +kernel
theorem dX9_balances_141 : decode cX9_balances 141 = .ok (.iload 6, 2) := by decide +kernel
theorem dX9_balances_143 : decode cX9_balances 143 = .ok (.iaload, 1) := by decide +kernel
theorem dX9_balances_144 : decode cX9_balances 144 = .ok (.aload_n 0, 1) := by decide +kernel
theorem dX9_balances_145 : decode cX9_balances 145 = .ok (.getfield 63, 3) := by decide +kernel
theorem dX9_balances_148 : decode cX9_balances 148 = .ok (.iload 6, 2) := by decide +kernel
theorem dX9_balances_150 : decode cX9_balances 150 = .ok (.iaload, 1) := by decide +kernel
theorem dX9_balances_151 : decode cX9_balances 151 = .ok (.invokestatic 115, 3) := by decide +kernel
theorem dX9_balances_154 : decode cX9_balances 154 = .ok (.invokestatic 115, 3) := by decide +kernel
theorem dX9_balances_157 : decode cX9_balances 157 = .ok (.istore 7, 2) := by decide +kernel
theorem dX9_balances_159 : decode cX9_balances 159 = .ok (.iload 5, 2) := by decide +kernel
theorem dX9_balances_161 : decode cX9_balances 161 = .ok (.aload_n 0, 1) := by decide +kernel
theorem dX9_balances_162 : decode cX9_balances 162 = .ok (.getfield 60, 3) := by decide +kernel
theorem dX9_balances_165 : decode cX9_balances 165 = .ok (.iload 6, 2) := by decide +kernel
theorem dX9_balances_167 : decode cX9_balances 167 = .ok (.iaload, 1) := by decide +kernel
theorem dX9_balances_168 : decode cX9_balances 168 = .ok (.aload_n 0, 1) := by decide +kernel
theorem dX9_balances_169 : decode cX9_balances 169 = .ok (.getfield 57, 3) := by decide +kernel
theorem dX9_balances_172 : decode cX9_balances 172 = .ok (.iload 6, 2) := by decide +kernel
theorem dX9_balances_174 : decode cX9_balances 174 = .ok (.iaload, 1) := by decide +kernel
theorem dX9_balances_175 : decode cX9_balances 175 = .ok (.aload_n 0, 1) := by decide +kernel
theorem dX9_balances_176 : decode cX9_balances 176 = .ok (.getfield 63, 3) := by decide +kernel
theorem dX9_balances_179 : decode cX9_balances 179 = .ok (.iload 6, 2) := by decide +kernel
theorem dX9_balances_181 : decode cX9_balances 181 = .ok (.iaload, 1) := by decide +kernel
theorem dX9_balances_182 : decode cX9_balances 182 = .ok (.isub, 1) := by decide +kernel
theorem dX9_balances_183 : decode cX9_balances 183 = .ok (.invokestatic 115, 3) := by decide +kernel
theorem dX9_balances_186 : decode cX9_balances 186 = .ok (.invokestatic 115, 3) := by decide +kernel
theorem dX9_balances_189 : decode cX9_balances 189 = .ok (.istore 8, 2) := by decide +kernel
theorem dX9_balances_191 : decode cX9_balances 191 = .ok (.iload 4, 2) := by decide +kernel
theorem dX9_balances_193 : decode cX9_balances 193 = .ok (.iload 7, 2) := by decide +kernel
theorem dX9_balances_195 : decode cX9_balances 195 = .ok (.isub, 1) := by decide +kernel
theorem dX9_balances_196 : decode cX9_balances 196 = .ok (.istore 4, 2) := by decide +kernel
theorem dX9_balances_198 : decode cX9_balances 198 = .ok (.iload 5, 2) := by decide +kernel
theorem dX9_balances_200 : decode cX9_balances 200 = .ok (.iload 8, 2) := by decide +kernel
theorem dX9_balances_202 : decode cX9_balances 202 = .ok (.isub, 1) := by decide +kernel
theorem dX9_balances_203 : decode cX9_balances 203 = .ok (.istore 5, 2) := by decide +kernel
theorem dX9_balances_205 : decode cX9_balances 205 = .ok (.aload_n 0, 1) := by decide +kernel
theorem dX9_balances_206 : decode cX9_balances 206 = .ok (.getfield 66, 3) := by decide +kernel
theorem dX9_balances_209 : decode cX9_balances 209 = .ok (.iload 6, 2) := by decide +kernel
theorem dX9_balances_211 : decode cX9_balances 211 = .ok (.iload 7, 2) := by decide +kernel
theorem dX9_balances_213 : decode cX9_balances 213 = .ok (.iload 8, 2) := by decide +kernel
theorem dX9_balances_215 : decode cX9_balances 215 = .ok (.isub, 1) := by decide +kernel
theorem dX9_balances_216 : decode cX9_balances 216 = .ok (.iastore, 1) := by decide +kernel
theorem dX9_balances_217 : decode cX9_balances 217 = .ok (.aload_n 0, 1) := by decide +kernel
theorem dX9_balances_218 : decode cX9_balances 218 = .ok (.getfield 63, 3) := by decide +kernel
theorem dX9_balances_221 : decode cX9_balances 221 = .ok (.iload 6, 2) := by decide +kernel
theorem dX9_balances_223 : decode cX9_balances 223 = .ok (.dup2, 1) := by decide +kernel
theorem dX9_balances_224 : decode cX9_balances 224 = .ok (.iaload, 1) := by decide +kernel
theorem dX9_balances_225 : decode cX9_balances 225 = .ok (.iload 8, 2) := by decide +kernel
theorem dX9_balances_227 : decode cX9_balances 227 = .ok (.iload 7, 2) := by decide +kernel
theorem dX9_balances_229 : decode cX9_balances 229 = .ok (.isub, 1) := by decide +kernel
theorem dX9_balances_230 : decode cX9_balances 230 = .ok (.iadd, 1) := by decide +kernel
theorem dX9_balances_231 : decode cX9_balances 231 = .ok (.iastore, 1) := by decide +kernel
theorem dX9_balances_232 : decode cX9_balances 232 = .ok (.iinc 6 1, 3) := by decide +kernel
theorem dX9_balances_235 : decode cX9_balances 235 = .ok (.goto (-125), 3) := by decide +kernel
theorem dX9_balances_238 : decode cX9_balances 238 = .ok (.aload_n 0, 1) := by decide +kernel
theorem dX9_balances_239 : decode cX9_balances 239 = .ok (.dup, 1) := by decide +kernel
theorem dX9_balances_240 : decode cX9_balances 240 = .ok (.getfield 216, 3) := by decide +kernel
theorem dX9_balances_243 : decode cX9_balances 243 = .ok (.iload 4, 2) := by decide +kernel
theorem dX9_balances_245 : decode cX9_balances 245 = .ok (.i2l, 1) := by decide +kernel
theorem dX9_balances_246 : decode cX9_balances 246 = .ok (.ladd, 1) := by decide +kernel
theorem dX9_balances_247 : decode cX9_balances 247 = .ok (.putfield 216, 3) := by decide +kernel
theorem dX9_balances_250 : decode cX9_balances 250 = .ok (.aload_n 0, 1) := by decide +kernel
theorem dX9_balances_251 : decode cX9_balances 251 = .ok (.dup, 1) := by decide +kernel
theorem dX9_balances_252 : decode cX9_balances 252 = .ok (.getfield 219, 3) := by decide +kernel
theorem dX9_balances_255 : decode cX9_balances 255 = .ok (.iload 4, 2) := by decide +kernel
theorem dX9_balances_257 : decode cX9_balances 257 = .ok (.iadd, 1) := by decide +kernel
theorem dX9_balances_258 : decode cX9_balances 258 = .ok (.putfield 219, 3) := by decide +kernel
theorem dX9_balances_261 : decode cX9_balances 261 = .ok (.aload_n 0, 1) := by decide +kernel
theorem dX9_balances_262 : decode cX9_balances 262 = .ok (.dup, 1) := by decide +kernel
theorem dX9_balances_263 : decode cX9_balances 263 = .ok (.getfield 222, 3) := by decide +kernel
theorem dX9_balances_266 : decode cX9_balances 266 = .ok (.aload_n 0, 1) := by decide +kernel
theorem dX9_balances_267 : decode cX9_balances 267 = .ok (.iload_n 1, 1) := by decide +kernel
theorem dX9_balances_268 : decode cX9_balances 268 = .ok (.invokevirtual 181, 3) := by decide +kernel
theorem dX9_balances_271 : decode cX9_balances 271 = .ok (.ifCond .eq 9, 3) := by decide +kernel
theorem dX9_balances_274 : decode cX9_balances 274 = .ok (.iload 5, 2) := by decide +kernel
theorem dX9_balances_276 : decode cX9_balances 276 = .ok (.i2l, 1) := by decide +kernel
theorem dX9_balances_277 : decode cX9_balances 277 = .ok (.goto 4, 3) := by decide +kernel
theorem dX9_balances_280 : decode cX9_balances 280 = .ok (.lconst 0, 1) := by decide +kernel
theorem dX9_balances_281 : decode cX9_balances 281 = .ok (.ladd, 1) := by decide +kernel
theorem dX9_balances_282 : decode cX9_balances 282 = .ok (.putfield 222, 3) := by decide +kernel
theorem dX9_balances_285 : decode cX9_balances 285 = .ok (.aload_n 0, 1) := by decide +kernel
theorem dX9_balances_286 : decode cX9_balances 286 = .ok (.dup, 1) := by decide +kernel
theorem dX9_balances_287 : decode cX9_balances 287 = .ok (.getfield 219, 3) := by decide +kernel
theorem dX9_balances_290 : decode cX9_balances 290 = .ok (.aload_n 0, 1) := by decide +kernel
theorem dX9_balances_291 : decode cX9_balances 291 = .ok (.iload_n 1, 1) := by decide +kernel
theorem dX9_balances_292 : decode cX9_balances 292 = .ok (.invokevirtual 181, 3) := by decide +kernel
theorem dX9_balances_295 : decode cX9_balances 295 = .ok (.ifCond .eq 8, 3) := by decide +kernel
theorem dX9_balances_298 : decode cX9_balances 298 = .ok (.iload 5, 2) := by decide +kernel
theorem dX9_balances_300 : decode cX9_balances 300 = .ok (.goto 4, 3) := by decide +kernel
theorem dX9_balances_303 : decode cX9_balances 303 = .ok (.iconst 0, 1) := by decide +kernel
theorem dX9_balances_304 : decode cX9_balances 304 = .ok (.isub, 1) := by decide +kernel
theorem dX9_balances_305 : decode cX9_balances 305 = .ok (.putfield 219, 3) := by decide +kernel
theorem dX9_balances_308 : decode cX9_balances 308 = .ok (.aload_n 0, 1) := by decide +kernel
theorem dX9_balances_309 : decode cX9_balances 309 = .ok (.dup, 1) := by decide +kernel
theorem dX9_balances_310 : decode cX9_balances 310 = .ok (.getfield 225, 3) := by decide +kernel
theorem dX9_balances_313 : decode cX9_balances 313 = .ok (.aload_n 0, 1) := by decide +kernel
theorem dX9_balances_314 : decode cX9_balances 314 = .ok (.iload_n 1, 1) := by decide +kernel
theorem dX9_balances_315 : decode cX9_balances 315 = .ok (.invokevirtual 181, 3) := by decide +kernel
theorem dX9_balances_318 : decode cX9_balances 318 = .ok (.ifCond .eq 7, 3) := by decide +kernel
theorem dX9_balances_321 : decode cX9_balances 321 = .ok (.lconst 0, 1) := by decide +kernel
theorem dX9_balances_322 : decode cX9_balances 322 = .ok (.goto 6, 3) := by decide +kernel
theorem dX9_balances_325 : decode cX9_balances 325 = .ok (.iload 5, 2) := by decide +kernel
theorem dX9_balances_327 : decode cX9_balances 327 = .ok (.i2l, 1) := by decide +kernel
theorem dX9_balances_328 : decode cX9_balances 328 = .ok (.ladd, 1) := by decide +kernel
theorem dX9_balances_329 : decode cX9_balances 329 = .ok (.putfield 225, 3) := by decide +kernel
theorem dX9_balances_332 : decode cX9_balances 332 = .ok (.return_, 1) := by decide +kernel
set_option maxRecDepth 20000 in
theorem ggX9_ticks_X9_marks : GoodIn wsX9_ticks wsX9_marks := goodIn_r _ [15, 9, 10, 16, 17, 18, 19, 20, 21, 22, 23, 89, 90, 91, 92, 93, 94, 95, 96, 97, 98, 99, 100, 101, 102, 103, 104, 105, 106, 107, 108, 109, 110, 111, 112, 113, 114, 115, 116, 117, 118, 119, 120, 121, 122, 123, 124, 125, 126, 127] (by decide +kernel) (by decide +kernel)
set_option maxRecDepth 20000 in
theorem gX9_ticks_X9_marks : GoodIn wsX9_ticks (wsV RX9 121 RX9 yX9_marks wsX9_marks) := goodIn_app (goodIn_of _ (by decide +kernel)) ggX9_ticks_X9_marks
set_option maxRecDepth 20000 in
theorem ggX9_ticks_X9_balances : GoodIn wsX9_ticks wsX9_balances := goodIn_r _ [27, 28, 29, 30, 31, 22, 32, 3, 7, 4, 33, 10, 34, 35, 36, 20, 21, 23, 37, 38, 39, 2, 40, 41, 42, 43, 44, 14, 45, 46, 47, 48, 49, 50, 51, 52, 53, 54, 55, 56, 57, 58, 59, 60, 61, 62, 63, 64, 65, 66, 67, 68, 69, 70, 71, 72, 73, 74, 75, 5, 76, 77, 78, 79, 80, 81, 82, 83, 84, 8, 85, 86, 87, 88, 89, 90, 91, 92, 93, 94, 95, 96, 97, 98, 99, 100, 101, 102, 103, 104, 105, 106, 107, 108, 109, 110, 111, 112, 113, 114, 115, 116, 117, 118, 119, 120, 121, 122, 123, 124, 125, 126, 127] (by decide +kernel) (by decide +kernel)
set_option maxRecDepth 20000 in
theorem gX9_ticks_X9_balances : GoodIn wsX9_ticks (wsV RX9 231 RX9 yX9_balances wsX9_balances) := goodIn_app (goodIn_of _ (by decide +kernel)) ggX9_ticks_X9_balances
theorem dX9_ticks_0 : decode cX9_ticks 0 = .ok (.aload_n 0, 1) := by decide +kernel
theorem dX9_ticks_1 : decode cX9_ticks 1 = .ok (.dup, 1) := by decide +kernel
theorem dX9_ticks_2 : decode cX9_ticks 2 = .ok (.getfield 228, 3) := by decide +kernel
theorem dX9_ticks_5 : decode cX9_ticks 5 = .ok (.iconst 1, 1) := by decide +kernel
theorem dX9_ticks_6 : decode cX9_ticks 6 = .ok (.iadd, 1) := by decide +kernel
theorem dX9_ticks_7 : decode cX9_ticks 7 = .ok (.putfield 228, 3) := by decide +kernel
theorem dX9_ticks_10 : decode cX9_ticks 10 = .ok (.aload_n 0, 1) := by decide +kernel
theorem dX9_ticks_11 : decode cX9_ticks 11 = .ok (.iconst 0, 1) := by decide +kernel
theorem dX9_ticks_12 : decode cX9_ticks 12 = .ok (.putfield 219, 3) := by decide +kernel
theorem dX9_ticks_15 : decode cX9_ticks 15 = .ok (.iconst 0, 1) := by decide +kernel
theorem dX9_ticks_16 : decode cX9_ticks 16 = .ok (.istore_n 1, 1) := by decide +kernel
theorem dX9_ticks_17 : decode cX9_ticks 17 = .ok (.iload_n 1, 1) := by decide +kernel
theorem dX9_ticks_18 : decode cX9_ticks 18 = .ok (.aload_n 0, 1) := by decide +kernel
theorem dX9_ticks_19 : decode cX9_ticks 19 = .ok (.getfield 102, 3) := by decide +kernel
theorem dX9_ticks_22 : decode cX9_ticks 22 = .ok (.if_icmp .ge 102, 3) := by decide +kernel
theorem dX9_ticks_25 : decode cX9_ticks 25 = .ok (.aload_n 0, 1) := by decide +kernel
theorem dX9_ticks_26 : decode cX9_ticks 26 = .ok (.getfield 47, 3) := by decide +kernel
theorem dX9_ticks_29 : decode cX9_ticks 29 = .ok (.iload_n 1, 1) := by decide +kernel
theorem dX9_ticks_30 : decode cX9_ticks 30 = .ok (.iconst 0, 1) := by decide +kernel
theorem dX9_ticks_31 : decode cX9_ticks 31 = .ok (.iastore, 1) := by decide +kernel
theorem dX9_ticks_32 : decode cX9_ticks 32 = .ok (.aload_n 0, 1) := by decide +kernel
theorem dX9_ticks_33 : decode cX9_ticks 33 = .ok (.getfield 50, 3) := by decide +kernel
theorem dX9_ticks_36 : decode cX9_ticks 36 = .ok (.iload_n 1, 1) := by decide +kernel
theorem dX9_ticks_37 : decode cX9_ticks 37 = .ok (.caload, 1) := by decide +kernel
theorem dX9_ticks_38 : decode cX9_ticks 38 = .ok (.bipush 119, 2) := by decide +kernel
theorem dX9_ticks_40 : decode cX9_ticks 40 = .ok (.if_icmp .ne 35, 3) := by decide +kernel
theorem dX9_ticks_43 : decode cX9_ticks 43 = .ok (.aload_n 0, 1) := by decide +kernel
theorem dX9_ticks_44 : decode cX9_ticks 44 = .ok (.getfield 44, 3) := by decide +kernel
theorem dX9_ticks_47 : decode cX9_ticks 47 = .ok (.iload_n 1, 1) := by decide +kernel
theorem dX9_ticks_48 : decode cX9_ticks 48 = .ok (.dup2, 1) := by decide +kernel
theorem dX9_ticks_49 : decode cX9_ticks 49 = .ok (.iaload, 1) := by decide +kernel
theorem dX9_ticks_50 : decode cX9_ticks 50 = .ok (.iconst 1, 1) := by decide +kernel
theorem dX9_ticks_51 : decode cX9_ticks 51 = .ok (.isub, 1) := by decide +kernel
theorem dX9_ticks_52 : decode cX9_ticks 52 = .ok (.iastore, 1) := by decide +kernel
theorem dX9_ticks_53 : decode cX9_ticks 53 = .ok (.aload_n 0, 1) := by decide +kernel
theorem dX9_ticks_54 : decode cX9_ticks 54 = .ok (.getfield 50, 3) := by decide +kernel
theorem dX9_ticks_57 : decode cX9_ticks 57 = .ok (.iload_n 1, 1) := by decide +kernel
theorem dX9_ticks_58 : decode cX9_ticks 58 = .ok (.aload_n 0, 1) := by decide +kernel
theorem dX9_ticks_59 : decode cX9_ticks 59 = .ok (.getfield 44, 3) := by decide +kernel
theorem dX9_ticks_62 : decode cX9_ticks 62 = .ok (.iload_n 1, 1) := by decide +kernel
theorem dX9_ticks_63 : decode cX9_ticks 63 = .ok (.iaload, 1) := by decide +kernel
theorem dX9_ticks_64 : decode cX9_ticks 64 = .ok (.ifCond .ne 8, 3) := by decide +kernel
theorem dX9_ticks_67 : decode cX9_ticks 67 = .ok (.bipush 114, 2) := by decide +kernel
theorem dX9_ticks_69 : decode cX9_ticks 69 = .ok (.goto 5, 3) := by decide +kernel
theorem dX9_ticks_72 : decode cX9_ticks 72 = .ok (.bipush 119, 2) := by decide +kernel
theorem dX9_ticks_74 : decode cX9_ticks 74 = .ok (.castore, 1) := by decide +kernel
theorem dX9_ticks_75 : decode cX9_ticks 75 = .ok (.aload_n 0, 1) := by decide +kernel
theorem dX9_ticks_76 : decode cX9_ticks 76 = .ok (.getfield 50, 3) := by decide +kernel
theorem dX9_ticks_79 : decode cX9_ticks 79 = .ok (.iload_n 1, 1) := by decide +kernel
theorem dX9_ticks_80 : decode cX9_ticks 80 = .ok (.aload_n 0, 1) := by decide +kernel
theorem dX9_ticks_81 : decode cX9_ticks 81 = .ok (.getfield 50, 3) := by decide +kernel
theorem dX9_ticks_84 : decode cX9_ticks 84 = .ok (.iload_n 1, 1) := by decide +kernel
theorem dX9_ticks_85 : decode cX9_ticks 85 = .ok (.caload, 1) := by decide +kernel
theorem dX9_ticks_86 : decode cX9_ticks 86 = .ok (.bipush 114, 2) := by decide +kernel
theorem dX9_ticks_88 : decode cX9_ticks 88 = .ok (.if_icmp .ne 23, 3) := by decide +kernel
theorem dX9_ticks_91 : decode cX9_ticks 91 = .ok (.aload_n 0, 1) := by decide +kernel
theorem dX9_ticks_92 : decode cX9_ticks 92 = .ok (.getfield 41, 3) := by decide +kernel
theorem dX9_ticks_95 : decode cX9_ticks 95 = .ok (.iload_n 1, 1) := by decide +kernel
theorem dX9_ticks_96 : decode cX9_ticks 96 = .ok (.iaload, 1) := by decide +kernel
theorem dX9_ticks_97 : decode cX9_ticks 97 = .ok (.aload_n 0, 1) := by decide +kernel
theorem dX9_ticks_98 : decode cX9_ticks 98 = .ok (.getfield 32, 3) := by decide +kernel
theorem dX9_ticks_101 : decode cX9_ticks 101 = .ok (.iload_n 1, 1) := by decide +kernel
theorem dX9_ticks_102 : decode cX9_ticks 102 = .ok (.iaload, 1) := by decide +kernel
theorem dX9_ticks_103 : decode cX9_ticks 103 = .ok (.if_icmp .ge 8, 3) := by decide +kernel
theorem dX9_ticks_106 : decode cX9_ticks 106 = .ok (.bipush 111, 2) := by decide +kernel
theorem dX9_ticks_108 : decode cX9_ticks 108 = .ok (.goto 9, 3) := by decide +kernel
theorem dX9_ticks_111 : decode cX9_ticks 111 = .ok (.aload_n 0, 1) := by decide +kernel
theorem dX9_ticks_112 : decode cX9_ticks 112 = .ok (.getfield 50, 3) := by decide +kernel
theorem dX9_ticks_115 : decode cX9_ticks 115 = .ok (.iload_n 1, 1) := by decide +kernel
theorem dX9_ticks_116 : decode cX9_ticks 116 = .ok (.caload, 1) := by decide +kernel
theorem dX9_ticks_117 : decode cX9_ticks 117 = .ok (.castore, 1) := by decide +kernel
theorem dX9_ticks_118 : decode cX9_ticks 118 = .ok (.iinc 1 1, 3) := by decide +kernel
theorem dX9_ticks_121 : decode cX9_ticks 121 = .ok (.goto (-104), 3) := by decide +kernel
theorem dX9_ticks_124 : decode cX9_ticks 124 = .ok (.aload_n 0, 1) := by decide +kernel
theorem dX9_ticks_125 : decode cX9_ticks 125 = .ok (.invokevirtual 121, 3) := by decide +kernel
theorem dX9_ticks_128 : decode cX9_ticks 128 = .ok (.iconst 0, 1) := by decide +kernel
theorem dX9_ticks_129 : decode cX9_ticks 129 = .ok (.istore_n 1, 1) := by decide +kernel
theorem dX9_ticks_130 : decode cX9_ticks 130 = .ok (.iload_n 1, 1) := by decide +kernel
theorem dX9_ticks_131 : decode cX9_ticks 131 = .ok (.aload_n 0, 1) := by decide +kernel
theorem dX9_ticks_132 : decode cX9_ticks 132 = .ok (.getfield 88, 3) := by decide +kernel
theorem dX9_ticks_135 : decode cX9_ticks 135 = .ok (.if_icmp .ge 24, 3) := by decide +kernel
theorem dX9_ticks_138 : decode cX9_ticks 138 = .ok (.aload_n 0, 1) := by decide +kernel
theorem dX9_ticks_139 : decode cX9_ticks 139 = .ok (.getfield 13, 3) := by decide +kernel
theorem dX9_ticks_142 : decode cX9_ticks 142 = .ok (.iload_n 1, 1) := by decide +kernel
theorem dX9_ticks_143 : decode cX9_ticks 143 = .ok (.iaload, 1) := by decide +kernel
theorem dX9_ticks_144 : decode cX9_ticks 144 = .ok (.iload_n 1, 1) := by decide +kernel
theorem dX9_ticks_145 : decode cX9_ticks 145 = .ok (.if_icmp .ne 8, 3) := by decide +kernel
theorem dX9_ticks_148 : decode cX9_ticks 148 = .ok (.aload_n 0, 1) := by decide +kernel
theorem dX9_ticks_149 : decode cX9_ticks 149 = .ok (.iload_n 1, 1) := by decide +kernel
theorem dX9_ticks_150 : decode cX9_ticks 150 = .ok (.invokevirtual 231, 3) := by decide +kernel
theorem dX9_ticks_153 : decode cX9_ticks 153 = .ok (.iinc 1 1, 3) := by decide +kernel
theorem dX9_ticks_156 : decode cX9_ticks 156 = .ok (.goto (-26), 3) := by decide +kernel
theorem dX9_ticks_159 : decode cX9_ticks 159 = .ok (.return_, 1) := by decide +kernel
set_option maxRecDepth 20000 in
theorem ggX9_pass_X9_isIn : GoodIn wsX9_pass wsX9_isIn := goodIn_r _ [6] (by decide +kernel) (by decide +kernel)
set_option maxRecDepth 20000 in
theorem gX9_pass_X9_isIn : GoodIn wsX9_pass (va_wsS RX9 91 yX9_isIn wsX9_isIn) := goodIn_app (goodIn_of _ (by decide +kernel)) ggX9_pass_X9_isIn
set_option maxRecDepth 20000 in
theorem ggX9_pass_X9_isThrown : GoodIn wsX9_pass wsX9_isThrown := goodIn_r _ [10, 11, 101, 102, 103, 104, 105, 106, 107, 108, 109, 110, 111, 112, 113, 114, 115, 116, 117, 118, 119, 120, 121, 122, 123, 124, 125, 126, 127, 128, 129, 130, 131, 132, 133, 134, 135, 136, 137, 138, 139] (by decide +kernel) (by decide +kernel)
set_option maxRecDepth 20000 in
theorem gX9_pass_X9_isThrown : GoodIn wsX9_pass (wsV RX9 95 RX9 yX9_isThrown wsX9_isThrown) := goodIn_app (goodIn_of _ (by decide +kernel)) ggX9_pass_X9_isThrown
set_option maxRecDepth 20000 in
theorem ggX9_pass_X9_ticks : GoodIn wsX9_pass wsX9_ticks := goodIn_r _ [15, 16, 17, 18, 19, 20, 21, 22, 23, 24, 25, 26, 27, 28, 5, 29, 30, 31, 32, 33, 34, 35, 36, 37, 38, 39, 40, 41, 42, 43, 44, 45, 46, 47, 48, 49, 50, 51, 52, 53, 54, 55, 56, 57, 58, 59, 1, 60, 2, 61, 62, 63, 64, 65, 66, 67, 68, 69, 70, 71, 72, 73, 74, 75, 76, 77, 78, 79, 80, 81, 82, 83, 84, 85, 86, 87, 88, 89, 90, 91, 92, 93, 94, 95, 96, 97, 98, 99, 100, 101, 102, 103, 104, 105, 106, 107, 108, 109, 110, 111, 112, 113, 114, 115, 116, 117, 118, 119, 120, 121, 122, 123, 124, 125, 126, 127, 128, 129, 130, 131, 132, 133, 134, 135, 136, 137, 138, 139] (by decide +kernel) (by decide +kernel)
set_option maxRecDepth 20000 in
theorem gX9_pass_X9_ticks : GoodIn wsX9_pass (wsV RX9 234 RX9 yX9_ticks wsX9_ticks) := goodIn_app (goodIn_of _ (by decide +kernel)) ggX9_pass_X9_ticks
theorem dX9_pass_0 : decode cX9_pass 0 = .ok (.aload_n 0, 1) := by decide +kernel
theorem dX9_pass_1 : decode cX9_pass 1 = .ok (.iload_n 1, 1) := by decide +kernel
theorem dX9_pass_2 : decode cX9_pass 2 = .ok (.iconst 1, 1) := by decide +kernel
theorem dX9_pass_3 : decode cX9_pass 3 = .ok (.bipush 12, 2) := by decide +kernel
theorem dX9_pass_5 : decode cX9_pass 5 = .ok (.invokestatic 91, 3) := by decide +kernel
theorem dX9_pass_8 : decode cX9_pass 8 = .ok (.ifCond .ne 7, 3) := by decide +kernel
theorem dX9_pass_11 : decode cX9_pass 11 = .ok (.iconst 1, 1) := by decide +kernel
theorem dX9_pass_12 : decode cX9_pass 12 = .ok (.goto 4, 3) := by decide +kernel
theorem dX9_pass_15 : decode cX9_pass 15 = .ok (.iconst 0, 1) := by decide +kernel
theorem dX9_pass_16 : decode cX9_pass 16 = .ok (.iconst 1, 1) := by decide +kernel
theorem dX9_pass_17 : decode cX9_pass 17 = .ok (.invokevirtual 95, 3) := by decide +kernel
theorem dX9_pass_20 : decode cX9_pass 20 = .ok (.ifCond .eq 5, 3) := by decide +kernel
theorem dX9_pass_23 : decode cX9_pass 23 = .ok (.iconst 0, 1) := by decide +kernel
theorem dX9_pass_24 : decode cX9_pass 24 = .ok (.ireturn, 1) := by decide +kernel
theorem dX9_pass_25 : decode cX9_pass 25 = .ok (.iconst 0, 1) := by decide +kernel
theorem dX9_pass_26 : decode cX9_pass 26 = .ok (.istore_n 2, 1) := by decide +kernel
theorem dX9_pass_27 : decode cX9_pass 27 = .ok (.iload_n 2, 1) := by decide +kernel
theorem dX9_pass_28 : decode cX9_pass 28 = .ok (.iload_n 1, 1) := by decide +kernel
theorem dX9_pass_29 : decode cX9_pass 29 = .ok (.if_icmp .ge 13, 3) := by decide +kernel
theorem dX9_pass_32 : decode cX9_pass 32 = .ok (.aload_n 0, 1) := by decide +kernel
theorem dX9_pass_33 : decode cX9_pass 33 = .ok (.invokevirtual 234, 3) := by decide +kernel
theorem dX9_pass_36 : decode cX9_pass 36 = .ok (.iinc 2 1, 3) := by decide +kernel
theorem dX9_pass_39 : decode cX9_pass 39 = .ok (.goto (-12), 3) := by decide +kernel
theorem dX9_pass_42 : decode cX9_pass 42 = .ok (.iconst 0, 1) := by decide +kernel
theorem dX9_pass_43 : decode cX9_pass 43 = .ok (.istore_n 2, 1) := by decide +kernel
theorem dX9_pass_44 : decode cX9_pass 44 = .ok (.iconst 0, 1) := by decide +kernel
theorem dX9_pass_45 : decode cX9_pass 45 = .ok (.istore_n 3, 1) := by decide +kernel
theorem dX9_pass_46 : decode cX9_pass 46 = .ok (.iload_n 3, 1) := by decide +kernel
theorem dX9_pass_47 : decode cX9_pass 47 = .ok (.aload_n 0, 1) := by decide +kernel
theorem dX9_pass_48 : decode cX9_pass 48 = .ok (.getfield 108, 3) := by decide +kernel
theorem dX9_pass_51 : decode cX9_pass 51 = .ok (.if_icmp .ge 26, 3) := by decide +kernel
theorem dX9_pass_54 : decode cX9_pass 54 = .ok (.iload_n 2, 1) := by decide +kernel
theorem dX9_pass_55 : decode cX9_pass 55 = .ok (.aload_n 0, 1) := by decide +kernel
theorem dX9_pass_56 : decode cX9_pass 56 = .ok (.getfield 26, 3) := by decide +kernel
theorem dX9_pass_59 : decode cX9_pass 59 = .ok (.iload_n 3, 1) := by decide +kernel
theorem dX9_pass_60 : decode cX9_pass 60 = .ok (.baload, 1) := by decide +kernel
theorem dX9_pass_61 : decode cX9_pass 61 = .ok (.ifCond .eq 7, 3) := by decide +kernel
theorem dX9_pass_64 : decode cX9_pass 64 = .ok (.iconst 0, 1) := by decide +kernel
theorem dX9_pass_65 : decode cX9_pass 65 = .ok (.goto 4, 3) := by decide +kernel
theorem dX9_pass_68 : decode cX9_pass 68 = .ok (.iconst 1, 1) := by decide +kernel
theorem dX9_pass_69 : decode cX9_pass 69 = .ok (.iadd, 1) := by decide +kernel
theorem dX9_pass_70 : decode cX9_pass 70 = .ok (.istore_n 2, 1) := by decide +kernel
theorem dX9_pass_71 : decode cX9_pass 71 = .ok (.iinc 3 1, 3) := by decide +kernel
theorem dX9_pass_74 : decode cX9_pass 74 = .ok (.goto (-28), 3) := by decide +kernel
theorem dX9_pass_77 : decode cX9_pass 77 = .ok (.iload_n 2, 1) := by decide +kernel
theorem dX9_pass_78 : decode cX9_pass 78 = .ok (.ireturn, 1) := by decide +kernel
theorem dX9_now_0 : decode cX9_now 0 = .ok (.aload_n 0, 1) := by decide +kernel
theorem dX9_now_1 : decode cX9_now 1 = .ok (.iconst 0, 1) := by decide +kernel
theorem dX9_now_2 : decode cX9_now 2 = .ok (.putfield 85, 3) := by decide +kernel
theorem dX9_now_5 : decode cX9_now 5 = .ok (.aload_n 0, 1) := by decide +kernel
theorem dX9_now_6 : decode cX9_now 6 = .ok (.getfield 228, 3) := by decide +kernel
theorem dX9_now_9 : decode cX9_now 9 = .ok (.ireturn, 1) := by decide +kernel
set_option maxRecDepth 20000 in
theorem ggX9_given_X9_isNoGenerator : GoodIn wsX9_given wsX9_isNoGenerator := goodIn_r _ [6, 7, 8, 9, 5, 10, 11, 12, 13, 14, 15, 16, 17, 18, 19, 20, 21, 22, 23, 24, 25, 26, 27, 28, 29, 30, 31, 32, 33, 34, 35, 36, 37, 38, 39, 40, 41, 42, 43, 44, 45, 46, 47, 48, 49, 50, 51, 52, 53, 54] (by decide +kernel) (by decide +kernel)
set_option maxRecDepth 20000 in
theorem gX9_given_X9_isNoGenerator : GoodIn wsX9_given (wsV RX9 154 RX9 yX9_isNoGenerator wsX9_isNoGenerator) := goodIn_app (goodIn_of _ (by decide +kernel)) ggX9_given_X9_isNoGenerator
theorem dX9_given_0 : decode cX9_given 0 = .ok (.aload_n 0, 1) := by decide +kernel
theorem dX9_given_1 : decode cX9_given 1 = .ok (.iload_n 1, 1) := by decide +kernel
theorem dX9_given_2 : decode cX9_given 2 = .ok (.invokevirtual 154, 3) := by decide +kernel
theorem dX9_given_5 : decode cX9_given 5 = .ok (.ifCond .eq 7, 3) := by decide +kernel
theorem dX9_given_8 : decode cX9_given 8 = .ok (.iconst 0, 1) := by decide +kernel
theorem dX9_given_9 : decode cX9_given 9 = .ok (.goto 9, 3) := by decide +kernel
theorem dX9_given_12 : decode cX9_given 12 = .ok (.aload_n 0, 1) := by decide +kernel
theorem dX9_given_13 : decode cX9_given 13 = .ok (.getfield 47, 3) := by decide +kernel
theorem dX9_given_16 : decode cX9_given 16 = .ok (.iload_n 1, 1) := by decide +kernel
theorem dX9_given_17 : decode cX9_given 17 = .ok (.iaload, 1) := by decide +kernel
theorem dX9_given_18 : decode cX9_given 18 = .ok (.ireturn, 1) := by decide +kernel
set_option maxRecDepth 20000 in
theorem ggX9_flow_X9_isNoStore : GoodIn wsX9_flow wsX9_isNoStore := goodIn_r _ [6, 7, 8, 9, 5, 10, 11, 12, 13, 14, 15, 16, 17, 18, 19, 20, 21, 22, 23, 24, 25, 26, 27, 28, 29, 30, 31, 32, 33, 34, 35, 36, 37, 38, 39, 40, 41, 42, 43, 44, 45, 46, 47, 48, 49, 50, 51, 52, 53, 54] (by decide +kernel) (by decide +kernel)
set_option maxRecDepth 20000 in
theorem gX9_flow_X9_isNoStore : GoodIn wsX9_flow (wsV RX9 162 RX9 yX9_isNoStore wsX9_isNoStore) := goodIn_app (goodIn_of _ (by decide +kernel)) ggX9_flow_X9_isNoStore
theorem dX9_flow_0 : decode cX9_flow 0 = .ok (.aload_n 0, 1) := by decide +kernel
theorem dX9_flow_1 : decode cX9_flow 1 = .ok (.iload_n 1, 1) := by decide +kernel
theorem dX9_flow_2 : decode cX9_flow 2 = .ok (.invokevirtual 162, 3) := by decide +kernel
theorem dX9_flow_5 : decode cX9_flow 5 = .ok (.ifCond .eq 7, 3) := by decide +kernel
theorem dX9_flow_8 : decode cX9_flow 8 = .ok (.iconst 0, 1) := by decide +kernel
theorem dX9_flow_9 : decode cX9_flow 9 = .ok (.goto 9, 3) := by decide +kernel
theorem dX9_flow_12 : decode cX9_flow 12 = .ok (.aload_n 0, 1) := by decide +kernel
theorem dX9_flow_13 : decode cX9_flow 13 = .ok (.getfield 66, 3) := by decide +kernel
theorem dX9_flow_16 : decode cX9_flow 16 = .ok (.iload_n 1, 1) := by decide +kernel
theorem dX9_flow_17 : decode cX9_flow 17 = .ok (.iaload, 1) := by decide +kernel
theorem dX9_flow_18 : decode cX9_flow 18 = .ok (.ireturn, 1) := by decide +kernel
theorem dX9_grid_0 : decode cX9_grid 0 = .ok (.aload_n 0, 1) := by decide +kernel
theorem dX9_grid_1 : decode cX9_grid 1 = .ok (.iconst 0, 1) := by decide +kernel
theorem dX9_grid_2 : decode cX9_grid 2 = .ok (.putfield 85, 3) := by decide +kernel
theorem dX9_grid_5 : decode cX9_grid 5 = .ok (.aload_n 0, 1) := by decide +kernel
theorem dX9_grid_6 : decode cX9_grid 6 = .ok (.getfield 219, 3) := by decide +kernel
theorem dX9_grid_9 : decode cX9_grid 9 = .ok (.ireturn, 1) := by decide +kernel
theorem dX9_burnt_0 : decode cX9_burnt 0 = .ok (.aload_n 0, 1) := by decide +kernel
theorem dX9_burnt_1 : decode cX9_burnt 1 = .ok (.iconst 0, 1) := by decide +kernel
theorem dX9_burnt_2 : decode cX9_burnt 2 = .ok (.putfield 85, 3) := by decide +kernel
theorem dX9_burnt_5 : decode cX9_burnt 5 = .ok (.aload_n 0, 1) := by decide +kernel
