theorem dX6_put_12 : decode cX6_put 12 = .ok (.aload_n 0, 1) := by decide +kernel
theorem dX6_put_13 : decode cX6_put 13 = .ok (.dup, 1) := by decide +kernel
theorem dX6_put_14 : decode cX6_put 14 = .ok (.getfield 21, 3) := by decide +kernel
theorem dX6_put_17 : decode cX6_put 17 = .ok (.iconst 1, 1) := by decide +kernel
theorem dX6_put_18 : decode cX6_put 18 = .ok (.iadd, 1) := by decide +kernel
theorem dX6_put_19 : decode cX6_put 19 = .ok (.putfield 21, 3) := by decide +kernel
theorem dX6_put_22 : decode cX6_put 22 = .ok (.iload_n 2, 1) := by decide +kernel
theorem dX6_put_23 : decode cX6_put 23 = .ok (.ireturn, 1) := by decide +kernel
theorem dX6_isOn_0 : decode cX6_isOn 0 = .ok (.aload_n 0, 1) := by decide +kernel
theorem dX6_isOn_1 : decode cX6_isOn 1 = .ok (.getfield 17, 3) := by decide +kernel
theorem dX6_isOn_4 : decode cX6_isOn 4 = .ok (.getfield 25, 3) := by decide +kernel
theorem dX6_isOn_7 : decode cX6_isOn 7 = .ok (.aload_n 0, 1) := by decide +kernel
theorem dX6_isOn_8 : decode cX6_isOn 8 = .ok (.getfield 11, 3) := by decide +kernel
theorem dX6_isOn_11 : decode cX6_isOn 11 = .ok (.iload_n 1, 1) := by decide +kernel
theorem dX6_isOn_12 : decode cX6_isOn 12 = .ok (.aaload, 1) := by decide +kernel
theorem dX6_isOn_13 : decode cX6_isOn 13 = .ok (.getfield 31, 3) := by decide +kernel
theorem dX6_isOn_16 : decode cX6_isOn 16 = .ok (.iaload, 1) := by decide +kernel
theorem dX6_isOn_17 : decode cX6_isOn 17 = .ok (.iload_n 2, 1) := by decide +kernel
theorem dX6_isOn_18 : decode cX6_isOn 18 = .ok (.if_icmp .ne 7, 3) := by decide +kernel
theorem dX6_isOn_21 : decode cX6_isOn 21 = .ok (.iconst 1, 1) := by decide +kernel
theorem dX6_isOn_22 : decode cX6_isOn 22 = .ok (.goto 4, 3) := by decide +kernel
theorem dX6_isOn_25 : decode cX6_isOn 25 = .ok (.iconst 0, 1) := by decide +kernel
theorem dX6_isOn_26 : decode cX6_isOn 26 = .ok (.ireturn, 1) := by decide +kernel
set_option maxRecDepth 20000 in
theorem ggX6_sumOfSupply_X6_isOn : GoodIn wsX6_sumOfSupply wsX6_isOn := goodIn_r _ [7, 8, 9, 2, 10, 22, 23, 24, 25, 26, 27, 28, 29, 30, 31, 32, 33, 34, 35, 36, 37, 38, 39] (by decide +kernel) (by decide +kernel)
set_option maxRecDepth 20000 in
theorem gX6_sumOfSupply_X6_isOn : GoodIn wsX6_sumOfSupply (wsV RX6 34 RX6 yX6_isOn wsX6_isOn) := goodIn_app (goodIn_of _ (by decide +kernel)) ggX6_sumOfSupply_X6_isOn
set_option maxRecDepth 20000 in
theorem ggX6_sumOfSupply_X7_supply : GoodIn wsX6_sumOfSupply wsX7_supply := goodIn_r _ [15, 16, 17, 18, 19, 20, 21, 35, 36, 37, 38, 39] (by decide +kernel) (by decide +kernel)
set_option maxRecDepth 20000 in
theorem gX6_sumOfSupply_X7_supply : GoodIn wsX6_sumOfSupply (wsV RX6 38 RX7 yX7_supply wsX7_supply) := goodIn_app (goodIn_of _ (by decide +kernel)) ggX6_sumOfSupply_X7_supply
theorem dX6_sumOfSupply_0 : decode cX6_sumOfSupply 0 = .ok (.iconst 0, 1) := by decide +kernel
theorem dX6_sumOfSupply_1 : decode cX6_sumOfSupply 1 = .ok (.istore_n 2, 1) := by decide +kernel
theorem dX6_sumOfSupply_2 : decode cX6_sumOfSupply 2 = .ok (.iconst 0, 1) := by decide +kernel
theorem dX6_sumOfSupply_3 : decode cX6_sumOfSupply 3 = .ok (.istore_n 3, 1) := by decide +kernel
theorem dX6_sumOfSupply_4 : decode cX6_sumOfSupply 4 = .ok (.iload_n 3, 1) := by decide +kernel
theorem dX6_sumOfSupply_5 : decode cX6_sumOfSupply 5 = .ok (.aload_n 0, 1) := by decide +kernel
theorem dX6_sumOfSupply_6 : decode cX6_sumOfSupply 6 = .ok (.getfield 21, 3) := by decide +kernel
theorem dX6_sumOfSupply_9 : decode cX6_sumOfSupply 9 = .ok (.if_icmp .ge 30, 3) := by decide +kernel
theorem dX6_sumOfSupply_12 : decode cX6_sumOfSupply 12 = .ok (.aload_n 0, 1) := by decide +kernel
theorem dX6_sumOfSupply_13 : decode cX6_sumOfSupply 13 = .ok (.iload_n 3, 1) := by decide +kernel
theorem dX6_sumOfSupply_14 : decode cX6_sumOfSupply 14 = .ok (.iload_n 1, 1) := by decide +kernel
theorem dX6_sumOfSupply_15 : decode cX6_sumOfSupply 15 = .ok (.invokevirtual 34, 3) := by decide +kernel
theorem dX6_sumOfSupply_18 : decode cX6_sumOfSupply 18 = .ok (.ifCond .eq 15, 3) := by decide +kernel
theorem dX6_sumOfSupply_21 : decode cX6_sumOfSupply 21 = .ok (.iload_n 2, 1) := by decide +kernel
theorem dX6_sumOfSupply_22 : decode cX6_sumOfSupply 22 = .ok (.aload_n 0, 1) := by decide +kernel
theorem dX6_sumOfSupply_23 : decode cX6_sumOfSupply 23 = .ok (.getfield 11, 3) := by decide +kernel
theorem dX6_sumOfSupply_26 : decode cX6_sumOfSupply 26 = .ok (.iload_n 3, 1) := by decide +kernel
theorem dX6_sumOfSupply_27 : decode cX6_sumOfSupply 27 = .ok (.aaload, 1) := by decide +kernel
theorem dX6_sumOfSupply_28 : decode cX6_sumOfSupply 28 = .ok (.invokevirtual 38, 3) := by decide +kernel
theorem dX6_sumOfSupply_31 : decode cX6_sumOfSupply 31 = .ok (.iadd, 1) := by decide +kernel
theorem dX6_sumOfSupply_32 : decode cX6_sumOfSupply 32 = .ok (.istore_n 2, 1) := by decide +kernel
theorem dX6_sumOfSupply_33 : decode cX6_sumOfSupply 33 = .ok (.iinc 3 1, 3) := by decide +kernel
theorem dX6_sumOfSupply_36 : decode cX6_sumOfSupply 36 = .ok (.goto (-32), 3) := by decide +kernel
theorem dX6_sumOfSupply_39 : decode cX6_sumOfSupply 39 = .ok (.iload_n 2, 1) := by decide +kernel
theorem dX6_sumOfSupply_40 : decode cX6_sumOfSupply 40 = .ok (.ireturn, 1) := by decide +kernel
set_option maxRecDepth 20000 in
theorem ggX6_dischargeUpTo_X6_isOn : GoodIn wsX6_dischargeUpTo wsX6_isOn := goodIn_r _ [11, 12, 13, 2, 14, 28, 29, 30, 31, 32, 33, 34, 35, 36, 37, 38, 39, 40, 41, 42, 43, 44, 45] (by decide +kernel) (by decide +kernel)
set_option maxRecDepth 20000 in
theorem gX6_dischargeUpTo_X6_isOn : GoodIn wsX6_dischargeUpTo (wsV RX6 34 RX6 yX6_isOn wsX6_isOn) := goodIn_app (goodIn_of _ (by decide +kernel)) ggX6_dischargeUpTo_X6_isOn
set_option maxRecDepth 20000 in
theorem ggX6_dischargeUpTo_X7_supply : GoodIn wsX6_dischargeUpTo wsX7_supply := goodIn_r _ [19, 20, 21, 22, 4, 5, 6, 41, 42, 43, 44, 45] (by decide +kernel) (by decide +kernel)
set_option maxRecDepth 20000 in
theorem gX6_dischargeUpTo_X7_supply : GoodIn wsX6_dischargeUpTo (wsV RX6 38 RX7 yX7_supply wsX7_supply) := goodIn_app (goodIn_of _ (by decide +kernel)) ggX6_dischargeUpTo_X7_supply
set_option maxRecDepth 20000 in
theorem ggX6_dischargeUpTo_X7_move : GoodIn wsX6_dischargeUpTo wsX7_move := goodIn_r _ [26, 27, 21, 41, 42, 43, 44, 45] (by decide +kernel) (by decide +kernel)
set_option maxRecDepth 20000 in
theorem gX6_dischargeUpTo_X7_move : GoodIn wsX6_dischargeUpTo (wsV RX6 51 RX7 yX7_move wsX7_move) := goodIn_app (goodIn_of _ (by decide +kernel)) ggX6_dischargeUpTo_X7_move
theorem dX6_dischargeUpTo_0 : decode cX6_dischargeUpTo 0 = .ok (.iload_n 2, 1) := by decide +kernel
theorem dX6_dischargeUpTo_1 : decode cX6_dischargeUpTo 1 = .ok (.istore_n 3, 1) := by decide +kernel
theorem dX6_dischargeUpTo_2 : decode cX6_dischargeUpTo 2 = .ok (.iconst 0, 1) := by decide +kernel
theorem dX6_dischargeUpTo_3 : decode cX6_dischargeUpTo 3 = .ok (.istore 4, 2) := by decide +kernel
theorem dX6_dischargeUpTo_5 : decode cX6_dischargeUpTo 5 = .ok (.iload 4, 2) := by decide +kernel
theorem dX6_dischargeUpTo_7 : decode cX6_dischargeUpTo 7 = .ok (.aload_n 0, 1) := by decide +kernel
theorem dX6_dischargeUpTo_8 : decode cX6_dischargeUpTo 8 = .ok (.getfield 21, 3) := by decide +kernel
theorem dX6_dischargeUpTo_11 : decode cX6_dischargeUpTo 11 = .ok (.if_icmp .ge 52, 3) := by decide +kernel
theorem dX6_dischargeUpTo_14 : decode cX6_dischargeUpTo 14 = .ok (.aload_n 0, 1) := by decide +kernel
theorem dX6_dischargeUpTo_15 : decode cX6_dischargeUpTo 15 = .ok (.iload 4, 2) := by decide +kernel
theorem dX6_dischargeUpTo_17 : decode cX6_dischargeUpTo 17 = .ok (.iload_n 1, 1) := by decide +kernel
theorem dX6_dischargeUpTo_18 : decode cX6_dischargeUpTo 18 = .ok (.invokevirtual 34, 3) := by decide +kernel
theorem dX6_dischargeUpTo_21 : decode cX6_dischargeUpTo 21 = .ok (.ifCond .eq 36, 3) := by decide +kernel
theorem dX6_dischargeUpTo_24 : decode cX6_dischargeUpTo 24 = .ok (.iload_n 3, 1) := by decide +kernel
theorem dX6_dischargeUpTo_25 : decode cX6_dischargeUpTo 25 = .ok (.aload_n 0, 1) := by decide +kernel
theorem dX6_dischargeUpTo_26 : decode cX6_dischargeUpTo 26 = .ok (.getfield 11, 3) := by decide +kernel
theorem dX6_dischargeUpTo_29 : decode cX6_dischargeUpTo 29 = .ok (.iload 4, 2) := by decide +kernel
theorem dX6_dischargeUpTo_31 : decode cX6_dischargeUpTo 31 = .ok (.aaload, 1) := by decide +kernel
theorem dX6_dischargeUpTo_32 : decode cX6_dischargeUpTo 32 = .ok (.invokevirtual 38, 3) := by decide +kernel
theorem dX6_dischargeUpTo_35 : decode cX6_dischargeUpTo 35 = .ok (.invokestatic 45, 3) := by decide +kernel
theorem dX6_dischargeUpTo_38 : decode cX6_dischargeUpTo 38 = .ok (.istore 5, 2) := by decide +kernel
theorem dX6_dischargeUpTo_40 : decode cX6_dischargeUpTo 40 = .ok (.aload_n 0, 1) := by decide +kernel
theorem dX6_dischargeUpTo_41 : decode cX6_dischargeUpTo 41 = .ok (.getfield 11, 3) := by decide +kernel
theorem dX6_dischargeUpTo_44 : decode cX6_dischargeUpTo 44 = .ok (.iload 4, 2) := by decide +kernel
theorem dX6_dischargeUpTo_46 : decode cX6_dischargeUpTo 46 = .ok (.aaload, 1) := by decide +kernel
theorem dX6_dischargeUpTo_47 : decode cX6_dischargeUpTo 47 = .ok (.iload 5, 2) := by decide +kernel
theorem dX6_dischargeUpTo_49 : decode cX6_dischargeUpTo 49 = .ok (.invokevirtual 51, 3) := by decide +kernel
theorem dX6_dischargeUpTo_52 : decode cX6_dischargeUpTo 52 = .ok (.iload_n 3, 1) := by decide +kernel
theorem dX6_dischargeUpTo_53 : decode cX6_dischargeUpTo 53 = .ok (.iload 5, 2) := by decide +kernel
theorem dX6_dischargeUpTo_55 : decode cX6_dischargeUpTo 55 = .ok (.isub, 1) := by decide +kernel
theorem dX6_dischargeUpTo_56 : decode cX6_dischargeUpTo 56 = .ok (.istore_n 3, 1) := by decide +kernel
theorem dX6_dischargeUpTo_57 : decode cX6_dischargeUpTo 57 = .ok (.iinc 4 1, 3) := by decide +kernel
theorem dX6_dischargeUpTo_60 : decode cX6_dischargeUpTo 60 = .ok (.goto (-55), 3) := by decide +kernel
theorem dX6_dischargeUpTo_63 : decode cX6_dischargeUpTo 63 = .ok (.iload_n 3, 1) := by decide +kernel
theorem dX6_dischargeUpTo_64 : decode cX6_dischargeUpTo 64 = .ok (.ireturn, 1) := by decide +kernel
set_option maxRecDepth 20000 in
theorem ggX6_chargeUpTo_X6_isOn : GoodIn wsX6_chargeUpTo wsX6_isOn := goodIn_r _ [11, 12, 13, 2, 14, 29, 30, 31, 32, 33, 34, 35, 36, 37, 38, 39, 40, 41, 42, 43, 44, 45, 46] (by decide +kernel) (by decide +kernel)
set_option maxRecDepth 20000 in
theorem gX6_chargeUpTo_X6_isOn : GoodIn wsX6_chargeUpTo (wsV RX6 34 RX6 yX6_isOn wsX6_isOn) := goodIn_app (goodIn_of _ (by decide +kernel)) ggX6_chargeUpTo_X6_isOn
set_option maxRecDepth 20000 in
theorem ggX6_chargeUpTo_X7_room : GoodIn wsX6_chargeUpTo wsX7_room := goodIn_r _ [19, 20, 21, 22, 23, 4, 5, 6, 42, 43, 44, 45, 46] (by decide +kernel) (by decide +kernel)
set_option maxRecDepth 20000 in
theorem gX6_chargeUpTo_X7_room : GoodIn wsX6_chargeUpTo (wsV RX6 55 RX7 yX7_room wsX7_room) := goodIn_app (goodIn_of _ (by decide +kernel)) ggX6_chargeUpTo_X7_room
set_option maxRecDepth 20000 in
theorem ggX6_chargeUpTo_X7_move : GoodIn wsX6_chargeUpTo wsX7_move := goodIn_r _ [27, 28, 22, 42, 43, 44, 45, 46] (by decide +kernel) (by decide +kernel)
set_option maxRecDepth 20000 in
theorem gX6_chargeUpTo_X7_move : GoodIn wsX6_chargeUpTo (wsV RX6 51 RX7 yX7_move wsX7_move) := goodIn_app (goodIn_of _ (by decide +kernel)) ggX6_chargeUpTo_X7_move
theorem dX6_chargeUpTo_0 : decode cX6_chargeUpTo 0 = .ok (.iload_n 2, 1) := by decide +kernel
theorem dX6_chargeUpTo_1 : decode cX6_chargeUpTo 1 = .ok (.istore_n 3, 1) := by decide +kernel
theorem dX6_chargeUpTo_2 : decode cX6_chargeUpTo 2 = .ok (.iconst 0, 1) := by decide +kernel
theorem dX6_chargeUpTo_3 : decode cX6_chargeUpTo 3 = .ok (.istore 4, 2) := by decide +kernel
theorem dX6_chargeUpTo_5 : decode cX6_chargeUpTo 5 = .ok (.iload 4, 2) := by decide +kernel
theorem dX6_chargeUpTo_7 : decode cX6_chargeUpTo 7 = .ok (.aload_n 0, 1) := by decide +kernel
theorem dX6_chargeUpTo_8 : decode cX6_chargeUpTo 8 = .ok (.getfield 21, 3) := by decide +kernel
theorem dX6_chargeUpTo_11 : decode cX6_chargeUpTo 11 = .ok (.if_icmp .ge 53, 3) := by decide +kernel
theorem dX6_chargeUpTo_14 : decode cX6_chargeUpTo 14 = .ok (.aload_n 0, 1) := by decide +kernel
theorem dX6_chargeUpTo_15 : decode cX6_chargeUpTo 15 = .ok (.iload 4, 2) := by decide +kernel
theorem dX6_chargeUpTo_17 : decode cX6_chargeUpTo 17 = .ok (.iload_n 1, 1) := by decide +kernel
theorem dX6_chargeUpTo_18 : decode cX6_chargeUpTo 18 = .ok (.invokevirtual 34, 3) := by decide +kernel
theorem dX6_chargeUpTo_21 : decode cX6_chargeUpTo 21 = .ok (.ifCond .eq 37, 3) := by decide +kernel
theorem dX6_chargeUpTo_24 : decode cX6_chargeUpTo 24 = .ok (.iload_n 3, 1) := by decide +kernel
theorem dX6_chargeUpTo_25 : decode cX6_chargeUpTo 25 = .ok (.aload_n 0, 1) := by decide +kernel
theorem dX6_chargeUpTo_26 : decode cX6_chargeUpTo 26 = .ok (.getfield 11, 3) := by decide +kernel
theorem dX6_chargeUpTo_29 : decode cX6_chargeUpTo 29 = .ok (.iload 4, 2) := by decide +kernel
theorem dX6_chargeUpTo_31 : decode cX6_chargeUpTo 31 = .ok (.aaload, 1) := by decide +kernel
theorem dX6_chargeUpTo_32 : decode cX6_chargeUpTo 32 = .ok (.invokevirtual 55, 3) := by decide +kernel
theorem dX6_chargeUpTo_35 : decode cX6_chargeUpTo 35 = .ok (.invokestatic 45, 3) := by decide +kernel
theorem dX6_chargeUpTo_38 : decode cX6_chargeUpTo 38 = .ok (.istore 5, 2) := by decide +kernel
theorem dX6_chargeUpTo_40 : decode cX6_chargeUpTo 40 = .ok (.aload_n 0, 1) := by decide +kernel
theorem dX6_chargeUpTo_41 : decode cX6_chargeUpTo 41 = .ok (.getfield 11, 3) := by decide +kernel
theorem dX6_chargeUpTo_44 : decode cX6_chargeUpTo 44 = .ok (.iload 4, 2) := by decide +kernel
theorem dX6_chargeUpTo_46 : decode cX6_chargeUpTo 46 = .ok (.aaload, 1) := by decide +kernel
theorem dX6_chargeUpTo_47 : decode cX6_chargeUpTo 47 = .ok (.iload 5, 2) := by decide +kernel
theorem dX6_chargeUpTo_49 : decode cX6_chargeUpTo 49 = .ok (.ineg, 1) := by decide +kernel
theorem dX6_chargeUpTo_50 : decode cX6_chargeUpTo 50 = .ok (.invokevirtual 51, 3) := by decide +kernel
theorem dX6_chargeUpTo_53 : decode cX6_chargeUpTo 53 = .ok (.iload_n 3, 1) := by decide +kernel
theorem dX6_chargeUpTo_54 : decode cX6_chargeUpTo 54 = .ok (.iload 5, 2) := by decide +kernel
theorem dX6_chargeUpTo_56 : decode cX6_chargeUpTo 56 = .ok (.isub, 1) := by decide +kernel
theorem dX6_chargeUpTo_57 : decode cX6_chargeUpTo 57 = .ok (.istore_n 3, 1) := by decide +kernel
theorem dX6_chargeUpTo_58 : decode cX6_chargeUpTo 58 = .ok (.iinc 4 1, 3) := by decide +kernel
theorem dX6_chargeUpTo_61 : decode cX6_chargeUpTo 61 = .ok (.goto (-56), 3) := by decide +kernel
theorem dX6_chargeUpTo_64 : decode cX6_chargeUpTo 64 = .ok (.iload_n 3, 1) := by decide +kernel
theorem dX6_chargeUpTo_65 : decode cX6_chargeUpTo 65 = .ok (.ireturn, 1) := by decide +kernel
theorem dX7_init_0 : decode cX7_init 0 = .ok (.aload_n 0, 1) := by decide +kernel
theorem dX7_init_1 : decode cX7_init 1 = .ok (.invokespecial 1, 3) := by decide +kernel
theorem dX7_init_4 : decode cX7_init 4 = .ok (.aload_n 0, 1) := by decide +kernel
theorem dX7_init_5 : decode cX7_init 5 = .ok (.iload_n 1, 1) := by decide +kernel
theorem dX7_init_6 : decode cX7_init 6 = .ok (.putfield 7, 3) := by decide +kernel
theorem dX7_init_9 : decode cX7_init 9 = .ok (.aload_n 0, 1) := by decide +kernel
theorem dX7_init_10 : decode cX7_init 10 = .ok (.iload_n 2, 1) := by decide +kernel
theorem dX7_init_11 : decode cX7_init 11 = .ok (.putfield 13, 3) := by decide +kernel
theorem dX7_init_14 : decode cX7_init 14 = .ok (.aload_n 0, 1) := by decide +kernel
theorem dX7_init_15 : decode cX7_init 15 = .ok (.iload_n 3, 1) := by decide +kernel
theorem dX7_init_16 : decode cX7_init 16 = .ok (.putfield 16, 3) := by decide +kernel
theorem dX7_init_19 : decode cX7_init 19 = .ok (.return_, 1) := by decide +kernel
theorem dX7_supply_0 : decode cX7_supply 0 = .ok (.aload_n 0, 1) := by decide +kernel
theorem dX7_supply_1 : decode cX7_supply 1 = .ok (.getfield 16, 3) := by decide +kernel
theorem dX7_supply_4 : decode cX7_supply 4 = .ok (.aload_n 0, 1) := by decide +kernel
theorem dX7_supply_5 : decode cX7_supply 5 = .ok (.getfield 19, 3) := by decide +kernel
theorem dX7_supply_8 : decode cX7_supply 8 = .ok (.invokestatic 22, 3) := by decide +kernel
theorem dX7_supply_11 : decode cX7_supply 11 = .ok (.ireturn, 1) := by decide +kernel
theorem dX7_room_0 : decode cX7_room 0 = .ok (.aload_n 0, 1) := by decide +kernel
theorem dX7_room_1 : decode cX7_room 1 = .ok (.getfield 16, 3) := by decide +kernel
theorem dX7_room_4 : decode cX7_room 4 = .ok (.aload_n 0, 1) := by decide +kernel
theorem dX7_room_5 : decode cX7_room 5 = .ok (.getfield 13, 3) := by decide +kernel
theorem dX7_room_8 : decode cX7_room 8 = .ok (.aload_n 0, 1) := by decide +kernel
theorem dX7_room_9 : decode cX7_room 9 = .ok (.getfield 19, 3) := by decide +kernel
theorem dX7_room_12 : decode cX7_room 12 = .ok (.isub, 1) := by decide +kernel
theorem dX7_room_13 : decode cX7_room 13 = .ok (.invokestatic 22, 3) := by decide +kernel
theorem dX7_room_16 : decode cX7_room 16 = .ok (.ireturn, 1) := by decide +kernel
theorem dX7_move_0 : decode cX7_move 0 = .ok (.aload_n 0, 1) := by decide +kernel
theorem dX7_move_1 : decode cX7_move 1 = .ok (.iload_n 1, 1) := by decide +kernel
theorem dX7_move_2 : decode cX7_move 2 = .ok (.putfield 28, 3) := by decide +kernel
theorem dX7_move_5 : decode cX7_move 5 = .ok (.aload_n 0, 1) := by decide +kernel
theorem dX7_move_6 : decode cX7_move 6 = .ok (.dup, 1) := by decide +kernel
theorem dX7_move_7 : decode cX7_move 7 = .ok (.getfield 19, 3) := by decide +kernel
theorem dX7_move_10 : decode cX7_move 10 = .ok (.iload_n 1, 1) := by decide +kernel
theorem dX7_move_11 : decode cX7_move 11 = .ok (.isub, 1) := by decide +kernel
theorem dX7_move_12 : decode cX7_move 12 = .ok (.putfield 19, 3) := by decide +kernel
theorem dX7_move_15 : decode cX7_move 15 = .ok (.return_, 1) := by decide +kernel
set_option maxRecDepth 20000 in
theorem ggX8_init_X5_init : GoodIn wsX8_init wsX5_init := goodIn_r _ [26, 27, 2, 3, 28, 29, 30, 31, 32, 33, 34, 35, 36, 63, 64, 65, 66, 67, 68, 69, 70, 71, 72] (by decide +kernel) (by decide +kernel)
set_option maxRecDepth 20000 in
theorem gX8_init_X5_init_n9 : GoodIn wsX8_init (wsX5_init) := ggX8_init_X5_init
set_option maxRecDepth 20000 in
theorem ggX8_init_X0_init : GoodIn wsX8_init wsX0_init := goodIn_r _ [39, 40, 2, 3, 41, 42, 28, 43, 44, 45, 81, 82, 83, 84, 85] (by decide +kernel) (by decide +kernel)
set_option maxRecDepth 20000 in
theorem gX8_init_X0_init : GoodIn wsX8_init (wsX0_init) := ggX8_init_X0_init
set_option maxRecDepth 20000 in
theorem ggX8_init_X6_init : GoodIn wsX8_init wsX6_init := goodIn_r _ [48, 49, 2, 3, 50, 51, 52, 86, 87, 88] (by decide +kernel) (by decide +kernel)
set_option maxRecDepth 20000 in
theorem gX8_init_X6_init : GoodIn wsX8_init (wsX6_init) := ggX8_init_X6_init
set_option maxRecDepth 20000 in
theorem ggX8_init_X4_init : GoodIn wsX8_init wsX4_init := goodIn_r _ [55, 56, 2, 3, 57, 58, 59, 89, 90, 91] (by decide +kernel) (by decide +kernel)
set_option maxRecDepth 20000 in
theorem gX8_init_X4_init : GoodIn wsX8_init (wsX4_init) := ggX8_init_X4_init
set_option maxRecDepth 20000 in
theorem ggX8_init_X2_init : GoodIn wsX8_init wsX2_init := goodIn_r _ [61, 62, 2, 3] (by decide +kernel) (by decide +kernel)
set_option maxRecDepth 20000 in
theorem gX8_init_X2_init_n41 : GoodIn wsX8_init (wsX2_init) := ggX8_init_X2_init
theorem dX8_init_0 : decode cX8_init 0 = .ok (.aload_n 0, 1) := by decide +kernel
theorem dX8_init_1 : decode cX8_init 1 = .ok (.invokespecial 1, 3) := by decide +kernel
theorem dX8_init_4 : decode cX8_init 4 = .ok (.aload_n 0, 1) := by decide +kernel
theorem dX8_init_5 : decode cX8_init 5 = .ok (.new 7, 3) := by decide +kernel
theorem dX8_init_8 : decode cX8_init 8 = .ok (.dup, 1) := by decide +kernel
theorem dX8_init_9 : decode cX8_init 9 = .ok (.invokespecial 9, 3) := by decide +kernel
theorem dX8_init_12 : decode cX8_init 12 = .ok (.putfield 10, 3) := by decide +kernel
theorem dX8_init_15 : decode cX8_init 15 = .ok (.aload_n 0, 1) := by decide +kernel
theorem dX8_init_16 : decode cX8_init 16 = .ok (.new 16, 3) := by decide +kernel
theorem dX8_init_19 : decode cX8_init 19 = .ok (.dup, 1) := by decide +kernel
theorem dX8_init_20 : decode cX8_init 20 = .ok (.aload_n 0, 1) := by decide +kernel
theorem dX8_init_21 : decode cX8_init 21 = .ok (.getfield 10, 3) := by decide +kernel
theorem dX8_init_24 : decode cX8_init 24 = .ok (.invokespecial 18, 3) := by decide +kernel
theorem dX8_init_27 : decode cX8_init 27 = .ok (.putfield 21, 3) := by decide +kernel
theorem dX8_init_30 : decode cX8_init 30 = .ok (.aload_n 0, 1) := by decide +kernel
theorem dX8_init_31 : decode cX8_init 31 = .ok (.new 25, 3) := by decide +kernel
theorem dX8_init_34 : decode cX8_init 34 = .ok (.dup, 1) := by decide +kernel
theorem dX8_init_35 : decode cX8_init 35 = .ok (.aload_n 0, 1) := by decide +kernel
theorem dX8_init_36 : decode cX8_init 36 = .ok (.getfield 10, 3) := by decide +kernel
theorem dX8_init_39 : decode cX8_init 39 = .ok (.invokespecial 27, 3) := by decide +kernel
theorem dX8_init_42 : decode cX8_init 42 = .ok (.putfield 28, 3) := by decide +kernel
theorem dX8_init_45 : decode cX8_init 45 = .ok (.aload_n 0, 1) := by decide +kernel
theorem dX8_init_46 : decode cX8_init 46 = .ok (.new 32, 3) := by decide +kernel
theorem dX8_init_49 : decode cX8_init 49 = .ok (.dup, 1) := by decide +kernel
theorem dX8_init_50 : decode cX8_init 50 = .ok (.aload_n 0, 1) := by decide +kernel
theorem dX8_init_51 : decode cX8_init 51 = .ok (.getfield 10, 3) := by decide +kernel
theorem dX8_init_54 : decode cX8_init 54 = .ok (.invokespecial 34, 3) := by decide +kernel
theorem dX8_init_57 : decode cX8_init 57 = .ok (.putfield 35, 3) := by decide +kernel
theorem dX8_init_60 : decode cX8_init 60 = .ok (.aload_n 0, 1) := by decide +kernel
theorem dX8_init_61 : decode cX8_init 61 = .ok (.new 39, 3) := by decide +kernel
theorem dX8_init_64 : decode cX8_init 64 = .ok (.dup, 1) := by decide +kernel
theorem dX8_init_65 : decode cX8_init 65 = .ok (.invokespecial 41, 3) := by decide +kernel
theorem dX8_init_68 : decode cX8_init 68 = .ok (.putfield 42, 3) := by decide +kernel
theorem dX8_init_71 : decode cX8_init 71 = .ok (.aload_n 0, 1) := by decide +kernel
theorem dX8_init_72 : decode cX8_init 72 = .ok (.iconst 2, 1) := by decide +kernel
theorem dX8_init_73 : decode cX8_init 73 = .ok (.putfield 46, 3) := by decide +kernel
theorem dX8_init_76 : decode cX8_init 76 = .ok (.return_, 1) := by decide +kernel
set_option maxRecDepth 20000 in
theorem ggX8_addSite_X5_putSite : GoodIn wsX8_addSite wsX5_putSite := goodIn_r _ [9, 10, 11, 12, 13, 8, 14, 15, 16, 17, 18, 19, 20, 21, 22, 23, 24, 25, 26, 27, 28, 37, 38, 39, 40, 41, 42, 43, 44, 45, 46] (by decide +kernel) (by decide +kernel)
set_option maxRecDepth 20000 in
theorem gX8_addSite_X5_putSite : GoodIn wsX8_addSite (wsV RX8 60 RX5 yX5_putSite wsX5_putSite) := goodIn_app (goodIn_of _ (by decide +kernel)) ggX8_addSite_X5_putSite
theorem dX8_addSite_0 : decode cX8_addSite 0 = .ok (.aload_n 0, 1) := by decide +kernel
theorem dX8_addSite_1 : decode cX8_addSite 1 = .ok (.getfield 10, 3) := by decide +kernel
theorem dX8_addSite_4 : decode cX8_addSite 4 = .ok (.getfield 50, 3) := by decide +kernel
theorem dX8_addSite_7 : decode cX8_addSite 7 = .ok (.bipush 6, 2) := by decide +kernel
theorem dX8_addSite_9 : decode cX8_addSite 9 = .ok (.if_icmp .lt 13, 3) := by decide +kernel
theorem dX8_addSite_12 : decode cX8_addSite 12 = .ok (.new 53, 3) := by decide +kernel
theorem dX8_addSite_15 : decode cX8_addSite 15 = .ok (.dup, 1) := by decide +kernel
theorem dX8_addSite_16 : decode cX8_addSite 16 = .ok (.ldc 55, 2) := by decide +kernel
theorem dX8_addSite_18 : decode cX8_addSite 18 = .ok (.invokespecial 57, 3) := by decide +kernel
theorem dX8_addSite_21 : decode cX8_addSite 21 = .ok (.athrow, 1) := by decide +kernel
theorem dX8_addSite_22 : decode cX8_addSite 22 = .ok (.aload_n 0, 1) := by decide +kernel
theorem dX8_addSite_23 : decode cX8_addSite 23 = .ok (.getfield 10, 3) := by decide +kernel
theorem dX8_addSite_26 : decode cX8_addSite 26 = .ok (.invokevirtual 60, 3) := by decide +kernel
theorem dX8_addSite_29 : decode cX8_addSite 29 = .ok (.ireturn, 1) := by decide +kernel
set_option maxRecDepth 20000 in
theorem ggX8_setPhase_X8_checkSite : GoodIn wsX8_setPhase wsX8_checkSite := goodIn_ca (goodIn_r _ [7, 1, 8, 9, 10, 6, 11, 12, 13, 19, 20, 21, 22, 23, 24, 25, 26, 27, 28, 29, 30, 31, 32, 33, 34, 35, 36] (by decide +kernel) (by decide +kernel)) (goodIn_sub (fun _ h => List.mem_cons_of_mem _ (List.mem_append_left _ (List.mem_append_right _ h))) (by decide +kernel))
set_option maxRecDepth 20000 in
theorem gX8_setPhase_X8_checkSite : GoodIn wsX8_setPhase (wsV RX8 64 RX8 yX8_checkSite wsX8_checkSite) := goodIn_app (goodIn_of _ (by decide +kernel)) ggX8_setPhase_X8_checkSite
set_option maxRecDepth 20000 in
theorem ggX8_setPhase_X8_checkRange : GoodIn wsX8_setPhase wsX8_checkRange := goodIn_ca (goodIn_r _ [16, 17, 18] (by decide +kernel) (by decide +kernel)) (goodIn_sub (fun _ h => List.mem_cons_of_mem _ (List.mem_append_right _ h)) (by decide +kernel))
set_option maxRecDepth 20000 in
theorem gX8_setPhase_X8_checkRange : GoodIn wsX8_setPhase (va_wsS RX8 68 yX8_checkRange wsX8_checkRange) := goodIn_app (goodIn_of _ (by decide +kernel)) ggX8_setPhase_X8_checkRange
theorem dX8_setPhase_0 : decode cX8_setPhase 0 = .ok (.aload_n 0, 1) := by decide +kernel
theorem dX8_setPhase_1 : decode cX8_setPhase 1 = .ok (.iload_n 1, 1) := by decide +kernel
theorem dX8_setPhase_2 : decode cX8_setPhase 2 = .ok (.invokevirtual 64, 3) := by decide +kernel
theorem dX8_setPhase_5 : decode cX8_setPhase 5 = .ok (.iload_n 2, 1) := by decide +kernel
theorem dX8_setPhase_6 : decode cX8_setPhase 6 = .ok (.iconst 0, 1) := by decide +kernel
theorem dX8_setPhase_7 : decode cX8_setPhase 7 = .ok (.sipush 359, 3) := by decide +kernel
theorem dX8_setPhase_10 : decode cX8_setPhase 10 = .ok (.invokestatic 68, 3) := by decide +kernel
theorem dX8_setPhase_13 : decode cX8_setPhase 13 = .ok (.aload_n 0, 1) := by decide +kernel
theorem dX8_setPhase_14 : decode cX8_setPhase 14 = .ok (.getfield 10, 3) := by decide +kernel
theorem dX8_setPhase_17 : decode cX8_setPhase 17 = .ok (.getfield 72, 3) := by decide +kernel
theorem dX8_setPhase_20 : decode cX8_setPhase 20 = .ok (.iload_n 1, 1) := by decide +kernel
theorem dX8_setPhase_21 : decode cX8_setPhase 21 = .ok (.iaload, 1) := by decide +kernel
theorem dX8_setPhase_22 : decode cX8_setPhase 22 = .ok (.istore_n 3, 1) := by decide +kernel
theorem dX8_setPhase_23 : decode cX8_setPhase 23 = .ok (.aload_n 0, 1) := by decide +kernel
theorem dX8_setPhase_24 : decode cX8_setPhase 24 = .ok (.getfield 10, 3) := by decide +kernel
theorem dX8_setPhase_27 : decode cX8_setPhase 27 = .ok (.getfield 72, 3) := by decide +kernel
theorem dX8_setPhase_30 : decode cX8_setPhase 30 = .ok (.iload_n 1, 1) := by decide +kernel
theorem dX8_setPhase_31 : decode cX8_setPhase 31 = .ok (.iload_n 2, 1) := by decide +kernel
theorem dX8_setPhase_32 : decode cX8_setPhase 32 = .ok (.iastore, 1) := by decide +kernel
theorem dX8_setPhase_33 : decode cX8_setPhase 33 = .ok (.iload_n 3, 1) := by decide +kernel
theorem dX8_setPhase_34 : decode cX8_setPhase 34 = .ok (.ireturn, 1) := by decide +kernel
set_option maxRecDepth 20000 in
theorem ggX8_addLine_X8_checkSite : GoodIn wsX8_addLine wsX8_checkSite := goodIn_ca (goodIn_r _ [11, 5, 12, 13, 14, 10, 15, 16, 17, 26, 27, 28, 29, 30, 31, 32, 33, 34, 35, 36, 37, 38, 39, 40, 41, 42, 43] (by decide +kernel) (by decide +kernel)) (goodIn_sub (fun _ h => List.mem_cons_of_mem _ (List.mem_append_right _ h)) (by decide +kernel))
set_option maxRecDepth 20000 in
theorem gX8_addLine_X8_checkSite : GoodIn wsX8_addLine (wsV RX8 64 RX8 yX8_checkSite wsX8_checkSite) := goodIn_app (goodIn_of _ (by decide +kernel)) ggX8_addLine_X8_checkSite
set_option maxRecDepth 20000 in
theorem ggX8_addLine_X5_putLine : GoodIn wsX8_addLine wsX5_putLine := goodIn_r _ [22, 23, 24, 25, 34, 35, 36, 37, 38, 39, 40, 41, 42, 43] (by decide +kernel) (by decide +kernel)
set_option maxRecDepth 20000 in
theorem gX8_addLine_X5_putLine : GoodIn wsX8_addLine (wsV RX8 86 RX5 yX5_putLine wsX5_putLine) := goodIn_app (goodIn_of _ (by decide +kernel)) ggX8_addLine_X5_putLine
theorem dX8_addLine_0 : decode cX8_addLine 0 = .ok (.aload_n 0, 1) := by decide +kernel
theorem dX8_addLine_1 : decode cX8_addLine 1 = .ok (.iload_n 1, 1) := by decide +kernel
theorem dX8_addLine_2 : decode cX8_addLine 2 = .ok (.invokevirtual 64, 3) := by decide +kernel
theorem dX8_addLine_5 : decode cX8_addLine 5 = .ok (.aload_n 0, 1) := by decide +kernel
theorem dX8_addLine_6 : decode cX8_addLine 6 = .ok (.iload_n 2, 1) := by decide +kernel
theorem dX8_addLine_7 : decode cX8_addLine 7 = .ok (.invokevirtual 64, 3) := by decide +kernel
theorem dX8_addLine_10 : decode cX8_addLine 10 = .ok (.iload_n 1, 1) := by decide +kernel
theorem dX8_addLine_11 : decode cX8_addLine 11 = .ok (.iload_n 2, 1) := by decide +kernel
theorem dX8_addLine_12 : decode cX8_addLine 12 = .ok (.if_icmp .ne 13, 3) := by decide +kernel
theorem dX8_addLine_15 : decode cX8_addLine 15 = .ok (.new 76, 3) := by decide +kernel
theorem dX8_addLine_18 : decode cX8_addLine 18 = .ok (.dup, 1) := by decide +kernel
theorem dX8_addLine_19 : decode cX8_addLine 19 = .ok (.ldc 78, 2) := by decide +kernel
theorem dX8_addLine_21 : decode cX8_addLine 21 = .ok (.invokespecial 80, 3) := by decide +kernel
theorem dX8_addLine_24 : decode cX8_addLine 24 = .ok (.athrow, 1) := by decide +kernel
theorem dX8_addLine_25 : decode cX8_addLine 25 = .ok (.aload_n 0, 1) := by decide +kernel
theorem dX8_addLine_26 : decode cX8_addLine 26 = .ok (.getfield 10, 3) := by decide +kernel
theorem dX8_addLine_29 : decode cX8_addLine 29 = .ok (.getfield 81, 3) := by decide +kernel
theorem dX8_addLine_32 : decode cX8_addLine 32 = .ok (.bipush 8, 2) := by decide +kernel
theorem dX8_addLine_34 : decode cX8_addLine 34 = .ok (.if_icmp .lt 13, 3) := by decide +kernel
theorem dX8_addLine_37 : decode cX8_addLine 37 = .ok (.new 53, 3) := by decide +kernel
theorem dX8_addLine_40 : decode cX8_addLine 40 = .ok (.dup, 1) := by decide +kernel
theorem dX8_addLine_41 : decode cX8_addLine 41 = .ok (.ldc 84, 2) := by decide +kernel
theorem dX8_addLine_43 : decode cX8_addLine 43 = .ok (.invokespecial 57, 3) := by decide +kernel
theorem dX8_addLine_46 : decode cX8_addLine 46 = .ok (.athrow, 1) := by decide +kernel
theorem dX8_addLine_47 : decode cX8_addLine 47 = .ok (.aload_n 0, 1) := by decide +kernel
theorem dX8_addLine_48 : decode cX8_addLine 48 = .ok (.getfield 10, 3) := by decide +kernel
theorem dX8_addLine_51 : decode cX8_addLine 51 = .ok (.iload_n 1, 1) := by decide +kernel
theorem dX8_addLine_52 : decode cX8_addLine 52 = .ok (.iload_n 2, 1) := by decide +kernel
theorem dX8_addLine_53 : decode cX8_addLine 53 = .ok (.invokevirtual 86, 3) := by decide +kernel
theorem dX8_addLine_56 : decode cX8_addLine 56 = .ok (.ireturn, 1) := by decide +kernel
set_option maxRecDepth 20000 in
theorem ggX8_close_X8_checkNumber : GoodIn wsX8_close wsX8_checkNumber := goodIn_ca (goodIn_r _ [11, 12, 13] (by decide +kernel) (by decide +kernel)) (goodIn_sub (fun _ h => List.mem_cons_of_mem _ (List.mem_append_right _ h)) (by decide +kernel))
set_option maxRecDepth 20000 in
theorem gX8_close_X8_checkNumber : GoodIn wsX8_close (va_wsS RX8 90 yX8_checkNumber wsX8_checkNumber) := goodIn_app (goodIn_of _ (by decide +kernel)) ggX8_close_X8_checkNumber
set_option maxRecDepth 20000 in
theorem ggX8_close_X5_gapOf : GoodIn wsX8_close wsX5_gapOf := goodIn_r _ [18, 19, 20, 21, 22, 23, 24, 17, 25, 26, 27, 28, 29, 30, 31, 32, 33, 34, 35, 36, 37, 38, 39, 40, 41, 74, 75, 76, 77, 78, 79, 80, 81, 82, 83] (by decide +kernel) (by decide +kernel)
set_option maxRecDepth 20000 in
theorem gX8_close_X5_gapOf : GoodIn wsX8_close (wsV RX8 100 RX5 yX5_gapOf wsX5_gapOf) := goodIn_app (goodIn_of _ (by decide +kernel)) ggX8_close_X5_gapOf
set_option maxRecDepth 20000 in
theorem ggX8_close_X5_setClosed : GoodIn wsX8_close wsX5_setClosed := goodIn_r _ [45, 46, 47, 48, 49, 17, 50, 51, 19, 52, 53, 54, 55, 56, 57, 58, 59, 60, 61, 20, 21, 74, 75, 76, 77, 78, 79, 80, 81, 82, 83] (by decide +kernel) (by decide +kernel)
set_option maxRecDepth 20000 in
theorem gX8_close_X5_setClosed : GoodIn wsX8_close (wsV RX8 109 RX5 yX5_setClosed wsX5_setClosed) := goodIn_app (goodIn_of _ (by decide +kernel)) ggX8_close_X5_setClosed
set_option maxRecDepth 20000 in
theorem ggX8_close_X5_countIslands : GoodIn wsX8_close wsX5_countIslands := goodIn_r _ [65, 51, 19, 74, 75, 76, 77, 78, 79, 80, 81, 82, 83] (by decide +kernel) (by decide +kernel)
set_option maxRecDepth 20000 in
theorem gX8_close_X5_countIslands : GoodIn wsX8_close (wsV RX8 113 RX5 yX5_countIslands wsX5_countIslands) := goodIn_app (goodIn_of _ (by decide +kernel)) ggX8_close_X5_countIslands
theorem dX8_close_0 : decode cX8_close 0 = .ok (.iload_n 1, 1) := by decide +kernel
theorem dX8_close_1 : decode cX8_close 1 = .ok (.aload_n 0, 1) := by decide +kernel
theorem dX8_close_2 : decode cX8_close 2 = .ok (.getfield 10, 3) := by decide +kernel
theorem dX8_close_5 : decode cX8_close 5 = .ok (.getfield 81, 3) := by decide +kernel
theorem dX8_close_8 : decode cX8_close 8 = .ok (.invokestatic 90, 3) := by decide +kernel
theorem dX8_close_11 : decode cX8_close 11 = .ok (.aload_n 0, 1) := by decide +kernel
theorem dX8_close_12 : decode cX8_close 12 = .ok (.getfield 10, 3) := by decide +kernel
theorem dX8_close_15 : decode cX8_close 15 = .ok (.getfield 94, 3) := by decide +kernel
theorem dX8_close_18 : decode cX8_close 18 = .ok (.iload_n 1, 1) := by decide +kernel
theorem dX8_close_19 : decode cX8_close 19 = .ok (.baload, 1) := by decide +kernel
theorem dX8_close_20 : decode cX8_close 20 = .ok (.ifCond .eq 13, 3) := by decide +kernel
theorem dX8_close_23 : decode cX8_close 23 = .ok (.new 53, 3) := by decide +kernel
theorem dX8_close_26 : decode cX8_close 26 = .ok (.dup, 1) := by decide +kernel
theorem dX8_close_27 : decode cX8_close 27 = .ok (.ldc 98, 2) := by decide +kernel
theorem dX8_close_29 : decode cX8_close 29 = .ok (.invokespecial 57, 3) := by decide +kernel
theorem dX8_close_32 : decode cX8_close 32 = .ok (.athrow, 1) := by decide +kernel
theorem dX8_close_33 : decode cX8_close 33 = .ok (.aload_n 0, 1) := by decide +kernel
theorem dX8_close_34 : decode cX8_close 34 = .ok (.getfield 10, 3) := by decide +kernel
theorem dX8_close_37 : decode cX8_close 37 = .ok (.iload_n 1, 1) := by decide +kernel
theorem dX8_close_38 : decode cX8_close 38 = .ok (.invokevirtual 100, 3) := by decide +kernel
theorem dX8_close_41 : decode cX8_close 41 = .ok (.bipush 10, 2) := by decide +kernel
theorem dX8_close_43 : decode cX8_close 43 = .ok (.if_icmp .le 13, 3) := by decide +kernel
theorem dX8_close_46 : decode cX8_close 46 = .ok (.new 104, 3) := by decide +kernel
theorem dX8_close_49 : decode cX8_close 49 = .ok (.dup, 1) := by decide +kernel
theorem dX8_close_50 : decode cX8_close 50 = .ok (.ldc 106, 2) := by decide +kernel
theorem dX8_close_52 : decode cX8_close 52 = .ok (.invokespecial 108, 3) := by decide +kernel
theorem dX8_close_55 : decode cX8_close 55 = .ok (.athrow, 1) := by decide +kernel
theorem dX8_close_56 : decode cX8_close 56 = .ok (.aload_n 0, 1) := by decide +kernel
theorem dX8_close_57 : decode cX8_close 57 = .ok (.getfield 10, 3) := by decide +kernel
theorem dX8_close_60 : decode cX8_close 60 = .ok (.iload_n 1, 1) := by decide +kernel
theorem dX8_close_61 : decode cX8_close 61 = .ok (.iconst 1, 1) := by decide +kernel
theorem dX8_close_62 : decode cX8_close 62 = .ok (.invokevirtual 109, 3) := by decide +kernel
theorem dX8_close_65 : decode cX8_close 65 = .ok (.aload_n 0, 1) := by decide +kernel
theorem dX8_close_66 : decode cX8_close 66 = .ok (.getfield 10, 3) := by decide +kernel
theorem dX8_close_69 : decode cX8_close 69 = .ok (.invokevirtual 113, 3) := by decide +kernel
theorem dX8_close_72 : decode cX8_close 72 = .ok (.ireturn, 1) := by decide +kernel
set_option maxRecDepth 20000 in
theorem ggX8_open_X8_checkNumber : GoodIn wsX8_open wsX8_checkNumber := goodIn_ca (goodIn_r _ [9, 10, 11] (by decide +kernel) (by decide +kernel)) (goodIn_sub (fun _ h => List.mem_cons_of_mem _ (List.mem_append_right _ h)) (by decide +kernel))
set_option maxRecDepth 20000 in
theorem gX8_open_X8_checkNumber : GoodIn wsX8_open (va_wsS RX8 90 yX8_checkNumber wsX8_checkNumber) := goodIn_app (goodIn_of _ (by decide +kernel)) ggX8_open_X8_checkNumber
set_option maxRecDepth 20000 in
theorem ggX8_open_X5_setClosed : GoodIn wsX8_open wsX5_setClosed := goodIn_r _ [16, 17, 18, 19, 20, 15, 21, 22, 23, 24, 25, 26, 27, 28, 29, 30, 31, 32, 33, 34, 35, 48, 49, 50, 51, 52, 53, 54, 55, 56, 57] (by decide +kernel) (by decide +kernel)
set_option maxRecDepth 20000 in
theorem gX8_open_X5_setClosed : GoodIn wsX8_open (wsV RX8 109 RX5 yX5_setClosed wsX5_setClosed) := goodIn_app (goodIn_of _ (by decide +kernel)) ggX8_open_X5_setClosed
set_option maxRecDepth 20000 in
theorem ggX8_open_X5_countIslands : GoodIn wsX8_open wsX5_countIslands := goodIn_r _ [39, 22, 23, 48, 49, 50, 51, 52, 53, 54, 55, 56, 57] (by decide +kernel) (by decide +kernel)
set_option maxRecDepth 20000 in
theorem gX8_open_X5_countIslands : GoodIn wsX8_open (wsV RX8 113 RX5 yX5_countIslands wsX5_countIslands) := goodIn_app (goodIn_of _ (by decide +kernel)) ggX8_open_X5_countIslands
theorem dX8_open_0 : decode cX8_open 0 = .ok (.iload_n 1, 1) := by decide +kernel
theorem dX8_open_1 : decode cX8_open 1 = .ok (.aload_n 0, 1) := by decide +kernel
theorem dX8_open_2 : decode cX8_open 2 = .ok (.getfield 10, 3) := by decide +kernel
theorem dX8_open_5 : decode cX8_open 5 = .ok (.getfield 81, 3) := by decide +kernel
theorem dX8_open_8 : decode cX8_open 8 = .ok (.invokestatic 90, 3) := by decide +kernel
theorem dX8_open_11 : decode cX8_open 11 = .ok (.aload_n 0, 1) := by decide +kernel
theorem dX8_open_12 : decode cX8_open 12 = .ok (.getfield 10, 3) := by decide +kernel
theorem dX8_open_15 : decode cX8_open 15 = .ok (.getfield 94, 3) := by decide +kernel
theorem dX8_open_18 : decode cX8_open 18 = .ok (.iload_n 1, 1) := by decide +kernel
theorem dX8_open_19 : decode cX8_open 19 = .ok (.baload, 1) := by decide +kernel
theorem dX8_open_20 : decode cX8_open 20 = .ok (.ifCond .ne 13, 3) := by decide +kernel
theorem dX8_open_23 : decode cX8_open 23 = .ok (.new 53, 3) := by decide +kernel
theorem dX8_open_26 : decode cX8_open 26 = .ok (.dup, 1) := by decide +kernel
theorem dX8_open_27 : decode cX8_open 27 = .ok (.ldc 116, 2) := by decide +kernel
theorem dX8_open_29 : decode cX8_open 29 = .ok (.invokespecial 57, 3) := by decide +kernel
theorem dX8_open_32 : decode cX8_open 32 = .ok (.athrow, 1) := by decide +kernel
theorem dX8_open_33 : decode cX8_open 33 = .ok (.aload_n 0, 1) := by decide +kernel
theorem dX8_open_34 : decode cX8_open 34 = .ok (.getfield 10, 3) := by decide +kernel
theorem dX8_open_37 : decode cX8_open 37 = .ok (.iload_n 1, 1) := by decide +kernel
theorem dX8_open_38 : decode cX8_open 38 = .ok (.iconst 0, 1) := by decide +kernel
theorem dX8_open_39 : decode cX8_open 39 = .ok (.invokevirtual 109, 3) := by decide +kernel
theorem dX8_open_42 : decode cX8_open 42 = .ok (.aload_n 0, 1) := by decide +kernel
theorem dX8_open_43 : decode cX8_open 43 = .ok (.getfield 10, 3) := by decide +kernel
theorem dX8_open_46 : decode cX8_open 46 = .ok (.invokevirtual 113, 3) := by decide +kernel
theorem dX8_open_49 : decode cX8_open 49 = .ok (.ireturn, 1) := by decide +kernel
set_option maxRecDepth 20000 in
theorem ggX8_tie_X5_phaseOf : GoodIn wsX8_tie wsX5_phaseOf := goodIn_r _ [14, 15, 16, 17, 18, 13, 19, 20, 45, 46, 47, 48, 49, 50, 51, 52, 53, 54] (by decide +kernel) (by decide +kernel)
set_option maxRecDepth 20000 in
theorem gX8_tie_X5_phaseOf : GoodIn wsX8_tie (wsV RX8 129 RX5 yX5_phaseOf wsX5_phaseOf) := goodIn_app (goodIn_of _ (by decide +kernel)) ggX8_tie_X5_phaseOf
set_option maxRecDepth 20000 in
theorem ggX8_tie_X5_apart : GoodIn wsX8_tie wsX5_apart := goodIn_r _ [23, 24, 25, 26, 27, 28, 29, 30] (by decide +kernel) (by decide +kernel)
set_option maxRecDepth 20000 in
theorem gX8_tie_X5_apart : GoodIn wsX8_tie (va_wsS RX8 132 yX5_apart wsX5_apart) := goodIn_app (goodIn_of _ (by decide +kernel)) ggX8_tie_X5_apart
set_option maxRecDepth 20000 in
theorem ggX8_tie_X5_countSites : GoodIn wsX8_tie wsX5_countSites := goodIn_r _ [34, 35, 36, 45, 46, 47, 48, 49, 50, 51, 52, 53, 54] (by decide +kernel) (by decide +kernel)
set_option maxRecDepth 20000 in
theorem gX8_tie_X5_countSites : GoodIn wsX8_tie (wsV RX8 135 RX5 yX5_countSites wsX5_countSites) := goodIn_app (goodIn_of _ (by decide +kernel)) ggX8_tie_X5_countSites
theorem dX8_tie_0 : decode cX8_tie 0 = .ok (.aload_n 0, 1) := by decide +kernel
theorem dX8_tie_1 : decode cX8_tie 1 = .ok (.getfield 10, 3) := by decide +kernel
theorem dX8_tie_4 : decode cX8_tie 4 = .ok (.getfield 50, 3) := by decide +kernel
theorem dX8_tie_7 : decode cX8_tie 7 = .ok (.ifCond .ne 13, 3) := by decide +kernel
theorem dX8_tie_10 : decode cX8_tie 10 = .ok (.new 118, 3) := by decide +kernel
theorem dX8_tie_13 : decode cX8_tie 13 = .ok (.dup, 1) := by decide +kernel
theorem dX8_tie_14 : decode cX8_tie 14 = .ok (.ldc 120, 2) := by decide +kernel
theorem dX8_tie_16 : decode cX8_tie 16 = .ok (.invokespecial 122, 3) := by decide +kernel
theorem dX8_tie_19 : decode cX8_tie 19 = .ok (.athrow, 1) := by decide +kernel
theorem dX8_tie_20 : decode cX8_tie 20 = .ok (.aload_n 0, 1) := by decide +kernel
theorem dX8_tie_21 : decode cX8_tie 21 = .ok (.getfield 10, 3) := by decide +kernel
theorem dX8_tie_24 : decode cX8_tie 24 = .ok (.getfield 123, 3) := by decide +kernel
theorem dX8_tie_27 : decode cX8_tie 27 = .ok (.ifCond .eq 13, 3) := by decide +kernel
theorem dX8_tie_30 : decode cX8_tie 30 = .ok (.new 53, 3) := by decide +kernel
theorem dX8_tie_33 : decode cX8_tie 33 = .ok (.dup, 1) := by decide +kernel
theorem dX8_tie_34 : decode cX8_tie 34 = .ok (.ldc 127, 2) := by decide +kernel
theorem dX8_tie_36 : decode cX8_tie 36 = .ok (.invokespecial 57, 3) := by decide +kernel
theorem dX8_tie_39 : decode cX8_tie 39 = .ok (.athrow, 1) := by decide +kernel
theorem dX8_tie_40 : decode cX8_tie 40 = .ok (.aload_n 0, 1) := by decide +kernel
theorem dX8_tie_41 : decode cX8_tie 41 = .ok (.getfield 10, 3) := by decide +kernel
theorem dX8_tie_44 : decode cX8_tie 44 = .ok (.iconst 0, 1) := by decide +kernel
theorem dX8_tie_45 : decode cX8_tie 45 = .ok (.invokevirtual 129, 3) := by decide +kernel
theorem dX8_tie_48 : decode cX8_tie 48 = .ok (.iconst 0, 1) := by decide +kernel
theorem dX8_tie_49 : decode cX8_tie 49 = .ok (.invokestatic 132, 3) := by decide +kernel
theorem dX8_tie_52 : decode cX8_tie 52 = .ok (.bipush 10, 2) := by decide +kernel
theorem dX8_tie_54 : decode cX8_tie 54 = .ok (.if_icmp .le 13, 3) := by decide +kernel
theorem dX8_tie_57 : decode cX8_tie 57 = .ok (.new 104, 3) := by decide +kernel
theorem dX8_tie_60 : decode cX8_tie 60 = .ok (.dup, 1) := by decide +kernel
theorem dX8_tie_61 : decode cX8_tie 61 = .ok (.ldc 106, 2) := by decide +kernel
theorem dX8_tie_63 : decode cX8_tie 63 = .ok (.invokespecial 108, 3) := by decide +kernel
theorem dX8_tie_66 : decode cX8_tie 66 = .ok (.athrow, 1) := by decide +kernel
theorem dX8_tie_67 : decode cX8_tie 67 = .ok (.aload_n 0, 1) := by decide +kernel
theorem dX8_tie_68 : decode cX8_tie 68 = .ok (.getfield 10, 3) := by decide +kernel
theorem dX8_tie_71 : decode cX8_tie 71 = .ok (.iconst 1, 1) := by decide +kernel
theorem dX8_tie_72 : decode cX8_tie 72 = .ok (.putfield 123, 3) := by decide +kernel
theorem dX8_tie_75 : decode cX8_tie 75 = .ok (.aload_n 0, 1) := by decide +kernel
theorem dX8_tie_76 : decode cX8_tie 76 = .ok (.getfield 10, 3) := by decide +kernel
theorem dX8_tie_79 : decode cX8_tie 79 = .ok (.iconst 0, 1) := by decide +kernel
theorem dX8_tie_80 : decode cX8_tie 80 = .ok (.invokevirtual 135, 3) := by decide +kernel
theorem dX8_tie_83 : decode cX8_tie 83 = .ok (.ireturn, 1) := by decide +kernel
set_option maxRecDepth 20000 in
theorem ggX8_untie_X5_countSites : GoodIn wsX8_untie wsX5_countSites := goodIn_r _ [9, 10, 11, 20, 21, 22, 23, 24, 25, 26, 27, 28, 29] (by decide +kernel) (by decide +kernel)
set_option maxRecDepth 20000 in
theorem gX8_untie_X5_countSites : GoodIn wsX8_untie (wsV RX8 135 RX5 yX5_countSites wsX5_countSites) := goodIn_app (goodIn_of _ (by decide +kernel)) ggX8_untie_X5_countSites
theorem dX8_untie_0 : decode cX8_untie 0 = .ok (.aload_n 0, 1) := by decide +kernel
theorem dX8_untie_1 : decode cX8_untie 1 = .ok (.getfield 10, 3) := by decide +kernel
theorem dX8_untie_4 : decode cX8_untie 4 = .ok (.getfield 123, 3) := by decide +kernel
theorem dX8_untie_7 : decode cX8_untie 7 = .ok (.ifCond .ne 13, 3) := by decide +kernel
theorem dX8_untie_10 : decode cX8_untie 10 = .ok (.new 53, 3) := by decide +kernel
theorem dX8_untie_13 : decode cX8_untie 13 = .ok (.dup, 1) := by decide +kernel
theorem dX8_untie_14 : decode cX8_untie 14 = .ok (.ldc 138, 2) := by decide +kernel
theorem dX8_untie_16 : decode cX8_untie 16 = .ok (.invokespecial 57, 3) := by decide +kernel
theorem dX8_untie_19 : decode cX8_untie 19 = .ok (.athrow, 1) := by decide +kernel
theorem dX8_untie_20 : decode cX8_untie 20 = .ok (.aload_n 0, 1) := by decide +kernel
theorem dX8_untie_21 : decode cX8_untie 21 = .ok (.getfield 10, 3) := by decide +kernel
theorem dX8_untie_24 : decode cX8_untie 24 = .ok (.iconst 0, 1) := by decide +kernel
theorem dX8_untie_25 : decode cX8_untie 25 = .ok (.putfield 123, 3) := by decide +kernel
theorem dX8_untie_28 : decode cX8_untie 28 = .ok (.aload_n 0, 1) := by decide +kernel
theorem dX8_untie_29 : decode cX8_untie 29 = .ok (.getfield 10, 3) := by decide +kernel
theorem dX8_untie_32 : decode cX8_untie 32 = .ok (.iconst 0, 1) := by decide +kernel
theorem dX8_untie_33 : decode cX8_untie 33 = .ok (.invokevirtual 135, 3) := by decide +kernel
theorem dX8_untie_36 : decode cX8_untie 36 = .ok (.ireturn, 1) := by decide +kernel
set_option maxRecDepth 20000 in
theorem ggX8_islands_X5_countIslands : GoodIn wsX8_islands wsX5_countIslands := goodIn_r _ [6, 7, 8, 17, 18, 19, 20, 21, 22, 23, 24, 25, 26] (by decide +kernel) (by decide +kernel)
set_option maxRecDepth 20000 in
theorem gX8_islands_X5_countIslands : GoodIn wsX8_islands (wsV RX8 113 RX5 yX5_countIslands wsX5_countIslands) := goodIn_app (goodIn_of _ (by decide +kernel)) ggX8_islands_X5_countIslands
theorem dX8_islands_0 : decode cX8_islands 0 = .ok (.aload_n 0, 1) := by decide +kernel
theorem dX8_islands_1 : decode cX8_islands 1 = .ok (.getfield 10, 3) := by decide +kernel
theorem dX8_islands_4 : decode cX8_islands 4 = .ok (.invokevirtual 113, 3) := by decide +kernel
theorem dX8_islands_7 : decode cX8_islands 7 = .ok (.ireturn, 1) := by decide +kernel
set_option maxRecDepth 20000 in
theorem ggX8_addGenerator_X8_checkSite : GoodIn wsX8_addGenerator wsX8_checkSite := goodIn_ca (goodIn_r _ [16, 17, 18, 19, 20, 15, 21, 22, 23, 48, 49, 50, 51, 52, 53, 54, 55, 69, 70, 71, 72, 73, 74, 75, 76, 77, 78] (by decide +kernel) (by decide +kernel)) (goodIn_sub (fun _ h => List.mem_cons_of_mem _ (List.mem_append_left _ (List.mem_append_right _ h))) (by decide +kernel))
set_option maxRecDepth 20000 in
theorem gX8_addGenerator_X8_checkSite : GoodIn wsX8_addGenerator (wsV RX8 64 RX8 yX8_checkSite wsX8_checkSite) := goodIn_app (goodIn_of _ (by decide +kernel)) ggX8_addGenerator_X8_checkSite
set_option maxRecDepth 20000 in
theorem ggX8_addGenerator_X8_checkRange : GoodIn wsX8_addGenerator wsX8_checkRange := goodIn_ca (goodIn_r _ [26, 27, 28] (by decide +kernel) (by decide +kernel)) (goodIn_sub (fun _ h => List.mem_cons_of_mem _ (List.mem_append_right _ h)) (by decide +kernel))
set_option maxRecDepth 20000 in
theorem gX8_addGenerator_X8_checkRange : GoodIn wsX8_addGenerator (va_wsS RX8 68 yX8_checkRange wsX8_checkRange) := goodIn_app (goodIn_of _ (by decide +kernel)) ggX8_addGenerator_X8_checkRange
set_option maxRecDepth 20000 in
theorem ggX8_addGenerator_X1_init : GoodIn wsX8_addGenerator wsX1_init := goodIn_r _ [31, 32, 33, 34, 35, 36, 37, 38, 39, 40, 61, 62, 63, 64, 65, 66, 67, 68] (by decide +kernel) (by decide +kernel)
set_option maxRecDepth 20000 in
theorem gX8_addGenerator_X1_init : GoodIn wsX8_addGenerator (wsX1_init) := ggX8_addGenerator_X1_init
set_option maxRecDepth 20000 in
theorem ggX8_addGenerator_X0_put : GoodIn wsX8_addGenerator wsX0_put := goodIn_r _ [45, 46, 47, 56, 57, 58, 59, 60] (by decide +kernel) (by decide +kernel)
set_option maxRecDepth 20000 in
theorem gX8_addGenerator_X0_put : GoodIn wsX8_addGenerator (wsV RX8 161 RX0 yX0_put wsX0_put) := goodIn_app (goodIn_of _ (by decide +kernel)) ggX8_addGenerator_X0_put
theorem dX8_addGenerator_0 : decode cX8_addGenerator 0 = .ok (.aload_n 0, 1) := by decide +kernel
theorem dX8_addGenerator_1 : decode cX8_addGenerator 1 = .ok (.iload_n 1, 1) := by decide +kernel
theorem dX8_addGenerator_2 : decode cX8_addGenerator 2 = .ok (.invokevirtual 64, 3) := by decide +kernel
theorem dX8_addGenerator_5 : decode cX8_addGenerator 5 = .ok (.iload_n 2, 1) := by decide +kernel
theorem dX8_addGenerator_6 : decode cX8_addGenerator 6 = .ok (.iconst 0, 1) := by decide +kernel
theorem dX8_addGenerator_7 : decode cX8_addGenerator 7 = .ok (.bipush 100, 2) := by decide +kernel
theorem dX8_addGenerator_9 : decode cX8_addGenerator 9 = .ok (.invokestatic 68, 3) := by decide +kernel
theorem dX8_addGenerator_12 : decode cX8_addGenerator 12 = .ok (.iload_n 3, 1) := by decide +kernel
theorem dX8_addGenerator_13 : decode cX8_addGenerator 13 = .ok (.iconst 1, 1) := by decide +kernel
theorem dX8_addGenerator_14 : decode cX8_addGenerator 14 = .ok (.iload_n 2, 1) := by decide +kernel
theorem dX8_addGenerator_15 : decode cX8_addGenerator 15 = .ok (.invokestatic 146, 3) := by decide +kernel
theorem dX8_addGenerator_18 : decode cX8_addGenerator 18 = .ok (.sipush 200, 3) := by decide +kernel
theorem dX8_addGenerator_21 : decode cX8_addGenerator 21 = .ok (.invokestatic 68, 3) := by decide +kernel
theorem dX8_addGenerator_24 : decode cX8_addGenerator 24 = .ok (.iload 4, 2) := by decide +kernel
theorem dX8_addGenerator_26 : decode cX8_addGenerator 26 = .ok (.iconst 0, 1) := by decide +kernel
theorem dX8_addGenerator_27 : decode cX8_addGenerator 27 = .ok (.bipush 9, 2) := by decide +kernel
theorem dX8_addGenerator_29 : decode cX8_addGenerator 29 = .ok (.invokestatic 68, 3) := by decide +kernel
theorem dX8_addGenerator_32 : decode cX8_addGenerator 32 = .ok (.iload 5, 2) := by decide +kernel
theorem dX8_addGenerator_34 : decode cX8_addGenerator 34 = .ok (.iconst 0, 1) := by decide +kernel
theorem dX8_addGenerator_35 : decode cX8_addGenerator 35 = .ok (.sipush 9999, 3) := by decide +kernel
theorem dX8_addGenerator_38 : decode cX8_addGenerator 38 = .ok (.invokestatic 68, 3) := by decide +kernel
theorem dX8_addGenerator_41 : decode cX8_addGenerator 41 = .ok (.aload_n 0, 1) := by decide +kernel
theorem dX8_addGenerator_42 : decode cX8_addGenerator 42 = .ok (.getfield 21, 3) := by decide +kernel
theorem dX8_addGenerator_45 : decode cX8_addGenerator 45 = .ok (.getfield 151, 3) := by decide +kernel
theorem dX8_addGenerator_48 : decode cX8_addGenerator 48 = .ok (.bipush 6, 2) := by decide +kernel
theorem dX8_addGenerator_50 : decode cX8_addGenerator 50 = .ok (.if_icmp .lt 13, 3) := by decide +kernel
theorem dX8_addGenerator_53 : decode cX8_addGenerator 53 = .ok (.new 53, 3) := by decide +kernel
theorem dX8_addGenerator_56 : decode cX8_addGenerator 56 = .ok (.dup, 1) := by decide +kernel
theorem dX8_addGenerator_57 : decode cX8_addGenerator 57 = .ok (.ldc 154, 2) := by decide +kernel
theorem dX8_addGenerator_59 : decode cX8_addGenerator 59 = .ok (.invokespecial 57, 3) := by decide +kernel
theorem dX8_addGenerator_62 : decode cX8_addGenerator 62 = .ok (.athrow, 1) := by decide +kernel
theorem dX8_addGenerator_63 : decode cX8_addGenerator 63 = .ok (.aload_n 0, 1) := by decide +kernel
theorem dX8_addGenerator_64 : decode cX8_addGenerator 64 = .ok (.getfield 21, 3) := by decide +kernel
theorem dX8_addGenerator_67 : decode cX8_addGenerator 67 = .ok (.new 156, 3) := by decide +kernel
theorem dX8_addGenerator_70 : decode cX8_addGenerator 70 = .ok (.dup, 1) := by decide +kernel
theorem dX8_addGenerator_71 : decode cX8_addGenerator 71 = .ok (.iload_n 1, 1) := by decide +kernel
theorem dX8_addGenerator_72 : decode cX8_addGenerator 72 = .ok (.iload_n 2, 1) := by decide +kernel
theorem dX8_addGenerator_73 : decode cX8_addGenerator 73 = .ok (.iload_n 3, 1) := by decide +kernel
theorem dX8_addGenerator_74 : decode cX8_addGenerator 74 = .ok (.iload 4, 2) := by decide +kernel
theorem dX8_addGenerator_76 : decode cX8_addGenerator 76 = .ok (.iload 5, 2) := by decide +kernel
theorem dX8_addGenerator_78 : decode cX8_addGenerator 78 = .ok (.invokespecial 158, 3) := by decide +kernel
theorem dX8_addGenerator_81 : decode cX8_addGenerator 81 = .ok (.invokevirtual 161, 3) := by decide +kernel
theorem dX8_addGenerator_84 : decode cX8_addGenerator 84 = .ok (.ireturn, 1) := by decide +kernel
set_option maxRecDepth 20000 in
theorem ggX8_start_X8_generatorAt : GoodIn wsX8_start wsX8_generatorAt := goodIn_ca (goodIn_r _ [11, 12, 13, 14, 15, 16, 10, 17, 18, 19, 42, 43, 44, 45, 46, 47, 48, 49, 50, 51, 52, 53, 54] (by decide +kernel) (by decide +kernel)) (goodIn_sub (fun _ h => List.mem_cons_of_mem _ (List.mem_append_right _ h)) (by decide +kernel))
set_option maxRecDepth 20000 in
theorem gX8_start_X8_generatorAt : GoodIn wsX8_start (wsV RX8 165 RX8 yX8_generatorAt wsX8_generatorAt) := goodIn_app (goodIn_of _ (by decide +kernel)) ggX8_start_X8_generatorAt
set_option maxRecDepth 20000 in
theorem ggX8_start_X1_isShort : GoodIn wsX8_start wsX1_isShort := goodIn_r _ [24, 25, 26, 34, 35, 36, 37, 38, 39, 40, 41] (by decide +kernel) (by decide +kernel)
set_option maxRecDepth 20000 in
theorem gX8_start_X1_isShort : GoodIn wsX8_start (wsV RX8 175 RX1 yX1_isShort wsX1_isShort) := goodIn_app (goodIn_of _ (by decide +kernel)) ggX8_start_X1_isShort
set_option maxRecDepth 20000 in
theorem ggX8_start_X1_switchOn : GoodIn wsX8_start wsX1_switchOn := goodIn_r _ [30, 31, 32, 33, 34, 35, 36, 37, 38, 39, 40, 41] (by decide +kernel) (by decide +kernel)
set_option maxRecDepth 20000 in
theorem gX8_start_X1_switchOn : GoodIn wsX8_start (wsV RX8 181 RX1 yX1_switchOn wsX1_switchOn) := goodIn_app (goodIn_of _ (by decide +kernel)) ggX8_start_X1_switchOn
theorem dX8_start_0 : decode cX8_start 0 = .ok (.aload_n 0, 1) := by decide +kernel
theorem dX8_start_1 : decode cX8_start 1 = .ok (.iload_n 1, 1) := by decide +kernel
theorem dX8_start_2 : decode cX8_start 2 = .ok (.invokevirtual 165, 3) := by decide +kernel
theorem dX8_start_5 : decode cX8_start 5 = .ok (.astore_n 2, 1) := by decide +kernel
theorem dX8_start_6 : decode cX8_start 6 = .ok (.aload_n 2, 1) := by decide +kernel
theorem dX8_start_7 : decode cX8_start 7 = .ok (.getfield 169, 3) := by decide +kernel
theorem dX8_start_10 : decode cX8_start 10 = .ok (.bipush 111, 2) := by decide +kernel
theorem dX8_start_12 : decode cX8_start 12 = .ok (.if_icmp .eq 13, 3) := by decide +kernel
theorem dX8_start_15 : decode cX8_start 15 = .ok (.new 53, 3) := by decide +kernel
theorem dX8_start_18 : decode cX8_start 18 = .ok (.dup, 1) := by decide +kernel
theorem dX8_start_19 : decode cX8_start 19 = .ok (.ldc 173, 2) := by decide +kernel
theorem dX8_start_21 : decode cX8_start 21 = .ok (.invokespecial 57, 3) := by decide +kernel
theorem dX8_start_24 : decode cX8_start 24 = .ok (.athrow, 1) := by decide +kernel
theorem dX8_start_25 : decode cX8_start 25 = .ok (.aload_n 2, 1) := by decide +kernel
theorem dX8_start_26 : decode cX8_start 26 = .ok (.invokevirtual 175, 3) := by decide +kernel
theorem dX8_start_29 : decode cX8_start 29 = .ok (.ifCond .eq 13, 3) := by decide +kernel
theorem dX8_start_32 : decode cX8_start 32 = .ok (.new 118, 3) := by decide +kernel
theorem dX8_start_35 : decode cX8_start 35 = .ok (.dup, 1) := by decide +kernel
theorem dX8_start_36 : decode cX8_start 36 = .ok (.ldc 179, 2) := by decide +kernel
theorem dX8_start_38 : decode cX8_start 38 = .ok (.invokespecial 122, 3) := by decide +kernel
theorem dX8_start_41 : decode cX8_start 41 = .ok (.athrow, 1) := by decide +kernel
theorem dX8_start_42 : decode cX8_start 42 = .ok (.aload_n 2, 1) := by decide +kernel
theorem dX8_start_43 : decode cX8_start 43 = .ok (.invokevirtual 181, 3) := by decide +kernel
theorem dX8_start_46 : decode cX8_start 46 = .ok (.aload_n 2, 1) := by decide +kernel
theorem dX8_start_47 : decode cX8_start 47 = .ok (.getfield 184, 3) := by decide +kernel
theorem dX8_start_50 : decode cX8_start 50 = .ok (.ireturn, 1) := by decide +kernel
set_option maxRecDepth 20000 in
theorem ggX8_stop_X8_generatorAt : GoodIn wsX8_stop wsX8_generatorAt := goodIn_ca (goodIn_r _ [9, 10, 11, 12, 13, 14, 8, 15, 16, 17, 32, 33, 34, 35, 36, 37, 38, 39, 40, 41, 42, 43, 44] (by decide +kernel) (by decide +kernel)) (goodIn_sub (fun _ h => List.mem_cons_of_mem _ (List.mem_append_right _ h)) (by decide +kernel))
set_option maxRecDepth 20000 in
theorem gX8_stop_X8_generatorAt : GoodIn wsX8_stop (wsV RX8 165 RX8 yX8_generatorAt wsX8_generatorAt) := goodIn_app (goodIn_of _ (by decide +kernel)) ggX8_stop_X8_generatorAt
set_option maxRecDepth 20000 in
theorem ggX8_stop_X1_switchOff : GoodIn wsX8_stop wsX1_switchOff := goodIn_r _ [22, 23, 24, 25, 26, 27, 28, 29, 30, 31] (by decide +kernel) (by decide +kernel)
set_option maxRecDepth 20000 in
theorem gX8_stop_X1_switchOff : GoodIn wsX8_stop (wsV RX8 189 RX1 yX1_switchOff wsX1_switchOff) := goodIn_app (goodIn_of _ (by decide +kernel)) ggX8_stop_X1_switchOff
theorem dX8_stop_0 : decode cX8_stop 0 = .ok (.aload_n 0, 1) := by decide +kernel
theorem dX8_stop_1 : decode cX8_stop 1 = .ok (.iload_n 1, 1) := by decide +kernel
theorem dX8_stop_2 : decode cX8_stop 2 = .ok (.invokevirtual 165, 3) := by decide +kernel
theorem dX8_stop_5 : decode cX8_stop 5 = .ok (.astore_n 2, 1) := by decide +kernel
theorem dX8_stop_6 : decode cX8_stop 6 = .ok (.aload_n 2, 1) := by decide +kernel
theorem dX8_stop_7 : decode cX8_stop 7 = .ok (.getfield 169, 3) := by decide +kernel
theorem dX8_stop_10 : decode cX8_stop 10 = .ok (.bipush 111, 2) := by decide +kernel
theorem dX8_stop_12 : decode cX8_stop 12 = .ok (.if_icmp .ne 13, 3) := by decide +kernel
theorem dX8_stop_15 : decode cX8_stop 15 = .ok (.new 53, 3) := by decide +kernel
theorem dX8_stop_18 : decode cX8_stop 18 = .ok (.dup, 1) := by decide +kernel
theorem dX8_stop_19 : decode cX8_stop 19 = .ok (.ldc 187, 2) := by decide +kernel
theorem dX8_stop_21 : decode cX8_stop 21 = .ok (.invokespecial 57, 3) := by decide +kernel
theorem dX8_stop_24 : decode cX8_stop 24 = .ok (.athrow, 1) := by decide +kernel
theorem dX8_stop_25 : decode cX8_stop 25 = .ok (.aload_n 2, 1) := by decide +kernel
theorem dX8_stop_26 : decode cX8_stop 26 = .ok (.invokevirtual 189, 3) := by decide +kernel
theorem dX8_stop_29 : decode cX8_stop 29 = .ok (.aload_n 2, 1) := by decide +kernel
theorem dX8_stop_30 : decode cX8_stop 30 = .ok (.getfield 192, 3) := by decide +kernel
theorem dX8_stop_33 : decode cX8_stop 33 = .ok (.ireturn, 1) := by decide +kernel
set_option maxRecDepth 20000 in
theorem ggX8_startNext_X8_checkSite : GoodIn wsX8_startNext wsX8_checkSite := goodIn_ca (goodIn_r _ [11, 4, 12, 13, 14, 10, 15, 16, 17, 48, 49, 50, 51, 52, 53, 54, 55, 56, 57, 58, 59, 60, 61, 62, 63, 64, 65] (by decide +kernel) (by decide +kernel)) (goodIn_sub (fun _ h => List.mem_cons_of_mem _ (List.mem_append_right _ h)) (by decide +kernel))
set_option maxRecDepth 20000 in
theorem gX8_startNext_X8_checkSite : GoodIn wsX8_startNext (wsV RX8 64 RX8 yX8_checkSite wsX8_checkSite) := goodIn_app (goodIn_of _ (by decide +kernel)) ggX8_startNext_X8_checkSite
set_option maxRecDepth 20000 in
theorem ggX8_startNext_X0_nextToStart : GoodIn wsX8_startNext wsX0_nextToStart := goodIn_r _ [22, 23, 24, 25, 26, 27, 28, 29, 30, 31, 32, 33, 34, 35, 36, 37, 38, 39, 40, 41, 66, 67, 68, 69, 70, 71, 72, 73, 74, 75, 76, 77, 78, 56, 57, 58, 59, 60, 61, 62, 63, 64, 65] (by decide +kernel) (by decide +kernel)
set_option maxRecDepth 20000 in
theorem gX8_startNext_X0_nextToStart : GoodIn wsX8_startNext (wsV RX8 195 RX0 yX0_nextToStart wsX0_nextToStart) := goodIn_app (goodIn_of _ (by decide +kernel)) ggX8_startNext_X0_nextToStart
set_option maxRecDepth 20000 in
theorem ggX8_startNext_X1_switchOn : GoodIn wsX8_startNext wsX1_switchOn := goodIn_r _ [45, 40, 46, 47, 71, 72, 73, 74, 75, 76, 77, 78] (by decide +kernel) (by decide +kernel)
set_option maxRecDepth 20000 in
theorem gX8_startNext_X1_switchOn : GoodIn wsX8_startNext (wsV RX8 181 RX1 yX1_switchOn wsX1_switchOn) := goodIn_app (goodIn_of _ (by decide +kernel)) ggX8_startNext_X1_switchOn
theorem dX8_startNext_0 : decode cX8_startNext 0 = .ok (.aload_n 0, 1) := by decide +kernel
theorem dX8_startNext_1 : decode cX8_startNext 1 = .ok (.iload_n 1, 1) := by decide +kernel
theorem dX8_startNext_2 : decode cX8_startNext 2 = .ok (.invokevirtual 64, 3) := by decide +kernel
theorem dX8_startNext_5 : decode cX8_startNext 5 = .ok (.aload_n 0, 1) := by decide +kernel
theorem dX8_startNext_6 : decode cX8_startNext 6 = .ok (.getfield 21, 3) := by decide +kernel
theorem dX8_startNext_9 : decode cX8_startNext 9 = .ok (.aload_n 0, 1) := by decide +kernel
theorem dX8_startNext_10 : decode cX8_startNext 10 = .ok (.getfield 10, 3) := by decide +kernel
theorem dX8_startNext_13 : decode cX8_startNext 13 = .ok (.getfield 140, 3) := by decide +kernel
theorem dX8_startNext_16 : decode cX8_startNext 16 = .ok (.iload_n 1, 1) := by decide +kernel
theorem dX8_startNext_17 : decode cX8_startNext 17 = .ok (.iaload, 1) := by decide +kernel
theorem dX8_startNext_18 : decode cX8_startNext 18 = .ok (.invokevirtual 195, 3) := by decide +kernel
theorem dX8_startNext_21 : decode cX8_startNext 21 = .ok (.istore_n 2, 1) := by decide +kernel
theorem dX8_startNext_22 : decode cX8_startNext 22 = .ok (.iload_n 2, 1) := by decide +kernel
theorem dX8_startNext_23 : decode cX8_startNext 23 = .ok (.iconst (-1), 1) := by decide +kernel
theorem dX8_startNext_24 : decode cX8_startNext 24 = .ok (.if_icmp .ne 13, 3) := by decide +kernel
theorem dX8_startNext_27 : decode cX8_startNext 27 = .ok (.new 118, 3) := by decide +kernel
theorem dX8_startNext_30 : decode cX8_startNext 30 = .ok (.dup, 1) := by decide +kernel
theorem dX8_startNext_31 : decode cX8_startNext 31 = .ok (.ldc 198, 2) := by decide +kernel
theorem dX8_startNext_33 : decode cX8_startNext 33 = .ok (.invokespecial 122, 3) := by decide +kernel
theorem dX8_startNext_36 : decode cX8_startNext 36 = .ok (.athrow, 1) := by decide +kernel
theorem dX8_startNext_37 : decode cX8_startNext 37 = .ok (.aload_n 0, 1) := by decide +kernel
theorem dX8_startNext_38 : decode cX8_startNext 38 = .ok (.getfield 21, 3) := by decide +kernel
theorem dX8_startNext_41 : decode cX8_startNext 41 = .ok (.getfield 200, 3) := by decide +kernel
theorem dX8_startNext_44 : decode cX8_startNext 44 = .ok (.iload_n 2, 1) := by decide +kernel
theorem dX8_startNext_45 : decode cX8_startNext 45 = .ok (.aaload, 1) := by decide +kernel
theorem dX8_startNext_46 : decode cX8_startNext 46 = .ok (.invokevirtual 181, 3) := by decide +kernel
theorem dX8_startNext_49 : decode cX8_startNext 49 = .ok (.iload_n 2, 1) := by decide +kernel
theorem dX8_startNext_50 : decode cX8_startNext 50 = .ok (.ireturn, 1) := by decide +kernel
set_option maxRecDepth 20000 in
theorem ggX8_refuel_X8_generatorAt : GoodIn wsX8_refuel wsX8_generatorAt := goodIn_ca (goodIn_r _ [9, 10, 11, 12, 13, 14, 8, 15, 16, 17, 31, 32, 33, 34, 35, 36, 37, 38, 39, 40, 41, 42, 43] (by decide +kernel) (by decide +kernel)) (goodIn_sub (fun _ h => List.mem_cons_of_mem _ (List.mem_append_left _ (List.mem_append_right _ h))) (by decide +kernel))
set_option maxRecDepth 20000 in
theorem gX8_refuel_X8_generatorAt : GoodIn wsX8_refuel (wsV RX8 165 RX8 yX8_generatorAt wsX8_generatorAt) := goodIn_app (goodIn_of _ (by decide +kernel)) ggX8_refuel_X8_generatorAt
set_option maxRecDepth 20000 in
theorem ggX8_refuel_X8_checkRange : GoodIn wsX8_refuel wsX8_checkRange := goodIn_ca (goodIn_r _ [20, 21, 22] (by decide +kernel) (by decide +kernel)) (goodIn_sub (fun _ h => List.mem_cons_of_mem _ (List.mem_append_right _ h)) (by decide +kernel))
set_option maxRecDepth 20000 in
theorem gX8_refuel_X8_checkRange : GoodIn wsX8_refuel (va_wsS RX8 68 yX8_checkRange wsX8_checkRange) := goodIn_app (goodIn_of _ (by decide +kernel)) ggX8_refuel_X8_checkRange
theorem dX8_refuel_0 : decode cX8_refuel 0 = .ok (.aload_n 0, 1) := by decide +kernel
theorem dX8_refuel_1 : decode cX8_refuel 1 = .ok (.iload_n 1, 1) := by decide +kernel
theorem dX8_refuel_2 : decode cX8_refuel 2 = .ok (.invokevirtual 165, 3) := by decide +kernel
theorem dX8_refuel_5 : decode cX8_refuel 5 = .ok (.astore_n 3, 1) := by decide +kernel
theorem dX8_refuel_6 : decode cX8_refuel 6 = .ok (.iload_n 2, 1) := by decide +kernel
theorem dX8_refuel_7 : decode cX8_refuel 7 = .ok (.iconst 1, 1) := by decide +kernel
theorem dX8_refuel_8 : decode cX8_refuel 8 = .ok (.sipush 9999, 3) := by decide +kernel
theorem dX8_refuel_11 : decode cX8_refuel 11 = .ok (.invokestatic 68, 3) := by decide +kernel
theorem dX8_refuel_14 : decode cX8_refuel 14 = .ok (.aload_n 3, 1) := by decide +kernel
theorem dX8_refuel_15 : decode cX8_refuel 15 = .ok (.getfield 192, 3) := by decide +kernel
theorem dX8_refuel_18 : decode cX8_refuel 18 = .ok (.iload_n 2, 1) := by decide +kernel
theorem dX8_refuel_19 : decode cX8_refuel 19 = .ok (.iadd, 1) := by decide +kernel
theorem dX8_refuel_20 : decode cX8_refuel 20 = .ok (.ldc 204, 2) := by decide +kernel
theorem dX8_refuel_22 : decode cX8_refuel 22 = .ok (.if_icmp .le 13, 3) := by decide +kernel
theorem dX8_refuel_25 : decode cX8_refuel 25 = .ok (.new 53, 3) := by decide +kernel
theorem dX8_refuel_28 : decode cX8_refuel 28 = .ok (.dup, 1) := by decide +kernel
theorem dX8_refuel_29 : decode cX8_refuel 29 = .ok (.ldc 205, 2) := by decide +kernel
theorem dX8_refuel_31 : decode cX8_refuel 31 = .ok (.invokespecial 57, 3) := by decide +kernel
theorem dX8_refuel_34 : decode cX8_refuel 34 = .ok (.athrow, 1) := by decide +kernel
theorem dX8_refuel_35 : decode cX8_refuel 35 = .ok (.aload_n 3, 1) := by decide +kernel
theorem dX8_refuel_36 : decode cX8_refuel 36 = .ok (.dup, 1) := by decide +kernel
theorem dX8_refuel_37 : decode cX8_refuel 37 = .ok (.getfield 192, 3) := by decide +kernel
theorem dX8_refuel_40 : decode cX8_refuel 40 = .ok (.iload_n 2, 1) := by decide +kernel
theorem dX8_refuel_41 : decode cX8_refuel 41 = .ok (.iadd, 1) := by decide +kernel
theorem dX8_refuel_42 : decode cX8_refuel 42 = .ok (.putfield 192, 3) := by decide +kernel
theorem dX8_refuel_45 : decode cX8_refuel 45 = .ok (.aload_n 3, 1) := by decide +kernel
theorem dX8_refuel_46 : decode cX8_refuel 46 = .ok (.getfield 192, 3) := by decide +kernel
theorem dX8_refuel_49 : decode cX8_refuel 49 = .ok (.ireturn, 1) := by decide +kernel
set_option maxRecDepth 20000 in
theorem ggX8_state_X8_generatorAt : GoodIn wsX8_state wsX8_generatorAt := goodIn_ca (goodIn_r _ [6, 7, 8, 9, 10, 11, 5, 12, 13, 14, 23, 24, 25, 26, 27, 28, 29, 30, 31, 32, 33, 34, 35] (by decide +kernel) (by decide +kernel)) (goodIn_sub (fun _ h => List.mem_cons_of_mem _ (List.mem_append_right _ h)) (by decide +kernel))
set_option maxRecDepth 20000 in
theorem gX8_state_X8_generatorAt : GoodIn wsX8_state (wsV RX8 165 RX8 yX8_generatorAt wsX8_generatorAt) := goodIn_app (goodIn_of _ (by decide +kernel)) ggX8_state_X8_generatorAt
theorem dX8_state_0 : decode cX8_state 0 = .ok (.aload_n 0, 1) := by decide +kernel
theorem dX8_state_1 : decode cX8_state 1 = .ok (.iload_n 1, 1) := by decide +kernel
theorem dX8_state_2 : decode cX8_state 2 = .ok (.invokevirtual 165, 3) := by decide +kernel
theorem dX8_state_5 : decode cX8_state 5 = .ok (.getfield 169, 3) := by decide +kernel
theorem dX8_state_8 : decode cX8_state 8 = .ok (.ireturn, 1) := by decide +kernel
set_option maxRecDepth 20000 in
theorem ggX8_fuel_X8_generatorAt : GoodIn wsX8_fuel wsX8_generatorAt := goodIn_ca (goodIn_r _ [6, 7, 8, 9, 10, 11, 5, 12, 13, 14, 23, 24, 25, 26, 27, 28, 29, 30, 31, 32, 33, 34, 35] (by decide +kernel) (by decide +kernel)) (goodIn_sub (fun _ h => List.mem_cons_of_mem _ (List.mem_append_right _ h)) (by decide +kernel))
set_option maxRecDepth 20000 in
theorem gX8_fuel_X8_generatorAt : GoodIn wsX8_fuel (wsV RX8 165 RX8 yX8_generatorAt wsX8_generatorAt) := goodIn_app (goodIn_of _ (by decide +kernel)) ggX8_fuel_X8_generatorAt
theorem dX8_fuel_0 : decode cX8_fuel 0 = .ok (.aload_n 0, 1) := by decide +kernel
theorem dX8_fuel_1 : decode cX8_fuel 1 = .ok (.iload_n 1, 1) := by decide +kernel
theorem dX8_fuel_2 : decode cX8_fuel 2 = .ok (.invokevirtual 165, 3) := by decide +kernel
theorem dX8_fuel_5 : decode cX8_fuel 5 = .ok (.getfield 192, 3) := by decide +kernel
theorem dX8_fuel_8 : decode cX8_fuel 8 = .ok (.ireturn, 1) := by decide +kernel
set_option maxRecDepth 20000 in
theorem ggX8_toGo_X8_generatorAt : GoodIn wsX8_toGo wsX8_generatorAt := goodIn_ca (goodIn_r _ [9, 10, 11, 12, 13, 14, 8, 15, 16, 17, 26, 27, 28, 29, 30, 31, 32, 33, 34, 35, 36, 37, 38] (by decide +kernel) (by decide +kernel)) (goodIn_sub (fun _ h => List.mem_cons_of_mem _ (List.mem_append_right _ h)) (by decide +kernel))
set_option maxRecDepth 20000 in
theorem gX8_toGo_X8_generatorAt : GoodIn wsX8_toGo (wsV RX8 165 RX8 yX8_generatorAt wsX8_generatorAt) := goodIn_app (goodIn_of _ (by decide +kernel)) ggX8_toGo_X8_generatorAt
theorem dX8_toGo_0 : decode cX8_toGo 0 = .ok (.aload_n 0, 1) := by decide +kernel
theorem dX8_toGo_1 : decode cX8_toGo 1 = .ok (.iload_n 1, 1) := by decide +kernel
theorem dX8_toGo_2 : decode cX8_toGo 2 = .ok (.invokevirtual 165, 3) := by decide +kernel
theorem dX8_toGo_5 : decode cX8_toGo 5 = .ok (.astore_n 2, 1) := by decide +kernel
theorem dX8_toGo_6 : decode cX8_toGo 6 = .ok (.aload_n 2, 1) := by decide +kernel
theorem dX8_toGo_7 : decode cX8_toGo 7 = .ok (.getfield 169, 3) := by decide +kernel
theorem dX8_toGo_10 : decode cX8_toGo 10 = .ok (.bipush 119, 2) := by decide +kernel
theorem dX8_toGo_12 : decode cX8_toGo 12 = .ok (.if_icmp .eq 13, 3) := by decide +kernel
theorem dX8_toGo_15 : decode cX8_toGo 15 = .ok (.new 118, 3) := by decide +kernel
theorem dX8_toGo_18 : decode cX8_toGo 18 = .ok (.dup, 1) := by decide +kernel
theorem dX8_toGo_19 : decode cX8_toGo 19 = .ok (.ldc 207, 2) := by decide +kernel
theorem dX8_toGo_21 : decode cX8_toGo 21 = .ok (.invokespecial 122, 3) := by decide +kernel
theorem dX8_toGo_24 : decode cX8_toGo 24 = .ok (.athrow, 1) := by decide +kernel
theorem dX8_toGo_25 : decode cX8_toGo 25 = .ok (.aload_n 2, 1) := by decide +kernel
theorem dX8_toGo_26 : decode cX8_toGo 26 = .ok (.getfield 184, 3) := by decide +kernel
theorem dX8_toGo_29 : decode cX8_toGo 29 = .ok (.ireturn, 1) := by decide +kernel
set_option maxRecDepth 20000 in
theorem ggX8_addStore_X8_checkSite : GoodIn wsX8_addStore wsX8_checkSite := goodIn_ca (goodIn_r _ [12, 13, 14, 15, 16, 11, 17, 18, 19, 41, 42, 43, 44, 45, 46, 47, 48, 57, 58, 59, 60, 61, 62, 63, 64, 65, 66] (by decide +kernel) (by decide +kernel)) (goodIn_sub (fun _ h => List.mem_cons_of_mem _ (List.mem_append_left _ (List.mem_append_right _ h))) (by decide +kernel))
set_option maxRecDepth 20000 in
theorem gX8_addStore_X8_checkSite : GoodIn wsX8_addStore (wsV RX8 64 RX8 yX8_checkSite wsX8_checkSite) := goodIn_app (goodIn_of _ (by decide +kernel)) ggX8_addStore_X8_checkSite
set_option maxRecDepth 20000 in
theorem ggX8_addStore_X8_checkRange : GoodIn wsX8_addStore wsX8_checkRange := goodIn_ca (goodIn_r _ [22, 23, 24] (by decide +kernel) (by decide +kernel)) (goodIn_sub (fun _ h => List.mem_cons_of_mem _ (List.mem_append_right _ h)) (by decide +kernel))
set_option maxRecDepth 20000 in
theorem gX8_addStore_X8_checkRange : GoodIn wsX8_addStore (va_wsS RX8 68 yX8_checkRange wsX8_checkRange) := goodIn_app (goodIn_of _ (by decide +kernel)) ggX8_addStore_X8_checkRange
set_option maxRecDepth 20000 in
theorem ggX8_addStore_X7_init : GoodIn wsX8_addStore wsX7_init := goodIn_r _ [27, 28, 29, 30, 31, 32, 33, 52, 53, 54, 55, 56] (by decide +kernel) (by decide +kernel)
set_option maxRecDepth 20000 in
theorem gX8_addStore_X7_init : GoodIn wsX8_addStore (wsX7_init) := ggX8_addStore_X7_init
set_option maxRecDepth 20000 in
theorem ggX8_addStore_X6_put : GoodIn wsX8_addStore wsX6_put := goodIn_r _ [38, 39, 40, 49, 50, 51] (by decide +kernel) (by decide +kernel)
set_option maxRecDepth 20000 in
theorem gX8_addStore_X6_put : GoodIn wsX8_addStore (wsV RX8 216 RX6 yX6_put wsX6_put) := goodIn_app (goodIn_of _ (by decide +kernel)) ggX8_addStore_X6_put
theorem dX8_addStore_0 : decode cX8_addStore 0 = .ok (.aload_n 0, 1) := by decide +kernel
theorem dX8_addStore_1 : decode cX8_addStore 1 = .ok (.iload_n 1, 1) := by decide +kernel
theorem dX8_addStore_2 : decode cX8_addStore 2 = .ok (.invokevirtual 64, 3) := by decide +kernel
theorem dX8_addStore_5 : decode cX8_addStore 5 = .ok (.iload_n 2, 1) := by decide +kernel
theorem dX8_addStore_6 : decode cX8_addStore 6 = .ok (.iconst 1, 1) := by decide +kernel
theorem dX8_addStore_7 : decode cX8_addStore 7 = .ok (.sipush 999, 3) := by decide +kernel
theorem dX8_addStore_10 : decode cX8_addStore 10 = .ok (.invokestatic 68, 3) := by decide +kernel
theorem dX8_addStore_13 : decode cX8_addStore 13 = .ok (.iload_n 3, 1) := by decide +kernel
theorem dX8_addStore_14 : decode cX8_addStore 14 = .ok (.iconst 1, 1) := by decide +kernel
theorem dX8_addStore_15 : decode cX8_addStore 15 = .ok (.bipush 99, 2) := by decide +kernel
theorem dX8_addStore_17 : decode cX8_addStore 17 = .ok (.invokestatic 68, 3) := by decide +kernel
theorem dX8_addStore_20 : decode cX8_addStore 20 = .ok (.aload_n 0, 1) := by decide +kernel
theorem dX8_addStore_21 : decode cX8_addStore 21 = .ok (.getfield 28, 3) := by decide +kernel
theorem dX8_addStore_24 : decode cX8_addStore 24 = .ok (.getfield 209, 3) := by decide +kernel
theorem dX8_addStore_27 : decode cX8_addStore 27 = .ok (.iconst 4, 1) := by decide +kernel
theorem dX8_addStore_28 : decode cX8_addStore 28 = .ok (.if_icmp .lt 13, 3) := by decide +kernel
theorem dX8_addStore_31 : decode cX8_addStore 31 = .ok (.new 53, 3) := by decide +kernel
theorem dX8_addStore_34 : decode cX8_addStore 34 = .ok (.dup, 1) := by decide +kernel
theorem dX8_addStore_35 : decode cX8_addStore 35 = .ok (.ldc 210, 2) := by decide +kernel
theorem dX8_addStore_37 : decode cX8_addStore 37 = .ok (.invokespecial 57, 3) := by decide +kernel
theorem dX8_addStore_40 : decode cX8_addStore 40 = .ok (.athrow, 1) := by decide +kernel
theorem dX8_addStore_41 : decode cX8_addStore 41 = .ok (.aload_n 0, 1) := by decide +kernel
theorem dX8_addStore_42 : decode cX8_addStore 42 = .ok (.getfield 28, 3) := by decide +kernel
theorem dX8_addStore_45 : decode cX8_addStore 45 = .ok (.new 212, 3) := by decide +kernel
theorem dX8_addStore_48 : decode cX8_addStore 48 = .ok (.dup, 1) := by decide +kernel
theorem dX8_addStore_49 : decode cX8_addStore 49 = .ok (.iload_n 1, 1) := by decide +kernel
theorem dX8_addStore_50 : decode cX8_addStore 50 = .ok (.iload_n 2, 1) := by decide +kernel
theorem dX8_addStore_51 : decode cX8_addStore 51 = .ok (.iload_n 3, 1) := by decide +kernel
theorem dX8_addStore_52 : decode cX8_addStore 52 = .ok (.invokespecial 214, 3) := by decide +kernel
theorem dX8_addStore_55 : decode cX8_addStore 55 = .ok (.invokevirtual 216, 3) := by decide +kernel
theorem dX8_addStore_58 : decode cX8_addStore 58 = .ok (.ireturn, 1) := by decide +kernel
set_option maxRecDepth 20000 in
theorem ggX8_charge_X8_storeAt : GoodIn wsX8_charge wsX8_storeAt := goodIn_ca (goodIn_r _ [6, 7, 8, 9, 10, 11, 5, 12, 13, 14, 20, 21, 22, 23, 24, 25, 26, 27, 28, 29, 30] (by decide +kernel) (by decide +kernel)) (goodIn_sub (fun _ h => List.mem_cons_of_mem _ (List.mem_append_right _ h)) (by decide +kernel))
set_option maxRecDepth 20000 in
theorem gX8_charge_X8_storeAt : GoodIn wsX8_charge (wsV RX8 219 RX8 yX8_storeAt wsX8_storeAt) := goodIn_app (goodIn_of _ (by decide +kernel)) ggX8_charge_X8_storeAt
theorem dX8_charge_0 : decode cX8_charge 0 = .ok (.aload_n 0, 1) := by decide +kernel
theorem dX8_charge_1 : decode cX8_charge 1 = .ok (.iload_n 1, 1) := by decide +kernel
theorem dX8_charge_2 : decode cX8_charge 2 = .ok (.invokevirtual 219, 3) := by decide +kernel
theorem dX8_charge_5 : decode cX8_charge 5 = .ok (.getfield 223, 3) := by decide +kernel
theorem dX8_charge_8 : decode cX8_charge 8 = .ok (.ireturn, 1) := by decide +kernel
set_option maxRecDepth 20000 in
theorem ggX8_addLoad_X8_checkSite : GoodIn wsX8_addLoad wsX8_checkSite := goodIn_ca (goodIn_r _ [9, 10, 11, 12, 13, 8, 14, 15, 16, 43, 44, 45, 46, 47, 48, 49, 50, 54, 55, 56, 57, 58, 59, 60, 61, 62, 63] (by decide +kernel) (by decide +kernel)) (goodIn_sub (fun _ h => List.mem_cons_of_mem _ (List.mem_append_left _ (List.mem_append_right _ h))) (by decide +kernel))
set_option maxRecDepth 20000 in
theorem gX8_addLoad_X8_checkSite : GoodIn wsX8_addLoad (wsV RX8 64 RX8 yX8_checkSite wsX8_checkSite) := goodIn_app (goodIn_of _ (by decide +kernel)) ggX8_addLoad_X8_checkSite
set_option maxRecDepth 20000 in
theorem ggX8_addLoad_X8_checkRange : GoodIn wsX8_addLoad wsX8_checkRange := goodIn_ca (goodIn_r _ [19, 20, 21] (by decide +kernel) (by decide +kernel)) (goodIn_sub (fun _ h => List.mem_cons_of_mem _ (List.mem_append_right _ h)) (by decide +kernel))
set_option maxRecDepth 20000 in
theorem gX8_addLoad_X8_checkRange : GoodIn wsX8_addLoad (va_wsS RX8 68 yX8_checkRange wsX8_checkRange) := goodIn_app (goodIn_of _ (by decide +kernel)) ggX8_addLoad_X8_checkRange
set_option maxRecDepth 20000 in
theorem ggX8_addLoad_X4_put : GoodIn wsX8_addLoad wsX4_put := goodIn_r _ [26, 27, 28, 29, 30, 31, 32, 33, 34, 35, 36, 37, 38, 39, 40, 41, 42, 51, 52, 53, 64, 65, 66, 67, 68, 69] (by decide +kernel) (by decide +kernel)
set_option maxRecDepth 20000 in
theorem gX8_addLoad_X4_put : GoodIn wsX8_addLoad (wsV RX8 229 RX4 yX4_put wsX4_put) := goodIn_app (goodIn_of _ (by decide +kernel)) ggX8_addLoad_X4_put
theorem dX8_addLoad_0 : decode cX8_addLoad 0 = .ok (.aload_n 0, 1) := by decide +kernel
theorem dX8_addLoad_1 : decode cX8_addLoad 1 = .ok (.iload_n 1, 1) := by decide +kernel
theorem dX8_addLoad_2 : decode cX8_addLoad 2 = .ok (.invokevirtual 64, 3) := by decide +kernel
theorem dX8_addLoad_5 : decode cX8_addLoad 5 = .ok (.iload_n 2, 1) := by decide +kernel
theorem dX8_addLoad_6 : decode cX8_addLoad 6 = .ok (.iconst 1, 1) := by decide +kernel
theorem dX8_addLoad_7 : decode cX8_addLoad 7 = .ok (.sipush 200, 3) := by decide +kernel
theorem dX8_addLoad_10 : decode cX8_addLoad 10 = .ok (.invokestatic 68, 3) := by decide +kernel
theorem dX8_addLoad_13 : decode cX8_addLoad 13 = .ok (.iload_n 3, 1) := by decide +kernel
theorem dX8_addLoad_14 : decode cX8_addLoad 14 = .ok (.iconst 1, 1) := by decide +kernel
theorem dX8_addLoad_15 : decode cX8_addLoad 15 = .ok (.bipush 9, 2) := by decide +kernel
theorem dX8_addLoad_17 : decode cX8_addLoad 17 = .ok (.invokestatic 68, 3) := by decide +kernel
theorem dX8_addLoad_20 : decode cX8_addLoad 20 = .ok (.aload_n 0, 1) := by decide +kernel
theorem dX8_addLoad_21 : decode cX8_addLoad 21 = .ok (.getfield 35, 3) := by decide +kernel
theorem dX8_addLoad_24 : decode cX8_addLoad 24 = .ok (.getfield 226, 3) := by decide +kernel
theorem dX8_addLoad_27 : decode cX8_addLoad 27 = .ok (.bipush 10, 2) := by decide +kernel
theorem dX8_addLoad_29 : decode cX8_addLoad 29 = .ok (.if_icmp .lt 13, 3) := by decide +kernel
theorem dX8_addLoad_32 : decode cX8_addLoad 32 = .ok (.new 53, 3) := by decide +kernel
theorem dX8_addLoad_35 : decode cX8_addLoad 35 = .ok (.dup, 1) := by decide +kernel
theorem dX8_addLoad_36 : decode cX8_addLoad 36 = .ok (.ldc 227, 2) := by decide +kernel
theorem dX8_addLoad_38 : decode cX8_addLoad 38 = .ok (.invokespecial 57, 3) := by decide +kernel
theorem dX8_addLoad_41 : decode cX8_addLoad 41 = .ok (.athrow, 1) := by decide +kernel
theorem dX8_addLoad_42 : decode cX8_addLoad 42 = .ok (.aload_n 0, 1) := by decide +kernel
theorem dX8_addLoad_43 : decode cX8_addLoad 43 = .ok (.getfield 35, 3) := by decide +kernel
theorem dX8_addLoad_46 : decode cX8_addLoad 46 = .ok (.iload_n 1, 1) := by decide +kernel
theorem dX8_addLoad_47 : decode cX8_addLoad 47 = .ok (.iload_n 2, 1) := by decide +kernel
theorem dX8_addLoad_48 : decode cX8_addLoad 48 = .ok (.iload_n 3, 1) := by decide +kernel
theorem dX8_addLoad_49 : decode cX8_addLoad 49 = .ok (.invokevirtual 229, 3) := by decide +kernel
theorem dX8_addLoad_52 : decode cX8_addLoad 52 = .ok (.ireturn, 1) := by decide +kernel
set_option maxRecDepth 20000 in
theorem ggX8_setRank_X8_loadAt : GoodIn wsX8_setRank wsX8_loadAt := goodIn_ca (goodIn_r _ [6, 7, 8, 9, 10, 11, 5, 12, 13, 14, 26, 27, 28, 29, 30, 31, 32, 33, 34, 35, 36] (by decide +kernel) (by decide +kernel)) (goodIn_sub (fun _ h => List.mem_cons_of_mem _ (List.mem_append_left _ (List.mem_append_right _ h))) (by decide +kernel))
set_option maxRecDepth 20000 in
theorem gX8_setRank_X8_loadAt : GoodIn wsX8_setRank (wsV RX8 232 RX8 yX8_loadAt wsX8_loadAt) := goodIn_app (goodIn_of _ (by decide +kernel)) ggX8_setRank_X8_loadAt
set_option maxRecDepth 20000 in
theorem ggX8_setRank_X8_checkRange : GoodIn wsX8_setRank wsX8_checkRange := goodIn_ca (goodIn_r _ [17, 18, 19] (by decide +kernel) (by decide +kernel)) (goodIn_sub (fun _ h => List.mem_cons_of_mem _ (List.mem_append_right _ h)) (by decide +kernel))
set_option maxRecDepth 20000 in
theorem gX8_setRank_X8_checkRange : GoodIn wsX8_setRank (va_wsS RX8 68 yX8_checkRange wsX8_checkRange) := goodIn_app (goodIn_of _ (by decide +kernel)) ggX8_setRank_X8_checkRange
theorem dX8_setRank_0 : decode cX8_setRank 0 = .ok (.aload_n 0, 1) := by decide +kernel
theorem dX8_setRank_1 : decode cX8_setRank 1 = .ok (.iload_n 1, 1) := by decide +kernel
theorem dX8_setRank_2 : decode cX8_setRank 2 = .ok (.invokevirtual 232, 3) := by decide +kernel
theorem dX8_setRank_5 : decode cX8_setRank 5 = .ok (.astore_n 3, 1) := by decide +kernel
theorem dX8_setRank_6 : decode cX8_setRank 6 = .ok (.iload_n 2, 1) := by decide +kernel
theorem dX8_setRank_7 : decode cX8_setRank 7 = .ok (.iconst 1, 1) := by decide +kernel
theorem dX8_setRank_8 : decode cX8_setRank 8 = .ok (.bipush 9, 2) := by decide +kernel
theorem dX8_setRank_10 : decode cX8_setRank 10 = .ok (.invokestatic 68, 3) := by decide +kernel
theorem dX8_setRank_13 : decode cX8_setRank 13 = .ok (.aload_n 3, 1) := by decide +kernel
theorem dX8_setRank_14 : decode cX8_setRank 14 = .ok (.getfield 236, 3) := by decide +kernel
theorem dX8_setRank_17 : decode cX8_setRank 17 = .ok (.istore 4, 2) := by decide +kernel
theorem dX8_setRank_19 : decode cX8_setRank 19 = .ok (.aload_n 3, 1) := by decide +kernel
theorem dX8_setRank_20 : decode cX8_setRank 20 = .ok (.iload_n 2, 1) := by decide +kernel
theorem dX8_setRank_21 : decode cX8_setRank 21 = .ok (.putfield 236, 3) := by decide +kernel
theorem dX8_setRank_24 : decode cX8_setRank 24 = .ok (.iload 4, 2) := by decide +kernel
theorem dX8_setRank_26 : decode cX8_setRank 26 = .ok (.ireturn, 1) := by decide +kernel
set_option maxRecDepth 20000 in
theorem ggX8_isLit_X8_loadAt : GoodIn wsX8_isLit wsX8_loadAt := goodIn_ca (goodIn_r _ [6, 7, 8, 9, 10, 11, 5, 12, 13, 14, 21, 22, 23, 24, 25, 26, 27, 28, 29, 30, 31] (by decide +kernel) (by decide +kernel)) (goodIn_sub (fun _ h => List.mem_cons_of_mem _ (List.mem_append_right _ h)) (by decide +kernel))
set_option maxRecDepth 20000 in
theorem gX8_isLit_X8_loadAt : GoodIn wsX8_isLit (wsV RX8 232 RX8 yX8_loadAt wsX8_loadAt) := goodIn_app (goodIn_of _ (by decide +kernel)) ggX8_isLit_X8_loadAt
theorem dX8_isLit_0 : decode cX8_isLit 0 = .ok (.aload_n 0, 1) := by decide +kernel
theorem dX8_isLit_1 : decode cX8_isLit 1 = .ok (.iload_n 1, 1) := by decide +kernel
theorem dX8_isLit_2 : decode cX8_isLit 2 = .ok (.invokevirtual 232, 3) := by decide +kernel
theorem dX8_isLit_5 : decode cX8_isLit 5 = .ok (.getfield 241, 3) := by decide +kernel
theorem dX8_isLit_8 : decode cX8_isLit 8 = .ok (.ireturn, 1) := by decide +kernel
set_option maxRecDepth 20000 in
theorem ggX8_waits_X8_loadAt : GoodIn wsX8_waits wsX8_loadAt := goodIn_ca (goodIn_r _ [9, 10, 11, 12, 13, 14, 8, 15, 16, 17, 24, 25, 26, 27, 28, 29, 30, 31, 32, 33, 34] (by decide +kernel) (by decide +kernel)) (goodIn_sub (fun _ h => List.mem_cons_of_mem _ (List.mem_append_right _ h)) (by decide +kernel))
set_option maxRecDepth 20000 in
theorem gX8_waits_X8_loadAt : GoodIn wsX8_waits (wsV RX8 232 RX8 yX8_loadAt wsX8_loadAt) := goodIn_app (goodIn_of _ (by decide +kernel)) ggX8_waits_X8_loadAt
theorem dX8_waits_0 : decode cX8_waits 0 = .ok (.aload_n 0, 1) := by decide +kernel
theorem dX8_waits_1 : decode cX8_waits 1 = .ok (.iload_n 1, 1) := by decide +kernel
theorem dX8_waits_2 : decode cX8_waits 2 = .ok (.invokevirtual 232, 3) := by decide +kernel
theorem dX8_waits_5 : decode cX8_waits 5 = .ok (.astore_n 2, 1) := by decide +kernel
theorem dX8_waits_6 : decode cX8_waits 6 = .ok (.aload_n 2, 1) := by decide +kernel
theorem dX8_waits_7 : decode cX8_waits 7 = .ok (.getfield 241, 3) := by decide +kernel
theorem dX8_waits_10 : decode cX8_waits 10 = .ok (.ifCond .eq 13, 3) := by decide +kernel
theorem dX8_waits_13 : decode cX8_waits 13 = .ok (.new 118, 3) := by decide +kernel
theorem dX8_waits_16 : decode cX8_waits 16 = .ok (.dup, 1) := by decide +kernel
theorem dX8_waits_17 : decode cX8_waits 17 = .ok (.ldc 244, 2) := by decide +kernel
theorem dX8_waits_19 : decode cX8_waits 19 = .ok (.invokespecial 122, 3) := by decide +kernel
theorem dX8_waits_22 : decode cX8_waits 22 = .ok (.athrow, 1) := by decide +kernel
theorem dX8_waits_23 : decode cX8_waits 23 = .ok (.aload_n 2, 1) := by decide +kernel
theorem dX8_waits_24 : decode cX8_waits 24 = .ok (.getfield 246, 3) := by decide +kernel
theorem dX8_waits_27 : decode cX8_waits 27 = .ok (.ireturn, 1) := by decide +kernel
set_option maxRecDepth 20000 in
theorem ggX8_setReserve_X8_checkRange : GoodIn wsX8_setReserve wsX8_checkRange := goodIn_ca (goodIn_r _ [5, 6, 7] (by decide +kernel) (by decide +kernel)) (goodIn_sub (fun _ h => List.mem_cons_of_mem _ (List.mem_append_right _ h)) (by decide +kernel))
set_option maxRecDepth 20000 in
theorem gX8_setReserve_X8_checkRange : GoodIn wsX8_setReserve (va_wsS RX8 68 yX8_checkRange wsX8_checkRange) := goodIn_app (goodIn_of _ (by decide +kernel)) ggX8_setReserve_X8_checkRange
theorem dX8_setReserve_0 : decode cX8_setReserve 0 = .ok (.iload_n 1, 1) := by decide +kernel
theorem dX8_setReserve_1 : decode cX8_setReserve 1 = .ok (.iconst 0, 1) := by decide +kernel
theorem dX8_setReserve_2 : decode cX8_setReserve 2 = .ok (.sipush 999, 3) := by decide +kernel
theorem dX8_setReserve_5 : decode cX8_setReserve 5 = .ok (.invokestatic 68, 3) := by decide +kernel
theorem dX8_setReserve_8 : decode cX8_setReserve 8 = .ok (.aload_n 0, 1) := by decide +kernel
theorem dX8_setReserve_9 : decode cX8_setReserve 9 = .ok (.getfield 249, 3) := by decide +kernel
theorem dX8_setReserve_12 : decode cX8_setReserve 12 = .ok (.istore_n 2, 1) := by decide +kernel
theorem dX8_setReserve_13 : decode cX8_setReserve 13 = .ok (.aload_n 0, 1) := by decide +kernel
theorem dX8_setReserve_14 : decode cX8_setReserve 14 = .ok (.iload_n 1, 1) := by decide +kernel
theorem dX8_setReserve_15 : decode cX8_setReserve 15 = .ok (.putfield 249, 3) := by decide +kernel
theorem dX8_setReserve_18 : decode cX8_setReserve 18 = .ok (.iload_n 2, 1) := by decide +kernel
theorem dX8_setReserve_19 : decode cX8_setReserve 19 = .ok (.ireturn, 1) := by decide +kernel
set_option maxRecDepth 20000 in
theorem ggX8_setDelay_X8_checkRange : GoodIn wsX8_setDelay wsX8_checkRange := goodIn_ca (goodIn_r _ [5, 6, 7] (by decide +kernel) (by decide +kernel)) (goodIn_sub (fun _ h => List.mem_cons_of_mem _ (List.mem_append_right _ h)) (by decide +kernel))
set_option maxRecDepth 20000 in
theorem gX8_setDelay_X8_checkRange : GoodIn wsX8_setDelay (va_wsS RX8 68 yX8_checkRange wsX8_checkRange) := goodIn_app (goodIn_of _ (by decide +kernel)) ggX8_setDelay_X8_checkRange
theorem dX8_setDelay_0 : decode cX8_setDelay 0 = .ok (.iload_n 1, 1) := by decide +kernel
theorem dX8_setDelay_1 : decode cX8_setDelay 1 = .ok (.iconst 0, 1) := by decide +kernel
theorem dX8_setDelay_2 : decode cX8_setDelay 2 = .ok (.bipush 9, 2) := by decide +kernel
theorem dX8_setDelay_4 : decode cX8_setDelay 4 = .ok (.invokestatic 68, 3) := by decide +kernel
theorem dX8_setDelay_7 : decode cX8_setDelay 7 = .ok (.aload_n 0, 1) := by decide +kernel
theorem dX8_setDelay_8 : decode cX8_setDelay 8 = .ok (.getfield 46, 3) := by decide +kernel
theorem dX8_setDelay_11 : decode cX8_setDelay 11 = .ok (.istore_n 2, 1) := by decide +kernel
theorem dX8_setDelay_12 : decode cX8_setDelay 12 = .ok (.aload_n 0, 1) := by decide +kernel
theorem dX8_setDelay_13 : decode cX8_setDelay 13 = .ok (.iload_n 1, 1) := by decide +kernel
theorem dX8_setDelay_14 : decode cX8_setDelay 14 = .ok (.putfield 46, 3) := by decide +kernel
theorem dX8_setDelay_17 : decode cX8_setDelay 17 = .ok (.iload_n 2, 1) := by decide +kernel
theorem dX8_setDelay_18 : decode cX8_setDelay 18 = .ok (.ireturn, 1) := by decide +kernel
set_option maxRecDepth 20000 in
theorem ggX8_bound_X8_checkSite : GoodIn wsX8_bound wsX8_checkSite := goodIn_ca (goodIn_r _ [7, 1, 8, 9, 10, 6, 11, 12, 13, 78, 79, 80, 81, 82, 83, 84, 85, 86, 87, 88, 89, 90, 91, 92, 93, 94, 95] (by decide +kernel) (by decide +kernel)) (goodIn_sub (fun _ h => List.mem_cons_of_mem _ (List.mem_append_right _ h)) (by decide +kernel))
set_option maxRecDepth 20000 in
theorem gX8_bound_X8_checkSite : GoodIn wsX8_bound (wsV RX8 64 RX8 yX8_checkSite wsX8_checkSite) := goodIn_app (goodIn_of _ (by decide +kernel)) ggX8_bound_X8_checkSite
set_option maxRecDepth 20000 in
theorem ggX8_bound_X8_boundOf : GoodIn wsX8_bound wsX8_boundOf := goodIn_r _ [17, 1, 18, 19, 20, 21, 22, 23, 24, 25, 26, 27, 28, 29, 30, 31, 32, 33, 34, 35, 36, 37, 38, 39, 40, 41, 42, 43, 44, 45, 46, 47, 48, 49, 50, 51, 52, 53, 54, 55, 56, 57, 58, 59, 60, 61, 62, 63, 64, 65, 66, 67, 68, 69, 70, 71, 72, 73, 74, 75, 76, 77, 78, 79, 80, 81, 82, 83, 84, 85, 86, 87, 88, 89, 90, 91, 92, 93, 94, 95, 96, 97, 98, 99, 100, 101, 102, 103, 104, 105, 106, 107, 108, 109, 110, 111, 112, 113, 114, 115, 116] (by decide +kernel) (by decide +kernel)
set_option maxRecDepth 20000 in
theorem gX8_bound_X8_boundOf : GoodIn wsX8_bound (wsV RX8 252 RX8 yX8_boundOf wsX8_boundOf) := goodIn_app (goodIn_of _ (by decide +kernel)) ggX8_bound_X8_boundOf
theorem dX8_bound_0 : decode cX8_bound 0 = .ok (.aload_n 0, 1) := by decide +kernel
theorem dX8_bound_1 : decode cX8_bound 1 = .ok (.iload_n 1, 1) := by decide +kernel
theorem dX8_bound_2 : decode cX8_bound 2 = .ok (.invokevirtual 64, 3) := by decide +kernel
theorem dX8_bound_5 : decode cX8_bound 5 = .ok (.aload_n 0, 1) := by decide +kernel
theorem dX8_bound_6 : decode cX8_bound 6 = .ok (.aload_n 0, 1) := by decide +kernel
theorem dX8_bound_7 : decode cX8_bound 7 = .ok (.getfield 10, 3) := by decide +kernel
theorem dX8_bound_10 : decode cX8_bound 10 = .ok (.getfield 140, 3) := by decide +kernel
theorem dX8_bound_13 : decode cX8_bound 13 = .ok (.iload_n 1, 1) := by decide +kernel
theorem dX8_bound_14 : decode cX8_bound 14 = .ok (.iaload, 1) := by decide +kernel
theorem dX8_bound_15 : decode cX8_bound 15 = .ok (.invokevirtual 252, 3) := by decide +kernel
theorem dX8_bound_18 : decode cX8_bound 18 = .ok (.ireturn, 1) := by decide +kernel
set_option maxRecDepth 20000 in
theorem ggX8_demand_X8_checkSite : GoodIn wsX8_demand wsX8_checkSite := goodIn_ca (goodIn_r _ [8, 2, 9, 10, 11, 7, 12, 13, 14, 31, 32, 33, 34, 35, 36, 37, 38, 39, 40, 41, 42, 43, 44, 45, 46, 47, 48] (by decide +kernel) (by decide +kernel)) (goodIn_sub (fun _ h => List.mem_cons_of_mem _ (List.mem_append_right _ h)) (by decide +kernel))
set_option maxRecDepth 20000 in
theorem gX8_demand_X8_checkSite : GoodIn wsX8_demand (wsV RX8 64 RX8 yX8_checkSite wsX8_checkSite) := goodIn_app (goodIn_of _ (by decide +kernel)) ggX8_demand_X8_checkSite
set_option maxRecDepth 20000 in
theorem ggX8_demand_X4_sumOfLit : GoodIn wsX8_demand wsX4_sumOfLit := goodIn_r _ [19, 20, 21, 22, 23, 24, 25, 26, 18, 27, 28, 29, 30, 49, 50, 51, 52, 53, 54, 55, 56, 57, 39, 40, 41, 42, 43, 44, 45, 46, 47, 48] (by decide +kernel) (by decide +kernel)
set_option maxRecDepth 20000 in
theorem gX8_demand_X4_sumOfLit : GoodIn wsX8_demand (wsV RX8 255 RX4 yX4_sumOfLit wsX4_sumOfLit) := goodIn_app (goodIn_of _ (by decide +kernel)) ggX8_demand_X4_sumOfLit
theorem dX8_demand_0 : decode cX8_demand 0 = .ok (.aload_n 0, 1) := by decide +kernel
theorem dX8_demand_1 : decode cX8_demand 1 = .ok (.iload_n 1, 1) := by decide +kernel
theorem dX8_demand_2 : decode cX8_demand 2 = .ok (.invokevirtual 64, 3) := by decide +kernel
theorem dX8_demand_5 : decode cX8_demand 5 = .ok (.aload_n 0, 1) := by decide +kernel
theorem dX8_demand_6 : decode cX8_demand 6 = .ok (.getfield 35, 3) := by decide +kernel
theorem dX8_demand_9 : decode cX8_demand 9 = .ok (.aload_n 0, 1) := by decide +kernel
theorem dX8_demand_10 : decode cX8_demand 10 = .ok (.getfield 10, 3) := by decide +kernel
theorem dX8_demand_13 : decode cX8_demand 13 = .ok (.getfield 140, 3) := by decide +kernel
theorem dX8_demand_16 : decode cX8_demand 16 = .ok (.iload_n 1, 1) := by decide +kernel
theorem dX8_demand_17 : decode cX8_demand 17 = .ok (.iaload, 1) := by decide +kernel
theorem dX8_demand_18 : decode cX8_demand 18 = .ok (.invokevirtual 255, 3) := by decide +kernel
theorem dX8_demand_21 : decode cX8_demand 21 = .ok (.ireturn, 1) := by decide +kernel
set_option maxRecDepth 20000 in
theorem ggX8_pass_X8_checkRange : GoodIn wsX8_pass wsX8_checkRange := goodIn_ca (goodIn_r _ [5, 6, 7] (by decide +kernel) (by decide +kernel)) (goodIn_sub (fun _ h => List.mem_cons_of_mem _ (List.mem_append_right _ h)) (by decide +kernel))
set_option maxRecDepth 20000 in
theorem gX8_pass_X8_checkRange : GoodIn wsX8_pass (va_wsS RX8 68 yX8_checkRange wsX8_checkRange) := goodIn_app (goodIn_of _ (by decide +kernel)) ggX8_pass_X8_checkRange
set_option maxRecDepth 20000 in
theorem ggX8_pass_X8_passOneTick : GoodIn wsX8_pass wsX8_passOneTick := goodIn_r _ [11, 12, 13, 14, 15, 16, 17, 18, 19, 20, 21, 22, 23, 24, 25, 26, 27, 28, 29, 30, 31, 32, 33, 34, 35, 36, 37, 38, 39, 40, 41, 42, 43, 44, 45, 46, 4, 47, 1, 48, 49, 50, 51, 52, 53, 54, 55, 56, 57, 58, 59, 60, 61, 62, 63, 64, 65, 66, 67, 68, 69, 70, 71, 72, 73, 74, 75, 76, 77, 78, 79, 80, 81, 82, 83, 84, 85, 86, 87, 88, 89, 90, 91, 92, 93, 94, 95, 96, 97, 98, 99, 100, 101, 102, 103, 104, 105, 106, 107, 108, 109, 110, 111, 112, 113, 114, 115, 116, 117, 118, 119, 120, 121, 122, 123, 124, 125, 126, 127, 128, 129, 130, 131, 132, 133, 134, 135, 136, 137, 138, 139, 140, 141, 142, 143, 144, 145, 146, 147, 148, 149, 150, 151, 152, 153, 154, 155, 156, 157, 158, 159, 160, 161, 162, 163, 164, 165, 166, 167, 168, 169, 170, 171, 172, 173, 174, 175, 176, 177, 178, 179, 180, 181, 182, 183, 184, 185, 186, 187, 188, 189, 190, 191, 192, 193, 194, 195, 196, 197, 198, 199, 200, 201, 202, 203, 204, 205, 206, 207, 208, 209, 210, 211, 212, 213, 214, 215, 220, 221, 222, 223, 224, 225, 226, 227, 228, 229, 230, 231, 232, 233, 234, 235, 236, 237, 238, 239, 240, 241, 242, 243, 244, 245, 246, 247, 248, 249, 250, 251, 252, 253, 254, 255, 256, 257, 258, 259, 260, 261, 262, 263, 264, 265, 266, 267, 268, 269, 270, 271, 272, 273] (by decide +kernel) (by decide +kernel)
set_option maxRecDepth 20000 in
theorem gX8_pass_X8_passOneTick : GoodIn wsX8_pass (wsV RX8 288 RX8 yX8_passOneTick wsX8_passOneTick) := goodIn_app (goodIn_of _ (by decide +kernel)) ggX8_pass_X8_passOneTick
set_option maxRecDepth 20000 in
theorem ggX8_pass_X4_countLit : GoodIn wsX8_pass wsX4_countLit := goodIn_r _ [219, 115, 116, 150, 265, 266, 267, 268, 269, 270, 271, 272, 273] (by decide +kernel) (by decide +kernel)
set_option maxRecDepth 20000 in
theorem gX8_pass_X4_countLit : GoodIn wsX8_pass (wsV RX8 291 RX4 yX4_countLit wsX4_countLit) := goodIn_app (goodIn_of _ (by decide +kernel)) ggX8_pass_X4_countLit
theorem dX8_pass_0 : decode cX8_pass 0 = .ok (.iload_n 1, 1) := by decide +kernel
theorem dX8_pass_1 : decode cX8_pass 1 = .ok (.iconst 1, 1) := by decide +kernel
theorem dX8_pass_2 : decode cX8_pass 2 = .ok (.bipush 12, 2) := by decide +kernel
theorem dX8_pass_4 : decode cX8_pass 4 = .ok (.invokestatic 68, 3) := by decide +kernel
theorem dX8_pass_7 : decode cX8_pass 7 = .ok (.iconst 0, 1) := by decide +kernel
theorem dX8_pass_8 : decode cX8_pass 8 = .ok (.istore_n 2, 1) := by decide +kernel
theorem dX8_pass_9 : decode cX8_pass 9 = .ok (.iload_n 2, 1) := by decide +kernel
theorem dX8_pass_10 : decode cX8_pass 10 = .ok (.iload_n 1, 1) := by decide +kernel
theorem dX8_pass_11 : decode cX8_pass 11 = .ok (.if_icmp .ge 13, 3) := by decide +kernel
theorem dX8_pass_14 : decode cX8_pass 14 = .ok (.aload_n 0, 1) := by decide +kernel
theorem dX8_pass_15 : decode cX8_pass 15 = .ok (.invokevirtual 288, 3) := by decide +kernel
theorem dX8_pass_18 : decode cX8_pass 18 = .ok (.iinc 2 1, 3) := by decide +kernel
theorem dX8_pass_21 : decode cX8_pass 21 = .ok (.goto (-12), 3) := by decide +kernel
theorem dX8_pass_24 : decode cX8_pass 24 = .ok (.aload_n 0, 1) := by decide +kernel
theorem dX8_pass_25 : decode cX8_pass 25 = .ok (.getfield 35, 3) := by decide +kernel
theorem dX8_pass_28 : decode cX8_pass 28 = .ok (.invokevirtual 291, 3) := by decide +kernel
theorem dX8_pass_31 : decode cX8_pass 31 = .ok (.ireturn, 1) := by decide +kernel
theorem dX8_now_0 : decode cX8_now 0 = .ok (.aload_n 0, 1) := by decide +kernel
theorem dX8_now_1 : decode cX8_now 1 = .ok (.getfield 294, 3) := by decide +kernel
theorem dX8_now_4 : decode cX8_now 4 = .ok (.ireturn, 1) := by decide +kernel
set_option maxRecDepth 20000 in
theorem ggX8_given_X8_generatorAt : GoodIn wsX8_given wsX8_generatorAt := goodIn_ca (goodIn_r _ [6, 7, 8, 9, 10, 11, 5, 12, 13, 14, 23, 24, 25, 26, 27, 28, 29, 30, 31, 32, 33, 34, 35] (by decide +kernel) (by decide +kernel)) (goodIn_sub (fun _ h => List.mem_cons_of_mem _ (List.mem_append_right _ h)) (by decide +kernel))
set_option maxRecDepth 20000 in
theorem gX8_given_X8_generatorAt : GoodIn wsX8_given (wsV RX8 165 RX8 yX8_generatorAt wsX8_generatorAt) := goodIn_app (goodIn_of _ (by decide +kernel)) ggX8_given_X8_generatorAt
theorem dX8_given_0 : decode cX8_given 0 = .ok (.aload_n 0, 1) := by decide +kernel
theorem dX8_given_1 : decode cX8_given 1 = .ok (.iload_n 1, 1) := by decide +kernel
theorem dX8_given_2 : decode cX8_given 2 = .ok (.invokevirtual 165, 3) := by decide +kernel
theorem dX8_given_5 : decode cX8_given 5 = .ok (.getfield 297, 3) := by decide +kernel
theorem dX8_given_8 : decode cX8_given 8 = .ok (.ireturn, 1) := by decide +kernel
set_option maxRecDepth 20000 in
theorem ggX8_flow_X8_storeAt : GoodIn wsX8_flow wsX8_storeAt := goodIn_ca (goodIn_r _ [6, 7, 8, 9, 10, 11, 5, 12, 13, 14, 20, 21, 22, 23, 24, 25, 26, 27, 28, 29, 30] (by decide +kernel) (by decide +kernel)) (goodIn_sub (fun _ h => List.mem_cons_of_mem _ (List.mem_append_right _ h)) (by decide +kernel))
set_option maxRecDepth 20000 in
theorem gX8_flow_X8_storeAt : GoodIn wsX8_flow (wsV RX8 219 RX8 yX8_storeAt wsX8_storeAt) := goodIn_app (goodIn_of _ (by decide +kernel)) ggX8_flow_X8_storeAt
theorem dX8_flow_0 : decode cX8_flow 0 = .ok (.aload_n 0, 1) := by decide +kernel
theorem dX8_flow_1 : decode cX8_flow 1 = .ok (.iload_n 1, 1) := by decide +kernel
theorem dX8_flow_2 : decode cX8_flow 2 = .ok (.invokevirtual 219, 3) := by decide +kernel
theorem dX8_flow_5 : decode cX8_flow 5 = .ok (.getfield 300, 3) := by decide +kernel
theorem dX8_flow_8 : decode cX8_flow 8 = .ok (.ireturn, 1) := by decide +kernel
theorem dX8_grid_0 : decode cX8_grid 0 = .ok (.aload_n 0, 1) := by decide +kernel
theorem dX8_grid_1 : decode cX8_grid 1 = .ok (.getfield 42, 3) := by decide +kernel
theorem dX8_grid_4 : decode cX8_grid 4 = .ok (.getfield 301, 3) := by decide +kernel
theorem dX8_grid_7 : decode cX8_grid 7 = .ok (.ireturn, 1) := by decide +kernel
theorem dX8_burnt_0 : decode cX8_burnt 0 = .ok (.aload_n 0, 1) := by decide +kernel
theorem dX8_burnt_1 : decode cX8_burnt 1 = .ok (.getfield 42, 3) := by decide +kernel
theorem dX8_burnt_4 : decode cX8_burnt 4 = .ok (.getfield 304, 3) := by decide +kernel
theorem dX8_burnt_7 : decode cX8_burnt 7 = .ok (.lreturn, 1) := by decide +kernel
theorem dX8_served_0 : decode cX8_served 0 = .ok (.aload_n 0, 1) := by decide +kernel
theorem dX8_served_1 : decode cX8_served 1 = .ok (.getfield 42, 3) := by decide +kernel
theorem dX8_served_4 : decode cX8_served 4 = .ok (.getfield 308, 3) := by decide +kernel
theorem dX8_served_7 : decode cX8_served 7 = .ok (.lreturn, 1) := by decide +kernel
theorem dX8_lost_0 : decode cX8_lost 0 = .ok (.aload_n 0, 1) := by decide +kernel
theorem dX8_lost_1 : decode cX8_lost 1 = .ok (.getfield 42, 3) := by decide +kernel
theorem dX8_lost_4 : decode cX8_lost 4 = .ok (.getfield 311, 3) := by decide +kernel
theorem dX8_lost_7 : decode cX8_lost 7 = .ok (.lreturn, 1) := by decide +kernel
set_option maxRecDepth 20000 in
theorem ggX8_litShare_X4_countLit : GoodIn wsX8_litShare wsX4_countLit := goodIn_r _ [9, 10, 11, 12, 21, 22, 23, 24, 25, 26, 27, 28, 29] (by decide +kernel) (by decide +kernel)
set_option maxRecDepth 20000 in
theorem gX8_litShare_X4_countLit : GoodIn wsX8_litShare (wsV RX8 291 RX4 yX4_countLit wsX4_countLit) := goodIn_app (goodIn_of _ (by decide +kernel)) ggX8_litShare_X4_countLit
theorem dX8_litShare_0 : decode cX8_litShare 0 = .ok (.aload_n 0, 1) := by decide +kernel
theorem dX8_litShare_1 : decode cX8_litShare 1 = .ok (.getfield 35, 3) := by decide +kernel
theorem dX8_litShare_4 : decode cX8_litShare 4 = .ok (.getfield 226, 3) := by decide +kernel
theorem dX8_litShare_7 : decode cX8_litShare 7 = .ok (.ifCond .ne 14, 3) := by decide +kernel
theorem dX8_litShare_10 : decode cX8_litShare 10 = .ok (.new 118, 3) := by decide +kernel
theorem dX8_litShare_13 : decode cX8_litShare 13 = .ok (.dup, 1) := by decide +kernel
theorem dX8_litShare_14 : decode cX8_litShare 14 = .ok (.ldc_w 323, 3) := by decide +kernel
theorem dX8_litShare_17 : decode cX8_litShare 17 = .ok (.invokespecial 122, 3) := by decide +kernel
theorem dX8_litShare_20 : decode cX8_litShare 20 = .ok (.athrow, 1) := by decide +kernel
theorem dX8_litShare_21 : decode cX8_litShare 21 = .ok (.aload_n 0, 1) := by decide +kernel
theorem dX8_litShare_22 : decode cX8_litShare 22 = .ok (.getfield 35, 3) := by decide +kernel
theorem dX8_litShare_25 : decode cX8_litShare 25 = .ok (.invokevirtual 291, 3) := by decide +kernel
theorem dX8_litShare_28 : decode cX8_litShare 28 = .ok (.i2f, 1) := by decide +kernel
theorem dX8_litShare_29 : decode cX8_litShare 29 = .ok (.aload_n 0, 1) := by decide +kernel
theorem dX8_litShare_30 : decode cX8_litShare 30 = .ok (.getfield 35, 3) := by decide +kernel
theorem dX8_litShare_33 : decode cX8_litShare 33 = .ok (.getfield 226, 3) := by decide +kernel
theorem dX8_litShare_36 : decode cX8_litShare 36 = .ok (.i2f, 1) := by decide +kernel
theorem dX8_litShare_37 : decode cX8_litShare 37 = .ok (.fdiv, 1) := by decide +kernel
theorem dX8_litShare_38 : decode cX8_litShare 38 = .ok (.freturn, 1) := by decide +kernel
theorem dX8_checkNumber_0 : decode cX8_checkNumber 0 = .ok (.iload_n 0, 1) := by decide +kernel
theorem dX8_checkNumber_1 : decode cX8_checkNumber 1 = .ok (.ifCond .lt 8, 3) := by decide +kernel
theorem dX8_checkNumber_4 : decode cX8_checkNumber 4 = .ok (.iload_n 0, 1) := by decide +kernel
theorem dX8_checkNumber_5 : decode cX8_checkNumber 5 = .ok (.iload_n 1, 1) := by decide +kernel
theorem dX8_checkNumber_6 : decode cX8_checkNumber 6 = .ok (.if_icmp .lt 14, 3) := by decide +kernel
theorem dX8_checkNumber_9 : decode cX8_checkNumber 9 = .ok (.new 325, 3) := by decide +kernel
theorem dX8_checkNumber_12 : decode cX8_checkNumber 12 = .ok (.dup, 1) := by decide +kernel
theorem dX8_checkNumber_13 : decode cX8_checkNumber 13 = .ok (.ldc_w 327, 3) := by decide +kernel
theorem dX8_checkNumber_16 : decode cX8_checkNumber 16 = .ok (.invokespecial 329, 3) := by decide +kernel
theorem dX8_checkNumber_19 : decode cX8_checkNumber 19 = .ok (.athrow, 1) := by decide +kernel
theorem dX8_checkNumber_20 : decode cX8_checkNumber 20 = .ok (.return_, 1) := by decide +kernel
theorem dX8_checkRange_0 : decode cX8_checkRange 0 = .ok (.iload_n 0, 1) := by decide +kernel
theorem dX8_checkRange_1 : decode cX8_checkRange 1 = .ok (.iload_n 1, 1) := by decide +kernel
theorem dX8_checkRange_2 : decode cX8_checkRange 2 = .ok (.if_icmp .lt 8, 3) := by decide +kernel
theorem dX8_checkRange_5 : decode cX8_checkRange 5 = .ok (.iload_n 0, 1) := by decide +kernel
theorem dX8_checkRange_6 : decode cX8_checkRange 6 = .ok (.iload_n 2, 1) := by decide +kernel
theorem dX8_checkRange_7 : decode cX8_checkRange 7 = .ok (.if_icmp .le 14, 3) := by decide +kernel
theorem dX8_checkRange_10 : decode cX8_checkRange 10 = .ok (.new 76, 3) := by decide +kernel
theorem dX8_checkRange_13 : decode cX8_checkRange 13 = .ok (.dup, 1) := by decide +kernel
theorem dX8_checkRange_14 : decode cX8_checkRange 14 = .ok (.ldc_w 330, 3) := by decide +kernel
theorem dX8_checkRange_17 : decode cX8_checkRange 17 = .ok (.invokespecial 80, 3) := by decide +kernel
theorem dX8_checkRange_20 : decode cX8_checkRange 20 = .ok (.athrow, 1) := by decide +kernel
theorem dX8_checkRange_21 : decode cX8_checkRange 21 = .ok (.return_, 1) := by decide +kernel
set_option maxRecDepth 20000 in
theorem ggX8_checkSite_X8_checkNumber : GoodIn wsX8_checkSite wsX8_checkNumber := goodIn_ca (goodIn_r _ [6, 7, 8] (by decide +kernel) (by decide +kernel)) (goodIn_sub (fun _ h => List.mem_cons_of_mem _ (List.mem_append_right _ h)) (by decide +kernel))
set_option maxRecDepth 20000 in
theorem gX8_checkSite_X8_checkNumber : GoodIn wsX8_checkSite (va_wsS RX8 90 yX8_checkNumber wsX8_checkNumber) := goodIn_app (goodIn_of _ (by decide +kernel)) ggX8_checkSite_X8_checkNumber
theorem dX8_checkSite_0 : decode cX8_checkSite 0 = .ok (.iload_n 1, 1) := by decide +kernel
theorem dX8_checkSite_1 : decode cX8_checkSite 1 = .ok (.aload_n 0, 1) := by decide +kernel
theorem dX8_checkSite_2 : decode cX8_checkSite 2 = .ok (.getfield 10, 3) := by decide +kernel
theorem dX8_checkSite_5 : decode cX8_checkSite 5 = .ok (.getfield 50, 3) := by decide +kernel
theorem dX8_checkSite_8 : decode cX8_checkSite 8 = .ok (.invokestatic 90, 3) := by decide +kernel
theorem dX8_checkSite_11 : decode cX8_checkSite 11 = .ok (.return_, 1) := by decide +kernel
set_option maxRecDepth 20000 in
theorem ggX8_generatorAt_X8_checkNumber : GoodIn wsX8_generatorAt wsX8_checkNumber := goodIn_ca (goodIn_r _ [7, 8, 9] (by decide +kernel) (by decide +kernel)) (goodIn_sub (fun _ h => List.mem_cons_of_mem _ (List.mem_append_right _ h)) (by decide +kernel))
set_option maxRecDepth 20000 in
theorem gX8_generatorAt_X8_checkNumber : GoodIn wsX8_generatorAt (va_wsS RX8 90 yX8_checkNumber wsX8_checkNumber) := goodIn_app (goodIn_of _ (by decide +kernel)) ggX8_generatorAt_X8_checkNumber
theorem dX8_generatorAt_0 : decode cX8_generatorAt 0 = .ok (.iload_n 1, 1) := by decide +kernel
theorem dX8_generatorAt_1 : decode cX8_generatorAt 1 = .ok (.aload_n 0, 1) := by decide +kernel
theorem dX8_generatorAt_2 : decode cX8_generatorAt 2 = .ok (.getfield 21, 3) := by decide +kernel
theorem dX8_generatorAt_5 : decode cX8_generatorAt 5 = .ok (.getfield 151, 3) := by decide +kernel
theorem dX8_generatorAt_8 : decode cX8_generatorAt 8 = .ok (.invokestatic 90, 3) := by decide +kernel
theorem dX8_generatorAt_11 : decode cX8_generatorAt 11 = .ok (.aload_n 0, 1) := by decide +kernel
theorem dX8_generatorAt_12 : decode cX8_generatorAt 12 = .ok (.getfield 21, 3) := by decide +kernel
theorem dX8_generatorAt_15 : decode cX8_generatorAt 15 = .ok (.getfield 200, 3) := by decide +kernel
theorem dX8_generatorAt_18 : decode cX8_generatorAt 18 = .ok (.iload_n 1, 1) := by decide +kernel
theorem dX8_generatorAt_19 : decode cX8_generatorAt 19 = .ok (.aaload, 1) := by decide +kernel
theorem dX8_generatorAt_20 : decode cX8_generatorAt 20 = .ok (.areturn, 1) := by decide +kernel
set_option maxRecDepth 20000 in
theorem ggX8_storeAt_X8_checkNumber : GoodIn wsX8_storeAt wsX8_checkNumber := goodIn_ca (goodIn_r _ [7, 8, 9] (by decide +kernel) (by decide +kernel)) (goodIn_sub (fun _ h => List.mem_cons_of_mem _ (List.mem_append_right _ h)) (by decide +kernel))
set_option maxRecDepth 20000 in
theorem gX8_storeAt_X8_checkNumber : GoodIn wsX8_storeAt (va_wsS RX8 90 yX8_checkNumber wsX8_checkNumber) := goodIn_app (goodIn_of _ (by decide +kernel)) ggX8_storeAt_X8_checkNumber
theorem dX8_storeAt_0 : decode cX8_storeAt 0 = .ok (.iload_n 1, 1) := by decide +kernel
theorem dX8_storeAt_1 : decode cX8_storeAt 1 = .ok (.aload_n 0, 1) := by decide +kernel
theorem dX8_storeAt_2 : decode cX8_storeAt 2 = .ok (.getfield 28, 3) := by decide +kernel
theorem dX8_storeAt_5 : decode cX8_storeAt 5 = .ok (.getfield 209, 3) := by decide +kernel
theorem dX8_storeAt_8 : decode cX8_storeAt 8 = .ok (.invokestatic 90, 3) := by decide +kernel
theorem dX8_storeAt_11 : decode cX8_storeAt 11 = .ok (.aload_n 0, 1) := by decide +kernel
theorem dX8_storeAt_12 : decode cX8_storeAt 12 = .ok (.getfield 28, 3) := by decide +kernel
theorem dX8_storeAt_15 : decode cX8_storeAt 15 = .ok (.getfield 332, 3) := by decide +kernel
theorem dX8_storeAt_18 : decode cX8_storeAt 18 = .ok (.iload_n 1, 1) := by decide +kernel
theorem dX8_storeAt_19 : decode cX8_storeAt 19 = .ok (.aaload, 1) := by decide +kernel
theorem dX8_storeAt_20 : decode cX8_storeAt 20 = .ok (.areturn, 1) := by decide +kernel
set_option maxRecDepth 20000 in
theorem ggX8_loadAt_X8_checkNumber : GoodIn wsX8_loadAt wsX8_checkNumber := goodIn_ca (goodIn_r _ [7, 8, 9] (by decide +kernel) (by decide +kernel)) (goodIn_sub (fun _ h => List.mem_cons_of_mem _ (List.mem_append_right _ h)) (by decide +kernel))
set_option maxRecDepth 20000 in
theorem gX8_loadAt_X8_checkNumber : GoodIn wsX8_loadAt (va_wsS RX8 90 yX8_checkNumber wsX8_checkNumber) := goodIn_app (goodIn_of _ (by decide +kernel)) ggX8_loadAt_X8_checkNumber
theorem dX8_loadAt_0 : decode cX8_loadAt 0 = .ok (.iload_n 1, 1) := by decide +kernel
theorem dX8_loadAt_1 : decode cX8_loadAt 1 = .ok (.aload_n 0, 1) := by decide +kernel
theorem dX8_loadAt_2 : decode cX8_loadAt 2 = .ok (.getfield 35, 3) := by decide +kernel
theorem dX8_loadAt_5 : decode cX8_loadAt 5 = .ok (.getfield 226, 3) := by decide +kernel
theorem dX8_loadAt_8 : decode cX8_loadAt 8 = .ok (.invokestatic 90, 3) := by decide +kernel
theorem dX8_loadAt_11 : decode cX8_loadAt 11 = .ok (.aload_n 0, 1) := by decide +kernel
theorem dX8_loadAt_12 : decode cX8_loadAt 12 = .ok (.getfield 35, 3) := by decide +kernel
theorem dX8_loadAt_15 : decode cX8_loadAt 15 = .ok (.getfield 335, 3) := by decide +kernel
theorem dX8_loadAt_18 : decode cX8_loadAt 18 = .ok (.iload_n 1, 1) := by decide +kernel
theorem dX8_loadAt_19 : decode cX8_loadAt 19 = .ok (.aaload, 1) := by decide +kernel
theorem dX8_loadAt_20 : decode cX8_loadAt 20 = .ok (.areturn, 1) := by decide +kernel
set_option maxRecDepth 20000 in
theorem ggX8_boundOf_X5_isTied : GoodIn wsX8_boundOf wsX5_isTied := goodIn_r _ [13, 14, 70, 71, 72, 73, 74, 75, 76, 77, 78, 79] (by decide +kernel) (by decide +kernel)
set_option maxRecDepth 20000 in
theorem gX8_boundOf_X5_isTied : GoodIn wsX8_boundOf (wsV RX8 346 RX5 yX5_isTied wsX5_isTied) := goodIn_app (goodIn_of _ (by decide +kernel)) ggX8_boundOf_X5_isTied
set_option maxRecDepth 20000 in
theorem ggX8_boundOf_X0_sumOfSupply : GoodIn wsX8_boundOf wsX0_sumOfSupply := goodIn_r _ [19, 20, 21, 22, 23, 24, 18, 25, 26, 27, 28, 29, 30, 31, 32, 33, 34, 35, 36, 37, 38, 7, 39, 80, 81, 82, 83, 84, 85, 86, 87, 88, 89, 90, 91, 92, 70, 71, 72, 73, 74, 75, 76, 77, 78, 79] (by decide +kernel) (by decide +kernel)
set_option maxRecDepth 20000 in
theorem gX8_boundOf_X0_sumOfSupply : GoodIn wsX8_boundOf (wsV RX8 350 RX0 yX0_sumOfSupply wsX0_sumOfSupply) := goodIn_app (goodIn_of _ (by decide +kernel)) ggX8_boundOf_X0_sumOfSupply
set_option maxRecDepth 20000 in
theorem ggX8_boundOf_X6_sumOfSupply : GoodIn wsX8_boundOf wsX6_sumOfSupply := goodIn_r _ [44, 45, 46, 47, 48, 49, 43, 50, 51, 52, 53, 54, 55, 56, 57, 58, 59, 60, 61, 38, 7, 39, 93, 94, 95, 70, 71, 72, 73, 74, 75, 76, 77, 78, 79, 96, 97, 98, 99, 100] (by decide +kernel) (by decide +kernel)
set_option maxRecDepth 20000 in
theorem gX8_boundOf_X6_sumOfSupply : GoodIn wsX8_boundOf (wsV RX8 353 RX6 yX6_sumOfSupply wsX6_sumOfSupply) := goodIn_app (goodIn_of _ (by decide +kernel)) ggX8_boundOf_X6_sumOfSupply
theorem dX8_boundOf_0 : decode cX8_boundOf 0 = .ok (.aload_n 0, 1) := by decide +kernel
theorem dX8_boundOf_1 : decode cX8_boundOf 1 = .ok (.getfield 10, 3) := by decide +kernel
theorem dX8_boundOf_4 : decode cX8_boundOf 4 = .ok (.iload_n 1, 1) := by decide +kernel
theorem dX8_boundOf_5 : decode cX8_boundOf 5 = .ok (.invokevirtual 346, 3) := by decide +kernel
theorem dX8_boundOf_8 : decode cX8_boundOf 8 = .ok (.ifCond .eq 5, 3) := by decide +kernel
theorem dX8_boundOf_11 : decode cX8_boundOf 11 = .ok (.iconst (-1), 1) := by decide +kernel
theorem dX8_boundOf_12 : decode cX8_boundOf 12 = .ok (.ireturn, 1) := by decide +kernel
theorem dX8_boundOf_13 : decode cX8_boundOf 13 = .ok (.iconst 0, 1) := by decide +kernel
theorem dX8_boundOf_14 : decode cX8_boundOf 14 = .ok (.aload_n 0, 1) := by decide +kernel
theorem dX8_boundOf_15 : decode cX8_boundOf 15 = .ok (.getfield 21, 3) := by decide +kernel
theorem dX8_boundOf_18 : decode cX8_boundOf 18 = .ok (.iload_n 1, 1) := by decide +kernel
theorem dX8_boundOf_19 : decode cX8_boundOf 19 = .ok (.invokevirtual 350, 3) := by decide +kernel
theorem dX8_boundOf_22 : decode cX8_boundOf 22 = .ok (.aload_n 0, 1) := by decide +kernel
theorem dX8_boundOf_23 : decode cX8_boundOf 23 = .ok (.getfield 28, 3) := by decide +kernel
theorem dX8_boundOf_26 : decode cX8_boundOf 26 = .ok (.iload_n 1, 1) := by decide +kernel
theorem dX8_boundOf_27 : decode cX8_boundOf 27 = .ok (.invokevirtual 353, 3) := by decide +kernel
theorem dX8_boundOf_30 : decode cX8_boundOf 30 = .ok (.iadd, 1) := by decide +kernel
theorem dX8_boundOf_31 : decode cX8_boundOf 31 = .ok (.aload_n 0, 1) := by decide +kernel
theorem dX8_boundOf_32 : decode cX8_boundOf 32 = .ok (.getfield 249, 3) := by decide +kernel
theorem dX8_boundOf_35 : decode cX8_boundOf 35 = .ok (.isub, 1) := by decide +kernel
theorem dX8_boundOf_36 : decode cX8_boundOf 36 = .ok (.invokestatic 146, 3) := by decide +kernel
theorem dX8_boundOf_39 : decode cX8_boundOf 39 = .ok (.ireturn, 1) := by decide +kernel
set_option maxRecDepth 20000 in
theorem ggX8_passOneTick_X0_beginTick : GoodIn wsX8_passOneTick wsX0_beginTick := goodIn_r _ [12, 13, 14, 15, 16, 17, 18, 19, 20, 21, 22, 23, 24, 25, 26, 27, 28, 29, 30, 31, 32, 231, 232, 233, 234, 235, 236, 237, 238, 239, 240, 241, 242, 243] (by decide +kernel) (by decide +kernel)
set_option maxRecDepth 20000 in
theorem gX8_passOneTick_X0_beginTick : GoodIn wsX8_passOneTick (wsV RX8 354 RX0 yX0_beginTick wsX0_beginTick) := goodIn_app (goodIn_of _ (by decide +kernel)) ggX8_passOneTick_X0_beginTick
set_option maxRecDepth 20000 in
theorem ggX8_passOneTick_X8_balance : GoodIn wsX8_passOneTick wsX8_balance := goodIn_r _ [37, 38, 39, 2, 3, 40, 41, 42, 5, 43, 44, 45, 46, 36, 47, 48, 49, 50, 51, 52, 53, 54, 55, 56, 57, 58, 59, 60, 61, 11, 62, 13, 14, 63, 64, 65, 66, 67, 68, 69, 70, 71, 72, 73, 18, 74, 75, 27, 76, 77, 78, 79, 80, 81, 82, 83, 84, 85, 86, 87, 88, 89, 90, 91, 92, 93, 94, 95, 96, 97, 98, 99, 100, 101, 102, 103, 104, 105, 106, 107, 108, 109, 110, 111, 112, 113, 114, 115, 116, 117, 118, 119, 120, 121, 122, 123, 124, 125, 126, 127, 128, 129, 130, 131, 132, 133, 134, 135, 136, 137, 138, 139, 140, 141, 142, 143, 144, 145, 146, 147, 148, 149, 150, 151, 152, 153, 154, 155, 156, 28, 157, 158, 159, 160, 161, 162, 163, 164, 165, 166, 167, 168, 169, 170, 171, 172, 173, 174, 175, 20, 176, 177, 178, 179, 180, 181, 182, 183, 184, 185, 186, 187, 188, 189, 190, 191, 192, 193, 194, 195, 196, 197, 198, 199, 200, 201, 202, 203, 204, 205, 206, 207, 208, 209, 210, 211, 212, 213, 214, 215, 216, 217, 218, 219, 220, 221, 222, 223, 224, 225, 226, 227, 228, 229, 230, 231, 232, 233, 234, 235, 236, 237, 238, 239, 240, 241, 242, 243, 244, 245, 246, 247, 248, 249, 250, 251, 252, 253, 254, 255, 256, 257, 258, 259, 260] (by decide +kernel) (by decide +kernel)
set_option maxRecDepth 20000 in
theorem gX8_passOneTick_X8_balance : GoodIn wsX8_passOneTick (wsV RX8 357 RX8 yX8_balance wsX8_balance) := goodIn_app (goodIn_of _ (by decide +kernel)) ggX8_passOneTick_X8_balance
theorem dX8_passOneTick_0 : decode cX8_passOneTick 0 = .ok (.aload_n 0, 1) := by decide +kernel
theorem dX8_passOneTick_1 : decode cX8_passOneTick 1 = .ok (.dup, 1) := by decide +kernel
theorem dX8_passOneTick_2 : decode cX8_passOneTick 2 = .ok (.getfield 294, 3) := by decide +kernel
theorem dX8_passOneTick_5 : decode cX8_passOneTick 5 = .ok (.iconst 1, 1) := by decide +kernel
theorem dX8_passOneTick_6 : decode cX8_passOneTick 6 = .ok (.iadd, 1) := by decide +kernel
theorem dX8_passOneTick_7 : decode cX8_passOneTick 7 = .ok (.putfield 294, 3) := by decide +kernel
theorem dX8_passOneTick_10 : decode cX8_passOneTick 10 = .ok (.aload_n 0, 1) := by decide +kernel
theorem dX8_passOneTick_11 : decode cX8_passOneTick 11 = .ok (.getfield 21, 3) := by decide +kernel
theorem dX8_passOneTick_14 : decode cX8_passOneTick 14 = .ok (.invokevirtual 354, 3) := by decide +kernel
theorem dX8_passOneTick_17 : decode cX8_passOneTick 17 = .ok (.aload_n 0, 1) := by decide +kernel
theorem dX8_passOneTick_18 : decode cX8_passOneTick 18 = .ok (.getfield 42, 3) := by decide +kernel
theorem dX8_passOneTick_21 : decode cX8_passOneTick 21 = .ok (.iconst 0, 1) := by decide +kernel
theorem dX8_passOneTick_22 : decode cX8_passOneTick 22 = .ok (.putfield 301, 3) := by decide +kernel
theorem dX8_passOneTick_25 : decode cX8_passOneTick 25 = .ok (.iconst 0, 1) := by decide +kernel
theorem dX8_passOneTick_26 : decode cX8_passOneTick 26 = .ok (.istore_n 1, 1) := by decide +kernel
theorem dX8_passOneTick_27 : decode cX8_passOneTick 27 = .ok (.iload_n 1, 1) := by decide +kernel
theorem dX8_passOneTick_28 : decode cX8_passOneTick 28 = .ok (.aload_n 0, 1) := by decide +kernel
theorem dX8_passOneTick_29 : decode cX8_passOneTick 29 = .ok (.getfield 10, 3) := by decide +kernel
theorem dX8_passOneTick_32 : decode cX8_passOneTick 32 = .ok (.getfield 50, 3) := by decide +kernel
theorem dX8_passOneTick_35 : decode cX8_passOneTick 35 = .ok (.if_icmp .ge 27, 3) := by decide +kernel
theorem dX8_passOneTick_38 : decode cX8_passOneTick 38 = .ok (.aload_n 0, 1) := by decide +kernel
theorem dX8_passOneTick_39 : decode cX8_passOneTick 39 = .ok (.getfield 10, 3) := by decide +kernel
theorem dX8_passOneTick_42 : decode cX8_passOneTick 42 = .ok (.getfield 140, 3) := by decide +kernel
theorem dX8_passOneTick_45 : decode cX8_passOneTick 45 = .ok (.iload_n 1, 1) := by decide +kernel
theorem dX8_passOneTick_46 : decode cX8_passOneTick 46 = .ok (.iaload, 1) := by decide +kernel
theorem dX8_passOneTick_47 : decode cX8_passOneTick 47 = .ok (.iload_n 1, 1) := by decide +kernel
theorem dX8_passOneTick_48 : decode cX8_passOneTick 48 = .ok (.if_icmp .ne 8, 3) := by decide +kernel
theorem dX8_passOneTick_51 : decode cX8_passOneTick 51 = .ok (.aload_n 0, 1) := by decide +kernel
theorem dX8_passOneTick_52 : decode cX8_passOneTick 52 = .ok (.iload_n 1, 1) := by decide +kernel
theorem dX8_passOneTick_53 : decode cX8_passOneTick 53 = .ok (.invokevirtual 357, 3) := by decide +kernel
theorem dX8_passOneTick_56 : decode cX8_passOneTick 56 = .ok (.iinc 1 1, 3) := by decide +kernel
theorem dX8_passOneTick_59 : decode cX8_passOneTick 59 = .ok (.goto (-32), 3) := by decide +kernel
theorem dX8_passOneTick_62 : decode cX8_passOneTick 62 = .ok (.return_, 1) := by decide +kernel
set_option maxRecDepth 20000 in
theorem ggX8_balance_X8_boundOf : GoodIn wsX8_balance wsX8_boundOf := goodIn_r _ [14, 8, 3, 7, 15, 16, 17, 18, 19, 20, 21, 22, 23, 24, 25, 26, 27, 28, 29, 30, 31, 32, 33, 34, 35, 36, 37, 38, 39, 40, 41, 42, 43, 44, 45, 46, 47, 48, 49, 50, 51, 52, 53, 54, 55, 56, 57, 58, 59, 60, 61, 62, 63, 64, 65, 66, 67, 68, 69, 70, 71, 72, 181, 182, 183, 184, 185, 186, 187, 188, 195, 196, 197, 198, 199, 200, 201, 202, 203, 204, 205, 206, 207, 208, 209, 210, 211, 212, 213, 214, 215, 216, 217, 218, 219, 220, 221, 222, 223, 224, 225] (by decide +kernel) (by decide +kernel)
set_option maxRecDepth 20000 in
theorem gX8_balance_X8_boundOf : GoodIn wsX8_balance (wsV RX8 252 RX8 yX8_boundOf wsX8_boundOf) := goodIn_app (goodIn_of _ (by decide +kernel)) ggX8_balance_X8_boundOf
set_option maxRecDepth 20000 in
theorem ggX8_balance_X4_shed : GoodIn wsX8_balance wsX4_shed := goodIn_r _ [77, 78, 79, 80, 81, 82, 76, 83, 84, 85, 86, 87, 88, 89, 90, 91, 92, 93, 94, 95, 96, 97, 98, 99, 100, 101, 102, 103, 104, 105, 106, 107, 108, 226, 227, 228, 195, 196, 197, 198, 199, 200, 201, 202, 203, 204, 229, 230, 231, 232, 233, 234] (by decide +kernel) (by decide +kernel)
set_option maxRecDepth 20000 in
theorem gX8_balance_X4_shed : GoodIn wsX8_balance (wsV RX8 360 RX4 yX4_shed wsX4_shed) := goodIn_app (goodIn_of _ (by decide +kernel)) ggX8_balance_X4_shed
set_option maxRecDepth 20000 in
theorem ggX8_balance_X4_sumOfLit : GoodIn wsX8_balance wsX4_sumOfLit := goodIn_r _ [112, 78, 79, 113, 95, 80, 81, 82, 76, 83, 84, 85, 86, 226, 227, 228, 229, 230, 231, 232, 233, 234, 195, 196, 197, 198, 199, 200, 201, 202, 203, 204] (by decide +kernel) (by decide +kernel)
set_option maxRecDepth 20000 in
theorem gX8_balance_X4_sumOfLit : GoodIn wsX8_balance (wsV RX8 255 RX4 yX4_sumOfLit wsX4_sumOfLit) := goodIn_app (goodIn_of _ (by decide +kernel)) ggX8_balance_X4_sumOfLit
set_option maxRecDepth 20000 in
theorem ggX8_balance_X0_giveFor : GoodIn wsX8_balance wsX0_giveFor := goodIn_r _ [117, 31, 32, 118, 119, 120, 121, 122, 29, 123, 124, 33, 34, 35, 36, 37, 38, 39, 40, 125, 126, 127, 44, 128, 129, 130, 17, 18, 19, 131, 42, 43, 45, 46, 47, 48, 49, 50, 132, 133, 134, 135, 136, 137, 138, 139, 140, 141, 142, 143, 144, 145, 146, 147, 148, 149, 205, 206, 207, 208, 209, 210, 211, 212, 213, 214, 215, 216, 217, 195, 196, 197, 198, 199, 200, 201, 202, 203, 204] (by decide +kernel) (by decide +kernel)
set_option maxRecDepth 20000 in
theorem gX8_balance_X0_giveFor : GoodIn wsX8_balance (wsV RX8 363 RX0 yX0_giveFor wsX0_giveFor) := goodIn_app (goodIn_of _ (by decide +kernel)) ggX8_balance_X0_giveFor
set_option maxRecDepth 20000 in
theorem ggX8_balance_X6_dischargeUpTo : GoodIn wsX8_balance wsX6_dischargeUpTo := goodIn_r _ [153, 56, 57, 154, 49, 18, 50, 58, 59, 60, 54, 61, 62, 63, 64, 65, 66, 67, 68, 69, 70, 71, 72, 155, 156, 157, 158, 159, 218, 219, 220, 195, 196, 197, 198, 199, 200, 201, 202, 203, 204, 221, 222, 223, 224, 225] (by decide +kernel) (by decide +kernel)
set_option maxRecDepth 20000 in
theorem gX8_balance_X6_dischargeUpTo : GoodIn wsX8_balance (wsV RX8 366 RX6 yX6_dischargeUpTo wsX6_dischargeUpTo) := goodIn_app (goodIn_of _ (by decide +kernel)) ggX8_balance_X6_dischargeUpTo
set_option maxRecDepth 20000 in
theorem ggX8_balance_X2_takeFromGrid : GoodIn wsX8_balance wsX2_takeFromGrid := goodIn_r _ [164, 165, 166, 189, 190, 191, 192, 193, 194] (by decide +kernel) (by decide +kernel)
set_option maxRecDepth 20000 in
theorem gX8_balance_X2_takeFromGrid : GoodIn wsX8_balance (wsV RX8 369 RX2 yX2_takeFromGrid wsX2_takeFromGrid) := goodIn_app (goodIn_of _ (by decide +kernel)) ggX8_balance_X2_takeFromGrid
set_option maxRecDepth 20000 in
theorem ggX8_balance_X6_chargeUpTo : GoodIn wsX8_balance wsX6_chargeUpTo := goodIn_r _ [170, 56, 57, 154, 49, 18, 50, 58, 59, 60, 54, 61, 62, 63, 64, 171, 172, 173, 68, 174, 70, 175, 71, 72, 155, 156, 157, 158, 159, 218, 219, 220, 195, 196, 197, 198, 199, 200, 201, 202, 203, 204, 221, 222, 223, 224, 225] (by decide +kernel) (by decide +kernel)
set_option maxRecDepth 20000 in
theorem gX8_balance_X6_chargeUpTo : GoodIn wsX8_balance (wsV RX8 372 RX6 yX6_chargeUpTo wsX6_chargeUpTo) := goodIn_app (goodIn_of _ (by decide +kernel)) ggX8_balance_X6_chargeUpTo
set_option maxRecDepth 20000 in
theorem ggX8_balance_X5_isTied : GoodIn wsX8_balance wsX5_isTied := goodIn_r _ [24, 25, 195, 196, 197, 198, 199, 200, 201, 202, 203, 204] (by decide +kernel) (by decide +kernel)
set_option maxRecDepth 20000 in
theorem gX8_balance_X5_isTied : GoodIn wsX8_balance (wsV RX8 346 RX5 yX5_isTied wsX5_isTied) := goodIn_app (goodIn_of _ (by decide +kernel)) ggX8_balance_X5_isTied
set_option maxRecDepth 20000 in
theorem ggX8_balance_X2_giveToGrid : GoodIn wsX8_balance wsX2_giveToGrid := goodIn_r _ [179, 165, 180, 189, 190, 191, 192, 193, 194] (by decide +kernel) (by decide +kernel)
set_option maxRecDepth 20000 in
theorem gX8_balance_X2_giveToGrid : GoodIn wsX8_balance (wsV RX8 375 RX2 yX2_giveToGrid wsX2_giveToGrid) := goodIn_app (goodIn_of _ (by decide +kernel)) ggX8_balance_X2_giveToGrid
theorem dX8_balance_0 : decode cX8_balance 0 = .ok (.aload_n 0, 1) := by decide +kernel
theorem dX8_balance_1 : decode cX8_balance 1 = .ok (.getfield 35, 3) := by decide +kernel
theorem dX8_balance_4 : decode cX8_balance 4 = .ok (.iload_n 1, 1) := by decide +kernel
theorem dX8_balance_5 : decode cX8_balance 5 = .ok (.aload_n 0, 1) := by decide +kernel
theorem dX8_balance_6 : decode cX8_balance 6 = .ok (.iload_n 1, 1) := by decide +kernel
theorem dX8_balance_7 : decode cX8_balance 7 = .ok (.invokevirtual 252, 3) := by decide +kernel
theorem dX8_balance_10 : decode cX8_balance 10 = .ok (.aload_n 0, 1) := by decide +kernel
theorem dX8_balance_11 : decode cX8_balance 11 = .ok (.getfield 46, 3) := by decide +kernel
theorem dX8_balance_14 : decode cX8_balance 14 = .ok (.invokevirtual 360, 3) := by decide +kernel
theorem dX8_balance_17 : decode cX8_balance 17 = .ok (.aload_n 0, 1) := by decide +kernel
theorem dX8_balance_18 : decode cX8_balance 18 = .ok (.getfield 35, 3) := by decide +kernel
theorem dX8_balance_21 : decode cX8_balance 21 = .ok (.iload_n 1, 1) := by decide +kernel
theorem dX8_balance_22 : decode cX8_balance 22 = .ok (.invokevirtual 255, 3) := by decide +kernel
theorem dX8_balance_25 : decode cX8_balance 25 = .ok (.istore_n 2, 1) := by decide +kernel
theorem dX8_balance_26 : decode cX8_balance 26 = .ok (.aload_n 0, 1) := by decide +kernel
theorem dX8_balance_27 : decode cX8_balance 27 = .ok (.getfield 21, 3) := by decide +kernel
theorem dX8_balance_30 : decode cX8_balance 30 = .ok (.iload_n 1, 1) := by decide +kernel
theorem dX8_balance_31 : decode cX8_balance 31 = .ok (.iload_n 2, 1) := by decide +kernel
theorem dX8_balance_32 : decode cX8_balance 32 = .ok (.invokevirtual 363, 3) := by decide +kernel
theorem dX8_balance_35 : decode cX8_balance 35 = .ok (.istore_n 3, 1) := by decide +kernel
theorem dX8_balance_36 : decode cX8_balance 36 = .ok (.aload_n 0, 1) := by decide +kernel
theorem dX8_balance_37 : decode cX8_balance 37 = .ok (.getfield 42, 3) := by decide +kernel
theorem dX8_balance_40 : decode cX8_balance 40 = .ok (.dup, 1) := by decide +kernel
theorem dX8_balance_41 : decode cX8_balance 41 = .ok (.getfield 308, 3) := by decide +kernel
theorem dX8_balance_44 : decode cX8_balance 44 = .ok (.iload_n 2, 1) := by decide +kernel
theorem dX8_balance_45 : decode cX8_balance 45 = .ok (.i2l, 1) := by decide +kernel
theorem dX8_balance_46 : decode cX8_balance 46 = .ok (.ladd, 1) := by decide +kernel
theorem dX8_balance_47 : decode cX8_balance 47 = .ok (.putfield 308, 3) := by decide +kernel
theorem dX8_balance_50 : decode cX8_balance 50 = .ok (.aload_n 0, 1) := by decide +kernel
theorem dX8_balance_51 : decode cX8_balance 51 = .ok (.getfield 42, 3) := by decide +kernel
theorem dX8_balance_54 : decode cX8_balance 54 = .ok (.dup, 1) := by decide +kernel
theorem dX8_balance_55 : decode cX8_balance 55 = .ok (.getfield 304, 3) := by decide +kernel
theorem dX8_balance_58 : decode cX8_balance 58 = .ok (.iload_n 3, 1) := by decide +kernel
theorem dX8_balance_59 : decode cX8_balance 59 = .ok (.i2l, 1) := by decide +kernel
theorem dX8_balance_60 : decode cX8_balance 60 = .ok (.ladd, 1) := by decide +kernel
theorem dX8_balance_61 : decode cX8_balance 61 = .ok (.putfield 304, 3) := by decide +kernel
theorem dX8_balance_64 : decode cX8_balance 64 = .ok (.iload_n 3, 1) := by decide +kernel
theorem dX8_balance_65 : decode cX8_balance 65 = .ok (.iload_n 2, 1) := by decide +kernel
theorem dX8_balance_66 : decode cX8_balance 66 = .ok (.if_icmp .ge 24, 3) := by decide +kernel
theorem dX8_balance_69 : decode cX8_balance 69 = .ok (.aload_n 0, 1) := by decide +kernel
theorem dX8_balance_70 : decode cX8_balance 70 = .ok (.getfield 42, 3) := by decide +kernel
theorem dX8_balance_73 : decode cX8_balance 73 = .ok (.aload_n 0, 1) := by decide +kernel
theorem dX8_balance_74 : decode cX8_balance 74 = .ok (.getfield 28, 3) := by decide +kernel
theorem dX8_balance_77 : decode cX8_balance 77 = .ok (.iload_n 1, 1) := by decide +kernel
theorem dX8_balance_78 : decode cX8_balance 78 = .ok (.iload_n 2, 1) := by decide +kernel
theorem dX8_balance_79 : decode cX8_balance 79 = .ok (.iload_n 3, 1) := by decide +kernel
theorem dX8_balance_80 : decode cX8_balance 80 = .ok (.isub, 1) := by decide +kernel
theorem dX8_balance_81 : decode cX8_balance 81 = .ok (.invokevirtual 366, 3) := by decide +kernel
theorem dX8_balance_84 : decode cX8_balance 84 = .ok (.invokevirtual 369, 3) := by decide +kernel
theorem dX8_balance_87 : decode cX8_balance 87 = .ok (.goto 54, 3) := by decide +kernel
theorem dX8_balance_90 : decode cX8_balance 90 = .ok (.aload_n 0, 1) := by decide +kernel
theorem dX8_balance_91 : decode cX8_balance 91 = .ok (.getfield 28, 3) := by decide +kernel
theorem dX8_balance_94 : decode cX8_balance 94 = .ok (.iload_n 1, 1) := by decide +kernel
theorem dX8_balance_95 : decode cX8_balance 95 = .ok (.iload_n 3, 1) := by decide +kernel
theorem dX8_balance_96 : decode cX8_balance 96 = .ok (.iload_n 2, 1) := by decide +kernel
theorem dX8_balance_97 : decode cX8_balance 97 = .ok (.isub, 1) := by decide +kernel
theorem dX8_balance_98 : decode cX8_balance 98 = .ok (.invokevirtual 372, 3) := by decide +kernel
theorem dX8_balance_101 : decode cX8_balance 101 = .ok (.istore 4, 2) := by decide +kernel
theorem dX8_balance_103 : decode cX8_balance 103 = .ok (.aload_n 0, 1) := by decide +kernel
theorem dX8_balance_104 : decode cX8_balance 104 = .ok (.getfield 10, 3) := by decide +kernel
theorem dX8_balance_107 : decode cX8_balance 107 = .ok (.iload_n 1, 1) := by decide +kernel
theorem dX8_balance_108 : decode cX8_balance 108 = .ok (.invokevirtual 346, 3) := by decide +kernel
theorem dX8_balance_111 : decode cX8_balance 111 = .ok (.ifCond .eq 15, 3) := by decide +kernel
theorem dX8_balance_114 : decode cX8_balance 114 = .ok (.aload_n 0, 1) := by decide +kernel
theorem dX8_balance_115 : decode cX8_balance 115 = .ok (.getfield 42, 3) := by decide +kernel
theorem dX8_balance_118 : decode cX8_balance 118 = .ok (.iload 4, 2) := by decide +kernel
theorem dX8_balance_120 : decode cX8_balance 120 = .ok (.invokevirtual 375, 3) := by decide +kernel
theorem dX8_balance_123 : decode cX8_balance 123 = .ok (.goto 18, 3) := by decide +kernel
theorem dX8_balance_126 : decode cX8_balance 126 = .ok (.aload_n 0, 1) := by decide +kernel
theorem dX8_balance_127 : decode cX8_balance 127 = .ok (.getfield 42, 3) := by decide +kernel
theorem dX8_balance_130 : decode cX8_balance 130 = .ok (.dup, 1) := by decide +kernel
theorem dX8_balance_131 : decode cX8_balance 131 = .ok (.getfield 311, 3) := by decide +kernel
theorem dX8_balance_134 : decode cX8_balance 134 = .ok (.iload 4, 2) := by decide +kernel
theorem dX8_balance_136 : decode cX8_balance 136 = .ok (.i2l, 1) := by decide +kernel
theorem dX8_balance_137 : decode cX8_balance 137 = .ok (.ladd, 1) := by decide +kernel
theorem dX8_balance_138 : decode cX8_balance 138 = .ok (.putfield 311, 3) := by decide +kernel
theorem dX8_balance_141 : decode cX8_balance 141 = .ok (.return_, 1) := by decide +kernel
theorem dJ9_abs_0f7a4_0 : decode cJ9_abs_0f7a4 0 = .ok (.iload_n 0, 1) := by decide +kernel
theorem dJ9_abs_0f7a4_1 : decode cJ9_abs_0f7a4 1 = .ok (.ifCond .ge 8, 3) := by decide +kernel
theorem dJ9_abs_0f7a4_4 : decode cJ9_abs_0f7a4 4 = .ok (.iload_n 0, 1) := by decide +kernel
theorem dJ9_abs_0f7a4_5 : decode cJ9_abs_0f7a4 5 = .ok (.ineg, 1) := by decide +kernel
theorem dJ9_abs_0f7a4_6 : decode cJ9_abs_0f7a4 6 = .ok (.goto 4, 3) := by decide +kernel
theorem dJ9_abs_0f7a4_9 : decode cJ9_abs_0f7a4 9 = .ok (.iload_n 0, 1) := by decide +kernel
theorem dJ9_abs_0f7a4_10 : decode cJ9_abs_0f7a4 10 = .ok (.ireturn, 1) := by decide +kernel
theorem dJ9_max_7cf53_0 : decode cJ9_max_7cf53 0 = .ok (.iload_n 0, 1) := by decide +kernel
theorem dJ9_max_7cf53_1 : decode cJ9_max_7cf53 1 = .ok (.iload_n 1, 1) := by decide +kernel
theorem dJ9_max_7cf53_2 : decode cJ9_max_7cf53 2 = .ok (.if_icmp .lt 7, 3) := by decide +kernel
theorem dJ9_max_7cf53_5 : decode cJ9_max_7cf53 5 = .ok (.iload_n 0, 1) := by decide +kernel
theorem dJ9_max_7cf53_6 : decode cJ9_max_7cf53 6 = .ok (.goto 4, 3) := by decide +kernel
theorem dJ9_max_7cf53_9 : decode cJ9_max_7cf53 9 = .ok (.iload_n 1, 1) := by decide +kernel
theorem dJ9_max_7cf53_10 : decode cJ9_max_7cf53 10 = .ok (.ireturn, 1) := by decide +kernel
theorem dJ9_min_7cf53_0 : decode cJ9_min_7cf53 0 = .ok (.iload_n 0, 1) := by decide +kernel
theorem dJ9_min_7cf53_1 : decode cJ9_min_7cf53 1 = .ok (.iload_n 1, 1) := by decide +kernel
theorem dJ9_min_7cf53_2 : decode cJ9_min_7cf53 2 = .ok (.if_icmp .gt 7, 3) := by decide +kernel
theorem dJ9_min_7cf53_5 : decode cJ9_min_7cf53 5 = .ok (.iload_n 0, 1) := by decide +kernel
theorem dJ9_min_7cf53_6 : decode cJ9_min_7cf53 6 = .ok (.goto 4, 3) := by decide +kernel
theorem dJ9_min_7cf53_9 : decode cJ9_min_7cf53 9 = .ok (.iload_n 1, 1) := by decide +kernel
theorem dJ9_min_7cf53_10 : decode cJ9_min_7cf53 10 = .ok (.ireturn, 1) := by decide +kernel
theorem dL_cell_0 : decode cL_cell 0 = .ok (.ldc 7, 2) := by decide +kernel
theorem dL_cell_2 : decode cL_cell 2 = .ok (.iload_n 1, 1) := by decide +kernel
theorem dL_cell_3 : decode cL_cell 3 = .ok (.aload_n 0, 1) := by decide +kernel
theorem dL_cell_4 : decode cL_cell 4 = .ok (.arraylength, 1) := by decide +kernel
theorem dL_cell_5 : decode cL_cell 5 = .ok (.if_icmp .ge 9, 3) := by decide +kernel
theorem dL_cell_8 : decode cL_cell 8 = .ok (.aload_n 0, 1) := by decide +kernel
theorem dL_cell_9 : decode cL_cell 9 = .ok (.iload_n 1, 1) := by decide +kernel
theorem dL_cell_10 : decode cL_cell 10 = .ok (.iaload, 1) := by decide +kernel
theorem dL_cell_11 : decode cL_cell 11 = .ok (.goto 4, 3) := by decide +kernel
theorem dL_cell_14 : decode cL_cell 14 = .ok (.iconst 0, 1) := by decide +kernel
theorem dL_cell_15 : decode cL_cell 15 = .ok (.sipush 1009, 3) := by decide +kernel
theorem dL_cell_18 : decode cL_cell 18 = .ok (.iload_n 1, 1) := by decide +kernel
theorem dL_cell_19 : decode cL_cell 19 = .ok (.imul, 1) := by decide +kernel
theorem dL_cell_20 : decode cL_cell 20 = .ok (.iadd, 1) := by decide +kernel
theorem dL_cell_21 : decode cL_cell 21 = .ok (.imul, 1) := by decide +kernel
theorem dL_cell_22 : decode cL_cell 22 = .ok (.sipush 12345, 3) := by decide +kernel
theorem dL_cell_25 : decode cL_cell 25 = .ok (.iadd, 1) := by decide +kernel
theorem dL_cell_26 : decode cL_cell 26 = .ok (.istore_n 2, 1) := by decide +kernel
theorem dL_cell_27 : decode cL_cell 27 = .ok (.iload_n 2, 1) := by decide +kernel
theorem dL_cell_28 : decode cL_cell 28 = .ok (.iload_n 2, 1) := by decide +kernel
theorem dL_cell_29 : decode cL_cell 29 = .ok (.bipush 13, 2) := by decide +kernel
theorem dL_cell_31 : decode cL_cell 31 = .ok (.iushr, 1) := by decide +kernel
theorem dL_cell_32 : decode cL_cell 32 = .ok (.ixor, 1) := by decide +kernel
theorem dL_cell_33 : decode cL_cell 33 = .ok (.ldc 8, 2) := by decide +kernel
theorem dL_cell_35 : decode cL_cell 35 = .ok (.imul, 1) := by decide +kernel
theorem dL_cell_36 : decode cL_cell 36 = .ok (.istore_n 2, 1) := by decide +kernel
theorem dL_cell_37 : decode cL_cell 37 = .ok (.iload_n 2, 1) := by decide +kernel
theorem dL_cell_38 : decode cL_cell 38 = .ok (.iload_n 2, 1) := by decide +kernel
theorem dL_cell_39 : decode cL_cell 39 = .ok (.bipush 16, 2) := by decide +kernel
theorem dL_cell_41 : decode cL_cell 41 = .ok (.iushr, 1) := by decide +kernel
theorem dL_cell_42 : decode cL_cell 42 = .ok (.ixor, 1) := by decide +kernel
theorem dL_cell_43 : decode cL_cell 43 = .ok (.ireturn, 1) := by decide +kernel
set_option maxRecDepth 20000 in
theorem ggL_addSite_X8_addSite : GoodIn wsL_addSite wsX8_addSite := goodIn_ca (goodIn_r _ [7, 8, 9, 10, 11, 12, 13, 14, 15, 16, 17, 18, 19, 20, 21, 22, 23, 24, 25, 26, 27, 28, 29, 30, 31, 32, 33, 34, 35, 36, 37, 38, 39, 40, 41, 42, 43, 44, 45, 46, 47, 48, 49, 50, 51, 52, 53] (by decide +kernel) (by decide +kernel)) (goodIn_sub (fun _ h => List.mem_cons_of_mem _ (List.mem_append_right _ h)) (by decide +kernel))
set_option maxRecDepth 20000 in
theorem gL_addSite_X8_addSite : GoodIn wsL_addSite (wsV RL 9 RX8 yX8_addSite wsX8_addSite) := goodIn_app (goodIn_of _ (by decide +kernel)) ggL_addSite_X8_addSite
theorem dL_addSite_0 : decode cL_addSite 0 = .ok (.aload_n 0, 1) := by decide +kernel
theorem dL_addSite_1 : decode cL_addSite 1 = .ok (.invokevirtual 9, 3) := by decide +kernel
theorem dL_addSite_4 : decode cL_addSite 4 = .ok (.ireturn, 1) := by decide +kernel
theorem dL_addSite_5 : decode cL_addSite 5 = .ok (.astore_n 1, 1) := by decide +kernel
theorem dL_addSite_6 : decode cL_addSite 6 = .ok (.ldc 17, 2) := by decide +kernel
theorem dL_addSite_8 : decode cL_addSite 8 = .ok (.ireturn, 1) := by decide +kernel
set_option maxRecDepth 20000 in
theorem ggL_setPhase_X8_setPhase : GoodIn wsL_setPhase wsX8_setPhase := goodIn_ca (goodIn_ca (goodIn_r _ [9, 10, 11, 12, 13, 14, 8, 15, 16, 17, 18, 19, 20, 21, 22, 23, 24, 25, 26, 27, 28, 29, 30, 31, 32, 33, 34, 35, 36, 37, 38, 39, 40, 41, 42, 43, 44] (by decide +kernel) (by decide +kernel)) (goodIn_sub (fun _ h => List.mem_cons_of_mem _ (List.mem_append_left _ (List.mem_append_right _ h))) (by decide +kernel))) (goodIn_sub (fun _ h => List.mem_cons_of_mem _ (List.mem_append_right _ h)) (by decide +kernel))
set_option maxRecDepth 20000 in
theorem gL_setPhase_X8_setPhase : GoodIn wsL_setPhase (wsV RL 18 RX8 yX8_setPhase wsX8_setPhase) := goodIn_app (goodIn_of _ (by decide +kernel)) ggL_setPhase_X8_setPhase
theorem dL_setPhase_0 : decode cL_setPhase 0 = .ok (.aload_n 0, 1) := by decide +kernel
theorem dL_setPhase_1 : decode cL_setPhase 1 = .ok (.iload_n 1, 1) := by decide +kernel
theorem dL_setPhase_2 : decode cL_setPhase 2 = .ok (.iload_n 2, 1) := by decide +kernel
theorem dL_setPhase_3 : decode cL_setPhase 3 = .ok (.invokevirtual 18, 3) := by decide +kernel
theorem dL_setPhase_6 : decode cL_setPhase 6 = .ok (.ireturn, 1) := by decide +kernel
theorem dL_setPhase_7 : decode cL_setPhase 7 = .ok (.astore_n 3, 1) := by decide +kernel
theorem dL_setPhase_8 : decode cL_setPhase 8 = .ok (.ldc 17, 2) := by decide +kernel
theorem dL_setPhase_10 : decode cL_setPhase 10 = .ok (.ireturn, 1) := by decide +kernel
theorem dL_setPhase_11 : decode cL_setPhase 11 = .ok (.astore_n 3, 1) := by decide +kernel
theorem dL_setPhase_12 : decode cL_setPhase 12 = .ok (.ldc 26, 2) := by decide +kernel
theorem dL_setPhase_14 : decode cL_setPhase 14 = .ok (.ireturn, 1) := by decide +kernel
set_option maxRecDepth 20000 in
theorem ggL_addLine_X8_addLine : GoodIn wsL_addLine wsX8_addLine := goodIn_ca (goodIn_ca (goodIn_ca (goodIn_r _ [11, 12, 13, 14, 15, 16, 17, 18, 19, 20, 10, 21, 22, 23, 24, 25, 26, 27, 28, 29, 30, 31, 32, 33, 34, 35, 36, 37, 38, 39, 40, 41, 42, 43, 44, 45, 46, 47, 48, 49, 50, 51, 52, 53] (by decide +kernel) (by decide +kernel)) (goodIn_sub (fun _ h => List.mem_cons_of_mem _ (List.mem_append_left _ (List.mem_append_left _ (List.mem_append_right _ h)))) (by decide +kernel))) (goodIn_sub (fun _ h => List.mem_cons_of_mem _ (List.mem_append_left _ (List.mem_append_right _ h))) (by decide +kernel))) (goodIn_sub (fun _ h => List.mem_cons_of_mem _ (List.mem_append_right _ h)) (by decide +kernel))
set_option maxRecDepth 20000 in
theorem gL_addLine_X8_addLine : GoodIn wsL_addLine (wsV RL 27 RX8 yX8_addLine wsX8_addLine) := goodIn_app (goodIn_of _ (by decide +kernel)) ggL_addLine_X8_addLine
theorem dL_addLine_0 : decode cL_addLine 0 = .ok (.aload_n 0, 1) := by decide +kernel
theorem dL_addLine_1 : decode cL_addLine 1 = .ok (.iload_n 1, 1) := by decide +kernel
theorem dL_addLine_2 : decode cL_addLine 2 = .ok (.iload_n 2, 1) := by decide +kernel
theorem dL_addLine_3 : decode cL_addLine 3 = .ok (.invokevirtual 27, 3) := by decide +kernel
theorem dL_addLine_6 : decode cL_addLine 6 = .ok (.ireturn, 1) := by decide +kernel
theorem dL_addLine_7 : decode cL_addLine 7 = .ok (.astore_n 3, 1) := by decide +kernel
theorem dL_addLine_8 : decode cL_addLine 8 = .ok (.ldc 17, 2) := by decide +kernel
theorem dL_addLine_10 : decode cL_addLine 10 = .ok (.ireturn, 1) := by decide +kernel
theorem dL_addLine_11 : decode cL_addLine 11 = .ok (.astore_n 3, 1) := by decide +kernel
theorem dL_addLine_12 : decode cL_addLine 12 = .ok (.ldc 26, 2) := by decide +kernel
theorem dL_addLine_14 : decode cL_addLine 14 = .ok (.ireturn, 1) := by decide +kernel
theorem dL_addLine_15 : decode cL_addLine 15 = .ok (.astore_n 3, 1) := by decide +kernel
theorem dL_addLine_16 : decode cL_addLine 16 = .ok (.ldc 30, 2) := by decide +kernel
theorem dL_addLine_18 : decode cL_addLine 18 = .ok (.ireturn, 1) := by decide +kernel
set_option maxRecDepth 20000 in
theorem ggL_close_X8_close : GoodIn wsL_close wsX8_close := goodIn_ca (goodIn_ca (goodIn_ca (goodIn_r _ [11, 12, 13, 14, 15, 16, 17, 18, 19, 20, 10, 21, 22, 23, 24, 25, 26, 27, 28, 29, 30, 31, 32, 33, 34, 35, 36, 37, 38, 39, 40, 41, 42, 43, 44, 45, 46, 47, 48, 49, 50, 51, 52, 53, 54, 55, 56, 57, 58, 59, 60, 61, 62, 63, 64, 65, 66, 67, 68, 69, 70, 71, 72, 73, 74, 75, 76, 77, 78, 79, 80, 81, 82, 83, 84, 85, 86, 87, 88, 89, 90, 91, 92, 93] (by decide +kernel) (by decide +kernel)) (goodIn_sub (fun _ h => List.mem_cons_of_mem _ (List.mem_append_left _ (List.mem_append_left _ (List.mem_append_right _ h)))) (by decide +kernel))) (goodIn_sub (fun _ h => List.mem_cons_of_mem _ (List.mem_append_left _ (List.mem_append_right _ h))) (by decide +kernel))) (goodIn_sub (fun _ h => List.mem_cons_of_mem _ (List.mem_append_right _ h)) (by decide +kernel))
