set_option maxRecDepth 20000 in
theorem gX8_boundOf_X0_sumOfSupply : GoodIn wsX8_boundOf (wsV RX8 350 RX0 yX0_sumOfSupply wsX0_sumOfSupply) := goodIn_app (goodIn_of _ (by decide +kernel)) ggX8_boundOf_X0_sumOfSupply
set_option maxRecDepth 20000 in
theorem ggX8_boundOf_X6_sumOfSupply : GoodIn wsX8_boundOf wsX6_sumOfSupply := goodIn_r _ [44, 45, 46, 47, 48, 49, 43, 50, 51, 52, 53, 54, 55, 56, 57, 58, 59, 60, 61, 38, 7, 39, 93, 94, 95, 70, 71, 72, 73, 74, 75, 76, 77, 78, 79, 96, 97, 98, 99, 100] (by decide +kernel) (by decide +kernel)
set_option maxRecDepth 20000 in
theorem gX8_boundOf_X6_sumOfSupply : GoodIn wsX8_boundOf (wsV RX8 353 RX6 yX6_sumOfSupply wsX6_sumOfSupply) := goodIn_app (goodIn_of _ (by decide +kernel)) ggX8_boundOf_X6_sumOfSupply
theorem dX8_boundOf_0 : decode cX8_boundOf 0 = .ok (.aload_n 0, 1) := by decide +kernel
theorem dX8_boundOf_1 : decode cX8_boundOf 1 = .ok (.getfield 10, 3) := by decide +kernel
theorem dX8_boundOf_4 : decode cX8_boundOf 4 = .ok (.iload_n 1, 1) := by decide +kernel
theorem dX8_boundOf_5 : decode cX8_boundOf 5 = .ok (.invokevirtual 346, 3) := by decide +kernel
theorem dX8_boundOf_8 : decode cX8_boundOf 8 = .ok (.ifCond .eq 5, 3) := by decide +kernel
theorem dX8_boundOf_11 : decode cX8_boundOf 11 = .ok (.iconst (-1), 1) := by decide +kernel
theorem dX8_boundOf_12 : decode cX8_boundOf 12 = .ok (.ireturn, 1) := by decide +kernel
theorem dX8_boundOf_13 : decode cX8_boundOf 13 = .ok (.iconst 0, 1) := by decide +kernel
theorem dX8_boundOf_14 : decode cX8_boundOf 14 = .ok (.aload_n 0, 1) := by decide +kernel
theorem dX8_boundOf_15 : decode cX8_boundOf 15 = .ok (.getfield 21, 3) := by decide +kernel
theorem dX8_boundOf_18 : decode cX8_boundOf 18 = .ok (.iload_n 1, 1) := by decide +kernel
theorem dX8_boundOf_19 : decode cX8_boundOf 19 = .ok (.invokevirtual 350, 3) := by decide +kernel
theorem dX8_boundOf_22 : decode cX8_boundOf 22 = .ok (.aload_n 0, 1) := by decide +kernel
theorem dX8_boundOf_23 : decode cX8_boundOf 23 = .ok (.getfield 28, 3) := by decide +kernel
theorem dX8_boundOf_26 : decode cX8_boundOf 26 = .ok (.iload_n 1, 1) := by decide +kernel
theorem dX8_boundOf_27 : decode cX8_boundOf 27 = .ok (.invokevirtual 353, 3) := by decide +kernel
theorem dX8_boundOf_30 : decode cX8_boundOf 30 = .ok (.iadd, 1) := by decide +kernel
theorem dX8_boundOf_31 : decode cX8_boundOf 31 = .ok (.aload_n 0, 1) := by decide +kernel
theorem dX8_boundOf_32 : decode cX8_boundOf 32 = .ok (.getfield 249, 3) := by decide +kernel
theorem dX8_boundOf_35 : decode cX8_boundOf 35 = .ok (.isub, 1) := by decide +kernel
theorem dX8_boundOf_36 : decode cX8_boundOf 36 = .ok (.invokestatic 146, 3) := by decide +kernel
theorem dX8_boundOf_39 : decode cX8_boundOf 39 = .ok (.ireturn, 1) := by decide +kernel
set_option maxRecDepth 20000 in
theorem ggX8_passOneTick_X0_beginTick : GoodIn wsX8_passOneTick wsX0_beginTick := goodIn_r _ [12, 13, 14, 15, 16, 17, 18, 19, 20, 21, 22, 23, 24, 25, 26, 27, 28, 29, 30, 31, 32, 231, 232, 233, 234, 235, 236, 237, 238, 239, 240, 241, 242, 243] (by decide +kernel) (by decide +kernel)
set_option maxRecDepth 20000 in
theorem gX8_passOneTick_X0_beginTick : GoodIn wsX8_passOneTick (wsV RX8 354 RX0 yX0_beginTick wsX0_beginTick) := goodIn_app (goodIn_of _ (by decide +kernel)) ggX8_passOneTick_X0_beginTick
set_option maxRecDepth 20000 in
theorem ggX8_passOneTick_X8_balance : GoodIn wsX8_passOneTick wsX8_balance := goodIn_r _ [37, 38, 39, 2, 3, 40, 41, 42, 5, 43, 44, 45, 46, 36, 47, 48, 49, 50, 51, 52, 53, 54, 55, 56, 57, 58, 59, 60, 61, 11, 62, 13, 14, 63, 64, 65, 66, 67, 68, 69, 70, 71, 72, 73, 18, 74, 75, 27, 76, 77, 78, 79, 80, 81, 82, 83, 84, 85, 86, 87, 88, 89, 90, 91, 92, 93, 94, 95, 96, 97, 98, 99, 100, 101, 102, 103, 104, 105, 106, 107, 108, 109, 110, 111, 112, 113, 114, 115, 116, 117, 118, 119, 120, 121, 122, 123, 124, 125, 126, 127, 128, 129, 130, 131, 132, 133, 134, 135, 136, 137, 138, 139, 140, 141, 142, 143, 144, 145, 146, 147, 148, 149, 150, 151, 152, 153, 154, 155, 156, 28, 157, 158, 159, 160, 161, 162, 163, 164, 165, 166, 167, 168, 169, 170, 171, 172, 173, 174, 175, 20, 176, 177, 178, 179, 180, 181, 182, 183, 184, 185, 186, 187, 188, 189, 190, 191, 192, 193, 194, 195, 196, 197, 198, 199, 200, 201, 202, 203, 204, 205, 206, 207, 208, 209, 210, 211, 212, 213, 214, 215, 216, 217, 218, 219, 220, 221, 222, 223, 224, 225, 226, 227, 228, 229, 230, 231, 232, 233, 234, 235, 236, 237, 238, 239, 240, 241, 242, 243, 244, 245, 246, 247, 248, 249, 250, 251, 252, 253, 254, 255, 256, 257, 258, 259, 260] (by decide +kernel) (by decide +kernel)
set_option maxRecDepth 20000 in
theorem gX8_passOneTick_X8_balance : GoodIn wsX8_passOneTick (wsV RX8 357 RX8 yX8_balance wsX8_balance) := goodIn_app (goodIn_of _ (by decide +kernel)) ggX8_passOneTick_X8_balance
theorem dX8_passOneTick_0 : decode cX8_passOneTick 0 = .ok (.aload_n 0, 1) := by decide +kernel
theorem dX8_passOneTick_1 : decode cX8_passOneTick 1 = .ok (.dup, 1) := by decide +kernel
theorem dX8_passOneTick_2 : decode cX8_passOneTick 2 = .ok (.getfield 294, 3) := by decide +kernel
theorem dX8_passOneTick_5 : decode cX8_passOneTick 5 = .ok (.iconst 1, 1) := by decide +kernel
theorem dX8_passOneTick_6 : decode cX8_passOneTick 6 = .ok (.iadd, 1) := by decide +kernel
theorem dX8_passOneTick_7 : decode cX8_passOneTick 7 = .ok (.putfield 294, 3) := by decide +kernel
theorem dX8_passOneTick_10 : decode cX8_passOneTick 10 = .ok (.aload_n 0, 1) := by decide +kernel
theorem dX8_passOneTick_11 : decode cX8_passOneTick 11 = .ok (.getfield 21, 3) := by decide +kernel
theorem dX8_passOneTick_14 : decode cX8_passOneTick 14 = .ok (.invokevirtual 354, 3) := by decide +kernel
theorem dX8_passOneTick_17 : decode cX8_passOneTick 17 = .ok (.aload_n 0, 1) := by decide +kernel
theorem dX8_passOneTick_18 : decode cX8_passOneTick 18 = .ok (.getfield 42, 3) := by decide +kernel
theorem dX8_passOneTick_21 : decode cX8_passOneTick 21 = .ok (.iconst 0, 1) := by decide +kernel
theorem dX8_passOneTick_22 : decode cX8_passOneTick 22 = .ok (.putfield 301, 3) := by decide +kernel
theorem dX8_passOneTick_25 : decode cX8_passOneTick 25 = .ok (.iconst 0, 1) := by decide +kernel
theorem dX8_passOneTick_26 : decode cX8_passOneTick 26 = .ok (.istore_n 1, 1) := by decide +kernel
theorem dX8_passOneTick_27 : decode cX8_passOneTick 27 = .ok (.iload_n 1, 1) := by decide +kernel
theorem dX8_passOneTick_28 : decode cX8_passOneTick 28 = .ok (.aload_n 0, 1) := by decide +kernel
theorem dX8_passOneTick_29 : decode cX8_passOneTick 29 = .ok (.getfield 10, 3) := by decide +kernel
theorem dX8_passOneTick_32 : decode cX8_passOneTick 32 = .ok (.getfield 50, 3) := by decide +kernel
theorem dX8_passOneTick_35 : decode cX8_passOneTick 35 = .ok (.if_icmp .ge 27, 3) := by decide +kernel
theorem dX8_passOneTick_38 : decode cX8_passOneTick 38 = .ok (.aload_n 0, 1) := by decide +kernel
theorem dX8_passOneTick_39 : decode cX8_passOneTick 39 = .ok (.getfield 10, 3) := by decide +kernel
theorem dX8_passOneTick_42 : decode cX8_passOneTick 42 = .ok (.getfield 140, 3) := by decide +kernel
theorem dX8_passOneTick_45 : decode cX8_passOneTick 45 = .ok (.iload_n 1, 1) := by decide +kernel
theorem dX8_passOneTick_46 : decode cX8_passOneTick 46 = .ok (.iaload, 1) := by decide +kernel
theorem dX8_passOneTick_47 : decode cX8_passOneTick 47 = .ok (.iload_n 1, 1) := by decide +kernel
theorem dX8_passOneTick_48 : decode cX8_passOneTick 48 = .ok (.if_icmp .ne 8, 3) := by decide +kernel
theorem dX8_passOneTick_51 : decode cX8_passOneTick 51 = .ok (.aload_n 0, 1) := by decide +kernel
theorem dX8_passOneTick_52 : decode cX8_passOneTick 52 = .ok (.iload_n 1, 1) := by decide +kernel
theorem dX8_passOneTick_53 : decode cX8_passOneTick 53 = .ok (.invokevirtual 357, 3) := by decide +kernel
theorem dX8_passOneTick_56 : decode cX8_passOneTick 56 = .ok (.iinc 1 1, 3) := by decide +kernel
theorem dX8_passOneTick_59 : decode cX8_passOneTick 59 = .ok (.goto (-32), 3) := by decide +kernel
theorem dX8_passOneTick_62 : decode cX8_passOneTick 62 = .ok (.return_, 1) := by decide +kernel
set_option maxRecDepth 20000 in
theorem ggX8_balance_X8_boundOf : GoodIn wsX8_balance wsX8_boundOf := goodIn_r _ [14, 8, 3, 7, 15, 16, 17, 18, 19, 20, 21, 22, 23, 24, 25, 26, 27, 28, 29, 30, 31, 32, 33, 34, 35, 36, 37, 38, 39, 40, 41, 42, 43, 44, 45, 46, 47, 48, 49, 50, 51, 52, 53, 54, 55, 56, 57, 58, 59, 60, 61, 62, 63, 64, 65, 66, 67, 68, 69, 70, 71, 72, 181, 182, 183, 184, 185, 186, 187, 188, 195, 196, 197, 198, 199, 200, 201, 202, 203, 204, 205, 206, 207, 208, 209, 210, 211, 212, 213, 214, 215, 216, 217, 218, 219, 220, 221, 222, 223, 224, 225] (by decide +kernel) (by decide +kernel)
set_option maxRecDepth 20000 in
theorem gX8_balance_X8_boundOf : GoodIn wsX8_balance (wsV RX8 252 RX8 yX8_boundOf wsX8_boundOf) := goodIn_app (goodIn_of _ (by decide +kernel)) ggX8_balance_X8_boundOf
set_option maxRecDepth 20000 in
theorem ggX8_balance_X4_shed : GoodIn wsX8_balance wsX4_shed := goodIn_r _ [77, 78, 79, 80, 81, 82, 76, 83, 84, 85, 86, 87, 88, 89, 90, 91, 92, 93, 94, 95, 96, 97, 98, 99, 100, 101, 102, 103, 104, 105, 106, 107, 108, 226, 227, 228, 195, 196, 197, 198, 199, 200, 201, 202, 203, 204, 229, 230, 231, 232, 233, 234] (by decide +kernel) (by decide +kernel)
set_option maxRecDepth 20000 in
theorem gX8_balance_X4_shed : GoodIn wsX8_balance (wsV RX8 360 RX4 yX4_shed wsX4_shed) := goodIn_app (goodIn_of _ (by decide +kernel)) ggX8_balance_X4_shed
set_option maxRecDepth 20000 in
theorem ggX8_balance_X4_sumOfLit : GoodIn wsX8_balance wsX4_sumOfLit := goodIn_r _ [112, 78, 79, 113, 95, 80, 81, 82, 76, 83, 84, 85, 86, 226, 227, 228, 229, 230, 231, 232, 233, 234, 195, 196, 197, 198, 199, 200, 201, 202, 203, 204] (by decide +kernel) (by decide +kernel)
set_option maxRecDepth 20000 in
theorem gX8_balance_X4_sumOfLit : GoodIn wsX8_balance (wsV RX8 255 RX4 yX4_sumOfLit wsX4_sumOfLit) := goodIn_app (goodIn_of _ (by decide +kernel)) ggX8_balance_X4_sumOfLit
set_option maxRecDepth 20000 in
theorem ggX8_balance_X0_giveFor : GoodIn wsX8_balance wsX0_giveFor := goodIn_r _ [117, 31, 32, 118, 119, 120, 121, 122, 29, 123, 124, 33, 34, 35, 36, 37, 38, 39, 40, 125, 126, 127, 44, 128, 129, 130, 17, 18, 19, 131, 42, 43, 45, 46, 47, 48, 49, 50, 132, 133, 134, 135, 136, 137, 138, 139, 140, 141, 142, 143, 144, 145, 146, 147, 148, 149, 205, 206, 207, 208, 209, 210, 211, 212, 213, 214, 215, 216, 217, 195, 196, 197, 198, 199, 200, 201, 202, 203, 204] (by decide +kernel) (by decide +kernel)
set_option maxRecDepth 20000 in
theorem gX8_balance_X0_giveFor : GoodIn wsX8_balance (wsV RX8 363 RX0 yX0_giveFor wsX0_giveFor) := goodIn_app (goodIn_of _ (by decide +kernel)) ggX8_balance_X0_giveFor
set_option maxRecDepth 20000 in
theorem ggX8_balance_X6_dischargeUpTo : GoodIn wsX8_balance wsX6_dischargeUpTo := goodIn_r _ [153, 56, 57, 154, 49, 18, 50, 58, 59, 60, 54, 61, 62, 63, 64, 65, 66, 67, 68, 69, 70, 71, 72, 155, 156, 157, 158, 159, 218, 219, 220, 195, 196, 197, 198, 199, 200, 201, 202, 203, 204, 221, 222, 223, 224, 225] (by decide +kernel) (by decide +kernel)
set_option maxRecDepth 20000 in
theorem gX8_balance_X6_dischargeUpTo : GoodIn wsX8_balance (wsV RX8 366 RX6 yX6_dischargeUpTo wsX6_dischargeUpTo) := goodIn_app (goodIn_of _ (by decide +kernel)) ggX8_balance_X6_dischargeUpTo
set_option maxRecDepth 20000 in
theorem ggX8_balance_X2_takeFromGrid : GoodIn wsX8_balance wsX2_takeFromGrid := goodIn_r _ [164, 165, 166, 189, 190, 191, 192, 193, 194] (by decide +kernel) (by decide +kernel)
set_option maxRecDepth 20000 in
theorem gX8_balance_X2_takeFromGrid : GoodIn wsX8_balance (wsV RX8 369 RX2 yX2_takeFromGrid wsX2_takeFromGrid) := goodIn_app (goodIn_of _ (by decide +kernel)) ggX8_balance_X2_takeFromGrid
set_option maxRecDepth 20000 in
theorem ggX8_balance_X6_chargeUpTo : GoodIn wsX8_balance wsX6_chargeUpTo := goodIn_r _ [170, 56, 57, 154, 49, 18, 50, 58, 59, 60, 54, 61, 62, 63, 64, 171, 172, 173, 68, 174, 70, 175, 71, 72, 155, 156, 157, 158, 159, 218, 219, 220, 195, 196, 197, 198, 199, 200, 201, 202, 203, 204, 221, 222, 223, 224, 225] (by decide +kernel) (by decide +kernel)
set_option maxRecDepth 20000 in
theorem gX8_balance_X6_chargeUpTo : GoodIn wsX8_balance (wsV RX8 372 RX6 yX6_chargeUpTo wsX6_chargeUpTo) := goodIn_app (goodIn_of _ (by decide +kernel)) ggX8_balance_X6_chargeUpTo
set_option maxRecDepth 20000 in
theorem ggX8_balance_X5_isTied : GoodIn wsX8_balance wsX5_isTied := goodIn_r _ [24, 25, 195, 196, 197, 198, 199, 200, 201, 202, 203, 204] (by decide +kernel) (by decide +kernel)
set_option maxRecDepth 20000 in
theorem gX8_balance_X5_isTied : GoodIn wsX8_balance (wsV RX8 346 RX5 yX5_isTied wsX5_isTied) := goodIn_app (goodIn_of _ (by decide +kernel)) ggX8_balance_X5_isTied
set_option maxRecDepth 20000 in
theorem ggX8_balance_X2_giveToGrid : GoodIn wsX8_balance wsX2_giveToGrid := goodIn_r _ [179, 165, 180, 189, 190, 191, 192, 193, 194] (by decide +kernel) (by decide +kernel)
set_option maxRecDepth 20000 in
theorem gX8_balance_X2_giveToGrid : GoodIn wsX8_balance (wsV RX8 375 RX2 yX2_giveToGrid wsX2_giveToGrid) := goodIn_app (goodIn_of _ (by decide +kernel)) ggX8_balance_X2_giveToGrid
theorem dX8_balance_0 : decode cX8_balance 0 = .ok (.aload_n 0, 1) := by decide +kernel
theorem dX8_balance_1 : decode cX8_balance 1 = .ok (.getfield 35, 3) := by decide +kernel
theorem dX8_balance_4 : decode cX8_balance 4 = .ok (.iload_n 1, 1) := by decide +kernel
theorem dX8_balance_5 : decode cX8_balance 5 = .ok (.aload_n 0, 1) := by decide +kernel
theorem dX8_balance_6 : decode cX8_balance 6 = .ok (.iload_n 1, 1) := by decide +kernel
theorem dX8_balance_7 : decode cX8_balance 7 = .ok (.invokevirtual 252, 3) := by decide +kernel
theorem dX8_balance_10 : decode cX8_balance 10 = .ok (.aload_n 0, 1) := by decide +kernel
theorem dX8_balance_11 : decode cX8_balance 11 = .ok (.getfield 46, 3) := by decide +kernel
theorem dX8_balance_14 : decode cX8_balance 14 = .ok (.invokevirtual 360, 3) := by decide +kernel
theorem dX8_balance_17 : decode cX8_balance 17 = .ok (.aload_n 0, 1) := by decide +kernel
theorem dX8_balance_18 : decode cX8_balance 18 = .ok (.getfield 35, 3) := by decide +kernel
theorem dX8_balance_21 : decode cX8_balance 21 = .ok (.iload_n 1, 1) := by decide +kernel
theorem dX8_balance_22 : decode cX8_balance 22 = .ok (.invokevirtual 255, 3) := by decide +kernel
theorem dX8_balance_25 : decode cX8_balance 25 = .ok (.istore_n 2, 1) := by decide +kernel
theorem dX8_balance_26 : decode cX8_balance 26 = .ok (.aload_n 0, 1) := by decide +kernel
theorem dX8_balance_27 : decode cX8_balance 27 = .ok (.getfield 21, 3) := by decide +kernel
theorem dX8_balance_30 : decode cX8_balance 30 = .ok (.iload_n 1, 1) := by decide +kernel
theorem dX8_balance_31 : decode cX8_balance 31 = .ok (.iload_n 2, 1) := by decide +kernel
theorem dX8_balance_32 : decode cX8_balance 32 = .ok (.invokevirtual 363, 3) := by decide +kernel
theorem dX8_balance_35 : decode cX8_balance 35 = .ok (.istore_n 3, 1) := by decide +kernel
theorem dX8_balance_36 : decode cX8_balance 36 = .ok (.aload_n 0, 1) := by decide +kernel
theorem dX8_balance_37 : decode cX8_balance 37 = .ok (.getfield 42, 3) := by decide +kernel
theorem dX8_balance_40 : decode cX8_balance 40 = .ok (.dup, 1) := by decide +kernel
theorem dX8_balance_41 : decode cX8_balance 41 = .ok (.getfield 308, 3) := by decide +kernel
theorem dX8_balance_44 : decode cX8_balance 44 = .ok (.iload_n 2, 1) := by decide +kernel
theorem dX8_balance_45 : decode cX8_balance 45 = .ok (.i2l, 1) := by decide +kernel
theorem dX8_balance_46 : decode cX8_balance 46 = .ok (.ladd, 1) := by decide +kernel
theorem dX8_balance_47 : decode cX8_balance 47 = .ok (.putfield 308, 3) := by decide +kernel
theorem dX8_balance_50 : decode cX8_balance 50 = .ok (.aload_n 0, 1) := by decide +kernel
theorem dX8_balance_51 : decode cX8_balance 51 = .ok (.getfield 42, 3) := by decide +kernel
theorem dX8_balance_54 : decode cX8_balance 54 = .ok (.dup, 1) := by decide +kernel
theorem dX8_balance_55 : decode cX8_balance 55 = .ok (.getfield 304, 3) := by decide +kernel
theorem dX8_balance_58 : decode cX8_balance 58 = .ok (.iload_n 3, 1) := by decide +kernel
theorem dX8_balance_59 : decode cX8_balance 59 = .ok (.i2l, 1) := by decide +kernel
theorem dX8_balance_60 : decode cX8_balance 60 = .ok (.ladd, 1) := by decide +kernel
theorem dX8_balance_61 : decode cX8_balance 61 = .ok (.putfield 304, 3) := by decide +kernel
theorem dX8_balance_64 : decode cX8_balance 64 = .ok (.iload_n 3, 1) := by decide +kernel
theorem dX8_balance_65 : decode cX8_balance 65 = .ok (.iload_n 2, 1) := by decide +kernel
theorem dX8_balance_66 : decode cX8_balance 66 = .ok (.if_icmp .ge 24, 3) := by decide +kernel
theorem dX8_balance_69 : decode cX8_balance 69 = .ok (.aload_n 0, 1) := by decide +kernel
theorem dX8_balance_70 : decode cX8_balance 70 = .ok (.getfield 42, 3) := by decide +kernel
theorem dX8_balance_73 : decode cX8_balance 73 = .ok (.aload_n 0, 1) := by decide +kernel
theorem dX8_balance_74 : decode cX8_balance 74 = .ok (.getfield 28, 3) := by decide +kernel
theorem dX8_balance_77 : decode cX8_balance 77 = .ok (.iload_n 1, 1) := by decide +kernel
theorem dX8_balance_78 : decode cX8_balance 78 = .ok (.iload_n 2, 1) := by decide +kernel
theorem dX8_balance_79 : decode cX8_balance 79 = .ok (.iload_n 3, 1) := by decide +kernel
theorem dX8_balance_80 : decode cX8_balance 80 = .ok (.isub, 1) := by decide +kernel
theorem dX8_balance_81 : decode cX8_balance 81 = .ok (.invokevirtual 366, 3) := by decide +kernel
theorem dX8_balance_84 : decode cX8_balance 84 = .ok (.invokevirtual 369, 3) := by decide +kernel
theorem dX8_balance_87 : decode cX8_balance 87 = .ok (.goto 54, 3) := by decide +kernel
theorem dX8_balance_90 : decode cX8_balance 90 = .ok (.aload_n 0, 1) := by decide +kernel
theorem dX8_balance_91 : decode cX8_balance 91 = .ok (.getfield 28, 3) := by decide +kernel
theorem dX8_balance_94 : decode cX8_balance 94 = .ok (.iload_n 1, 1) := by decide +kernel
theorem dX8_balance_95 : decode cX8_balance 95 = .ok (.iload_n 3, 1) := by decide +kernel
theorem dX8_balance_96 : decode cX8_balance 96 = .ok (.iload_n 2, 1) := by decide +kernel
theorem dX8_balance_97 : decode cX8_balance 97 = .ok (.isub, 1) := by decide +kernel
theorem dX8_balance_98 : decode cX8_balance 98 = .ok (.invokevirtual 372, 3) := by decide +kernel
theorem dX8_balance_101 : decode cX8_balance 101 = .ok (.istore 4, 2) := by decide +kernel
theorem dX8_balance_103 : decode cX8_balance 103 = .ok (.aload_n 0, 1) := by decide +kernel
theorem dX8_balance_104 : decode cX8_balance 104 = .ok (.getfield 10, 3) := by decide +kernel
theorem dX8_balance_107 : decode cX8_balance 107 = .ok (.iload_n 1, 1) := by decide +kernel
theorem dX8_balance_108 : decode cX8_balance 108 = .ok (.invokevirtual 346, 3) := by decide +kernel
theorem dX8_balance_111 : decode cX8_balance 111 = .ok (.ifCond .eq 15, 3) := by decide +kernel
theorem dX8_balance_114 : decode cX8_balance 114 = .ok (.aload_n 0, 1) := by decide +kernel
theorem dX8_balance_115 : decode cX8_balance 115 = .ok (.getfield 42, 3) := by decide +kernel
theorem dX8_balance_118 : decode cX8_balance 118 = .ok (.iload 4, 2) := by decide +kernel
theorem dX8_balance_120 : decode cX8_balance 120 = .ok (.invokevirtual 375, 3) := by decide +kernel
theorem dX8_balance_123 : decode cX8_balance 123 = .ok (.goto 18, 3) := by decide +kernel
theorem dX8_balance_126 : decode cX8_balance 126 = .ok (.aload_n 0, 1) := by decide +kernel
theorem dX8_balance_127 : decode cX8_balance 127 = .ok (.getfield 42, 3) := by decide +kernel
theorem dX8_balance_130 : decode cX8_balance 130 = .ok (.dup, 1) := by decide +kernel
theorem dX8_balance_131 : decode cX8_balance 131 = .ok (.getfield 311, 3) := by decide +kernel
theorem dX8_balance_134 : decode cX8_balance 134 = .ok (.iload 4, 2) := by decide +kernel
theorem dX8_balance_136 : decode cX8_balance 136 = .ok (.i2l, 1) := by decide +kernel
theorem dX8_balance_137 : decode cX8_balance 137 = .ok (.ladd, 1) := by decide +kernel
theorem dX8_balance_138 : decode cX8_balance 138 = .ok (.putfield 311, 3) := by decide +kernel
theorem dX8_balance_141 : decode cX8_balance 141 = .ok (.return_, 1) := by decide +kernel
theorem dX9_init_0 : decode cX9_init 0 = .ok (.aload_n 0, 1) := by decide +kernel
theorem dX9_init_1 : decode cX9_init 1 = .ok (.invokespecial 1, 3) := by decide +kernel
theorem dX9_init_4 : decode cX9_init 4 = .ok (.aload_n 0, 1) := by decide +kernel
theorem dX9_init_5 : decode cX9_init 5 = .ok (.bipush 6, 2) := by decide +kernel
theorem dX9_init_7 : decode cX9_init 7 = .ok (.newarray .int, 2) := by decide +kernel
theorem dX9_init_9 : decode cX9_init 9 = .ok (.putfield 9, 3) := by decide +kernel
theorem dX9_init_12 : decode cX9_init 12 = .ok (.aload_n 0, 1) := by decide +kernel
theorem dX9_init_13 : decode cX9_init 13 = .ok (.bipush 6, 2) := by decide +kernel
theorem dX9_init_15 : decode cX9_init 15 = .ok (.newarray .int, 2) := by decide +kernel
theorem dX9_init_17 : decode cX9_init 17 = .ok (.putfield 13, 3) := by decide +kernel
theorem dX9_init_20 : decode cX9_init 20 = .ok (.aload_n 0, 1) := by decide +kernel
theorem dX9_init_21 : decode cX9_init 21 = .ok (.bipush 8, 2) := by decide +kernel
theorem dX9_init_23 : decode cX9_init 23 = .ok (.newarray .int, 2) := by decide +kernel
theorem dX9_init_25 : decode cX9_init 25 = .ok (.putfield 16, 3) := by decide +kernel
theorem dX9_init_28 : decode cX9_init 28 = .ok (.aload_n 0, 1) := by decide +kernel
theorem dX9_init_29 : decode cX9_init 29 = .ok (.bipush 8, 2) := by decide +kernel
theorem dX9_init_31 : decode cX9_init 31 = .ok (.newarray .int, 2) := by decide +kernel
theorem dX9_init_33 : decode cX9_init 33 = .ok (.putfield 19, 3) := by decide +kernel
theorem dX9_init_36 : decode cX9_init 36 = .ok (.aload_n 0, 1) := by decide +kernel
theorem dX9_init_37 : decode cX9_init 37 = .ok (.bipush 8, 2) := by decide +kernel
theorem dX9_init_39 : decode cX9_init 39 = .ok (.newarray .boolean, 2) := by decide +kernel
theorem dX9_init_41 : decode cX9_init 41 = .ok (.putfield 22, 3) := by decide +kernel
theorem dX9_init_44 : decode cX9_init 44 = .ok (.aload_n 0, 1) := by decide +kernel
theorem dX9_init_45 : decode cX9_init 45 = .ok (.bipush 10, 2) := by decide +kernel
theorem dX9_init_47 : decode cX9_init 47 = .ok (.newarray .boolean, 2) := by decide +kernel
theorem dX9_init_49 : decode cX9_init 49 = .ok (.putfield 26, 3) := by decide +kernel
theorem dX9_init_52 : decode cX9_init 52 = .ok (.aload_n 0, 1) := by decide +kernel
theorem dX9_init_53 : decode cX9_init 53 = .ok (.bipush 6, 2) := by decide +kernel
theorem dX9_init_55 : decode cX9_init 55 = .ok (.newarray .int, 2) := by decide +kernel
theorem dX9_init_57 : decode cX9_init 57 = .ok (.putfield 29, 3) := by decide +kernel
theorem dX9_init_60 : decode cX9_init 60 = .ok (.aload_n 0, 1) := by decide +kernel
theorem dX9_init_61 : decode cX9_init 61 = .ok (.bipush 6, 2) := by decide +kernel
theorem dX9_init_63 : decode cX9_init 63 = .ok (.newarray .int, 2) := by decide +kernel
theorem dX9_init_65 : decode cX9_init 65 = .ok (.putfield 32, 3) := by decide +kernel
theorem dX9_init_68 : decode cX9_init 68 = .ok (.aload_n 0, 1) := by decide +kernel
theorem dX9_init_69 : decode cX9_init 69 = .ok (.bipush 6, 2) := by decide +kernel
theorem dX9_init_71 : decode cX9_init 71 = .ok (.newarray .int, 2) := by decide +kernel
theorem dX9_init_73 : decode cX9_init 73 = .ok (.putfield 35, 3) := by decide +kernel
theorem dX9_init_76 : decode cX9_init 76 = .ok (.aload_n 0, 1) := by decide +kernel
theorem dX9_init_77 : decode cX9_init 77 = .ok (.bipush 6, 2) := by decide +kernel
theorem dX9_init_79 : decode cX9_init 79 = .ok (.newarray .int, 2) := by decide +kernel
theorem dX9_init_81 : decode cX9_init 81 = .ok (.putfield 38, 3) := by decide +kernel
theorem dX9_init_84 : decode cX9_init 84 = .ok (.aload_n 0, 1) := by decide +kernel
theorem dX9_init_85 : decode cX9_init 85 = .ok (.bipush 6, 2) := by decide +kernel
theorem dX9_init_87 : decode cX9_init 87 = .ok (.newarray .int, 2) := by decide +kernel
theorem dX9_init_89 : decode cX9_init 89 = .ok (.putfield 41, 3) := by decide +kernel
theorem dX9_init_92 : decode cX9_init 92 = .ok (.aload_n 0, 1) := by decide +kernel
theorem dX9_init_93 : decode cX9_init 93 = .ok (.bipush 6, 2) := by decide +kernel
theorem dX9_init_95 : decode cX9_init 95 = .ok (.newarray .int, 2) := by decide +kernel
theorem dX9_init_97 : decode cX9_init 97 = .ok (.putfield 44, 3) := by decide +kernel
theorem dX9_init_100 : decode cX9_init 100 = .ok (.aload_n 0, 1) := by decide +kernel
theorem dX9_init_101 : decode cX9_init 101 = .ok (.bipush 6, 2) := by decide +kernel
theorem dX9_init_103 : decode cX9_init 103 = .ok (.newarray .int, 2) := by decide +kernel
theorem dX9_init_105 : decode cX9_init 105 = .ok (.putfield 47, 3) := by decide +kernel
theorem dX9_init_108 : decode cX9_init 108 = .ok (.aload_n 0, 1) := by decide +kernel
theorem dX9_init_109 : decode cX9_init 109 = .ok (.bipush 6, 2) := by decide +kernel
theorem dX9_init_111 : decode cX9_init 111 = .ok (.newarray .char, 2) := by decide +kernel
theorem dX9_init_113 : decode cX9_init 113 = .ok (.putfield 50, 3) := by decide +kernel
theorem dX9_init_116 : decode cX9_init 116 = .ok (.aload_n 0, 1) := by decide +kernel
theorem dX9_init_117 : decode cX9_init 117 = .ok (.iconst 4, 1) := by decide +kernel
theorem dX9_init_118 : decode cX9_init 118 = .ok (.newarray .int, 2) := by decide +kernel
theorem dX9_init_120 : decode cX9_init 120 = .ok (.putfield 54, 3) := by decide +kernel
theorem dX9_init_123 : decode cX9_init 123 = .ok (.aload_n 0, 1) := by decide +kernel
theorem dX9_init_124 : decode cX9_init 124 = .ok (.iconst 4, 1) := by decide +kernel
theorem dX9_init_125 : decode cX9_init 125 = .ok (.newarray .int, 2) := by decide +kernel
theorem dX9_init_127 : decode cX9_init 127 = .ok (.putfield 57, 3) := by decide +kernel
theorem dX9_init_130 : decode cX9_init 130 = .ok (.aload_n 0, 1) := by decide +kernel
theorem dX9_init_131 : decode cX9_init 131 = .ok (.iconst 4, 1) := by decide +kernel
theorem dX9_init_132 : decode cX9_init 132 = .ok (.newarray .int, 2) := by decide +kernel
theorem dX9_init_134 : decode cX9_init 134 = .ok (.putfield 60, 3) := by decide +kernel
theorem dX9_init_137 : decode cX9_init 137 = .ok (.aload_n 0, 1) := by decide +kernel
theorem dX9_init_138 : decode cX9_init 138 = .ok (.iconst 4, 1) := by decide +kernel
theorem dX9_init_139 : decode cX9_init 139 = .ok (.newarray .int, 2) := by decide +kernel
theorem dX9_init_141 : decode cX9_init 141 = .ok (.putfield 63, 3) := by decide +kernel
theorem dX9_init_144 : decode cX9_init 144 = .ok (.aload_n 0, 1) := by decide +kernel
theorem dX9_init_145 : decode cX9_init 145 = .ok (.iconst 4, 1) := by decide +kernel
theorem dX9_init_146 : decode cX9_init 146 = .ok (.newarray .int, 2) := by decide +kernel
theorem dX9_init_148 : decode cX9_init 148 = .ok (.putfield 66, 3) := by decide +kernel
theorem dX9_init_151 : decode cX9_init 151 = .ok (.aload_n 0, 1) := by decide +kernel
theorem dX9_init_152 : decode cX9_init 152 = .ok (.bipush 10, 2) := by decide +kernel
theorem dX9_init_154 : decode cX9_init 154 = .ok (.newarray .int, 2) := by decide +kernel
theorem dX9_init_156 : decode cX9_init 156 = .ok (.putfield 69, 3) := by decide +kernel
theorem dX9_init_159 : decode cX9_init 159 = .ok (.aload_n 0, 1) := by decide +kernel
theorem dX9_init_160 : decode cX9_init 160 = .ok (.bipush 10, 2) := by decide +kernel
theorem dX9_init_162 : decode cX9_init 162 = .ok (.newarray .int, 2) := by decide +kernel
theorem dX9_init_164 : decode cX9_init 164 = .ok (.putfield 72, 3) := by decide +kernel
theorem dX9_init_167 : decode cX9_init 167 = .ok (.aload_n 0, 1) := by decide +kernel
theorem dX9_init_168 : decode cX9_init 168 = .ok (.bipush 10, 2) := by decide +kernel
theorem dX9_init_170 : decode cX9_init 170 = .ok (.newarray .int, 2) := by decide +kernel
theorem dX9_init_172 : decode cX9_init 172 = .ok (.putfield 75, 3) := by decide +kernel
theorem dX9_init_175 : decode cX9_init 175 = .ok (.aload_n 0, 1) := by decide +kernel
theorem dX9_init_176 : decode cX9_init 176 = .ok (.bipush 10, 2) := by decide +kernel
theorem dX9_init_178 : decode cX9_init 178 = .ok (.newarray .int, 2) := by decide +kernel
theorem dX9_init_180 : decode cX9_init 180 = .ok (.putfield 78, 3) := by decide +kernel
theorem dX9_init_183 : decode cX9_init 183 = .ok (.aload_n 0, 1) := by decide +kernel
theorem dX9_init_184 : decode cX9_init 184 = .ok (.iconst 2, 1) := by decide +kernel
theorem dX9_init_185 : decode cX9_init 185 = .ok (.putfield 81, 3) := by decide +kernel
theorem dX9_init_188 : decode cX9_init 188 = .ok (.return_, 1) := by decide +kernel
theorem dX9_thrown_0 : decode cX9_thrown 0 = .ok (.aload_n 0, 1) := by decide +kernel
theorem dX9_thrown_1 : decode cX9_thrown 1 = .ok (.getfield 85, 3) := by decide +kernel
theorem dX9_thrown_4 : decode cX9_thrown 4 = .ok (.ireturn, 1) := by decide +kernel
theorem dX9_isIn_0 : decode cX9_isIn 0 = .ok (.iload_n 0, 1) := by decide +kernel
theorem dX9_isIn_1 : decode cX9_isIn 1 = .ok (.iload_n 1, 1) := by decide +kernel
theorem dX9_isIn_2 : decode cX9_isIn 2 = .ok (.if_icmp .lt 12, 3) := by decide +kernel
theorem dX9_isIn_5 : decode cX9_isIn 5 = .ok (.iload_n 0, 1) := by decide +kernel
theorem dX9_isIn_6 : decode cX9_isIn 6 = .ok (.iload_n 2, 1) := by decide +kernel
theorem dX9_isIn_7 : decode cX9_isIn 7 = .ok (.if_icmp .gt 7, 3) := by decide +kernel
theorem dX9_isIn_10 : decode cX9_isIn 10 = .ok (.iconst 1, 1) := by decide +kernel
theorem dX9_isIn_11 : decode cX9_isIn 11 = .ok (.goto 4, 3) := by decide +kernel
theorem dX9_isIn_14 : decode cX9_isIn 14 = .ok (.iconst 0, 1) := by decide +kernel
theorem dX9_isIn_15 : decode cX9_isIn 15 = .ok (.ireturn, 1) := by decide +kernel
theorem dX9_isThrown_0 : decode cX9_isThrown 0 = .ok (.aload_n 0, 1) := by decide +kernel
theorem dX9_isThrown_1 : decode cX9_isThrown 1 = .ok (.iload_n 1, 1) := by decide +kernel
theorem dX9_isThrown_2 : decode cX9_isThrown 2 = .ok (.ifCond .eq 7, 3) := by decide +kernel
theorem dX9_isThrown_5 : decode cX9_isThrown 5 = .ok (.iload_n 2, 1) := by decide +kernel
theorem dX9_isThrown_6 : decode cX9_isThrown 6 = .ok (.goto 4, 3) := by decide +kernel
theorem dX9_isThrown_9 : decode cX9_isThrown 9 = .ok (.iconst 0, 1) := by decide +kernel
theorem dX9_isThrown_10 : decode cX9_isThrown 10 = .ok (.putfield 85, 3) := by decide +kernel
theorem dX9_isThrown_13 : decode cX9_isThrown 13 = .ok (.iload_n 1, 1) := by decide +kernel
theorem dX9_isThrown_14 : decode cX9_isThrown 14 = .ok (.ireturn, 1) := by decide +kernel
set_option maxRecDepth 20000 in
theorem ggX9_isNoSite_X9_isIn : GoodIn wsX9_isNoSite wsX9_isIn := goodIn_r _ [5] (by decide +kernel) (by decide +kernel)
set_option maxRecDepth 20000 in
theorem gX9_isNoSite_X9_isIn : GoodIn wsX9_isNoSite (va_wsS RX9 91 yX9_isIn wsX9_isIn) := goodIn_app (goodIn_of _ (by decide +kernel)) ggX9_isNoSite_X9_isIn
set_option maxRecDepth 20000 in
theorem ggX9_isNoSite_X9_isThrown : GoodIn wsX9_isNoSite wsX9_isThrown := goodIn_r _ [9, 10, 11, 12, 13, 14, 15, 16, 17, 18, 19, 20, 21, 22, 23, 24, 25, 26, 27, 28, 29, 30, 31, 32, 33, 34, 35, 36, 37, 38, 39, 40, 41, 42, 43, 44, 45, 46, 47, 48, 49] (by decide +kernel) (by decide +kernel)
set_option maxRecDepth 20000 in
theorem gX9_isNoSite_X9_isThrown : GoodIn wsX9_isNoSite (wsV RX9 95 RX9 yX9_isThrown wsX9_isThrown) := goodIn_app (goodIn_of _ (by decide +kernel)) ggX9_isNoSite_X9_isThrown
theorem dX9_isNoSite_0 : decode cX9_isNoSite 0 = .ok (.aload_n 0, 1) := by decide +kernel
theorem dX9_isNoSite_1 : decode cX9_isNoSite 1 = .ok (.iload_n 1, 1) := by decide +kernel
theorem dX9_isNoSite_2 : decode cX9_isNoSite 2 = .ok (.iconst 0, 1) := by decide +kernel
theorem dX9_isNoSite_3 : decode cX9_isNoSite 3 = .ok (.aload_n 0, 1) := by decide +kernel
theorem dX9_isNoSite_4 : decode cX9_isNoSite 4 = .ok (.getfield 88, 3) := by decide +kernel
theorem dX9_isNoSite_7 : decode cX9_isNoSite 7 = .ok (.iconst 1, 1) := by decide +kernel
theorem dX9_isNoSite_8 : decode cX9_isNoSite 8 = .ok (.isub, 1) := by decide +kernel
theorem dX9_isNoSite_9 : decode cX9_isNoSite 9 = .ok (.invokestatic 91, 3) := by decide +kernel
theorem dX9_isNoSite_12 : decode cX9_isNoSite 12 = .ok (.ifCond .ne 7, 3) := by decide +kernel
theorem dX9_isNoSite_15 : decode cX9_isNoSite 15 = .ok (.iconst 1, 1) := by decide +kernel
theorem dX9_isNoSite_16 : decode cX9_isNoSite 16 = .ok (.goto 4, 3) := by decide +kernel
theorem dX9_isNoSite_19 : decode cX9_isNoSite 19 = .ok (.iconst 0, 1) := by decide +kernel
theorem dX9_isNoSite_20 : decode cX9_isNoSite 20 = .ok (.iconst 1, 1) := by decide +kernel
theorem dX9_isNoSite_21 : decode cX9_isNoSite 21 = .ok (.invokevirtual 95, 3) := by decide +kernel
theorem dX9_isNoSite_24 : decode cX9_isNoSite 24 = .ok (.ireturn, 1) := by decide +kernel
set_option maxRecDepth 20000 in
theorem ggX9_isNoLine_X9_isIn : GoodIn wsX9_isNoLine wsX9_isIn := goodIn_r _ [5] (by decide +kernel) (by decide +kernel)
set_option maxRecDepth 20000 in
theorem gX9_isNoLine_X9_isIn : GoodIn wsX9_isNoLine (va_wsS RX9 91 yX9_isIn wsX9_isIn) := goodIn_app (goodIn_of _ (by decide +kernel)) ggX9_isNoLine_X9_isIn
set_option maxRecDepth 20000 in
theorem ggX9_isNoLine_X9_isThrown : GoodIn wsX9_isNoLine wsX9_isThrown := goodIn_r _ [9, 10, 11, 12, 13, 14, 15, 16, 17, 18, 19, 20, 21, 22, 23, 24, 25, 26, 27, 28, 29, 30, 31, 32, 33, 34, 35, 36, 37, 38, 39, 40, 41, 42, 43, 44, 45, 46, 47, 48, 49] (by decide +kernel) (by decide +kernel)
set_option maxRecDepth 20000 in
theorem gX9_isNoLine_X9_isThrown : GoodIn wsX9_isNoLine (wsV RX9 95 RX9 yX9_isThrown wsX9_isThrown) := goodIn_app (goodIn_of _ (by decide +kernel)) ggX9_isNoLine_X9_isThrown
theorem dX9_isNoLine_0 : decode cX9_isNoLine 0 = .ok (.aload_n 0, 1) := by decide +kernel
theorem dX9_isNoLine_1 : decode cX9_isNoLine 1 = .ok (.iload_n 1, 1) := by decide +kernel
theorem dX9_isNoLine_2 : decode cX9_isNoLine 2 = .ok (.iconst 0, 1) := by decide +kernel
theorem dX9_isNoLine_3 : decode cX9_isNoLine 3 = .ok (.aload_n 0, 1) := by decide +kernel
theorem dX9_isNoLine_4 : decode cX9_isNoLine 4 = .ok (.getfield 99, 3) := by decide +kernel
theorem dX9_isNoLine_7 : decode cX9_isNoLine 7 = .ok (.iconst 1, 1) := by decide +kernel
theorem dX9_isNoLine_8 : decode cX9_isNoLine 8 = .ok (.isub, 1) := by decide +kernel
theorem dX9_isNoLine_9 : decode cX9_isNoLine 9 = .ok (.invokestatic 91, 3) := by decide +kernel
theorem dX9_isNoLine_12 : decode cX9_isNoLine 12 = .ok (.ifCond .ne 7, 3) := by decide +kernel
theorem dX9_isNoLine_15 : decode cX9_isNoLine 15 = .ok (.iconst 1, 1) := by decide +kernel
theorem dX9_isNoLine_16 : decode cX9_isNoLine 16 = .ok (.goto 4, 3) := by decide +kernel
theorem dX9_isNoLine_19 : decode cX9_isNoLine 19 = .ok (.iconst 0, 1) := by decide +kernel
theorem dX9_isNoLine_20 : decode cX9_isNoLine 20 = .ok (.iconst 1, 1) := by decide +kernel
theorem dX9_isNoLine_21 : decode cX9_isNoLine 21 = .ok (.invokevirtual 95, 3) := by decide +kernel
theorem dX9_isNoLine_24 : decode cX9_isNoLine 24 = .ok (.ireturn, 1) := by decide +kernel
set_option maxRecDepth 20000 in
theorem ggX9_isNoGenerator_X9_isIn : GoodIn wsX9_isNoGenerator wsX9_isIn := goodIn_r _ [5] (by decide +kernel) (by decide +kernel)
set_option maxRecDepth 20000 in
theorem gX9_isNoGenerator_X9_isIn : GoodIn wsX9_isNoGenerator (va_wsS RX9 91 yX9_isIn wsX9_isIn) := goodIn_app (goodIn_of _ (by decide +kernel)) ggX9_isNoGenerator_X9_isIn
set_option maxRecDepth 20000 in
theorem ggX9_isNoGenerator_X9_isThrown : GoodIn wsX9_isNoGenerator wsX9_isThrown := goodIn_r _ [9, 10, 11, 12, 13, 14, 15, 16, 17, 18, 19, 20, 21, 22, 23, 24, 25, 26, 27, 28, 29, 30, 31, 32, 33, 34, 35, 36, 37, 38, 39, 40, 41, 42, 43, 44, 45, 46, 47, 48, 49] (by decide +kernel) (by decide +kernel)
set_option maxRecDepth 20000 in
theorem gX9_isNoGenerator_X9_isThrown : GoodIn wsX9_isNoGenerator (wsV RX9 95 RX9 yX9_isThrown wsX9_isThrown) := goodIn_app (goodIn_of _ (by decide +kernel)) ggX9_isNoGenerator_X9_isThrown
theorem dX9_isNoGenerator_0 : decode cX9_isNoGenerator 0 = .ok (.aload_n 0, 1) := by decide +kernel
theorem dX9_isNoGenerator_1 : decode cX9_isNoGenerator 1 = .ok (.iload_n 1, 1) := by decide +kernel
theorem dX9_isNoGenerator_2 : decode cX9_isNoGenerator 2 = .ok (.iconst 0, 1) := by decide +kernel
theorem dX9_isNoGenerator_3 : decode cX9_isNoGenerator 3 = .ok (.aload_n 0, 1) := by decide +kernel
theorem dX9_isNoGenerator_4 : decode cX9_isNoGenerator 4 = .ok (.getfield 102, 3) := by decide +kernel
theorem dX9_isNoGenerator_7 : decode cX9_isNoGenerator 7 = .ok (.iconst 1, 1) := by decide +kernel
theorem dX9_isNoGenerator_8 : decode cX9_isNoGenerator 8 = .ok (.isub, 1) := by decide +kernel
theorem dX9_isNoGenerator_9 : decode cX9_isNoGenerator 9 = .ok (.invokestatic 91, 3) := by decide +kernel
theorem dX9_isNoGenerator_12 : decode cX9_isNoGenerator 12 = .ok (.ifCond .ne 7, 3) := by decide +kernel
theorem dX9_isNoGenerator_15 : decode cX9_isNoGenerator 15 = .ok (.iconst 1, 1) := by decide +kernel
theorem dX9_isNoGenerator_16 : decode cX9_isNoGenerator 16 = .ok (.goto 4, 3) := by decide +kernel
theorem dX9_isNoGenerator_19 : decode cX9_isNoGenerator 19 = .ok (.iconst 0, 1) := by decide +kernel
theorem dX9_isNoGenerator_20 : decode cX9_isNoGenerator 20 = .ok (.iconst 1, 1) := by decide +kernel
theorem dX9_isNoGenerator_21 : decode cX9_isNoGenerator 21 = .ok (.invokevirtual 95, 3) := by decide +kernel
theorem dX9_isNoGenerator_24 : decode cX9_isNoGenerator 24 = .ok (.ireturn, 1) := by decide +kernel
set_option maxRecDepth 20000 in
theorem ggX9_isNoStore_X9_isIn : GoodIn wsX9_isNoStore wsX9_isIn := goodIn_r _ [5] (by decide +kernel) (by decide +kernel)
set_option maxRecDepth 20000 in
theorem gX9_isNoStore_X9_isIn : GoodIn wsX9_isNoStore (va_wsS RX9 91 yX9_isIn wsX9_isIn) := goodIn_app (goodIn_of _ (by decide +kernel)) ggX9_isNoStore_X9_isIn
set_option maxRecDepth 20000 in
theorem ggX9_isNoStore_X9_isThrown : GoodIn wsX9_isNoStore wsX9_isThrown := goodIn_r _ [9, 10, 11, 12, 13, 14, 15, 16, 17, 18, 19, 20, 21, 22, 23, 24, 25, 26, 27, 28, 29, 30, 31, 32, 33, 34, 35, 36, 37, 38, 39, 40, 41, 42, 43, 44, 45, 46, 47, 48, 49] (by decide +kernel) (by decide +kernel)
set_option maxRecDepth 20000 in
theorem gX9_isNoStore_X9_isThrown : GoodIn wsX9_isNoStore (wsV RX9 95 RX9 yX9_isThrown wsX9_isThrown) := goodIn_app (goodIn_of _ (by decide +kernel)) ggX9_isNoStore_X9_isThrown
theorem dX9_isNoStore_0 : decode cX9_isNoStore 0 = .ok (.aload_n 0, 1) := by decide +kernel
theorem dX9_isNoStore_1 : decode cX9_isNoStore 1 = .ok (.iload_n 1, 1) := by decide +kernel
theorem dX9_isNoStore_2 : decode cX9_isNoStore 2 = .ok (.iconst 0, 1) := by decide +kernel
theorem dX9_isNoStore_3 : decode cX9_isNoStore 3 = .ok (.aload_n 0, 1) := by decide +kernel
theorem dX9_isNoStore_4 : decode cX9_isNoStore 4 = .ok (.getfield 105, 3) := by decide +kernel
theorem dX9_isNoStore_7 : decode cX9_isNoStore 7 = .ok (.iconst 1, 1) := by decide +kernel
theorem dX9_isNoStore_8 : decode cX9_isNoStore 8 = .ok (.isub, 1) := by decide +kernel
theorem dX9_isNoStore_9 : decode cX9_isNoStore 9 = .ok (.invokestatic 91, 3) := by decide +kernel
theorem dX9_isNoStore_12 : decode cX9_isNoStore 12 = .ok (.ifCond .ne 7, 3) := by decide +kernel
theorem dX9_isNoStore_15 : decode cX9_isNoStore 15 = .ok (.iconst 1, 1) := by decide +kernel
theorem dX9_isNoStore_16 : decode cX9_isNoStore 16 = .ok (.goto 4, 3) := by decide +kernel
theorem dX9_isNoStore_19 : decode cX9_isNoStore 19 = .ok (.iconst 0, 1) := by decide +kernel
theorem dX9_isNoStore_20 : decode cX9_isNoStore 20 = .ok (.iconst 1, 1) := by decide +kernel
theorem dX9_isNoStore_21 : decode cX9_isNoStore 21 = .ok (.invokevirtual 95, 3) := by decide +kernel
theorem dX9_isNoStore_24 : decode cX9_isNoStore 24 = .ok (.ireturn, 1) := by decide +kernel
set_option maxRecDepth 20000 in
theorem ggX9_isNoLoad_X9_isIn : GoodIn wsX9_isNoLoad wsX9_isIn := goodIn_r _ [5] (by decide +kernel) (by decide +kernel)
set_option maxRecDepth 20000 in
theorem gX9_isNoLoad_X9_isIn : GoodIn wsX9_isNoLoad (va_wsS RX9 91 yX9_isIn wsX9_isIn) := goodIn_app (goodIn_of _ (by decide +kernel)) ggX9_isNoLoad_X9_isIn
set_option maxRecDepth 20000 in
theorem ggX9_isNoLoad_X9_isThrown : GoodIn wsX9_isNoLoad wsX9_isThrown := goodIn_r _ [9, 10, 11, 12, 13, 14, 15, 16, 17, 18, 19, 20, 21, 22, 23, 24, 25, 26, 27, 28, 29, 30, 31, 32, 33, 34, 35, 36, 37, 38, 39, 40, 41, 42, 43, 44, 45, 46, 47, 48, 49] (by decide +kernel) (by decide +kernel)
set_option maxRecDepth 20000 in
theorem gX9_isNoLoad_X9_isThrown : GoodIn wsX9_isNoLoad (wsV RX9 95 RX9 yX9_isThrown wsX9_isThrown) := goodIn_app (goodIn_of _ (by decide +kernel)) ggX9_isNoLoad_X9_isThrown
theorem dX9_isNoLoad_0 : decode cX9_isNoLoad 0 = .ok (.aload_n 0, 1) := by decide +kernel
theorem dX9_isNoLoad_1 : decode cX9_isNoLoad 1 = .ok (.iload_n 1, 1) := by decide +kernel
theorem dX9_isNoLoad_2 : decode cX9_isNoLoad 2 = .ok (.iconst 0, 1) := by decide +kernel
theorem dX9_isNoLoad_3 : decode cX9_isNoLoad 3 = .ok (.aload_n 0, 1) := by decide +kernel
theorem dX9_isNoLoad_4 : decode cX9_isNoLoad 4 = .ok (.getfield 108, 3) := by decide +kernel
theorem dX9_isNoLoad_7 : decode cX9_isNoLoad 7 = .ok (.iconst 1, 1) := by decide +kernel
theorem dX9_isNoLoad_8 : decode cX9_isNoLoad 8 = .ok (.isub, 1) := by decide +kernel
theorem dX9_isNoLoad_9 : decode cX9_isNoLoad 9 = .ok (.invokestatic 91, 3) := by decide +kernel
theorem dX9_isNoLoad_12 : decode cX9_isNoLoad 12 = .ok (.ifCond .ne 7, 3) := by decide +kernel
theorem dX9_isNoLoad_15 : decode cX9_isNoLoad 15 = .ok (.iconst 1, 1) := by decide +kernel
theorem dX9_isNoLoad_16 : decode cX9_isNoLoad 16 = .ok (.goto 4, 3) := by decide +kernel
theorem dX9_isNoLoad_19 : decode cX9_isNoLoad 19 = .ok (.iconst 0, 1) := by decide +kernel
theorem dX9_isNoLoad_20 : decode cX9_isNoLoad 20 = .ok (.iconst 1, 1) := by decide +kernel
theorem dX9_isNoLoad_21 : decode cX9_isNoLoad 21 = .ok (.invokevirtual 95, 3) := by decide +kernel
theorem dX9_isNoLoad_24 : decode cX9_isNoLoad 24 = .ok (.ireturn, 1) := by decide +kernel
set_option maxRecDepth 20000 in
theorem ggX9_addSite_X9_isThrown : GoodIn wsX9_addSite wsX9_isThrown := goodIn_r _ [6, 7, 8, 9, 10, 11, 12, 13, 14, 15, 16, 17, 18, 19, 20, 21, 22, 23, 24, 25, 26, 27, 28, 29, 30, 31, 32, 33, 34, 35, 36, 37, 38, 39, 40, 41, 42, 43, 44, 45, 46] (by decide +kernel) (by decide +kernel)
set_option maxRecDepth 20000 in
theorem gX9_addSite_X9_isThrown : GoodIn wsX9_addSite (wsV RX9 95 RX9 yX9_isThrown wsX9_isThrown) := goodIn_app (goodIn_of _ (by decide +kernel)) ggX9_addSite_X9_isThrown
theorem dX9_addSite_0 : decode cX9_addSite 0 = .ok (.aload_n 0, 1) := by decide +kernel
theorem dX9_addSite_1 : decode cX9_addSite 1 = .ok (.aload_n 0, 1) := by decide +kernel
theorem dX9_addSite_2 : decode cX9_addSite 2 = .ok (.getfield 88, 3) := by decide +kernel
theorem dX9_addSite_5 : decode cX9_addSite 5 = .ok (.bipush 6, 2) := by decide +kernel
theorem dX9_addSite_7 : decode cX9_addSite 7 = .ok (.if_icmp .ne 7, 3) := by decide +kernel
theorem dX9_addSite_10 : decode cX9_addSite 10 = .ok (.iconst 1, 1) := by decide +kernel
theorem dX9_addSite_11 : decode cX9_addSite 11 = .ok (.goto 4, 3) := by decide +kernel
theorem dX9_addSite_14 : decode cX9_addSite 14 = .ok (.iconst 0, 1) := by decide +kernel
theorem dX9_addSite_15 : decode cX9_addSite 15 = .ok (.iconst 1, 1) := by decide +kernel
theorem dX9_addSite_16 : decode cX9_addSite 16 = .ok (.invokevirtual 95, 3) := by decide +kernel
theorem dX9_addSite_19 : decode cX9_addSite 19 = .ok (.ifCond .eq 5, 3) := by decide +kernel
theorem dX9_addSite_22 : decode cX9_addSite 22 = .ok (.iconst 0, 1) := by decide +kernel
theorem dX9_addSite_23 : decode cX9_addSite 23 = .ok (.ireturn, 1) := by decide +kernel
theorem dX9_addSite_24 : decode cX9_addSite 24 = .ok (.aload_n 0, 1) := by decide +kernel
theorem dX9_addSite_25 : decode cX9_addSite 25 = .ok (.dup, 1) := by decide +kernel
theorem dX9_addSite_26 : decode cX9_addSite 26 = .ok (.getfield 88, 3) := by decide +kernel
theorem dX9_addSite_29 : decode cX9_addSite 29 = .ok (.iconst 1, 1) := by decide +kernel
theorem dX9_addSite_30 : decode cX9_addSite 30 = .ok (.iadd, 1) := by decide +kernel
theorem dX9_addSite_31 : decode cX9_addSite 31 = .ok (.putfield 88, 3) := by decide +kernel
theorem dX9_addSite_34 : decode cX9_addSite 34 = .ok (.aload_n 0, 1) := by decide +kernel
theorem dX9_addSite_35 : decode cX9_addSite 35 = .ok (.getfield 88, 3) := by decide +kernel
theorem dX9_addSite_38 : decode cX9_addSite 38 = .ok (.iconst 1, 1) := by decide +kernel
theorem dX9_addSite_39 : decode cX9_addSite 39 = .ok (.isub, 1) := by decide +kernel
theorem dX9_addSite_40 : decode cX9_addSite 40 = .ok (.ireturn, 1) := by decide +kernel
set_option maxRecDepth 20000 in
theorem ggX9_setPhase_X9_isNoSite : GoodIn wsX9_setPhase wsX9_isNoSite := goodIn_r _ [6, 7, 8, 9, 5, 10, 11, 12, 13, 14, 15, 16, 17, 18, 19, 20, 21, 22, 23, 24, 25, 26, 27, 28, 29, 30, 31, 32, 33, 34, 35, 36, 37, 38, 39, 40, 41, 42, 43, 44, 45, 46, 47, 48, 49, 50, 51, 52, 53, 54] (by decide +kernel) (by decide +kernel)
set_option maxRecDepth 20000 in
theorem gX9_setPhase_X9_isNoSite : GoodIn wsX9_setPhase (wsV RX9 111 RX9 yX9_isNoSite wsX9_isNoSite) := goodIn_app (goodIn_of _ (by decide +kernel)) ggX9_setPhase_X9_isNoSite
set_option maxRecDepth 20000 in
theorem ggX9_setPhase_X9_isIn : GoodIn wsX9_setPhase wsX9_isIn := goodIn_r _ [10] (by decide +kernel) (by decide +kernel)
set_option maxRecDepth 20000 in
theorem gX9_setPhase_X9_isIn : GoodIn wsX9_setPhase (va_wsS RX9 91 yX9_isIn wsX9_isIn) := goodIn_app (goodIn_of _ (by decide +kernel)) ggX9_setPhase_X9_isIn
set_option maxRecDepth 20000 in
theorem ggX9_setPhase_X9_isThrown : GoodIn wsX9_setPhase wsX9_isThrown := goodIn_r _ [14, 15, 16, 17, 18, 19, 20, 21, 22, 23, 24, 25, 26, 27, 28, 29, 30, 31, 32, 33, 34, 35, 36, 37, 38, 39, 40, 41, 42, 43, 44, 45, 46, 47, 48, 49, 50, 51, 52, 53, 54] (by decide +kernel) (by decide +kernel)
set_option maxRecDepth 20000 in
theorem gX9_setPhase_X9_isThrown : GoodIn wsX9_setPhase (wsV RX9 95 RX9 yX9_isThrown wsX9_isThrown) := goodIn_app (goodIn_of _ (by decide +kernel)) ggX9_setPhase_X9_isThrown
theorem dX9_setPhase_0 : decode cX9_setPhase 0 = .ok (.aload_n 0, 1) := by decide +kernel
theorem dX9_setPhase_1 : decode cX9_setPhase 1 = .ok (.iload_n 1, 1) := by decide +kernel
theorem dX9_setPhase_2 : decode cX9_setPhase 2 = .ok (.invokevirtual 111, 3) := by decide +kernel
theorem dX9_setPhase_5 : decode cX9_setPhase 5 = .ok (.ifCond .ne 27, 3) := by decide +kernel
theorem dX9_setPhase_8 : decode cX9_setPhase 8 = .ok (.aload_n 0, 1) := by decide +kernel
theorem dX9_setPhase_9 : decode cX9_setPhase 9 = .ok (.iload_n 2, 1) := by decide +kernel
theorem dX9_setPhase_10 : decode cX9_setPhase 10 = .ok (.iconst 0, 1) := by decide +kernel
theorem dX9_setPhase_11 : decode cX9_setPhase 11 = .ok (.sipush 359, 3) := by decide +kernel
theorem dX9_setPhase_14 : decode cX9_setPhase 14 = .ok (.invokestatic 91, 3) := by decide +kernel
theorem dX9_setPhase_17 : decode cX9_setPhase 17 = .ok (.ifCond .ne 7, 3) := by decide +kernel
theorem dX9_setPhase_20 : decode cX9_setPhase 20 = .ok (.iconst 1, 1) := by decide +kernel
theorem dX9_setPhase_21 : decode cX9_setPhase 21 = .ok (.goto 4, 3) := by decide +kernel
theorem dX9_setPhase_24 : decode cX9_setPhase 24 = .ok (.iconst 0, 1) := by decide +kernel
theorem dX9_setPhase_25 : decode cX9_setPhase 25 = .ok (.iconst 2, 1) := by decide +kernel
theorem dX9_setPhase_26 : decode cX9_setPhase 26 = .ok (.invokevirtual 95, 3) := by decide +kernel
theorem dX9_setPhase_29 : decode cX9_setPhase 29 = .ok (.ifCond .eq 5, 3) := by decide +kernel
theorem dX9_setPhase_32 : decode cX9_setPhase 32 = .ok (.iconst 0, 1) := by decide +kernel
theorem dX9_setPhase_33 : decode cX9_setPhase 33 = .ok (.ireturn, 1) := by decide +kernel
theorem dX9_setPhase_34 : decode cX9_setPhase 34 = .ok (.aload_n 0, 1) := by decide +kernel
theorem dX9_setPhase_35 : decode cX9_setPhase 35 = .ok (.getfield 9, 3) := by decide +kernel
theorem dX9_setPhase_38 : decode cX9_setPhase 38 = .ok (.iload_n 1, 1) := by decide +kernel
theorem dX9_setPhase_39 : decode cX9_setPhase 39 = .ok (.iaload, 1) := by decide +kernel
theorem dX9_setPhase_40 : decode cX9_setPhase 40 = .ok (.istore_n 3, 1) := by decide +kernel
theorem dX9_setPhase_41 : decode cX9_setPhase 41 = .ok (.aload_n 0, 1) := by decide +kernel
theorem dX9_setPhase_42 : decode cX9_setPhase 42 = .ok (.getfield 9, 3) := by decide +kernel
theorem dX9_setPhase_45 : decode cX9_setPhase 45 = .ok (.iload_n 1, 1) := by decide +kernel
theorem dX9_setPhase_46 : decode cX9_setPhase 46 = .ok (.iload_n 2, 1) := by decide +kernel
theorem dX9_setPhase_47 : decode cX9_setPhase 47 = .ok (.iastore, 1) := by decide +kernel
theorem dX9_setPhase_48 : decode cX9_setPhase 48 = .ok (.iload_n 3, 1) := by decide +kernel
theorem dX9_setPhase_49 : decode cX9_setPhase 49 = .ok (.ireturn, 1) := by decide +kernel
set_option maxRecDepth 20000 in
theorem ggX9_addLine_X9_isIn : GoodIn wsX9_addLine wsX9_isIn := goodIn_r _ [8] (by decide +kernel) (by decide +kernel)
set_option maxRecDepth 20000 in
theorem gX9_addLine_X9_isIn : GoodIn wsX9_addLine (va_wsS RX9 91 yX9_isIn wsX9_isIn) := goodIn_app (goodIn_of _ (by decide +kernel)) ggX9_addLine_X9_isIn
set_option maxRecDepth 20000 in
theorem ggX9_addLine_X9_isThrown : GoodIn wsX9_addLine wsX9_isThrown := goodIn_r _ [12, 13, 14, 15, 16, 17, 18, 19, 20, 21, 22, 23, 24, 25, 26, 27, 28, 29, 30, 31, 32, 33, 34, 35, 36, 37, 38, 39, 40, 41, 42, 43, 44, 45, 46, 47, 48, 49, 50, 51, 52] (by decide +kernel) (by decide +kernel)
set_option maxRecDepth 20000 in
theorem gX9_addLine_X9_isThrown : GoodIn wsX9_addLine (wsV RX9 95 RX9 yX9_isThrown wsX9_isThrown) := goodIn_app (goodIn_of _ (by decide +kernel)) ggX9_addLine_X9_isThrown
theorem dX9_addLine_0 : decode cX9_addLine 0 = .ok (.aload_n 0, 1) := by decide +kernel
theorem dX9_addLine_1 : decode cX9_addLine 1 = .ok (.iload_n 1, 1) := by decide +kernel
theorem dX9_addLine_2 : decode cX9_addLine 2 = .ok (.iconst 0, 1) := by decide +kernel
theorem dX9_addLine_3 : decode cX9_addLine 3 = .ok (.aload_n 0, 1) := by decide +kernel
theorem dX9_addLine_4 : decode cX9_addLine 4 = .ok (.getfield 88, 3) := by decide +kernel
theorem dX9_addLine_7 : decode cX9_addLine 7 = .ok (.iconst 1, 1) := by decide +kernel
theorem dX9_addLine_8 : decode cX9_addLine 8 = .ok (.isub, 1) := by decide +kernel
theorem dX9_addLine_9 : decode cX9_addLine 9 = .ok (.invokestatic 91, 3) := by decide +kernel
theorem dX9_addLine_12 : decode cX9_addLine 12 = .ok (.ifCond .eq 17, 3) := by decide +kernel
theorem dX9_addLine_15 : decode cX9_addLine 15 = .ok (.iload_n 2, 1) := by decide +kernel
theorem dX9_addLine_16 : decode cX9_addLine 16 = .ok (.iconst 0, 1) := by decide +kernel
theorem dX9_addLine_17 : decode cX9_addLine 17 = .ok (.aload_n 0, 1) := by decide +kernel
theorem dX9_addLine_18 : decode cX9_addLine 18 = .ok (.getfield 88, 3) := by decide +kernel
theorem dX9_addLine_21 : decode cX9_addLine 21 = .ok (.iconst 1, 1) := by decide +kernel
theorem dX9_addLine_22 : decode cX9_addLine 22 = .ok (.isub, 1) := by decide +kernel
theorem dX9_addLine_23 : decode cX9_addLine 23 = .ok (.invokestatic 91, 3) := by decide +kernel
theorem dX9_addLine_26 : decode cX9_addLine 26 = .ok (.ifCond .ne 7, 3) := by decide +kernel
theorem dX9_addLine_29 : decode cX9_addLine 29 = .ok (.iconst 1, 1) := by decide +kernel
theorem dX9_addLine_30 : decode cX9_addLine 30 = .ok (.goto 4, 3) := by decide +kernel
theorem dX9_addLine_33 : decode cX9_addLine 33 = .ok (.iconst 0, 1) := by decide +kernel
theorem dX9_addLine_34 : decode cX9_addLine 34 = .ok (.iconst 1, 1) := by decide +kernel
theorem dX9_addLine_35 : decode cX9_addLine 35 = .ok (.invokevirtual 95, 3) := by decide +kernel
theorem dX9_addLine_38 : decode cX9_addLine 38 = .ok (.ifCond .ne 43, 3) := by decide +kernel
theorem dX9_addLine_41 : decode cX9_addLine 41 = .ok (.aload_n 0, 1) := by decide +kernel
theorem dX9_addLine_42 : decode cX9_addLine 42 = .ok (.iload_n 1, 1) := by decide +kernel
theorem dX9_addLine_43 : decode cX9_addLine 43 = .ok (.iload_n 2, 1) := by decide +kernel
theorem dX9_addLine_44 : decode cX9_addLine 44 = .ok (.if_icmp .ne 7, 3) := by decide +kernel
theorem dX9_addLine_47 : decode cX9_addLine 47 = .ok (.iconst 1, 1) := by decide +kernel
theorem dX9_addLine_48 : decode cX9_addLine 48 = .ok (.goto 4, 3) := by decide +kernel
theorem dX9_addLine_51 : decode cX9_addLine 51 = .ok (.iconst 0, 1) := by decide +kernel
theorem dX9_addLine_52 : decode cX9_addLine 52 = .ok (.iconst 2, 1) := by decide +kernel
theorem dX9_addLine_53 : decode cX9_addLine 53 = .ok (.invokevirtual 95, 3) := by decide +kernel
theorem dX9_addLine_56 : decode cX9_addLine 56 = .ok (.ifCond .ne 25, 3) := by decide +kernel
theorem dX9_addLine_59 : decode cX9_addLine 59 = .ok (.aload_n 0, 1) := by decide +kernel
theorem dX9_addLine_60 : decode cX9_addLine 60 = .ok (.aload_n 0, 1) := by decide +kernel
theorem dX9_addLine_61 : decode cX9_addLine 61 = .ok (.getfield 99, 3) := by decide +kernel
theorem dX9_addLine_64 : decode cX9_addLine 64 = .ok (.bipush 8, 2) := by decide +kernel
theorem dX9_addLine_66 : decode cX9_addLine 66 = .ok (.if_icmp .ne 7, 3) := by decide +kernel
theorem dX9_addLine_69 : decode cX9_addLine 69 = .ok (.iconst 1, 1) := by decide +kernel
theorem dX9_addLine_70 : decode cX9_addLine 70 = .ok (.goto 4, 3) := by decide +kernel
theorem dX9_addLine_73 : decode cX9_addLine 73 = .ok (.iconst 0, 1) := by decide +kernel
theorem dX9_addLine_74 : decode cX9_addLine 74 = .ok (.iconst 3, 1) := by decide +kernel
theorem dX9_addLine_75 : decode cX9_addLine 75 = .ok (.invokevirtual 95, 3) := by decide +kernel
theorem dX9_addLine_78 : decode cX9_addLine 78 = .ok (.ifCond .eq 5, 3) := by decide +kernel
theorem dX9_addLine_81 : decode cX9_addLine 81 = .ok (.iconst 0, 1) := by decide +kernel
theorem dX9_addLine_82 : decode cX9_addLine 82 = .ok (.ireturn, 1) := by decide +kernel
theorem dX9_addLine_83 : decode cX9_addLine 83 = .ok (.aload_n 0, 1) := by decide +kernel
theorem dX9_addLine_84 : decode cX9_addLine 84 = .ok (.getfield 16, 3) := by decide +kernel
theorem dX9_addLine_87 : decode cX9_addLine 87 = .ok (.aload_n 0, 1) := by decide +kernel
theorem dX9_addLine_88 : decode cX9_addLine 88 = .ok (.getfield 99, 3) := by decide +kernel
theorem dX9_addLine_91 : decode cX9_addLine 91 = .ok (.iload_n 1, 1) := by decide +kernel
theorem dX9_addLine_92 : decode cX9_addLine 92 = .ok (.iastore, 1) := by decide +kernel
theorem dX9_addLine_93 : decode cX9_addLine 93 = .ok (.aload_n 0, 1) := by decide +kernel
theorem dX9_addLine_94 : decode cX9_addLine 94 = .ok (.getfield 19, 3) := by decide +kernel
theorem dX9_addLine_97 : decode cX9_addLine 97 = .ok (.aload_n 0, 1) := by decide +kernel
theorem dX9_addLine_98 : decode cX9_addLine 98 = .ok (.getfield 99, 3) := by decide +kernel
theorem dX9_addLine_101 : decode cX9_addLine 101 = .ok (.iload_n 2, 1) := by decide +kernel
theorem dX9_addLine_102 : decode cX9_addLine 102 = .ok (.iastore, 1) := by decide +kernel
theorem dX9_addLine_103 : decode cX9_addLine 103 = .ok (.aload_n 0, 1) := by decide +kernel
theorem dX9_addLine_104 : decode cX9_addLine 104 = .ok (.dup, 1) := by decide +kernel
theorem dX9_addLine_105 : decode cX9_addLine 105 = .ok (.getfield 99, 3) := by decide +kernel
theorem dX9_addLine_108 : decode cX9_addLine 108 = .ok (.iconst 1, 1) := by decide +kernel
theorem dX9_addLine_109 : decode cX9_addLine 109 = .ok (.iadd, 1) := by decide +kernel
theorem dX9_addLine_110 : decode cX9_addLine 110 = .ok (.putfield 99, 3) := by decide +kernel
theorem dX9_addLine_113 : decode cX9_addLine 113 = .ok (.aload_n 0, 1) := by decide +kernel
theorem dX9_addLine_114 : decode cX9_addLine 114 = .ok (.getfield 99, 3) := by decide +kernel
theorem dX9_addLine_117 : decode cX9_addLine 117 = .ok (.iconst 1, 1) := by decide +kernel
theorem dX9_addLine_118 : decode cX9_addLine 118 = .ok (.isub, 1) := by decide +kernel
theorem dX9_addLine_119 : decode cX9_addLine 119 = .ok (.ireturn, 1) := by decide +kernel
theorem dX9_marks_0 : decode cX9_marks 0 = .ok (.iconst 0, 1) := by decide +kernel
theorem dX9_marks_1 : decode cX9_marks 1 = .ok (.istore_n 1, 1) := by decide +kernel
theorem dX9_marks_2 : decode cX9_marks 2 = .ok (.iload_n 1, 1) := by decide +kernel
theorem dX9_marks_3 : decode cX9_marks 3 = .ok (.aload_n 0, 1) := by decide +kernel
theorem dX9_marks_4 : decode cX9_marks 4 = .ok (.getfield 88, 3) := by decide +kernel
theorem dX9_marks_7 : decode cX9_marks 7 = .ok (.if_icmp .ge 16, 3) := by decide +kernel
theorem dX9_marks_10 : decode cX9_marks 10 = .ok (.aload_n 0, 1) := by decide +kernel
theorem dX9_marks_11 : decode cX9_marks 11 = .ok (.getfield 13, 3) := by decide +kernel
theorem dX9_marks_14 : decode cX9_marks 14 = .ok (.iload_n 1, 1) := by decide +kernel
theorem dX9_marks_15 : decode cX9_marks 15 = .ok (.iload_n 1, 1) := by decide +kernel
theorem dX9_marks_16 : decode cX9_marks 16 = .ok (.iastore, 1) := by decide +kernel
theorem dX9_marks_17 : decode cX9_marks 17 = .ok (.iinc 1 1, 3) := by decide +kernel
theorem dX9_marks_20 : decode cX9_marks 20 = .ok (.goto (-18), 3) := by decide +kernel
theorem dX9_marks_23 : decode cX9_marks 23 = .ok (.iconst 0, 1) := by decide +kernel
theorem dX9_marks_24 : decode cX9_marks 24 = .ok (.istore_n 1, 1) := by decide +kernel
theorem dX9_marks_25 : decode cX9_marks 25 = .ok (.iload_n 1, 1) := by decide +kernel
theorem dX9_marks_26 : decode cX9_marks 26 = .ok (.bipush 6, 2) := by decide +kernel
theorem dX9_marks_28 : decode cX9_marks 28 = .ok (.if_icmp .ge 84, 3) := by decide +kernel
theorem dX9_marks_31 : decode cX9_marks 31 = .ok (.iconst 0, 1) := by decide +kernel
theorem dX9_marks_32 : decode cX9_marks 32 = .ok (.istore_n 2, 1) := by decide +kernel
theorem dX9_marks_33 : decode cX9_marks 33 = .ok (.iload_n 2, 1) := by decide +kernel
theorem dX9_marks_34 : decode cX9_marks 34 = .ok (.aload_n 0, 1) := by decide +kernel
theorem dX9_marks_35 : decode cX9_marks 35 = .ok (.getfield 99, 3) := by decide +kernel
theorem dX9_marks_38 : decode cX9_marks 38 = .ok (.if_icmp .ge 68, 3) := by decide +kernel
theorem dX9_marks_41 : decode cX9_marks 41 = .ok (.aload_n 0, 1) := by decide +kernel
theorem dX9_marks_42 : decode cX9_marks 42 = .ok (.getfield 22, 3) := by decide +kernel
theorem dX9_marks_45 : decode cX9_marks 45 = .ok (.iload_n 2, 1) := by decide +kernel
theorem dX9_marks_46 : decode cX9_marks 46 = .ok (.baload, 1) := by decide +kernel
theorem dX9_marks_47 : decode cX9_marks 47 = .ok (.ifCond .eq 53, 3) := by decide +kernel
theorem dX9_marks_50 : decode cX9_marks 50 = .ok (.aload_n 0, 1) := by decide +kernel
theorem dX9_marks_51 : decode cX9_marks 51 = .ok (.getfield 13, 3) := by decide +kernel
theorem dX9_marks_54 : decode cX9_marks 54 = .ok (.aload_n 0, 1) := by decide +kernel
theorem dX9_marks_55 : decode cX9_marks 55 = .ok (.getfield 16, 3) := by decide +kernel
theorem dX9_marks_58 : decode cX9_marks 58 = .ok (.iload_n 2, 1) := by decide +kernel
theorem dX9_marks_59 : decode cX9_marks 59 = .ok (.iaload, 1) := by decide +kernel
theorem dX9_marks_60 : decode cX9_marks 60 = .ok (.iaload, 1) := by decide +kernel
theorem dX9_marks_61 : decode cX9_marks 61 = .ok (.aload_n 0, 1) := by decide +kernel
theorem dX9_marks_62 : decode cX9_marks 62 = .ok (.getfield 13, 3) := by decide +kernel
theorem dX9_marks_65 : decode cX9_marks 65 = .ok (.aload_n 0, 1) := by decide +kernel
theorem dX9_marks_66 : decode cX9_marks 66 = .ok (.getfield 19, 3) := by decide +kernel
theorem dX9_marks_69 : decode cX9_marks 69 = .ok (.iload_n 2, 1) := by decide +kernel
theorem dX9_marks_70 : decode cX9_marks 70 = .ok (.iaload, 1) := by decide +kernel
theorem dX9_marks_71 : decode cX9_marks 71 = .ok (.iaload, 1) := by decide +kernel
theorem dX9_marks_72 : decode cX9_marks 72 = .ok (.invokestatic 115, 3) := by decide +kernel
theorem dX9_marks_75 : decode cX9_marks 75 = .ok (.istore_n 3, 1) := by decide +kernel
theorem dX9_marks_76 : decode cX9_marks 76 = .ok (.aload_n 0, 1) := by decide +kernel
theorem dX9_marks_77 : decode cX9_marks 77 = .ok (.getfield 13, 3) := by decide +kernel
theorem dX9_marks_80 : decode cX9_marks 80 = .ok (.aload_n 0, 1) := by decide +kernel
theorem dX9_marks_81 : decode cX9_marks 81 = .ok (.getfield 16, 3) := by decide +kernel
theorem dX9_marks_84 : decode cX9_marks 84 = .ok (.iload_n 2, 1) := by decide +kernel
theorem dX9_marks_85 : decode cX9_marks 85 = .ok (.iaload, 1) := by decide +kernel
theorem dX9_marks_86 : decode cX9_marks 86 = .ok (.iload_n 3, 1) := by decide +kernel
theorem dX9_marks_87 : decode cX9_marks 87 = .ok (.iastore, 1) := by decide +kernel
theorem dX9_marks_88 : decode cX9_marks 88 = .ok (.aload_n 0, 1) := by decide +kernel
theorem dX9_marks_89 : decode cX9_marks 89 = .ok (.getfield 13, 3) := by decide +kernel
theorem dX9_marks_92 : decode cX9_marks 92 = .ok (.aload_n 0, 1) := by decide +kernel
theorem dX9_marks_93 : decode cX9_marks 93 = .ok (.getfield 19, 3) := by decide +kernel
theorem dX9_marks_96 : decode cX9_marks 96 = .ok (.iload_n 2, 1) := by decide +kernel
theorem dX9_marks_97 : decode cX9_marks 97 = .ok (.iaload, 1) := by decide +kernel
theorem dX9_marks_98 : decode cX9_marks 98 = .ok (.iload_n 3, 1) := by decide +kernel
theorem dX9_marks_99 : decode cX9_marks 99 = .ok (.iastore, 1) := by decide +kernel
theorem dX9_marks_100 : decode cX9_marks 100 = .ok (.iinc 2 1, 3) := by decide +kernel
theorem dX9_marks_103 : decode cX9_marks 103 = .ok (.goto (-70), 3) := by decide +kernel
theorem dX9_marks_106 : decode cX9_marks 106 = .ok (.iinc 1 1, 3) := by decide +kernel
theorem dX9_marks_109 : decode cX9_marks 109 = .ok (.goto (-84), 3) := by decide +kernel
theorem dX9_marks_112 : decode cX9_marks 112 = .ok (.return_, 1) := by decide +kernel
set_option maxRecDepth 20000 in
theorem ggX9_islandOf_X9_marks : GoodIn wsX9_islandOf wsX9_marks := goodIn_r _ [6, 7, 1, 8, 9, 10, 11, 12, 13, 14, 15, 16, 17, 18, 19, 20, 21, 22, 23, 24, 25, 26, 27, 28, 29, 30, 31, 32, 33, 34, 35, 36, 37, 38, 39, 40, 41, 42, 43, 44, 45, 46, 47, 48, 49, 50, 51, 52, 53, 54] (by decide +kernel) (by decide +kernel)
set_option maxRecDepth 20000 in
theorem gX9_islandOf_X9_marks : GoodIn wsX9_islandOf (wsV RX9 121 RX9 yX9_marks wsX9_marks) := goodIn_app (goodIn_of _ (by decide +kernel)) ggX9_islandOf_X9_marks
theorem dX9_islandOf_0 : decode cX9_islandOf 0 = .ok (.aload_n 0, 1) := by decide +kernel
theorem dX9_islandOf_1 : decode cX9_islandOf 1 = .ok (.invokevirtual 121, 3) := by decide +kernel
theorem dX9_islandOf_4 : decode cX9_islandOf 4 = .ok (.aload_n 0, 1) := by decide +kernel
theorem dX9_islandOf_5 : decode cX9_islandOf 5 = .ok (.getfield 13, 3) := by decide +kernel
theorem dX9_islandOf_8 : decode cX9_islandOf 8 = .ok (.iload_n 1, 1) := by decide +kernel
theorem dX9_islandOf_9 : decode cX9_islandOf 9 = .ok (.iaload, 1) := by decide +kernel
theorem dX9_islandOf_10 : decode cX9_islandOf 10 = .ok (.ireturn, 1) := by decide +kernel
set_option maxRecDepth 20000 in
theorem ggX9_phaseOf_X9_islandOf : GoodIn wsX9_phaseOf wsX9_islandOf := goodIn_r _ [7, 8, 9, 10, 11, 6, 12, 13, 14, 15, 16, 17, 18, 19, 20, 21, 22, 23, 24, 25, 26, 27, 28, 29, 30, 31, 32, 33, 34, 35, 36, 37, 38, 39, 40, 41, 42, 43, 44, 45, 46, 47, 48, 49, 50, 51, 52, 53, 54, 55, 56, 57, 58, 59, 60] (by decide +kernel) (by decide +kernel)
set_option maxRecDepth 20000 in
theorem gX9_phaseOf_X9_islandOf : GoodIn wsX9_phaseOf (wsV RX9 124 RX9 yX9_islandOf wsX9_islandOf) := goodIn_app (goodIn_of _ (by decide +kernel)) ggX9_phaseOf_X9_islandOf
theorem dX9_phaseOf_0 : decode cX9_phaseOf 0 = .ok (.aload_n 0, 1) := by decide +kernel
theorem dX9_phaseOf_1 : decode cX9_phaseOf 1 = .ok (.iload_n 1, 1) := by decide +kernel
theorem dX9_phaseOf_2 : decode cX9_phaseOf 2 = .ok (.invokevirtual 124, 3) := by decide +kernel
theorem dX9_phaseOf_5 : decode cX9_phaseOf 5 = .ok (.istore_n 2, 1) := by decide +kernel
theorem dX9_phaseOf_6 : decode cX9_phaseOf 6 = .ok (.aload_n 0, 1) := by decide +kernel
theorem dX9_phaseOf_7 : decode cX9_phaseOf 7 = .ok (.getfield 128, 3) := by decide +kernel
theorem dX9_phaseOf_10 : decode cX9_phaseOf 10 = .ok (.ifCond .eq 11, 3) := by decide +kernel
theorem dX9_phaseOf_13 : decode cX9_phaseOf 13 = .ok (.iload_n 2, 1) := by decide +kernel
theorem dX9_phaseOf_14 : decode cX9_phaseOf 14 = .ok (.ifCond .ne 7, 3) := by decide +kernel
theorem dX9_phaseOf_17 : decode cX9_phaseOf 17 = .ok (.iconst 0, 1) := by decide +kernel
theorem dX9_phaseOf_18 : decode cX9_phaseOf 18 = .ok (.goto 9, 3) := by decide +kernel
theorem dX9_phaseOf_21 : decode cX9_phaseOf 21 = .ok (.aload_n 0, 1) := by decide +kernel
theorem dX9_phaseOf_22 : decode cX9_phaseOf 22 = .ok (.getfield 9, 3) := by decide +kernel
theorem dX9_phaseOf_25 : decode cX9_phaseOf 25 = .ok (.iload_n 2, 1) := by decide +kernel
theorem dX9_phaseOf_26 : decode cX9_phaseOf 26 = .ok (.iaload, 1) := by decide +kernel
theorem dX9_phaseOf_27 : decode cX9_phaseOf 27 = .ok (.ireturn, 1) := by decide +kernel
set_option maxRecDepth 20000 in
theorem ggX9_gapOf_X9_islandOf : GoodIn wsX9_gapOf wsX9_islandOf := goodIn_r _ [14, 15, 16, 17, 18, 13, 19, 20, 21, 22, 1, 2, 7, 8, 5, 9, 29, 30, 31, 32, 33, 34, 35, 36, 37, 38, 39, 40, 41, 42, 43, 44, 45, 46, 47, 48, 49, 50, 51, 52, 53, 54, 55, 56, 57, 58, 59, 60, 61, 62, 63, 64, 65, 66, 67] (by decide +kernel) (by decide +kernel)
set_option maxRecDepth 20000 in
theorem gX9_gapOf_X9_islandOf : GoodIn wsX9_gapOf (wsV RX9 124 RX9 yX9_islandOf wsX9_islandOf) := goodIn_app (goodIn_of _ (by decide +kernel)) ggX9_gapOf_X9_islandOf
set_option maxRecDepth 20000 in
theorem ggX9_gapOf_X9_phaseOf : GoodIn wsX9_gapOf wsX9_phaseOf := goodIn_r _ [26, 27, 28, 10, 11, 12, 13, 14, 15, 16, 17, 18, 19, 20, 21, 22, 1, 2, 7, 8, 5, 9, 29, 30, 31, 32, 33, 34, 35, 36, 37, 38, 39, 40, 41, 42, 43, 44, 45, 46, 47, 48, 49, 50, 51, 52, 53, 54, 55, 56, 57, 58, 59, 60, 61, 62, 63, 64, 65, 66, 67] (by decide +kernel) (by decide +kernel)
set_option maxRecDepth 20000 in
theorem gX9_gapOf_X9_phaseOf : GoodIn wsX9_gapOf (wsV RX9 132 RX9 yX9_phaseOf wsX9_phaseOf) := goodIn_app (goodIn_of _ (by decide +kernel)) ggX9_gapOf_X9_phaseOf
theorem dX9_gapOf_0 : decode cX9_gapOf 0 = .ok (.aload_n 0, 1) := by decide +kernel
theorem dX9_gapOf_1 : decode cX9_gapOf 1 = .ok (.aload_n 0, 1) := by decide +kernel
theorem dX9_gapOf_2 : decode cX9_gapOf 2 = .ok (.getfield 16, 3) := by decide +kernel
theorem dX9_gapOf_5 : decode cX9_gapOf 5 = .ok (.iload_n 1, 1) := by decide +kernel
theorem dX9_gapOf_6 : decode cX9_gapOf 6 = .ok (.iaload, 1) := by decide +kernel
theorem dX9_gapOf_7 : decode cX9_gapOf 7 = .ok (.invokevirtual 124, 3) := by decide +kernel
theorem dX9_gapOf_10 : decode cX9_gapOf 10 = .ok (.aload_n 0, 1) := by decide +kernel
theorem dX9_gapOf_11 : decode cX9_gapOf 11 = .ok (.aload_n 0, 1) := by decide +kernel
theorem dX9_gapOf_12 : decode cX9_gapOf 12 = .ok (.getfield 19, 3) := by decide +kernel
theorem dX9_gapOf_15 : decode cX9_gapOf 15 = .ok (.iload_n 1, 1) := by decide +kernel
theorem dX9_gapOf_16 : decode cX9_gapOf 16 = .ok (.iaload, 1) := by decide +kernel
theorem dX9_gapOf_17 : decode cX9_gapOf 17 = .ok (.invokevirtual 124, 3) := by decide +kernel
theorem dX9_gapOf_20 : decode cX9_gapOf 20 = .ok (.if_icmp .ne 5, 3) := by decide +kernel
theorem dX9_gapOf_23 : decode cX9_gapOf 23 = .ok (.iconst 0, 1) := by decide +kernel
theorem dX9_gapOf_24 : decode cX9_gapOf 24 = .ok (.ireturn, 1) := by decide +kernel
theorem dX9_gapOf_25 : decode cX9_gapOf 25 = .ok (.aload_n 0, 1) := by decide +kernel
theorem dX9_gapOf_26 : decode cX9_gapOf 26 = .ok (.aload_n 0, 1) := by decide +kernel
theorem dX9_gapOf_27 : decode cX9_gapOf 27 = .ok (.getfield 16, 3) := by decide +kernel
theorem dX9_gapOf_30 : decode cX9_gapOf 30 = .ok (.iload_n 1, 1) := by decide +kernel
theorem dX9_gapOf_31 : decode cX9_gapOf 31 = .ok (.iaload, 1) := by decide +kernel
theorem dX9_gapOf_32 : decode cX9_gapOf 32 = .ok (.invokevirtual 132, 3) := by decide +kernel
theorem dX9_gapOf_35 : decode cX9_gapOf 35 = .ok (.aload_n 0, 1) := by decide +kernel
theorem dX9_gapOf_36 : decode cX9_gapOf 36 = .ok (.aload_n 0, 1) := by decide +kernel
theorem dX9_gapOf_37 : decode cX9_gapOf 37 = .ok (.getfield 19, 3) := by decide +kernel
theorem dX9_gapOf_40 : decode cX9_gapOf 40 = .ok (.iload_n 1, 1) := by decide +kernel
theorem dX9_gapOf_41 : decode cX9_gapOf 41 = .ok (.iaload, 1) := by decide +kernel
theorem dX9_gapOf_42 : decode cX9_gapOf 42 = .ok (.invokevirtual 132, 3) := by decide +kernel
theorem dX9_gapOf_45 : decode cX9_gapOf 45 = .ok (.isub, 1) := by decide +kernel
theorem dX9_gapOf_46 : decode cX9_gapOf 46 = .ok (.invokestatic 135, 3) := by decide +kernel
theorem dX9_gapOf_49 : decode cX9_gapOf 49 = .ok (.istore_n 2, 1) := by decide +kernel
theorem dX9_gapOf_50 : decode cX9_gapOf 50 = .ok (.iload_n 2, 1) := by decide +kernel
theorem dX9_gapOf_51 : decode cX9_gapOf 51 = .ok (.sipush 360, 3) := by decide +kernel
theorem dX9_gapOf_54 : decode cX9_gapOf 54 = .ok (.iload_n 2, 1) := by decide +kernel
theorem dX9_gapOf_55 : decode cX9_gapOf 55 = .ok (.isub, 1) := by decide +kernel
theorem dX9_gapOf_56 : decode cX9_gapOf 56 = .ok (.invokestatic 115, 3) := by decide +kernel
theorem dX9_gapOf_59 : decode cX9_gapOf 59 = .ok (.ireturn, 1) := by decide +kernel
set_option maxRecDepth 20000 in
theorem ggX9_many_X9_marks : GoodIn wsX9_many wsX9_marks := goodIn_r _ [7, 1, 2, 8, 9, 10, 11, 12, 13, 14, 15, 16, 17, 18, 19, 20, 21, 22, 23, 24, 25, 26, 27, 28, 29, 30, 31, 32, 33, 34, 35, 36, 37, 38, 39, 40, 41, 42, 43, 44, 45, 46, 47, 48, 49, 50, 51, 52, 53, 54] (by decide +kernel) (by decide +kernel)
set_option maxRecDepth 20000 in
theorem gX9_many_X9_marks : GoodIn wsX9_many (wsV RX9 121 RX9 yX9_marks wsX9_marks) := goodIn_app (goodIn_of _ (by decide +kernel)) ggX9_many_X9_marks
theorem dX9_many_0 : decode cX9_many 0 = .ok (.aload_n 0, 1) := by decide +kernel
theorem dX9_many_1 : decode cX9_many 1 = .ok (.invokevirtual 121, 3) := by decide +kernel
theorem dX9_many_4 : decode cX9_many 4 = .ok (.iconst 0, 1) := by decide +kernel
theorem dX9_many_5 : decode cX9_many 5 = .ok (.istore_n 1, 1) := by decide +kernel
theorem dX9_many_6 : decode cX9_many 6 = .ok (.iconst 0, 1) := by decide +kernel
theorem dX9_many_7 : decode cX9_many 7 = .ok (.istore_n 2, 1) := by decide +kernel
theorem dX9_many_8 : decode cX9_many 8 = .ok (.iload_n 2, 1) := by decide +kernel
theorem dX9_many_9 : decode cX9_many 9 = .ok (.aload_n 0, 1) := by decide +kernel
theorem dX9_many_10 : decode cX9_many 10 = .ok (.getfield 88, 3) := by decide +kernel
theorem dX9_many_13 : decode cX9_many 13 = .ok (.if_icmp .ge 27, 3) := by decide +kernel
theorem dX9_many_16 : decode cX9_many 16 = .ok (.iload_n 1, 1) := by decide +kernel
theorem dX9_many_17 : decode cX9_many 17 = .ok (.aload_n 0, 1) := by decide +kernel
theorem dX9_many_18 : decode cX9_many 18 = .ok (.getfield 13, 3) := by decide +kernel
theorem dX9_many_21 : decode cX9_many 21 = .ok (.iload_n 2, 1) := by decide +kernel
theorem dX9_many_22 : decode cX9_many 22 = .ok (.iaload, 1) := by decide +kernel
theorem dX9_many_23 : decode cX9_many 23 = .ok (.iload_n 2, 1) := by decide +kernel
theorem dX9_many_24 : decode cX9_many 24 = .ok (.if_icmp .ne 7, 3) := by decide +kernel
theorem dX9_many_27 : decode cX9_many 27 = .ok (.iconst 1, 1) := by decide +kernel
theorem dX9_many_28 : decode cX9_many 28 = .ok (.goto 4, 3) := by decide +kernel
theorem dX9_many_31 : decode cX9_many 31 = .ok (.iconst 0, 1) := by decide +kernel
theorem dX9_many_32 : decode cX9_many 32 = .ok (.iadd, 1) := by decide +kernel
theorem dX9_many_33 : decode cX9_many 33 = .ok (.istore_n 1, 1) := by decide +kernel
theorem dX9_many_34 : decode cX9_many 34 = .ok (.iinc 2 1, 3) := by decide +kernel
theorem dX9_many_37 : decode cX9_many 37 = .ok (.goto (-29), 3) := by decide +kernel
theorem dX9_many_40 : decode cX9_many 40 = .ok (.iload_n 1, 1) := by decide +kernel
theorem dX9_many_41 : decode cX9_many 41 = .ok (.ireturn, 1) := by decide +kernel
set_option maxRecDepth 20000 in
theorem ggX9_close_X9_isNoLine : GoodIn wsX9_close wsX9_isNoLine := goodIn_r _ [6, 7, 8, 9, 5, 10, 11, 12, 13, 14, 15, 49, 50, 51, 52, 53, 54, 55, 56, 57, 58, 59, 60, 61, 62, 63, 64, 65, 66, 67, 68, 69, 70, 71, 72, 73, 74, 75, 76, 77, 78, 79, 80, 81, 82, 83, 84, 85, 86, 87] (by decide +kernel) (by decide +kernel)
set_option maxRecDepth 20000 in
theorem gX9_close_X9_isNoLine : GoodIn wsX9_close (wsV RX9 138 RX9 yX9_isNoLine wsX9_isNoLine) := goodIn_app (goodIn_of _ (by decide +kernel)) ggX9_close_X9_isNoLine
set_option maxRecDepth 20000 in
theorem ggX9_close_X9_isThrown : GoodIn wsX9_close wsX9_isThrown := goodIn_r _ [14, 15, 49, 50, 51, 52, 53, 54, 55, 56, 57, 58, 59, 60, 61, 62, 63, 64, 65, 66, 67, 68, 69, 70, 71, 72, 73, 74, 75, 76, 77, 78, 79, 80, 81, 82, 83, 84, 85, 86, 87] (by decide +kernel) (by decide +kernel)
set_option maxRecDepth 20000 in
theorem gX9_close_X9_isThrown : GoodIn wsX9_close (wsV RX9 95 RX9 yX9_isThrown wsX9_isThrown) := goodIn_app (goodIn_of _ (by decide +kernel)) ggX9_close_X9_isThrown
set_option maxRecDepth 20000 in
theorem ggX9_close_X9_gapOf : GoodIn wsX9_close wsX9_gapOf := goodIn_r _ [19, 20, 21, 22, 23, 24, 25, 26, 27, 28, 29, 30, 31, 5, 32, 33, 34, 35, 36, 37, 38, 7, 1, 39, 40, 41, 42, 43, 44, 49, 50, 51, 52, 53, 54, 55, 56, 57, 58, 59, 60, 61, 62, 63, 64, 65, 66, 67, 68, 69, 70, 71, 72, 73, 74, 75, 76, 77, 78, 79, 80, 81, 82, 83, 84, 85, 86, 87] (by decide +kernel) (by decide +kernel)
set_option maxRecDepth 20000 in
theorem gX9_close_X9_gapOf : GoodIn wsX9_close (wsV RX9 141 RX9 yX9_gapOf wsX9_gapOf) := goodIn_app (goodIn_of _ (by decide +kernel)) ggX9_close_X9_gapOf
set_option maxRecDepth 20000 in
theorem ggX9_close_X9_many : GoodIn wsX9_close wsX9_many := goodIn_r _ [48, 38, 33, 34, 35, 36, 5, 37, 7, 1, 20, 21, 26, 27, 24, 28, 49, 50, 51, 52, 53, 54, 55, 56, 57, 58, 59, 60, 61, 62, 63, 64, 65, 66, 67, 68, 69, 70, 71, 72, 73, 74, 75, 76, 77, 78, 79, 80, 81, 82, 83, 84, 85, 86, 87] (by decide +kernel) (by decide +kernel)
set_option maxRecDepth 20000 in
theorem gX9_close_X9_many : GoodIn wsX9_close (wsV RX9 144 RX9 yX9_many wsX9_many) := goodIn_app (goodIn_of _ (by decide +kernel)) ggX9_close_X9_many
theorem dX9_close_0 : decode cX9_close 0 = .ok (.aload_n 0, 1) := by decide +kernel
theorem dX9_close_1 : decode cX9_close 1 = .ok (.iload_n 1, 1) := by decide +kernel
theorem dX9_close_2 : decode cX9_close 2 = .ok (.invokevirtual 138, 3) := by decide +kernel
theorem dX9_close_5 : decode cX9_close 5 = .ok (.ifCond .ne 40, 3) := by decide +kernel
theorem dX9_close_8 : decode cX9_close 8 = .ok (.aload_n 0, 1) := by decide +kernel
theorem dX9_close_9 : decode cX9_close 9 = .ok (.aload_n 0, 1) := by decide +kernel
theorem dX9_close_10 : decode cX9_close 10 = .ok (.getfield 22, 3) := by decide +kernel
theorem dX9_close_13 : decode cX9_close 13 = .ok (.iload_n 1, 1) := by decide +kernel
theorem dX9_close_14 : decode cX9_close 14 = .ok (.baload, 1) := by decide +kernel
theorem dX9_close_15 : decode cX9_close 15 = .ok (.iconst 2, 1) := by decide +kernel
theorem dX9_close_16 : decode cX9_close 16 = .ok (.invokevirtual 95, 3) := by decide +kernel
theorem dX9_close_19 : decode cX9_close 19 = .ok (.ifCond .ne 26, 3) := by decide +kernel
theorem dX9_close_22 : decode cX9_close 22 = .ok (.aload_n 0, 1) := by decide +kernel
theorem dX9_close_23 : decode cX9_close 23 = .ok (.aload_n 0, 1) := by decide +kernel
theorem dX9_close_24 : decode cX9_close 24 = .ok (.iload_n 1, 1) := by decide +kernel
theorem dX9_close_25 : decode cX9_close 25 = .ok (.invokevirtual 141, 3) := by decide +kernel
theorem dX9_close_28 : decode cX9_close 28 = .ok (.bipush 10, 2) := by decide +kernel
theorem dX9_close_30 : decode cX9_close 30 = .ok (.if_icmp .le 7, 3) := by decide +kernel
theorem dX9_close_33 : decode cX9_close 33 = .ok (.iconst 1, 1) := by decide +kernel
theorem dX9_close_34 : decode cX9_close 34 = .ok (.goto 4, 3) := by decide +kernel
theorem dX9_close_37 : decode cX9_close 37 = .ok (.iconst 0, 1) := by decide +kernel
theorem dX9_close_38 : decode cX9_close 38 = .ok (.iconst 3, 1) := by decide +kernel
theorem dX9_close_39 : decode cX9_close 39 = .ok (.invokevirtual 95, 3) := by decide +kernel
theorem dX9_close_42 : decode cX9_close 42 = .ok (.ifCond .eq 5, 3) := by decide +kernel
theorem dX9_close_45 : decode cX9_close 45 = .ok (.iconst 0, 1) := by decide +kernel
theorem dX9_close_46 : decode cX9_close 46 = .ok (.ireturn, 1) := by decide +kernel
theorem dX9_close_47 : decode cX9_close 47 = .ok (.aload_n 0, 1) := by decide +kernel
theorem dX9_close_48 : decode cX9_close 48 = .ok (.getfield 22, 3) := by decide +kernel
theorem dX9_close_51 : decode cX9_close 51 = .ok (.iload_n 1, 1) := by decide +kernel
theorem dX9_close_52 : decode cX9_close 52 = .ok (.iconst 1, 1) := by decide +kernel
theorem dX9_close_53 : decode cX9_close 53 = .ok (.bastore, 1) := by decide +kernel
theorem dX9_close_54 : decode cX9_close 54 = .ok (.aload_n 0, 1) := by decide +kernel
theorem dX9_close_55 : decode cX9_close 55 = .ok (.invokevirtual 144, 3) := by decide +kernel
theorem dX9_close_58 : decode cX9_close 58 = .ok (.ireturn, 1) := by decide +kernel
set_option maxRecDepth 20000 in
theorem ggX9_open_X9_isNoLine : GoodIn wsX9_open wsX9_isNoLine := goodIn_r _ [6, 7, 8, 9, 5, 10, 11, 12, 13, 14, 15, 32, 33, 34, 35, 36, 37, 38, 39, 40, 41, 42, 43, 44, 45, 46, 47, 48, 49, 50, 51, 52, 53, 54, 55, 56, 57, 58, 59, 60, 61, 62, 63, 64, 65, 66, 67, 68, 69, 70] (by decide +kernel) (by decide +kernel)
set_option maxRecDepth 20000 in
theorem gX9_open_X9_isNoLine : GoodIn wsX9_open (wsV RX9 138 RX9 yX9_isNoLine wsX9_isNoLine) := goodIn_app (goodIn_of _ (by decide +kernel)) ggX9_open_X9_isNoLine
set_option maxRecDepth 20000 in
theorem ggX9_open_X9_isThrown : GoodIn wsX9_open wsX9_isThrown := goodIn_r _ [14, 15, 32, 33, 34, 35, 36, 37, 38, 39, 40, 41, 42, 43, 44, 45, 46, 47, 48, 49, 50, 51, 52, 53, 54, 55, 56, 57, 58, 59, 60, 61, 62, 63, 64, 65, 66, 67, 68, 69, 70] (by decide +kernel) (by decide +kernel)
set_option maxRecDepth 20000 in
theorem gX9_open_X9_isThrown : GoodIn wsX9_open (wsV RX9 95 RX9 yX9_isThrown wsX9_isThrown) := goodIn_app (goodIn_of _ (by decide +kernel)) ggX9_open_X9_isThrown
set_option maxRecDepth 20000 in
theorem ggX9_open_X9_many : GoodIn wsX9_open wsX9_many := goodIn_r _ [19, 20, 21, 22, 23, 24, 5, 25, 7, 1, 26, 27, 28, 29, 30, 31, 32, 33, 34, 35, 36, 37, 38, 39, 40, 41, 42, 43, 44, 45, 46, 47, 48, 49, 50, 51, 52, 53, 54, 55, 56, 57, 58, 59, 60, 61, 62, 63, 64, 65, 66, 67, 68, 69, 70] (by decide +kernel) (by decide +kernel)
set_option maxRecDepth 20000 in
theorem gX9_open_X9_many : GoodIn wsX9_open (wsV RX9 144 RX9 yX9_many wsX9_many) := goodIn_app (goodIn_of _ (by decide +kernel)) ggX9_open_X9_many
theorem dX9_open_0 : decode cX9_open 0 = .ok (.aload_n 0, 1) := by decide +kernel
theorem dX9_open_1 : decode cX9_open 1 = .ok (.iload_n 1, 1) := by decide +kernel
theorem dX9_open_2 : decode cX9_open 2 = .ok (.invokevirtual 138, 3) := by decide +kernel
theorem dX9_open_5 : decode cX9_open 5 = .ok (.ifCond .ne 25, 3) := by decide +kernel
theorem dX9_open_8 : decode cX9_open 8 = .ok (.aload_n 0, 1) := by decide +kernel
theorem dX9_open_9 : decode cX9_open 9 = .ok (.aload_n 0, 1) := by decide +kernel
theorem dX9_open_10 : decode cX9_open 10 = .ok (.getfield 22, 3) := by decide +kernel
theorem dX9_open_13 : decode cX9_open 13 = .ok (.iload_n 1, 1) := by decide +kernel
theorem dX9_open_14 : decode cX9_open 14 = .ok (.baload, 1) := by decide +kernel
theorem dX9_open_15 : decode cX9_open 15 = .ok (.ifCond .ne 7, 3) := by decide +kernel
theorem dX9_open_18 : decode cX9_open 18 = .ok (.iconst 1, 1) := by decide +kernel
theorem dX9_open_19 : decode cX9_open 19 = .ok (.goto 4, 3) := by decide +kernel
theorem dX9_open_22 : decode cX9_open 22 = .ok (.iconst 0, 1) := by decide +kernel
theorem dX9_open_23 : decode cX9_open 23 = .ok (.iconst 2, 1) := by decide +kernel
theorem dX9_open_24 : decode cX9_open 24 = .ok (.invokevirtual 95, 3) := by decide +kernel
theorem dX9_open_27 : decode cX9_open 27 = .ok (.ifCond .eq 5, 3) := by decide +kernel
theorem dX9_open_30 : decode cX9_open 30 = .ok (.iconst 0, 1) := by decide +kernel
theorem dX9_open_31 : decode cX9_open 31 = .ok (.ireturn, 1) := by decide +kernel
theorem dX9_open_32 : decode cX9_open 32 = .ok (.aload_n 0, 1) := by decide +kernel
theorem dX9_open_33 : decode cX9_open 33 = .ok (.getfield 22, 3) := by decide +kernel
theorem dX9_open_36 : decode cX9_open 36 = .ok (.iload_n 1, 1) := by decide +kernel
theorem dX9_open_37 : decode cX9_open 37 = .ok (.iconst 0, 1) := by decide +kernel
theorem dX9_open_38 : decode cX9_open 38 = .ok (.bastore, 1) := by decide +kernel
theorem dX9_open_39 : decode cX9_open 39 = .ok (.aload_n 0, 1) := by decide +kernel
theorem dX9_open_40 : decode cX9_open 40 = .ok (.invokevirtual 144, 3) := by decide +kernel
theorem dX9_open_43 : decode cX9_open 43 = .ok (.ireturn, 1) := by decide +kernel
set_option maxRecDepth 20000 in
theorem ggX9_sizeOfFirst_X9_marks : GoodIn wsX9_sizeOfFirst wsX9_marks := goodIn_r _ [7, 1, 2, 8, 9, 10, 11, 12, 13, 14, 15, 16, 17, 18, 19, 20, 21, 22, 23, 24, 25, 26, 27, 28, 29, 30, 31, 32, 33, 34, 35, 36, 37, 38, 39, 40, 41, 42, 43, 44, 45, 46, 47, 48, 49, 50, 51, 52, 53, 54] (by decide +kernel) (by decide +kernel)
set_option maxRecDepth 20000 in
theorem gX9_sizeOfFirst_X9_marks : GoodIn wsX9_sizeOfFirst (wsV RX9 121 RX9 yX9_marks wsX9_marks) := goodIn_app (goodIn_of _ (by decide +kernel)) ggX9_sizeOfFirst_X9_marks
theorem dX9_sizeOfFirst_0 : decode cX9_sizeOfFirst 0 = .ok (.aload_n 0, 1) := by decide +kernel
theorem dX9_sizeOfFirst_1 : decode cX9_sizeOfFirst 1 = .ok (.invokevirtual 121, 3) := by decide +kernel
theorem dX9_sizeOfFirst_4 : decode cX9_sizeOfFirst 4 = .ok (.iconst 0, 1) := by decide +kernel
theorem dX9_sizeOfFirst_5 : decode cX9_sizeOfFirst 5 = .ok (.istore_n 1, 1) := by decide +kernel
theorem dX9_sizeOfFirst_6 : decode cX9_sizeOfFirst 6 = .ok (.iconst 0, 1) := by decide +kernel
theorem dX9_sizeOfFirst_7 : decode cX9_sizeOfFirst 7 = .ok (.istore_n 2, 1) := by decide +kernel
theorem dX9_sizeOfFirst_8 : decode cX9_sizeOfFirst 8 = .ok (.iload_n 2, 1) := by decide +kernel
theorem dX9_sizeOfFirst_9 : decode cX9_sizeOfFirst 9 = .ok (.aload_n 0, 1) := by decide +kernel
theorem dX9_sizeOfFirst_10 : decode cX9_sizeOfFirst 10 = .ok (.getfield 88, 3) := by decide +kernel
theorem dX9_sizeOfFirst_13 : decode cX9_sizeOfFirst 13 = .ok (.if_icmp .ge 26, 3) := by decide +kernel
theorem dX9_sizeOfFirst_16 : decode cX9_sizeOfFirst 16 = .ok (.iload_n 1, 1) := by decide +kernel
theorem dX9_sizeOfFirst_17 : decode cX9_sizeOfFirst 17 = .ok (.aload_n 0, 1) := by decide +kernel
theorem dX9_sizeOfFirst_18 : decode cX9_sizeOfFirst 18 = .ok (.getfield 13, 3) := by decide +kernel
theorem dX9_sizeOfFirst_21 : decode cX9_sizeOfFirst 21 = .ok (.iload_n 2, 1) := by decide +kernel
theorem dX9_sizeOfFirst_22 : decode cX9_sizeOfFirst 22 = .ok (.iaload, 1) := by decide +kernel
theorem dX9_sizeOfFirst_23 : decode cX9_sizeOfFirst 23 = .ok (.ifCond .ne 7, 3) := by decide +kernel
theorem dX9_sizeOfFirst_26 : decode cX9_sizeOfFirst 26 = .ok (.iconst 1, 1) := by decide +kernel
theorem dX9_sizeOfFirst_27 : decode cX9_sizeOfFirst 27 = .ok (.goto 4, 3) := by decide +kernel
theorem dX9_sizeOfFirst_30 : decode cX9_sizeOfFirst 30 = .ok (.iconst 0, 1) := by decide +kernel
theorem dX9_sizeOfFirst_31 : decode cX9_sizeOfFirst 31 = .ok (.iadd, 1) := by decide +kernel
theorem dX9_sizeOfFirst_32 : decode cX9_sizeOfFirst 32 = .ok (.istore_n 1, 1) := by decide +kernel
theorem dX9_sizeOfFirst_33 : decode cX9_sizeOfFirst 33 = .ok (.iinc 2 1, 3) := by decide +kernel
theorem dX9_sizeOfFirst_36 : decode cX9_sizeOfFirst 36 = .ok (.goto (-28), 3) := by decide +kernel
theorem dX9_sizeOfFirst_39 : decode cX9_sizeOfFirst 39 = .ok (.iload_n 1, 1) := by decide +kernel
theorem dX9_sizeOfFirst_40 : decode cX9_sizeOfFirst 40 = .ok (.ireturn, 1) := by decide +kernel
set_option maxRecDepth 20000 in
theorem ggX9_tie_X9_isThrown : GoodIn wsX9_tie wsX9_isThrown := goodIn_r _ [12, 13, 27, 28, 29, 30, 31, 32, 33, 34, 35, 36, 37, 38, 39, 40, 41, 42, 43, 44, 45, 46, 47, 48, 49, 50, 51, 52, 53, 54, 55, 56, 57, 58, 59, 60, 61, 62, 63, 64, 65] (by decide +kernel) (by decide +kernel)
set_option maxRecDepth 20000 in
theorem gX9_tie_X9_isThrown : GoodIn wsX9_tie (wsV RX9 95 RX9 yX9_isThrown wsX9_isThrown) := goodIn_app (goodIn_of _ (by decide +kernel)) ggX9_tie_X9_isThrown
set_option maxRecDepth 20000 in
theorem ggX9_tie_X9_sizeOfFirst : GoodIn wsX9_tie wsX9_sizeOfFirst := goodIn_r _ [17, 1, 18, 19, 20, 21, 11, 22, 23, 24, 25, 26, 4, 5, 6, 7, 27, 28, 29, 30, 31, 32, 33, 34, 35, 36, 37, 38, 39, 40, 41, 42, 43, 44, 45, 46, 47, 48, 49, 50, 51, 52, 53, 54, 55, 56, 57, 58, 59, 60, 61, 62, 63, 64, 65] (by decide +kernel) (by decide +kernel)
set_option maxRecDepth 20000 in
theorem gX9_tie_X9_sizeOfFirst : GoodIn wsX9_tie (wsV RX9 148 RX9 yX9_sizeOfFirst wsX9_sizeOfFirst) := goodIn_app (goodIn_of _ (by decide +kernel)) ggX9_tie_X9_sizeOfFirst
theorem dX9_tie_0 : decode cX9_tie 0 = .ok (.aload_n 0, 1) := by decide +kernel
theorem dX9_tie_1 : decode cX9_tie 1 = .ok (.aload_n 0, 1) := by decide +kernel
theorem dX9_tie_2 : decode cX9_tie 2 = .ok (.getfield 88, 3) := by decide +kernel
theorem dX9_tie_5 : decode cX9_tie 5 = .ok (.ifCond .ne 7, 3) := by decide +kernel
theorem dX9_tie_8 : decode cX9_tie 8 = .ok (.iconst 1, 1) := by decide +kernel
theorem dX9_tie_9 : decode cX9_tie 9 = .ok (.goto 4, 3) := by decide +kernel
theorem dX9_tie_12 : decode cX9_tie 12 = .ok (.iconst 0, 1) := by decide +kernel
theorem dX9_tie_13 : decode cX9_tie 13 = .ok (.iconst 1, 1) := by decide +kernel
theorem dX9_tie_14 : decode cX9_tie 14 = .ok (.invokevirtual 95, 3) := by decide +kernel
theorem dX9_tie_17 : decode cX9_tie 17 = .ok (.ifCond .ne 52, 3) := by decide +kernel
theorem dX9_tie_20 : decode cX9_tie 20 = .ok (.aload_n 0, 1) := by decide +kernel
theorem dX9_tie_21 : decode cX9_tie 21 = .ok (.aload_n 0, 1) := by decide +kernel
theorem dX9_tie_22 : decode cX9_tie 22 = .ok (.getfield 128, 3) := by decide +kernel
theorem dX9_tie_25 : decode cX9_tie 25 = .ok (.iconst 2, 1) := by decide +kernel
theorem dX9_tie_26 : decode cX9_tie 26 = .ok (.invokevirtual 95, 3) := by decide +kernel
theorem dX9_tie_29 : decode cX9_tie 29 = .ok (.ifCond .ne 40, 3) := by decide +kernel
theorem dX9_tie_32 : decode cX9_tie 32 = .ok (.aload_n 0, 1) := by decide +kernel
theorem dX9_tie_33 : decode cX9_tie 33 = .ok (.aload_n 0, 1) := by decide +kernel
theorem dX9_tie_34 : decode cX9_tie 34 = .ok (.getfield 9, 3) := by decide +kernel
theorem dX9_tie_37 : decode cX9_tie 37 = .ok (.iconst 0, 1) := by decide +kernel
theorem dX9_tie_38 : decode cX9_tie 38 = .ok (.iaload, 1) := by decide +kernel
theorem dX9_tie_39 : decode cX9_tie 39 = .ok (.sipush 360, 3) := by decide +kernel
theorem dX9_tie_42 : decode cX9_tie 42 = .ok (.aload_n 0, 1) := by decide +kernel
theorem dX9_tie_43 : decode cX9_tie 43 = .ok (.getfield 9, 3) := by decide +kernel
theorem dX9_tie_46 : decode cX9_tie 46 = .ok (.iconst 0, 1) := by decide +kernel
theorem dX9_tie_47 : decode cX9_tie 47 = .ok (.iaload, 1) := by decide +kernel
theorem dX9_tie_48 : decode cX9_tie 48 = .ok (.isub, 1) := by decide +kernel
theorem dX9_tie_49 : decode cX9_tie 49 = .ok (.invokestatic 115, 3) := by decide +kernel
theorem dX9_tie_52 : decode cX9_tie 52 = .ok (.bipush 10, 2) := by decide +kernel
theorem dX9_tie_54 : decode cX9_tie 54 = .ok (.if_icmp .le 7, 3) := by decide +kernel
theorem dX9_tie_57 : decode cX9_tie 57 = .ok (.iconst 1, 1) := by decide +kernel
theorem dX9_tie_58 : decode cX9_tie 58 = .ok (.goto 4, 3) := by decide +kernel
theorem dX9_tie_61 : decode cX9_tie 61 = .ok (.iconst 0, 1) := by decide +kernel
theorem dX9_tie_62 : decode cX9_tie 62 = .ok (.iconst 3, 1) := by decide +kernel
theorem dX9_tie_63 : decode cX9_tie 63 = .ok (.invokevirtual 95, 3) := by decide +kernel
theorem dX9_tie_66 : decode cX9_tie 66 = .ok (.ifCond .eq 5, 3) := by decide +kernel
theorem dX9_tie_69 : decode cX9_tie 69 = .ok (.iconst 0, 1) := by decide +kernel
theorem dX9_tie_70 : decode cX9_tie 70 = .ok (.ireturn, 1) := by decide +kernel
theorem dX9_tie_71 : decode cX9_tie 71 = .ok (.aload_n 0, 1) := by decide +kernel
theorem dX9_tie_72 : decode cX9_tie 72 = .ok (.iconst 1, 1) := by decide +kernel
theorem dX9_tie_73 : decode cX9_tie 73 = .ok (.putfield 128, 3) := by decide +kernel
theorem dX9_tie_76 : decode cX9_tie 76 = .ok (.aload_n 0, 1) := by decide +kernel
theorem dX9_tie_77 : decode cX9_tie 77 = .ok (.invokevirtual 148, 3) := by decide +kernel
theorem dX9_tie_80 : decode cX9_tie 80 = .ok (.ireturn, 1) := by decide +kernel
set_option maxRecDepth 20000 in
theorem ggX9_untie_X9_isThrown : GoodIn wsX9_untie wsX9_isThrown := goodIn_r _ [6, 7, 26, 27, 28, 29, 30, 31, 32, 33, 34, 35, 36, 37, 38, 39, 40, 41, 42, 43, 44, 45, 46, 47, 48, 49, 50, 51, 52, 53, 54, 55, 56, 57, 58, 59, 60, 61, 62, 63, 64] (by decide +kernel) (by decide +kernel)
set_option maxRecDepth 20000 in
theorem gX9_untie_X9_isThrown : GoodIn wsX9_untie (wsV RX9 95 RX9 yX9_isThrown wsX9_isThrown) := goodIn_app (goodIn_of _ (by decide +kernel)) ggX9_untie_X9_isThrown
set_option maxRecDepth 20000 in
theorem ggX9_untie_X9_sizeOfFirst : GoodIn wsX9_untie wsX9_sizeOfFirst := goodIn_r _ [11, 12, 13, 14, 15, 16, 5, 17, 18, 19, 20, 21, 22, 23, 24, 25, 26, 27, 28, 29, 30, 31, 32, 33, 34, 35, 36, 37, 38, 39, 40, 41, 42, 43, 44, 45, 46, 47, 48, 49, 50, 51, 52, 53, 54, 55, 56, 57, 58, 59, 60, 61, 62, 63, 64] (by decide +kernel) (by decide +kernel)
set_option maxRecDepth 20000 in
theorem gX9_untie_X9_sizeOfFirst : GoodIn wsX9_untie (wsV RX9 148 RX9 yX9_sizeOfFirst wsX9_sizeOfFirst) := goodIn_app (goodIn_of _ (by decide +kernel)) ggX9_untie_X9_sizeOfFirst
theorem dX9_untie_0 : decode cX9_untie 0 = .ok (.aload_n 0, 1) := by decide +kernel
theorem dX9_untie_1 : decode cX9_untie 1 = .ok (.aload_n 0, 1) := by decide +kernel
theorem dX9_untie_2 : decode cX9_untie 2 = .ok (.getfield 128, 3) := by decide +kernel
theorem dX9_untie_5 : decode cX9_untie 5 = .ok (.ifCond .ne 7, 3) := by decide +kernel
theorem dX9_untie_8 : decode cX9_untie 8 = .ok (.iconst 1, 1) := by decide +kernel
theorem dX9_untie_9 : decode cX9_untie 9 = .ok (.goto 4, 3) := by decide +kernel
theorem dX9_untie_12 : decode cX9_untie 12 = .ok (.iconst 0, 1) := by decide +kernel
theorem dX9_untie_13 : decode cX9_untie 13 = .ok (.iconst 1, 1) := by decide +kernel
theorem dX9_untie_14 : decode cX9_untie 14 = .ok (.invokevirtual 95, 3) := by decide +kernel
theorem dX9_untie_17 : decode cX9_untie 17 = .ok (.ifCond .eq 5, 3) := by decide +kernel
theorem dX9_untie_20 : decode cX9_untie 20 = .ok (.iconst 0, 1) := by decide +kernel
theorem dX9_untie_21 : decode cX9_untie 21 = .ok (.ireturn, 1) := by decide +kernel
theorem dX9_untie_22 : decode cX9_untie 22 = .ok (.aload_n 0, 1) := by decide +kernel
theorem dX9_untie_23 : decode cX9_untie 23 = .ok (.iconst 0, 1) := by decide +kernel
theorem dX9_untie_24 : decode cX9_untie 24 = .ok (.putfield 128, 3) := by decide +kernel
theorem dX9_untie_27 : decode cX9_untie 27 = .ok (.aload_n 0, 1) := by decide +kernel
theorem dX9_untie_28 : decode cX9_untie 28 = .ok (.invokevirtual 148, 3) := by decide +kernel
theorem dX9_untie_31 : decode cX9_untie 31 = .ok (.ireturn, 1) := by decide +kernel
set_option maxRecDepth 20000 in
theorem ggX9_island_X9_isNoSite : GoodIn wsX9_island wsX9_isNoSite := goodIn_r _ [5, 6, 7, 8, 4, 9, 10, 11, 12, 13, 14, 32, 33, 34, 35, 36, 37, 38, 39, 40, 41, 42, 43, 44, 45, 46, 47, 48, 49, 50, 51, 52, 53, 54, 55, 56, 57, 58, 59, 60, 61, 62, 63, 64, 65, 66, 67, 68, 69, 70] (by decide +kernel) (by decide +kernel)
set_option maxRecDepth 20000 in
theorem gX9_island_X9_isNoSite : GoodIn wsX9_island (wsV RX9 111 RX9 yX9_isNoSite wsX9_isNoSite) := goodIn_app (goodIn_of _ (by decide +kernel)) ggX9_island_X9_isNoSite
set_option maxRecDepth 20000 in
theorem ggX9_island_X9_islandOf : GoodIn wsX9_island wsX9_islandOf := goodIn_r _ [18, 19, 20, 21, 22, 4, 23, 6, 24, 25, 26, 27, 28, 29, 30, 31, 32, 33, 34, 35, 36, 37, 38, 39, 40, 41, 42, 43, 44, 45, 46, 47, 48, 49, 50, 51, 52, 53, 54, 55, 56, 57, 58, 59, 60, 61, 62, 63, 64, 65, 66, 67, 68, 69, 70] (by decide +kernel) (by decide +kernel)
set_option maxRecDepth 20000 in
theorem gX9_island_X9_islandOf : GoodIn wsX9_island (wsV RX9 124 RX9 yX9_islandOf wsX9_islandOf) := goodIn_app (goodIn_of _ (by decide +kernel)) ggX9_island_X9_islandOf
theorem dX9_island_0 : decode cX9_island 0 = .ok (.aload_n 0, 1) := by decide +kernel
theorem dX9_island_1 : decode cX9_island 1 = .ok (.iload_n 1, 1) := by decide +kernel
theorem dX9_island_2 : decode cX9_island 2 = .ok (.invokevirtual 111, 3) := by decide +kernel
theorem dX9_island_5 : decode cX9_island 5 = .ok (.ifCond .eq 7, 3) := by decide +kernel
theorem dX9_island_8 : decode cX9_island 8 = .ok (.iconst 0, 1) := by decide +kernel
theorem dX9_island_9 : decode cX9_island 9 = .ok (.goto 8, 3) := by decide +kernel
theorem dX9_island_12 : decode cX9_island 12 = .ok (.aload_n 0, 1) := by decide +kernel
theorem dX9_island_13 : decode cX9_island 13 = .ok (.iload_n 1, 1) := by decide +kernel
theorem dX9_island_14 : decode cX9_island 14 = .ok (.invokevirtual 124, 3) := by decide +kernel
theorem dX9_island_17 : decode cX9_island 17 = .ok (.ireturn, 1) := by decide +kernel
set_option maxRecDepth 20000 in
theorem ggX9_islandByRounds_X9_island : GoodIn wsX9_islandByRounds wsX9_island := goodIn_r _ [5, 6, 7, 8, 4, 9, 10, 11, 12, 13, 14, 15, 16, 17, 18, 19, 20, 21, 22, 23, 24, 25, 26, 27, 28, 29, 30, 31, 32, 33, 34, 35, 36, 37, 38, 39, 40, 41, 42, 43, 44, 45, 46, 47, 48, 49, 50, 51, 52, 53, 54, 55, 56, 57, 58, 59, 60, 61, 62, 63, 64, 65, 66, 67, 68, 69, 70, 71, 72, 73, 74] (by decide +kernel) (by decide +kernel)
set_option maxRecDepth 20000 in
theorem gX9_islandByRounds_X9_island : GoodIn wsX9_islandByRounds (wsV RX9 151 RX9 yX9_island wsX9_island) := goodIn_app (goodIn_of _ (by decide +kernel)) ggX9_islandByRounds_X9_island
theorem dX9_islandByRounds_0 : decode cX9_islandByRounds 0 = .ok (.aload_n 0, 1) := by decide +kernel
theorem dX9_islandByRounds_1 : decode cX9_islandByRounds 1 = .ok (.iload_n 1, 1) := by decide +kernel
theorem dX9_islandByRounds_2 : decode cX9_islandByRounds 2 = .ok (.invokevirtual 151, 3) := by decide +kernel
theorem dX9_islandByRounds_5 : decode cX9_islandByRounds 5 = .ok (.ireturn, 1) := by decide +kernel
set_option maxRecDepth 20000 in
theorem ggX9_islands_X9_many : GoodIn wsX9_islands wsX9_many := goodIn_r _ [6, 7, 8, 9, 10, 11, 5, 12, 13, 14, 15, 16, 17, 18, 19, 20, 21, 22, 23, 24, 25, 26, 27, 28, 29, 30, 31, 32, 33, 34, 35, 36, 37, 38, 39, 40, 41, 42, 43, 44, 45, 46, 47, 48, 49, 50, 51, 52, 53, 54, 55, 56, 57, 58, 59] (by decide +kernel) (by decide +kernel)
set_option maxRecDepth 20000 in
theorem gX9_islands_X9_many : GoodIn wsX9_islands (wsV RX9 144 RX9 yX9_many wsX9_many) := goodIn_app (goodIn_of _ (by decide +kernel)) ggX9_islands_X9_many
theorem dX9_islands_0 : decode cX9_islands 0 = .ok (.aload_n 0, 1) := by decide +kernel
theorem dX9_islands_1 : decode cX9_islands 1 = .ok (.iconst 0, 1) := by decide +kernel
theorem dX9_islands_2 : decode cX9_islands 2 = .ok (.putfield 85, 3) := by decide +kernel
theorem dX9_islands_5 : decode cX9_islands 5 = .ok (.aload_n 0, 1) := by decide +kernel
theorem dX9_islands_6 : decode cX9_islands 6 = .ok (.invokevirtual 144, 3) := by decide +kernel
theorem dX9_islands_9 : decode cX9_islands 9 = .ok (.ireturn, 1) := by decide +kernel
set_option maxRecDepth 20000 in
theorem ggX9_phase_X9_isNoSite : GoodIn wsX9_phase wsX9_isNoSite := goodIn_r _ [5, 6, 7, 8, 4, 9, 10, 11, 12, 13, 14, 38, 39, 40, 41, 42, 43, 44, 45, 46, 47, 48, 49, 50, 51, 52, 53, 54, 55, 56, 57, 58, 59, 60, 61, 62, 63, 64, 65, 66, 67, 68, 69, 70, 71, 72, 73, 74, 75, 76] (by decide +kernel) (by decide +kernel)
set_option maxRecDepth 20000 in
theorem gX9_phase_X9_isNoSite : GoodIn wsX9_phase (wsV RX9 111 RX9 yX9_isNoSite wsX9_isNoSite) := goodIn_app (goodIn_of _ (by decide +kernel)) ggX9_phase_X9_isNoSite
set_option maxRecDepth 20000 in
theorem ggX9_phase_X9_phaseOf : GoodIn wsX9_phase wsX9_phaseOf := goodIn_r _ [18, 19, 20, 21, 22, 23, 4, 24, 25, 26, 27, 28, 29, 6, 30, 31, 32, 33, 34, 35, 36, 37, 38, 39, 40, 41, 42, 43, 44, 45, 46, 47, 48, 49, 50, 51, 52, 53, 54, 55, 56, 57, 58, 59, 60, 61, 62, 63, 64, 65, 66, 67, 68, 69, 70, 71, 72, 73, 74, 75, 76] (by decide +kernel) (by decide +kernel)
set_option maxRecDepth 20000 in
theorem gX9_phase_X9_phaseOf : GoodIn wsX9_phase (wsV RX9 132 RX9 yX9_phaseOf wsX9_phaseOf) := goodIn_app (goodIn_of _ (by decide +kernel)) ggX9_phase_X9_phaseOf
theorem dX9_phase_0 : decode cX9_phase 0 = .ok (.aload_n 0, 1) := by decide +kernel
theorem dX9_phase_1 : decode cX9_phase 1 = .ok (.iload_n 1, 1) := by decide +kernel
theorem dX9_phase_2 : decode cX9_phase 2 = .ok (.invokevirtual 111, 3) := by decide +kernel
theorem dX9_phase_5 : decode cX9_phase 5 = .ok (.ifCond .eq 7, 3) := by decide +kernel
theorem dX9_phase_8 : decode cX9_phase 8 = .ok (.iconst 0, 1) := by decide +kernel
theorem dX9_phase_9 : decode cX9_phase 9 = .ok (.goto 8, 3) := by decide +kernel
theorem dX9_phase_12 : decode cX9_phase 12 = .ok (.aload_n 0, 1) := by decide +kernel
theorem dX9_phase_13 : decode cX9_phase 13 = .ok (.iload_n 1, 1) := by decide +kernel
theorem dX9_phase_14 : decode cX9_phase 14 = .ok (.invokevirtual 132, 3) := by decide +kernel
theorem dX9_phase_17 : decode cX9_phase 17 = .ok (.ireturn, 1) := by decide +kernel
set_option maxRecDepth 20000 in
theorem ggX9_gap_X9_isNoLine : GoodIn wsX9_gap wsX9_isNoLine := goodIn_r _ [5, 6, 7, 8, 4, 9, 10, 11, 12, 13, 14, 45, 46, 47, 48, 49, 50, 51, 52, 53, 54, 55, 56, 57, 58, 59, 60, 61, 62, 63, 64, 65, 66, 67, 68, 69, 70, 71, 72, 73, 74, 75, 76, 77, 78, 79, 80, 81, 82, 83] (by decide +kernel) (by decide +kernel)
set_option maxRecDepth 20000 in
theorem gX9_gap_X9_isNoLine : GoodIn wsX9_gap (wsV RX9 138 RX9 yX9_isNoLine wsX9_isNoLine) := goodIn_app (goodIn_of _ (by decide +kernel)) ggX9_gap_X9_isNoLine
set_option maxRecDepth 20000 in
theorem ggX9_gap_X9_gapOf : GoodIn wsX9_gap wsX9_gapOf := goodIn_r _ [18, 19, 20, 21, 22, 23, 24, 25, 26, 27, 28, 29, 30, 4, 31, 32, 33, 34, 35, 36, 37, 6, 38, 39, 40, 41, 42, 43, 44, 45, 46, 47, 48, 49, 50, 51, 52, 53, 54, 55, 56, 57, 58, 59, 60, 61, 62, 63, 64, 65, 66, 67, 68, 69, 70, 71, 72, 73, 74, 75, 76, 77, 78, 79, 80, 81, 82, 83] (by decide +kernel) (by decide +kernel)
set_option maxRecDepth 20000 in
theorem gX9_gap_X9_gapOf : GoodIn wsX9_gap (wsV RX9 141 RX9 yX9_gapOf wsX9_gapOf) := goodIn_app (goodIn_of _ (by decide +kernel)) ggX9_gap_X9_gapOf
theorem dX9_gap_0 : decode cX9_gap 0 = .ok (.aload_n 0, 1) := by decide +kernel
theorem dX9_gap_1 : decode cX9_gap 1 = .ok (.iload_n 1, 1) := by decide +kernel
theorem dX9_gap_2 : decode cX9_gap 2 = .ok (.invokevirtual 138, 3) := by decide +kernel
theorem dX9_gap_5 : decode cX9_gap 5 = .ok (.ifCond .eq 7, 3) := by decide +kernel
theorem dX9_gap_8 : decode cX9_gap 8 = .ok (.iconst 0, 1) := by decide +kernel
theorem dX9_gap_9 : decode cX9_gap 9 = .ok (.goto 8, 3) := by decide +kernel
theorem dX9_gap_12 : decode cX9_gap 12 = .ok (.aload_n 0, 1) := by decide +kernel
theorem dX9_gap_13 : decode cX9_gap 13 = .ok (.iload_n 1, 1) := by decide +kernel
theorem dX9_gap_14 : decode cX9_gap 14 = .ok (.invokevirtual 141, 3) := by decide +kernel
theorem dX9_gap_17 : decode cX9_gap 17 = .ok (.ireturn, 1) := by decide +kernel
set_option maxRecDepth 20000 in
theorem ggX9_addGenerator_X9_isIn : GoodIn wsX9_addGenerator wsX9_isIn := goodIn_r _ [11] (by decide +kernel) (by decide +kernel)
set_option maxRecDepth 20000 in
theorem gX9_addGenerator_X9_isIn : GoodIn wsX9_addGenerator (va_wsS RX9 91 yX9_isIn wsX9_isIn) := goodIn_app (goodIn_of _ (by decide +kernel)) ggX9_addGenerator_X9_isIn
set_option maxRecDepth 20000 in
theorem ggX9_addGenerator_X9_isNoSite : GoodIn wsX9_addGenerator wsX9_isNoSite := goodIn_r _ [15, 16, 8, 9, 10, 11, 17, 18, 19, 20, 21, 22, 23, 24, 25, 26, 27, 28, 29, 30, 31, 32, 33, 34, 35, 36, 37, 38, 39, 40, 41, 42, 43, 44, 45, 46, 47, 48, 49, 50, 51, 52, 53, 54, 55, 56, 57, 58, 59, 60] (by decide +kernel) (by decide +kernel)
set_option maxRecDepth 20000 in
theorem gX9_addGenerator_X9_isNoSite : GoodIn wsX9_addGenerator (wsV RX9 111 RX9 yX9_isNoSite wsX9_isNoSite) := goodIn_app (goodIn_of _ (by decide +kernel)) ggX9_addGenerator_X9_isNoSite
set_option maxRecDepth 20000 in
theorem ggX9_addGenerator_X9_isThrown : GoodIn wsX9_addGenerator wsX9_isThrown := goodIn_r _ [20, 21, 22, 23, 24, 25, 26, 27, 28, 29, 30, 31, 32, 33, 34, 35, 36, 37, 38, 39, 40, 41, 42, 43, 44, 45, 46, 47, 48, 49, 50, 51, 52, 53, 54, 55, 56, 57, 58, 59, 60] (by decide +kernel) (by decide +kernel)
set_option maxRecDepth 20000 in
theorem gX9_addGenerator_X9_isThrown : GoodIn wsX9_addGenerator (wsV RX9 95 RX9 yX9_isThrown wsX9_isThrown) := goodIn_app (goodIn_of _ (by decide +kernel)) ggX9_addGenerator_X9_isThrown
theorem dX9_addGenerator_0 : decode cX9_addGenerator 0 = .ok (.iload_n 2, 1) := by decide +kernel
theorem dX9_addGenerator_1 : decode cX9_addGenerator 1 = .ok (.iconst 0, 1) := by decide +kernel
theorem dX9_addGenerator_2 : decode cX9_addGenerator 2 = .ok (.bipush 100, 2) := by decide +kernel
theorem dX9_addGenerator_4 : decode cX9_addGenerator 4 = .ok (.invokestatic 91, 3) := by decide +kernel
theorem dX9_addGenerator_7 : decode cX9_addGenerator 7 = .ok (.ifCond .eq 46, 3) := by decide +kernel
theorem dX9_addGenerator_10 : decode cX9_addGenerator 10 = .ok (.iload_n 3, 1) := by decide +kernel
theorem dX9_addGenerator_11 : decode cX9_addGenerator 11 = .ok (.iconst 1, 1) := by decide +kernel
theorem dX9_addGenerator_12 : decode cX9_addGenerator 12 = .ok (.sipush 200, 3) := by decide +kernel
theorem dX9_addGenerator_15 : decode cX9_addGenerator 15 = .ok (.invokestatic 91, 3) := by decide +kernel
theorem dX9_addGenerator_18 : decode cX9_addGenerator 18 = .ok (.ifCond .eq 35, 3) := by decide +kernel
theorem dX9_addGenerator_21 : decode cX9_addGenerator 21 = .ok (.iload_n 3, 1) := by decide +kernel
theorem dX9_addGenerator_22 : decode cX9_addGenerator 22 = .ok (.iload_n 2, 1) := by decide +kernel
theorem dX9_addGenerator_23 : decode cX9_addGenerator 23 = .ok (.if_icmp .lt 30, 3) := by decide +kernel
theorem dX9_addGenerator_26 : decode cX9_addGenerator 26 = .ok (.iload 4, 2) := by decide +kernel
theorem dX9_addGenerator_28 : decode cX9_addGenerator 28 = .ok (.iconst 0, 1) := by decide +kernel
theorem dX9_addGenerator_29 : decode cX9_addGenerator 29 = .ok (.bipush 9, 2) := by decide +kernel
theorem dX9_addGenerator_31 : decode cX9_addGenerator 31 = .ok (.invokestatic 91, 3) := by decide +kernel
theorem dX9_addGenerator_34 : decode cX9_addGenerator 34 = .ok (.ifCond .eq 19, 3) := by decide +kernel
theorem dX9_addGenerator_37 : decode cX9_addGenerator 37 = .ok (.iload 5, 2) := by decide +kernel
theorem dX9_addGenerator_39 : decode cX9_addGenerator 39 = .ok (.iconst 0, 1) := by decide +kernel
theorem dX9_addGenerator_40 : decode cX9_addGenerator 40 = .ok (.sipush 9999, 3) := by decide +kernel
theorem dX9_addGenerator_43 : decode cX9_addGenerator 43 = .ok (.invokestatic 91, 3) := by decide +kernel
theorem dX9_addGenerator_46 : decode cX9_addGenerator 46 = .ok (.ifCond .eq 7, 3) := by decide +kernel
theorem dX9_addGenerator_49 : decode cX9_addGenerator 49 = .ok (.iconst 1, 1) := by decide +kernel
theorem dX9_addGenerator_50 : decode cX9_addGenerator 50 = .ok (.goto 4, 3) := by decide +kernel
theorem dX9_addGenerator_53 : decode cX9_addGenerator 53 = .ok (.iconst 0, 1) := by decide +kernel
theorem dX9_addGenerator_54 : decode cX9_addGenerator 54 = .ok (.istore 6, 2) := by decide +kernel
theorem dX9_addGenerator_56 : decode cX9_addGenerator 56 = .ok (.aload_n 0, 1) := by decide +kernel
theorem dX9_addGenerator_57 : decode cX9_addGenerator 57 = .ok (.iload_n 1, 1) := by decide +kernel
theorem dX9_addGenerator_58 : decode cX9_addGenerator 58 = .ok (.invokevirtual 111, 3) := by decide +kernel
theorem dX9_addGenerator_61 : decode cX9_addGenerator 61 = .ok (.ifCond .ne 43, 3) := by decide +kernel
theorem dX9_addGenerator_64 : decode cX9_addGenerator 64 = .ok (.aload_n 0, 1) := by decide +kernel
theorem dX9_addGenerator_65 : decode cX9_addGenerator 65 = .ok (.iload 6, 2) := by decide +kernel
theorem dX9_addGenerator_67 : decode cX9_addGenerator 67 = .ok (.ifCond .ne 7, 3) := by decide +kernel
theorem dX9_addGenerator_70 : decode cX9_addGenerator 70 = .ok (.iconst 1, 1) := by decide +kernel
theorem dX9_addGenerator_71 : decode cX9_addGenerator 71 = .ok (.goto 4, 3) := by decide +kernel
theorem dX9_addGenerator_74 : decode cX9_addGenerator 74 = .ok (.iconst 0, 1) := by decide +kernel
theorem dX9_addGenerator_75 : decode cX9_addGenerator 75 = .ok (.iconst 2, 1) := by decide +kernel
theorem dX9_addGenerator_76 : decode cX9_addGenerator 76 = .ok (.invokevirtual 95, 3) := by decide +kernel
theorem dX9_addGenerator_79 : decode cX9_addGenerator 79 = .ok (.ifCond .ne 25, 3) := by decide +kernel
theorem dX9_addGenerator_82 : decode cX9_addGenerator 82 = .ok (.aload_n 0, 1) := by decide +kernel
theorem dX9_addGenerator_83 : decode cX9_addGenerator 83 = .ok (.aload_n 0, 1) := by decide +kernel
theorem dX9_addGenerator_84 : decode cX9_addGenerator 84 = .ok (.getfield 102, 3) := by decide +kernel
theorem dX9_addGenerator_87 : decode cX9_addGenerator 87 = .ok (.bipush 6, 2) := by decide +kernel
theorem dX9_addGenerator_89 : decode cX9_addGenerator 89 = .ok (.if_icmp .ne 7, 3) := by decide +kernel
theorem dX9_addGenerator_92 : decode cX9_addGenerator 92 = .ok (.iconst 1, 1) := by decide +kernel
theorem dX9_addGenerator_93 : decode cX9_addGenerator 93 = .ok (.goto 4, 3) := by decide +kernel
theorem dX9_addGenerator_96 : decode cX9_addGenerator 96 = .ok (.iconst 0, 1) := by decide +kernel
theorem dX9_addGenerator_97 : decode cX9_addGenerator 97 = .ok (.iconst 3, 1) := by decide +kernel
theorem dX9_addGenerator_98 : decode cX9_addGenerator 98 = .ok (.invokevirtual 95, 3) := by decide +kernel
theorem dX9_addGenerator_101 : decode cX9_addGenerator 101 = .ok (.ifCond .eq 5, 3) := by decide +kernel
theorem dX9_addGenerator_104 : decode cX9_addGenerator 104 = .ok (.iconst 0, 1) := by decide +kernel
theorem dX9_addGenerator_105 : decode cX9_addGenerator 105 = .ok (.ireturn, 1) := by decide +kernel
theorem dX9_addGenerator_106 : decode cX9_addGenerator 106 = .ok (.aload_n 0, 1) := by decide +kernel
theorem dX9_addGenerator_107 : decode cX9_addGenerator 107 = .ok (.getfield 102, 3) := by decide +kernel
theorem dX9_addGenerator_110 : decode cX9_addGenerator 110 = .ok (.istore 7, 2) := by decide +kernel
theorem dX9_addGenerator_112 : decode cX9_addGenerator 112 = .ok (.aload_n 0, 1) := by decide +kernel
theorem dX9_addGenerator_113 : decode cX9_addGenerator 113 = .ok (.getfield 29, 3) := by decide +kernel
theorem dX9_addGenerator_116 : decode cX9_addGenerator 116 = .ok (.iload 7, 2) := by decide +kernel
theorem dX9_addGenerator_118 : decode cX9_addGenerator 118 = .ok (.iload_n 1, 1) := by decide +kernel
theorem dX9_addGenerator_119 : decode cX9_addGenerator 119 = .ok (.iastore, 1) := by decide +kernel
theorem dX9_addGenerator_120 : decode cX9_addGenerator 120 = .ok (.aload_n 0, 1) := by decide +kernel
theorem dX9_addGenerator_121 : decode cX9_addGenerator 121 = .ok (.getfield 32, 3) := by decide +kernel
theorem dX9_addGenerator_124 : decode cX9_addGenerator 124 = .ok (.iload 7, 2) := by decide +kernel
theorem dX9_addGenerator_126 : decode cX9_addGenerator 126 = .ok (.iload_n 2, 1) := by decide +kernel
theorem dX9_addGenerator_127 : decode cX9_addGenerator 127 = .ok (.iastore, 1) := by decide +kernel
theorem dX9_addGenerator_128 : decode cX9_addGenerator 128 = .ok (.aload_n 0, 1) := by decide +kernel
theorem dX9_addGenerator_129 : decode cX9_addGenerator 129 = .ok (.getfield 35, 3) := by decide +kernel
theorem dX9_addGenerator_132 : decode cX9_addGenerator 132 = .ok (.iload 7, 2) := by decide +kernel
theorem dX9_addGenerator_134 : decode cX9_addGenerator 134 = .ok (.iload_n 3, 1) := by decide +kernel
theorem dX9_addGenerator_135 : decode cX9_addGenerator 135 = .ok (.iastore, 1) := by decide +kernel
theorem dX9_addGenerator_136 : decode cX9_addGenerator 136 = .ok (.aload_n 0, 1) := by decide +kernel
theorem dX9_addGenerator_137 : decode cX9_addGenerator 137 = .ok (.getfield 38, 3) := by decide +kernel
theorem dX9_addGenerator_140 : decode cX9_addGenerator 140 = .ok (.iload 7, 2) := by decide +kernel
theorem dX9_addGenerator_142 : decode cX9_addGenerator 142 = .ok (.iload 4, 2) := by decide +kernel
theorem dX9_addGenerator_144 : decode cX9_addGenerator 144 = .ok (.iastore, 1) := by decide +kernel
theorem dX9_addGenerator_145 : decode cX9_addGenerator 145 = .ok (.aload_n 0, 1) := by decide +kernel
theorem dX9_addGenerator_146 : decode cX9_addGenerator 146 = .ok (.getfield 41, 3) := by decide +kernel
theorem dX9_addGenerator_149 : decode cX9_addGenerator 149 = .ok (.iload 7, 2) := by decide +kernel
theorem dX9_addGenerator_151 : decode cX9_addGenerator 151 = .ok (.iload 5, 2) := by decide +kernel
theorem dX9_addGenerator_153 : decode cX9_addGenerator 153 = .ok (.iastore, 1) := by decide +kernel
theorem dX9_addGenerator_154 : decode cX9_addGenerator 154 = .ok (.aload_n 0, 1) := by decide +kernel
theorem dX9_addGenerator_155 : decode cX9_addGenerator 155 = .ok (.getfield 50, 3) := by decide +kernel
theorem dX9_addGenerator_158 : decode cX9_addGenerator 158 = .ok (.iload 7, 2) := by decide +kernel
theorem dX9_addGenerator_160 : decode cX9_addGenerator 160 = .ok (.bipush 111, 2) := by decide +kernel
theorem dX9_addGenerator_162 : decode cX9_addGenerator 162 = .ok (.castore, 1) := by decide +kernel
theorem dX9_addGenerator_163 : decode cX9_addGenerator 163 = .ok (.aload_n 0, 1) := by decide +kernel
theorem dX9_addGenerator_164 : decode cX9_addGenerator 164 = .ok (.dup, 1) := by decide +kernel
theorem dX9_addGenerator_165 : decode cX9_addGenerator 165 = .ok (.getfield 102, 3) := by decide +kernel
theorem dX9_addGenerator_168 : decode cX9_addGenerator 168 = .ok (.iconst 1, 1) := by decide +kernel
theorem dX9_addGenerator_169 : decode cX9_addGenerator 169 = .ok (.iadd, 1) := by decide +kernel
theorem dX9_addGenerator_170 : decode cX9_addGenerator 170 = .ok (.putfield 102, 3) := by decide +kernel
theorem dX9_addGenerator_173 : decode cX9_addGenerator 173 = .ok (.iload 7, 2) := by decide +kernel
theorem dX9_addGenerator_175 : decode cX9_addGenerator 175 = .ok (.ireturn, 1) := by decide +kernel
theorem dX9_starts_0 : decode cX9_starts 0 = .ok (.aload_n 0, 1) := by decide +kernel
theorem dX9_starts_1 : decode cX9_starts 1 = .ok (.getfield 44, 3) := by decide +kernel
theorem dX9_starts_4 : decode cX9_starts 4 = .ok (.iload_n 1, 1) := by decide +kernel
theorem dX9_starts_5 : decode cX9_starts 5 = .ok (.aload_n 0, 1) := by decide +kernel
theorem dX9_starts_6 : decode cX9_starts 6 = .ok (.getfield 38, 3) := by decide +kernel
theorem dX9_starts_9 : decode cX9_starts 9 = .ok (.iload_n 1, 1) := by decide +kernel
theorem dX9_starts_10 : decode cX9_starts 10 = .ok (.iaload, 1) := by decide +kernel
theorem dX9_starts_11 : decode cX9_starts 11 = .ok (.iastore, 1) := by decide +kernel
theorem dX9_starts_12 : decode cX9_starts 12 = .ok (.aload_n 0, 1) := by decide +kernel
theorem dX9_starts_13 : decode cX9_starts 13 = .ok (.getfield 50, 3) := by decide +kernel
theorem dX9_starts_16 : decode cX9_starts 16 = .ok (.iload_n 1, 1) := by decide +kernel
theorem dX9_starts_17 : decode cX9_starts 17 = .ok (.aload_n 0, 1) := by decide +kernel
theorem dX9_starts_18 : decode cX9_starts 18 = .ok (.getfield 38, 3) := by decide +kernel
theorem dX9_starts_21 : decode cX9_starts 21 = .ok (.iload_n 1, 1) := by decide +kernel
theorem dX9_starts_22 : decode cX9_starts 22 = .ok (.iaload, 1) := by decide +kernel
theorem dX9_starts_23 : decode cX9_starts 23 = .ok (.ifCond .ne 8, 3) := by decide +kernel
theorem dX9_starts_26 : decode cX9_starts 26 = .ok (.bipush 114, 2) := by decide +kernel
theorem dX9_starts_28 : decode cX9_starts 28 = .ok (.goto 5, 3) := by decide +kernel
theorem dX9_starts_31 : decode cX9_starts 31 = .ok (.bipush 119, 2) := by decide +kernel
theorem dX9_starts_33 : decode cX9_starts 33 = .ok (.castore, 1) := by decide +kernel
theorem dX9_starts_34 : decode cX9_starts 34 = .ok (.return_, 1) := by decide +kernel
set_option maxRecDepth 20000 in
theorem ggX9_start_X9_isNoGenerator : GoodIn wsX9_start wsX9_isNoGenerator := goodIn_r _ [9, 10, 11, 12, 8, 13, 14, 15, 16, 17, 18, 24, 25, 26, 27, 28, 29, 30, 31, 32, 33, 34, 35, 36, 37, 38, 39, 40, 41, 42, 43, 44, 45, 46, 47, 48, 49, 50, 51, 52, 53, 54, 55, 56, 57, 58, 59, 60, 61, 62] (by decide +kernel) (by decide +kernel)
set_option maxRecDepth 20000 in
theorem gX9_start_X9_isNoGenerator : GoodIn wsX9_start (wsV RX9 154 RX9 yX9_isNoGenerator wsX9_isNoGenerator) := goodIn_app (goodIn_of _ (by decide +kernel)) ggX9_start_X9_isNoGenerator
set_option maxRecDepth 20000 in
theorem ggX9_start_X9_isThrown : GoodIn wsX9_start wsX9_isThrown := goodIn_r _ [17, 18, 24, 25, 26, 27, 28, 29, 30, 31, 32, 33, 34, 35, 36, 37, 38, 39, 40, 41, 42, 43, 44, 45, 46, 47, 48, 49, 50, 51, 52, 53, 54, 55, 56, 57, 58, 59, 60, 61, 62] (by decide +kernel) (by decide +kernel)
set_option maxRecDepth 20000 in
theorem gX9_start_X9_isThrown : GoodIn wsX9_start (wsV RX9 95 RX9 yX9_isThrown wsX9_isThrown) := goodIn_app (goodIn_of _ (by decide +kernel)) ggX9_start_X9_isThrown
set_option maxRecDepth 20000 in
theorem ggX9_start_X9_starts : GoodIn wsX9_start wsX9_starts := goodIn_r _ [22, 23, 4, 1, 24, 25, 26, 27, 28, 29, 30, 31, 32, 33, 34, 35, 36, 37, 38, 39, 40, 41, 42, 43, 44, 45, 46, 47, 48, 49, 50, 51, 52, 53, 54, 55, 56, 57, 58, 59, 60, 61, 62] (by decide +kernel) (by decide +kernel)
set_option maxRecDepth 20000 in
theorem gX9_start_X9_starts : GoodIn wsX9_start (wsV RX9 157 RX9 yX9_starts wsX9_starts) := goodIn_app (goodIn_of _ (by decide +kernel)) ggX9_start_X9_starts
theorem dX9_start_0 : decode cX9_start 0 = .ok (.aload_n 0, 1) := by decide +kernel
theorem dX9_start_1 : decode cX9_start 1 = .ok (.iload_n 1, 1) := by decide +kernel
theorem dX9_start_2 : decode cX9_start 2 = .ok (.invokevirtual 154, 3) := by decide +kernel
theorem dX9_start_5 : decode cX9_start 5 = .ok (.ifCond .ne 55, 3) := by decide +kernel
theorem dX9_start_8 : decode cX9_start 8 = .ok (.aload_n 0, 1) := by decide +kernel
theorem dX9_start_9 : decode cX9_start 9 = .ok (.aload_n 0, 1) := by decide +kernel
theorem dX9_start_10 : decode cX9_start 10 = .ok (.getfield 50, 3) := by decide +kernel
theorem dX9_start_13 : decode cX9_start 13 = .ok (.iload_n 1, 1) := by decide +kernel
theorem dX9_start_14 : decode cX9_start 14 = .ok (.caload, 1) := by decide +kernel
theorem dX9_start_15 : decode cX9_start 15 = .ok (.bipush 111, 2) := by decide +kernel
theorem dX9_start_17 : decode cX9_start 17 = .ok (.if_icmp .eq 7, 3) := by decide +kernel
theorem dX9_start_20 : decode cX9_start 20 = .ok (.iconst 1, 1) := by decide +kernel
theorem dX9_start_21 : decode cX9_start 21 = .ok (.goto 4, 3) := by decide +kernel
theorem dX9_start_24 : decode cX9_start 24 = .ok (.iconst 0, 1) := by decide +kernel
theorem dX9_start_25 : decode cX9_start 25 = .ok (.iconst 2, 1) := by decide +kernel
theorem dX9_start_26 : decode cX9_start 26 = .ok (.invokevirtual 95, 3) := by decide +kernel
theorem dX9_start_29 : decode cX9_start 29 = .ok (.ifCond .ne 31, 3) := by decide +kernel
theorem dX9_start_32 : decode cX9_start 32 = .ok (.aload_n 0, 1) := by decide +kernel
theorem dX9_start_33 : decode cX9_start 33 = .ok (.aload_n 0, 1) := by decide +kernel
theorem dX9_start_34 : decode cX9_start 34 = .ok (.getfield 41, 3) := by decide +kernel
theorem dX9_start_37 : decode cX9_start 37 = .ok (.iload_n 1, 1) := by decide +kernel
theorem dX9_start_38 : decode cX9_start 38 = .ok (.iaload, 1) := by decide +kernel
theorem dX9_start_39 : decode cX9_start 39 = .ok (.aload_n 0, 1) := by decide +kernel
theorem dX9_start_40 : decode cX9_start 40 = .ok (.getfield 32, 3) := by decide +kernel
theorem dX9_start_43 : decode cX9_start 43 = .ok (.iload_n 1, 1) := by decide +kernel
theorem dX9_start_44 : decode cX9_start 44 = .ok (.iaload, 1) := by decide +kernel
theorem dX9_start_45 : decode cX9_start 45 = .ok (.if_icmp .ge 7, 3) := by decide +kernel
theorem dX9_start_48 : decode cX9_start 48 = .ok (.iconst 1, 1) := by decide +kernel
theorem dX9_start_49 : decode cX9_start 49 = .ok (.goto 4, 3) := by decide +kernel
theorem dX9_start_52 : decode cX9_start 52 = .ok (.iconst 0, 1) := by decide +kernel
theorem dX9_start_53 : decode cX9_start 53 = .ok (.iconst 3, 1) := by decide +kernel
theorem dX9_start_54 : decode cX9_start 54 = .ok (.invokevirtual 95, 3) := by decide +kernel
theorem dX9_start_57 : decode cX9_start 57 = .ok (.ifCond .eq 5, 3) := by decide +kernel
theorem dX9_start_60 : decode cX9_start 60 = .ok (.iconst 0, 1) := by decide +kernel
theorem dX9_start_61 : decode cX9_start 61 = .ok (.ireturn, 1) := by decide +kernel
theorem dX9_start_62 : decode cX9_start 62 = .ok (.aload_n 0, 1) := by decide +kernel
theorem dX9_start_63 : decode cX9_start 63 = .ok (.iload_n 1, 1) := by decide +kernel
theorem dX9_start_64 : decode cX9_start 64 = .ok (.invokevirtual 157, 3) := by decide +kernel
theorem dX9_start_67 : decode cX9_start 67 = .ok (.aload_n 0, 1) := by decide +kernel
theorem dX9_start_68 : decode cX9_start 68 = .ok (.getfield 38, 3) := by decide +kernel
theorem dX9_start_71 : decode cX9_start 71 = .ok (.iload_n 1, 1) := by decide +kernel
theorem dX9_start_72 : decode cX9_start 72 = .ok (.iaload, 1) := by decide +kernel
theorem dX9_start_73 : decode cX9_start 73 = .ok (.ireturn, 1) := by decide +kernel
set_option maxRecDepth 20000 in
theorem ggX9_stop_X9_isNoGenerator : GoodIn wsX9_stop wsX9_isNoGenerator := goodIn_r _ [7, 8, 9, 10, 6, 11, 12, 13, 14, 15, 16, 17, 18, 19, 20, 21, 22, 23, 24, 25, 26, 27, 28, 29, 30, 31, 32, 33, 34, 35, 36, 37, 38, 39, 40, 41, 42, 43, 44, 45, 46, 47, 48, 49, 50, 51, 52, 53, 54, 55] (by decide +kernel) (by decide +kernel)
set_option maxRecDepth 20000 in
theorem gX9_stop_X9_isNoGenerator : GoodIn wsX9_stop (wsV RX9 154 RX9 yX9_isNoGenerator wsX9_isNoGenerator) := goodIn_app (goodIn_of _ (by decide +kernel)) ggX9_stop_X9_isNoGenerator
set_option maxRecDepth 20000 in
theorem ggX9_stop_X9_isThrown : GoodIn wsX9_stop wsX9_isThrown := goodIn_r _ [15, 16, 17, 18, 19, 20, 21, 22, 23, 24, 25, 26, 27, 28, 29, 30, 31, 32, 33, 34, 35, 36, 37, 38, 39, 40, 41, 42, 43, 44, 45, 46, 47, 48, 49, 50, 51, 52, 53, 54, 55] (by decide +kernel) (by decide +kernel)
set_option maxRecDepth 20000 in
theorem gX9_stop_X9_isThrown : GoodIn wsX9_stop (wsV RX9 95 RX9 yX9_isThrown wsX9_isThrown) := goodIn_app (goodIn_of _ (by decide +kernel)) ggX9_stop_X9_isThrown
theorem dX9_stop_0 : decode cX9_stop 0 = .ok (.aload_n 0, 1) := by decide +kernel
theorem dX9_stop_1 : decode cX9_stop 1 = .ok (.iload_n 1, 1) := by decide +kernel
theorem dX9_stop_2 : decode cX9_stop 2 = .ok (.invokevirtual 154, 3) := by decide +kernel
theorem dX9_stop_5 : decode cX9_stop 5 = .ok (.ifCond .ne 27, 3) := by decide +kernel
theorem dX9_stop_8 : decode cX9_stop 8 = .ok (.aload_n 0, 1) := by decide +kernel
theorem dX9_stop_9 : decode cX9_stop 9 = .ok (.aload_n 0, 1) := by decide +kernel
theorem dX9_stop_10 : decode cX9_stop 10 = .ok (.getfield 50, 3) := by decide +kernel
theorem dX9_stop_13 : decode cX9_stop 13 = .ok (.iload_n 1, 1) := by decide +kernel
theorem dX9_stop_14 : decode cX9_stop 14 = .ok (.caload, 1) := by decide +kernel
theorem dX9_stop_15 : decode cX9_stop 15 = .ok (.bipush 111, 2) := by decide +kernel
theorem dX9_stop_17 : decode cX9_stop 17 = .ok (.if_icmp .ne 7, 3) := by decide +kernel
theorem dX9_stop_20 : decode cX9_stop 20 = .ok (.iconst 1, 1) := by decide +kernel
theorem dX9_stop_21 : decode cX9_stop 21 = .ok (.goto 4, 3) := by decide +kernel
theorem dX9_stop_24 : decode cX9_stop 24 = .ok (.iconst 0, 1) := by decide +kernel
theorem dX9_stop_25 : decode cX9_stop 25 = .ok (.iconst 2, 1) := by decide +kernel
theorem dX9_stop_26 : decode cX9_stop 26 = .ok (.invokevirtual 95, 3) := by decide +kernel
theorem dX9_stop_29 : decode cX9_stop 29 = .ok (.ifCond .eq 5, 3) := by decide +kernel
theorem dX9_stop_32 : decode cX9_stop 32 = .ok (.iconst 0, 1) := by decide +kernel
theorem dX9_stop_33 : decode cX9_stop 33 = .ok (.ireturn, 1) := by decide +kernel
theorem dX9_stop_34 : decode cX9_stop 34 = .ok (.aload_n 0, 1) := by decide +kernel
theorem dX9_stop_35 : decode cX9_stop 35 = .ok (.getfield 50, 3) := by decide +kernel
theorem dX9_stop_38 : decode cX9_stop 38 = .ok (.iload_n 1, 1) := by decide +kernel
theorem dX9_stop_39 : decode cX9_stop 39 = .ok (.bipush 111, 2) := by decide +kernel
theorem dX9_stop_41 : decode cX9_stop 41 = .ok (.castore, 1) := by decide +kernel
theorem dX9_stop_42 : decode cX9_stop 42 = .ok (.aload_n 0, 1) := by decide +kernel
theorem dX9_stop_43 : decode cX9_stop 43 = .ok (.getfield 41, 3) := by decide +kernel
theorem dX9_stop_46 : decode cX9_stop 46 = .ok (.iload_n 1, 1) := by decide +kernel
theorem dX9_stop_47 : decode cX9_stop 47 = .ok (.iaload, 1) := by decide +kernel
theorem dX9_stop_48 : decode cX9_stop 48 = .ok (.ireturn, 1) := by decide +kernel
set_option maxRecDepth 20000 in
theorem ggX9_startNext_X9_isNoSite : GoodIn wsX9_startNext wsX9_isNoSite := goodIn_r _ [13, 14, 15, 16, 12, 17, 18, 19, 20, 21, 22, 44, 45, 46, 47, 48, 49, 50, 51, 52, 53, 54, 55, 56, 57, 58, 59, 60, 61, 62, 63, 64, 65, 66, 67, 68, 69, 70, 71, 72, 73, 74, 75, 76, 77, 78, 79, 80, 81, 82] (by decide +kernel) (by decide +kernel)
set_option maxRecDepth 20000 in
theorem gX9_startNext_X9_isNoSite : GoodIn wsX9_startNext (wsV RX9 111 RX9 yX9_isNoSite wsX9_isNoSite) := goodIn_app (goodIn_of _ (by decide +kernel)) ggX9_startNext_X9_isNoSite
set_option maxRecDepth 20000 in
theorem ggX9_startNext_X9_islandOf : GoodIn wsX9_startNext wsX9_islandOf := goodIn_r _ [26, 2, 27, 28, 29, 12, 30, 14, 31, 32, 33, 34, 35, 36, 37, 38, 44, 45, 46, 47, 48, 49, 50, 51, 52, 53, 54, 55, 56, 57, 58, 59, 60, 61, 62, 63, 64, 65, 66, 67, 68, 69, 70, 71, 72, 73, 74, 75, 76, 77, 78, 79, 80, 81, 82] (by decide +kernel) (by decide +kernel)
set_option maxRecDepth 20000 in
theorem gX9_startNext_X9_islandOf : GoodIn wsX9_startNext (wsV RX9 124 RX9 yX9_islandOf wsX9_islandOf) := goodIn_app (goodIn_of _ (by decide +kernel)) ggX9_startNext_X9_islandOf
set_option maxRecDepth 20000 in
theorem ggX9_startNext_X9_isThrown : GoodIn wsX9_startNext wsX9_isThrown := goodIn_r _ [21, 22, 44, 45, 46, 47, 48, 49, 50, 51, 52, 53, 54, 55, 56, 57, 58, 59, 60, 61, 62, 63, 64, 65, 66, 67, 68, 69, 70, 71, 72, 73, 74, 75, 76, 77, 78, 79, 80, 81, 82] (by decide +kernel) (by decide +kernel)
set_option maxRecDepth 20000 in
theorem gX9_startNext_X9_isThrown : GoodIn wsX9_startNext (wsV RX9 95 RX9 yX9_isThrown wsX9_isThrown) := goodIn_app (goodIn_of _ (by decide +kernel)) ggX9_startNext_X9_isThrown
set_option maxRecDepth 20000 in
theorem ggX9_startNext_X9_starts : GoodIn wsX9_startNext wsX9_starts := goodIn_r _ [42, 43, 7, 4, 44, 45, 46, 47, 48, 49, 50, 51, 52, 53, 54, 55, 56, 57, 58, 59, 60, 61, 62, 63, 64, 65, 66, 67, 68, 69, 70, 71, 72, 73, 74, 75, 76, 77, 78, 79, 80, 81, 82] (by decide +kernel) (by decide +kernel)
set_option maxRecDepth 20000 in
theorem gX9_startNext_X9_starts : GoodIn wsX9_startNext (wsV RX9 157 RX9 yX9_starts wsX9_starts) := goodIn_app (goodIn_of _ (by decide +kernel)) ggX9_startNext_X9_starts
theorem dX9_startNext_0 : decode cX9_startNext 0 = .ok (.aload_n 0, 1) := by decide +kernel
theorem dX9_startNext_1 : decode cX9_startNext 1 = .ok (.iload_n 1, 1) := by decide +kernel
theorem dX9_startNext_2 : decode cX9_startNext 2 = .ok (.invokevirtual 111, 3) := by decide +kernel
theorem dX9_startNext_5 : decode cX9_startNext 5 = .ok (.ifCond .eq 5, 3) := by decide +kernel
theorem dX9_startNext_8 : decode cX9_startNext 8 = .ok (.iconst 0, 1) := by decide +kernel
theorem dX9_startNext_9 : decode cX9_startNext 9 = .ok (.ireturn, 1) := by decide +kernel
theorem dX9_startNext_10 : decode cX9_startNext 10 = .ok (.aload_n 0, 1) := by decide +kernel
theorem dX9_startNext_11 : decode cX9_startNext 11 = .ok (.iload_n 1, 1) := by decide +kernel
theorem dX9_startNext_12 : decode cX9_startNext 12 = .ok (.invokevirtual 124, 3) := by decide +kernel
theorem dX9_startNext_15 : decode cX9_startNext 15 = .ok (.istore_n 2, 1) := by decide +kernel
theorem dX9_startNext_16 : decode cX9_startNext 16 = .ok (.iconst (-1), 1) := by decide +kernel
theorem dX9_startNext_17 : decode cX9_startNext 17 = .ok (.istore_n 3, 1) := by decide +kernel
theorem dX9_startNext_18 : decode cX9_startNext 18 = .ok (.iconst 0, 1) := by decide +kernel
theorem dX9_startNext_19 : decode cX9_startNext 19 = .ok (.istore 4, 2) := by decide +kernel
theorem dX9_startNext_21 : decode cX9_startNext 21 = .ok (.iload 4, 2) := by decide +kernel
theorem dX9_startNext_23 : decode cX9_startNext 23 = .ok (.aload_n 0, 1) := by decide +kernel
theorem dX9_startNext_24 : decode cX9_startNext 24 = .ok (.getfield 102, 3) := by decide +kernel
theorem dX9_startNext_27 : decode cX9_startNext 27 = .ok (.if_icmp .ge 125, 3) := by decide +kernel
theorem dX9_startNext_30 : decode cX9_startNext 30 = .ok (.aload_n 0, 1) := by decide +kernel
theorem dX9_startNext_31 : decode cX9_startNext 31 = .ok (.getfield 13, 3) := by decide +kernel
theorem dX9_startNext_34 : decode cX9_startNext 34 = .ok (.aload_n 0, 1) := by decide +kernel
theorem dX9_startNext_35 : decode cX9_startNext 35 = .ok (.getfield 29, 3) := by decide +kernel
theorem dX9_startNext_38 : decode cX9_startNext 38 = .ok (.iload 4, 2) := by decide +kernel
theorem dX9_startNext_40 : decode cX9_startNext 40 = .ok (.iaload, 1) := by decide +kernel
theorem dX9_startNext_41 : decode cX9_startNext 41 = .ok (.iaload, 1) := by decide +kernel
theorem dX9_startNext_42 : decode cX9_startNext 42 = .ok (.iload_n 2, 1) := by decide +kernel
theorem dX9_startNext_43 : decode cX9_startNext 43 = .ok (.if_icmp .ne 103, 3) := by decide +kernel
theorem dX9_startNext_46 : decode cX9_startNext 46 = .ok (.aload_n 0, 1) := by decide +kernel
theorem dX9_startNext_47 : decode cX9_startNext 47 = .ok (.getfield 50, 3) := by decide +kernel
theorem dX9_startNext_50 : decode cX9_startNext 50 = .ok (.iload 4, 2) := by decide +kernel
theorem dX9_startNext_52 : decode cX9_startNext 52 = .ok (.caload, 1) := by decide +kernel
theorem dX9_startNext_53 : decode cX9_startNext 53 = .ok (.bipush 111, 2) := by decide +kernel
theorem dX9_startNext_55 : decode cX9_startNext 55 = .ok (.if_icmp .ne 91, 3) := by decide +kernel
theorem dX9_startNext_58 : decode cX9_startNext 58 = .ok (.aload_n 0, 1) := by decide +kernel
theorem dX9_startNext_59 : decode cX9_startNext 59 = .ok (.getfield 41, 3) := by decide +kernel
theorem dX9_startNext_62 : decode cX9_startNext 62 = .ok (.iload 4, 2) := by decide +kernel
theorem dX9_startNext_64 : decode cX9_startNext 64 = .ok (.iaload, 1) := by decide +kernel
theorem dX9_startNext_65 : decode cX9_startNext 65 = .ok (.aload_n 0, 1) := by decide +kernel
theorem dX9_startNext_66 : decode cX9_startNext 66 = .ok (.getfield 32, 3) := by decide +kernel
theorem dX9_startNext_69 : decode cX9_startNext 69 = .ok (.iload 4, 2) := by decide +kernel
theorem dX9_startNext_71 : decode cX9_startNext 71 = .ok (.iaload, 1) := by decide +kernel
theorem dX9_startNext_72 : decode cX9_startNext 72 = .ok (.if_icmp .lt 74, 3) := by decide +kernel
theorem dX9_startNext_75 : decode cX9_startNext 75 = .ok (.iload_n 3, 1) := by decide +kernel
theorem dX9_startNext_76 : decode cX9_startNext 76 = .ok (.ifCond .lt 51, 3) := by decide +kernel
theorem dX9_startNext_79 : decode cX9_startNext 79 = .ok (.aload_n 0, 1) := by decide +kernel
theorem dX9_startNext_80 : decode cX9_startNext 80 = .ok (.getfield 38, 3) := by decide +kernel
theorem dX9_startNext_83 : decode cX9_startNext 83 = .ok (.iload 4, 2) := by decide +kernel
theorem dX9_startNext_85 : decode cX9_startNext 85 = .ok (.iaload, 1) := by decide +kernel
theorem dX9_startNext_86 : decode cX9_startNext 86 = .ok (.aload_n 0, 1) := by decide +kernel
theorem dX9_startNext_87 : decode cX9_startNext 87 = .ok (.getfield 38, 3) := by decide +kernel
theorem dX9_startNext_90 : decode cX9_startNext 90 = .ok (.iload_n 3, 1) := by decide +kernel
theorem dX9_startNext_91 : decode cX9_startNext 91 = .ok (.iaload, 1) := by decide +kernel
theorem dX9_startNext_92 : decode cX9_startNext 92 = .ok (.if_icmp .lt 35, 3) := by decide +kernel
theorem dX9_startNext_95 : decode cX9_startNext 95 = .ok (.aload_n 0, 1) := by decide +kernel
theorem dX9_startNext_96 : decode cX9_startNext 96 = .ok (.getfield 38, 3) := by decide +kernel
theorem dX9_startNext_99 : decode cX9_startNext 99 = .ok (.iload 4, 2) := by decide +kernel
theorem dX9_startNext_101 : decode cX9_startNext 101 = .ok (.iaload, 1) := by decide +kernel
theorem dX9_startNext_102 : decode cX9_startNext 102 = .ok (.aload_n 0, 1) := by decide +kernel
theorem dX9_startNext_103 : decode cX9_startNext 103 = .ok (.getfield 38, 3) := by decide +kernel
theorem dX9_startNext_106 : decode cX9_startNext 106 = .ok (.iload_n 3, 1) := by decide +kernel
theorem dX9_startNext_107 : decode cX9_startNext 107 = .ok (.iaload, 1) := by decide +kernel
theorem dX9_startNext_108 : decode cX9_startNext 108 = .ok (.if_icmp .ne 23, 3) := by decide +kernel
theorem dX9_startNext_111 : decode cX9_startNext 111 = .ok (.aload_n 0, 1) := by decide +kernel
theorem dX9_startNext_112 : decode cX9_startNext 112 = .ok (.getfield 35, 3) := by decide +kernel
theorem dX9_startNext_115 : decode cX9_startNext 115 = .ok (.iload 4, 2) := by decide +kernel
theorem dX9_startNext_117 : decode cX9_startNext 117 = .ok (.iaload, 1) := by decide +kernel
theorem dX9_startNext_118 : decode cX9_startNext 118 = .ok (.aload_n 0, 1) := by decide +kernel
theorem dX9_startNext_119 : decode cX9_startNext 119 = .ok (.getfield 35, 3) := by decide +kernel
theorem dX9_startNext_122 : decode cX9_startNext 122 = .ok (.iload_n 3, 1) := by decide +kernel
theorem dX9_startNext_123 : decode cX9_startNext 123 = .ok (.iaload, 1) := by decide +kernel
theorem dX9_startNext_124 : decode cX9_startNext 124 = .ok (.if_icmp .le 7, 3) := by decide +kernel
theorem dX9_startNext_127 : decode cX9_startNext 127 = .ok (.iconst 1, 1) := by decide +kernel
theorem dX9_startNext_128 : decode cX9_startNext 128 = .ok (.goto 4, 3) := by decide +kernel
theorem dX9_startNext_131 : decode cX9_startNext 131 = .ok (.iconst 0, 1) := by decide +kernel
theorem dX9_startNext_132 : decode cX9_startNext 132 = .ok (.istore 5, 2) := by decide +kernel
theorem dX9_startNext_134 : decode cX9_startNext 134 = .ok (.iload 5, 2) := by decide +kernel
theorem dX9_startNext_136 : decode cX9_startNext 136 = .ok (.ifCond .eq 8, 3) := by decide +kernel
theorem dX9_startNext_139 : decode cX9_startNext 139 = .ok (.iload 4, 2) := by decide +kernel
theorem dX9_startNext_141 : decode cX9_startNext 141 = .ok (.goto 4, 3) := by decide +kernel
theorem dX9_startNext_144 : decode cX9_startNext 144 = .ok (.iload_n 3, 1) := by decide +kernel
theorem dX9_startNext_145 : decode cX9_startNext 145 = .ok (.istore_n 3, 1) := by decide +kernel
theorem dX9_startNext_146 : decode cX9_startNext 146 = .ok (.iinc 4 1, 3) := by decide +kernel
theorem dX9_startNext_149 : decode cX9_startNext 149 = .ok (.goto (-128), 3) := by decide +kernel
theorem dX9_startNext_152 : decode cX9_startNext 152 = .ok (.aload_n 0, 1) := by decide +kernel
theorem dX9_startNext_153 : decode cX9_startNext 153 = .ok (.iload_n 3, 1) := by decide +kernel
theorem dX9_startNext_154 : decode cX9_startNext 154 = .ok (.ifCond .ge 7, 3) := by decide +kernel
theorem dX9_startNext_157 : decode cX9_startNext 157 = .ok (.iconst 1, 1) := by decide +kernel
theorem dX9_startNext_158 : decode cX9_startNext 158 = .ok (.goto 4, 3) := by decide +kernel
theorem dX9_startNext_161 : decode cX9_startNext 161 = .ok (.iconst 0, 1) := by decide +kernel
theorem dX9_startNext_162 : decode cX9_startNext 162 = .ok (.iconst 2, 1) := by decide +kernel
theorem dX9_startNext_163 : decode cX9_startNext 163 = .ok (.invokevirtual 95, 3) := by decide +kernel
theorem dX9_startNext_166 : decode cX9_startNext 166 = .ok (.ifCond .eq 5, 3) := by decide +kernel
theorem dX9_startNext_169 : decode cX9_startNext 169 = .ok (.iconst 0, 1) := by decide +kernel
theorem dX9_startNext_170 : decode cX9_startNext 170 = .ok (.ireturn, 1) := by decide +kernel
theorem dX9_startNext_171 : decode cX9_startNext 171 = .ok (.aload_n 0, 1) := by decide +kernel
theorem dX9_startNext_172 : decode cX9_startNext 172 = .ok (.iload_n 3, 1) := by decide +kernel
theorem dX9_startNext_173 : decode cX9_startNext 173 = .ok (.invokevirtual 157, 3) := by decide +kernel
theorem dX9_startNext_176 : decode cX9_startNext 176 = .ok (.iload_n 3, 1) := by decide +kernel
theorem dX9_startNext_177 : decode cX9_startNext 177 = .ok (.ireturn, 1) := by decide +kernel
set_option maxRecDepth 20000 in
theorem ggX9_refuel_X9_isNoGenerator : GoodIn wsX9_refuel wsX9_isNoGenerator := goodIn_r _ [7, 8, 9, 10, 6, 11, 12, 13, 14, 15, 16, 17, 18, 19, 20, 21, 22, 23, 24, 25, 26, 27, 28, 29, 30, 31, 32, 33, 34, 35, 36, 37, 38, 39, 40, 41, 42, 43, 44, 45, 46, 47, 48, 49, 50, 51, 52, 53, 54, 55] (by decide +kernel) (by decide +kernel)
set_option maxRecDepth 20000 in
theorem gX9_refuel_X9_isNoGenerator : GoodIn wsX9_refuel (wsV RX9 154 RX9 yX9_isNoGenerator wsX9_isNoGenerator) := goodIn_app (goodIn_of _ (by decide +kernel)) ggX9_refuel_X9_isNoGenerator
set_option maxRecDepth 20000 in
theorem ggX9_refuel_X9_isIn : GoodIn wsX9_refuel wsX9_isIn := goodIn_r _ [11] (by decide +kernel) (by decide +kernel)
set_option maxRecDepth 20000 in
theorem gX9_refuel_X9_isIn : GoodIn wsX9_refuel (va_wsS RX9 91 yX9_isIn wsX9_isIn) := goodIn_app (goodIn_of _ (by decide +kernel)) ggX9_refuel_X9_isIn
set_option maxRecDepth 20000 in
theorem ggX9_refuel_X9_isThrown : GoodIn wsX9_refuel wsX9_isThrown := goodIn_r _ [15, 16, 17, 18, 19, 20, 21, 22, 23, 24, 25, 26, 27, 28, 29, 30, 31, 32, 33, 34, 35, 36, 37, 38, 39, 40, 41, 42, 43, 44, 45, 46, 47, 48, 49, 50, 51, 52, 53, 54, 55] (by decide +kernel) (by decide +kernel)
set_option maxRecDepth 20000 in
theorem gX9_refuel_X9_isThrown : GoodIn wsX9_refuel (wsV RX9 95 RX9 yX9_isThrown wsX9_isThrown) := goodIn_app (goodIn_of _ (by decide +kernel)) ggX9_refuel_X9_isThrown
theorem dX9_refuel_0 : decode cX9_refuel 0 = .ok (.aload_n 0, 1) := by decide +kernel
theorem dX9_refuel_1 : decode cX9_refuel 1 = .ok (.iload_n 1, 1) := by decide +kernel
theorem dX9_refuel_2 : decode cX9_refuel 2 = .ok (.invokevirtual 154, 3) := by decide +kernel
theorem dX9_refuel_5 : decode cX9_refuel 5 = .ok (.ifCond .ne 53, 3) := by decide +kernel
theorem dX9_refuel_8 : decode cX9_refuel 8 = .ok (.aload_n 0, 1) := by decide +kernel
theorem dX9_refuel_9 : decode cX9_refuel 9 = .ok (.iload_n 2, 1) := by decide +kernel
theorem dX9_refuel_10 : decode cX9_refuel 10 = .ok (.iconst 1, 1) := by decide +kernel
theorem dX9_refuel_11 : decode cX9_refuel 11 = .ok (.sipush 9999, 3) := by decide +kernel
theorem dX9_refuel_14 : decode cX9_refuel 14 = .ok (.invokestatic 91, 3) := by decide +kernel
theorem dX9_refuel_17 : decode cX9_refuel 17 = .ok (.ifCond .ne 7, 3) := by decide +kernel
theorem dX9_refuel_20 : decode cX9_refuel 20 = .ok (.iconst 1, 1) := by decide +kernel
theorem dX9_refuel_21 : decode cX9_refuel 21 = .ok (.goto 4, 3) := by decide +kernel
theorem dX9_refuel_24 : decode cX9_refuel 24 = .ok (.iconst 0, 1) := by decide +kernel
theorem dX9_refuel_25 : decode cX9_refuel 25 = .ok (.iconst 2, 1) := by decide +kernel
theorem dX9_refuel_26 : decode cX9_refuel 26 = .ok (.invokevirtual 95, 3) := by decide +kernel
theorem dX9_refuel_29 : decode cX9_refuel 29 = .ok (.ifCond .ne 29, 3) := by decide +kernel
theorem dX9_refuel_32 : decode cX9_refuel 32 = .ok (.aload_n 0, 1) := by decide +kernel
theorem dX9_refuel_33 : decode cX9_refuel 33 = .ok (.aload_n 0, 1) := by decide +kernel
theorem dX9_refuel_34 : decode cX9_refuel 34 = .ok (.getfield 41, 3) := by decide +kernel
theorem dX9_refuel_37 : decode cX9_refuel 37 = .ok (.iload_n 1, 1) := by decide +kernel
theorem dX9_refuel_38 : decode cX9_refuel 38 = .ok (.iaload, 1) := by decide +kernel
theorem dX9_refuel_39 : decode cX9_refuel 39 = .ok (.iload_n 2, 1) := by decide +kernel
theorem dX9_refuel_40 : decode cX9_refuel 40 = .ok (.iadd, 1) := by decide +kernel
theorem dX9_refuel_41 : decode cX9_refuel 41 = .ok (.ldc 161, 2) := by decide +kernel
theorem dX9_refuel_43 : decode cX9_refuel 43 = .ok (.if_icmp .le 7, 3) := by decide +kernel
theorem dX9_refuel_46 : decode cX9_refuel 46 = .ok (.iconst 1, 1) := by decide +kernel
theorem dX9_refuel_47 : decode cX9_refuel 47 = .ok (.goto 4, 3) := by decide +kernel
theorem dX9_refuel_50 : decode cX9_refuel 50 = .ok (.iconst 0, 1) := by decide +kernel
theorem dX9_refuel_51 : decode cX9_refuel 51 = .ok (.iconst 3, 1) := by decide +kernel
theorem dX9_refuel_52 : decode cX9_refuel 52 = .ok (.invokevirtual 95, 3) := by decide +kernel
theorem dX9_refuel_55 : decode cX9_refuel 55 = .ok (.ifCond .eq 5, 3) := by decide +kernel
theorem dX9_refuel_58 : decode cX9_refuel 58 = .ok (.iconst 0, 1) := by decide +kernel
theorem dX9_refuel_59 : decode cX9_refuel 59 = .ok (.ireturn, 1) := by decide +kernel
theorem dX9_refuel_60 : decode cX9_refuel 60 = .ok (.aload_n 0, 1) := by decide +kernel
theorem dX9_refuel_61 : decode cX9_refuel 61 = .ok (.getfield 41, 3) := by decide +kernel
theorem dX9_refuel_64 : decode cX9_refuel 64 = .ok (.iload_n 1, 1) := by decide +kernel
theorem dX9_refuel_65 : decode cX9_refuel 65 = .ok (.dup2, 1) := by decide +kernel
theorem dX9_refuel_66 : decode cX9_refuel 66 = .ok (.iaload, 1) := by decide +kernel
theorem dX9_refuel_67 : decode cX9_refuel 67 = .ok (.iload_n 2, 1) := by decide +kernel
theorem dX9_refuel_68 : decode cX9_refuel 68 = .ok (.iadd, 1) := by decide +kernel
theorem dX9_refuel_69 : decode cX9_refuel 69 = .ok (.iastore, 1) := by decide +kernel
theorem dX9_refuel_70 : decode cX9_refuel 70 = .ok (.aload_n 0, 1) := by decide +kernel
theorem dX9_refuel_71 : decode cX9_refuel 71 = .ok (.getfield 41, 3) := by decide +kernel
theorem dX9_refuel_74 : decode cX9_refuel 74 = .ok (.iload_n 1, 1) := by decide +kernel
theorem dX9_refuel_75 : decode cX9_refuel 75 = .ok (.iaload, 1) := by decide +kernel
theorem dX9_refuel_76 : decode cX9_refuel 76 = .ok (.ireturn, 1) := by decide +kernel
set_option maxRecDepth 20000 in
theorem ggX9_state_X9_isNoGenerator : GoodIn wsX9_state wsX9_isNoGenerator := goodIn_r _ [6, 7, 8, 9, 5, 10, 11, 12, 13, 14, 15, 16, 17, 18, 19, 20, 21, 22, 23, 24, 25, 26, 27, 28, 29, 30, 31, 32, 33, 34, 35, 36, 37, 38, 39, 40, 41, 42, 43, 44, 45, 46, 47, 48, 49, 50, 51, 52, 53, 54] (by decide +kernel) (by decide +kernel)
set_option maxRecDepth 20000 in
theorem gX9_state_X9_isNoGenerator : GoodIn wsX9_state (wsV RX9 154 RX9 yX9_isNoGenerator wsX9_isNoGenerator) := goodIn_app (goodIn_of _ (by decide +kernel)) ggX9_state_X9_isNoGenerator
theorem dX9_state_0 : decode cX9_state 0 = .ok (.aload_n 0, 1) := by decide +kernel
theorem dX9_state_1 : decode cX9_state 1 = .ok (.iload_n 1, 1) := by decide +kernel
theorem dX9_state_2 : decode cX9_state 2 = .ok (.invokevirtual 154, 3) := by decide +kernel
theorem dX9_state_5 : decode cX9_state 5 = .ok (.ifCond .eq 8, 3) := by decide +kernel
theorem dX9_state_8 : decode cX9_state 8 = .ok (.bipush 45, 2) := by decide +kernel
theorem dX9_state_10 : decode cX9_state 10 = .ok (.goto 9, 3) := by decide +kernel
theorem dX9_state_13 : decode cX9_state 13 = .ok (.aload_n 0, 1) := by decide +kernel
theorem dX9_state_14 : decode cX9_state 14 = .ok (.getfield 50, 3) := by decide +kernel
theorem dX9_state_17 : decode cX9_state 17 = .ok (.iload_n 1, 1) := by decide +kernel
theorem dX9_state_18 : decode cX9_state 18 = .ok (.caload, 1) := by decide +kernel
theorem dX9_state_19 : decode cX9_state 19 = .ok (.ireturn, 1) := by decide +kernel
set_option maxRecDepth 20000 in
theorem ggX9_fuel_X9_isNoGenerator : GoodIn wsX9_fuel wsX9_isNoGenerator := goodIn_r _ [6, 7, 8, 9, 5, 10, 11, 12, 13, 14, 15, 16, 17, 18, 19, 20, 21, 22, 23, 24, 25, 26, 27, 28, 29, 30, 31, 32, 33, 34, 35, 36, 37, 38, 39, 40, 41, 42, 43, 44, 45, 46, 47, 48, 49, 50, 51, 52, 53, 54] (by decide +kernel) (by decide +kernel)
set_option maxRecDepth 20000 in
theorem gX9_fuel_X9_isNoGenerator : GoodIn wsX9_fuel (wsV RX9 154 RX9 yX9_isNoGenerator wsX9_isNoGenerator) := goodIn_app (goodIn_of _ (by decide +kernel)) ggX9_fuel_X9_isNoGenerator
theorem dX9_fuel_0 : decode cX9_fuel 0 = .ok (.aload_n 0, 1) := by decide +kernel
theorem dX9_fuel_1 : decode cX9_fuel 1 = .ok (.iload_n 1, 1) := by decide +kernel
theorem dX9_fuel_2 : decode cX9_fuel 2 = .ok (.invokevirtual 154, 3) := by decide +kernel
theorem dX9_fuel_5 : decode cX9_fuel 5 = .ok (.ifCond .eq 7, 3) := by decide +kernel
theorem dX9_fuel_8 : decode cX9_fuel 8 = .ok (.iconst 0, 1) := by decide +kernel
theorem dX9_fuel_9 : decode cX9_fuel 9 = .ok (.goto 9, 3) := by decide +kernel
theorem dX9_fuel_12 : decode cX9_fuel 12 = .ok (.aload_n 0, 1) := by decide +kernel
theorem dX9_fuel_13 : decode cX9_fuel 13 = .ok (.getfield 41, 3) := by decide +kernel
theorem dX9_fuel_16 : decode cX9_fuel 16 = .ok (.iload_n 1, 1) := by decide +kernel
theorem dX9_fuel_17 : decode cX9_fuel 17 = .ok (.iaload, 1) := by decide +kernel
theorem dX9_fuel_18 : decode cX9_fuel 18 = .ok (.ireturn, 1) := by decide +kernel
set_option maxRecDepth 20000 in
theorem ggX9_toGo_X9_isNoGenerator : GoodIn wsX9_toGo wsX9_isNoGenerator := goodIn_r _ [7, 8, 9, 10, 6, 11, 12, 13, 14, 15, 16, 17, 18, 19, 20, 21, 22, 23, 24, 25, 26, 27, 28, 29, 30, 31, 32, 33, 34, 35, 36, 37, 38, 39, 40, 41, 42, 43, 44, 45, 46, 47, 48, 49, 50, 51, 52, 53, 54, 55] (by decide +kernel) (by decide +kernel)
set_option maxRecDepth 20000 in
theorem gX9_toGo_X9_isNoGenerator : GoodIn wsX9_toGo (wsV RX9 154 RX9 yX9_isNoGenerator wsX9_isNoGenerator) := goodIn_app (goodIn_of _ (by decide +kernel)) ggX9_toGo_X9_isNoGenerator
set_option maxRecDepth 20000 in
theorem ggX9_toGo_X9_isThrown : GoodIn wsX9_toGo wsX9_isThrown := goodIn_r _ [15, 16, 17, 18, 19, 20, 21, 22, 23, 24, 25, 26, 27, 28, 29, 30, 31, 32, 33, 34, 35, 36, 37, 38, 39, 40, 41, 42, 43, 44, 45, 46, 47, 48, 49, 50, 51, 52, 53, 54, 55] (by decide +kernel) (by decide +kernel)
set_option maxRecDepth 20000 in
theorem gX9_toGo_X9_isThrown : GoodIn wsX9_toGo (wsV RX9 95 RX9 yX9_isThrown wsX9_isThrown) := goodIn_app (goodIn_of _ (by decide +kernel)) ggX9_toGo_X9_isThrown
theorem dX9_toGo_0 : decode cX9_toGo 0 = .ok (.aload_n 0, 1) := by decide +kernel
theorem dX9_toGo_1 : decode cX9_toGo 1 = .ok (.iload_n 1, 1) := by decide +kernel
theorem dX9_toGo_2 : decode cX9_toGo 2 = .ok (.invokevirtual 154, 3) := by decide +kernel
theorem dX9_toGo_5 : decode cX9_toGo 5 = .ok (.ifCond .ne 27, 3) := by decide +kernel
theorem dX9_toGo_8 : decode cX9_toGo 8 = .ok (.aload_n 0, 1) := by decide +kernel
theorem dX9_toGo_9 : decode cX9_toGo 9 = .ok (.aload_n 0, 1) := by decide +kernel
theorem dX9_toGo_10 : decode cX9_toGo 10 = .ok (.getfield 50, 3) := by decide +kernel
theorem dX9_toGo_13 : decode cX9_toGo 13 = .ok (.iload_n 1, 1) := by decide +kernel
theorem dX9_toGo_14 : decode cX9_toGo 14 = .ok (.caload, 1) := by decide +kernel
theorem dX9_toGo_15 : decode cX9_toGo 15 = .ok (.bipush 119, 2) := by decide +kernel
theorem dX9_toGo_17 : decode cX9_toGo 17 = .ok (.if_icmp .eq 7, 3) := by decide +kernel
theorem dX9_toGo_20 : decode cX9_toGo 20 = .ok (.iconst 1, 1) := by decide +kernel
theorem dX9_toGo_21 : decode cX9_toGo 21 = .ok (.goto 4, 3) := by decide +kernel
theorem dX9_toGo_24 : decode cX9_toGo 24 = .ok (.iconst 0, 1) := by decide +kernel
theorem dX9_toGo_25 : decode cX9_toGo 25 = .ok (.iconst 2, 1) := by decide +kernel
theorem dX9_toGo_26 : decode cX9_toGo 26 = .ok (.invokevirtual 95, 3) := by decide +kernel
theorem dX9_toGo_29 : decode cX9_toGo 29 = .ok (.ifCond .eq 7, 3) := by decide +kernel
theorem dX9_toGo_32 : decode cX9_toGo 32 = .ok (.iconst 0, 1) := by decide +kernel
theorem dX9_toGo_33 : decode cX9_toGo 33 = .ok (.goto 9, 3) := by decide +kernel
theorem dX9_toGo_36 : decode cX9_toGo 36 = .ok (.aload_n 0, 1) := by decide +kernel
theorem dX9_toGo_37 : decode cX9_toGo 37 = .ok (.getfield 44, 3) := by decide +kernel
theorem dX9_toGo_40 : decode cX9_toGo 40 = .ok (.iload_n 1, 1) := by decide +kernel
theorem dX9_toGo_41 : decode cX9_toGo 41 = .ok (.iaload, 1) := by decide +kernel
theorem dX9_toGo_42 : decode cX9_toGo 42 = .ok (.ireturn, 1) := by decide +kernel
set_option maxRecDepth 20000 in
theorem ggX9_addStore_X9_isNoSite : GoodIn wsX9_addStore wsX9_isNoSite := goodIn_r _ [9, 10, 11, 12, 8, 13, 14, 15, 16, 17, 18, 19, 20, 21, 22, 23, 24, 25, 26, 27, 28, 29, 30, 31, 32, 33, 34, 35, 36, 37, 38, 39, 40, 41, 42, 43, 44, 45, 46, 47, 48, 49, 50, 51, 52, 53, 54, 55, 56, 57] (by decide +kernel) (by decide +kernel)
set_option maxRecDepth 20000 in
theorem gX9_addStore_X9_isNoSite : GoodIn wsX9_addStore (wsV RX9 111 RX9 yX9_isNoSite wsX9_isNoSite) := goodIn_app (goodIn_of _ (by decide +kernel)) ggX9_addStore_X9_isNoSite
set_option maxRecDepth 20000 in
theorem ggX9_addStore_X9_isIn : GoodIn wsX9_addStore wsX9_isIn := goodIn_r _ [13] (by decide +kernel) (by decide +kernel)
set_option maxRecDepth 20000 in
theorem gX9_addStore_X9_isIn : GoodIn wsX9_addStore (va_wsS RX9 91 yX9_isIn wsX9_isIn) := goodIn_app (goodIn_of _ (by decide +kernel)) ggX9_addStore_X9_isIn
set_option maxRecDepth 20000 in
theorem ggX9_addStore_X9_isThrown : GoodIn wsX9_addStore wsX9_isThrown := goodIn_r _ [17, 18, 19, 20, 21, 22, 23, 24, 25, 26, 27, 28, 29, 30, 31, 32, 33, 34, 35, 36, 37, 38, 39, 40, 41, 42, 43, 44, 45, 46, 47, 48, 49, 50, 51, 52, 53, 54, 55, 56, 57] (by decide +kernel) (by decide +kernel)
set_option maxRecDepth 20000 in
theorem gX9_addStore_X9_isThrown : GoodIn wsX9_addStore (wsV RX9 95 RX9 yX9_isThrown wsX9_isThrown) := goodIn_app (goodIn_of _ (by decide +kernel)) ggX9_addStore_X9_isThrown
theorem dX9_addStore_0 : decode cX9_addStore 0 = .ok (.aload_n 0, 1) := by decide +kernel
theorem dX9_addStore_1 : decode cX9_addStore 1 = .ok (.iload_n 1, 1) := by decide +kernel
theorem dX9_addStore_2 : decode cX9_addStore 2 = .ok (.invokevirtual 111, 3) := by decide +kernel
theorem dX9_addStore_5 : decode cX9_addStore 5 = .ok (.ifCond .ne 58, 3) := by decide +kernel
theorem dX9_addStore_8 : decode cX9_addStore 8 = .ok (.aload_n 0, 1) := by decide +kernel
theorem dX9_addStore_9 : decode cX9_addStore 9 = .ok (.iload_n 2, 1) := by decide +kernel
theorem dX9_addStore_10 : decode cX9_addStore 10 = .ok (.iconst 1, 1) := by decide +kernel
theorem dX9_addStore_11 : decode cX9_addStore 11 = .ok (.sipush 999, 3) := by decide +kernel
theorem dX9_addStore_14 : decode cX9_addStore 14 = .ok (.invokestatic 91, 3) := by decide +kernel
theorem dX9_addStore_17 : decode cX9_addStore 17 = .ok (.ifCond .eq 13, 3) := by decide +kernel
theorem dX9_addStore_20 : decode cX9_addStore 20 = .ok (.iload_n 3, 1) := by decide +kernel
theorem dX9_addStore_21 : decode cX9_addStore 21 = .ok (.iconst 1, 1) := by decide +kernel
theorem dX9_addStore_22 : decode cX9_addStore 22 = .ok (.bipush 99, 2) := by decide +kernel
theorem dX9_addStore_24 : decode cX9_addStore 24 = .ok (.invokestatic 91, 3) := by decide +kernel
theorem dX9_addStore_27 : decode cX9_addStore 27 = .ok (.ifCond .ne 7, 3) := by decide +kernel
theorem dX9_addStore_30 : decode cX9_addStore 30 = .ok (.iconst 1, 1) := by decide +kernel
theorem dX9_addStore_31 : decode cX9_addStore 31 = .ok (.goto 4, 3) := by decide +kernel
theorem dX9_addStore_34 : decode cX9_addStore 34 = .ok (.iconst 0, 1) := by decide +kernel
theorem dX9_addStore_35 : decode cX9_addStore 35 = .ok (.iconst 2, 1) := by decide +kernel
theorem dX9_addStore_36 : decode cX9_addStore 36 = .ok (.invokevirtual 95, 3) := by decide +kernel
theorem dX9_addStore_39 : decode cX9_addStore 39 = .ok (.ifCond .ne 24, 3) := by decide +kernel
theorem dX9_addStore_42 : decode cX9_addStore 42 = .ok (.aload_n 0, 1) := by decide +kernel
theorem dX9_addStore_43 : decode cX9_addStore 43 = .ok (.aload_n 0, 1) := by decide +kernel
theorem dX9_addStore_44 : decode cX9_addStore 44 = .ok (.getfield 105, 3) := by decide +kernel
