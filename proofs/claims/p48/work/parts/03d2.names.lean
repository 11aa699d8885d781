set_option maxRecDepth 20000 in
theorem gL_isPassed_L_pass : GoodIn wsL_isPassed (va_wsS RL 239 yL_pass wsL_pass) := goodIn_app (goodIn_of _ (by decide +kernel)) ggL_isPassed_L_pass
set_option maxRecDepth 20000 in
theorem ggL_isPassed_X8_now : GoodIn wsL_isPassed wsX8_now := goodIn_r _ [267, 61, 268, 269, 270, 271, 272, 273, 274, 275] (by decide +kernel) (by decide +kernel)
set_option maxRecDepth 20000 in
theorem gL_isPassed_X8_now : GoodIn wsL_isPassed (wsV RL 241 RX8 yX8_now wsX8_now) := goodIn_app (goodIn_of _ (by decide +kernel)) ggL_isPassed_X8_now
theorem dL_isPassed_0 : decode cL_isPassed 0 = .ok (.iconst 0, 1) := by decide +kernel
theorem dL_isPassed_1 : decode cL_isPassed 1 = .ok (.istore_n 3, 1) := by decide +kernel
theorem dL_isPassed_2 : decode cL_isPassed 2 = .ok (.iload_n 3, 1) := by decide +kernel
theorem dL_isPassed_3 : decode cL_isPassed 3 = .ok (.iload_n 2, 1) := by decide +kernel
theorem dL_isPassed_4 : decode cL_isPassed 4 = .ok (.if_icmp .ge 13, 3) := by decide +kernel
theorem dL_isPassed_7 : decode cL_isPassed 7 = .ok (.aload_n 1, 1) := by decide +kernel
theorem dL_isPassed_8 : decode cL_isPassed 8 = .ok (.invokestatic 235, 3) := by decide +kernel
theorem dL_isPassed_11 : decode cL_isPassed 11 = .ok (.iinc 3 1, 3) := by decide +kernel
theorem dL_isPassed_14 : decode cL_isPassed 14 = .ok (.goto (-12), 3) := by decide +kernel
theorem dL_isPassed_17 : decode cL_isPassed 17 = .ok (.iconst 0, 1) := by decide +kernel
theorem dL_isPassed_18 : decode cL_isPassed 18 = .ok (.istore_n 3, 1) := by decide +kernel
theorem dL_isPassed_19 : decode cL_isPassed 19 = .ok (.iconst 0, 1) := by decide +kernel
theorem dL_isPassed_20 : decode cL_isPassed 20 = .ok (.istore 4, 2) := by decide +kernel
theorem dL_isPassed_22 : decode cL_isPassed 22 = .ok (.iload 4, 2) := by decide +kernel
theorem dL_isPassed_24 : decode cL_isPassed 24 = .ok (.aload_n 1, 1) := by decide +kernel
theorem dL_isPassed_25 : decode cL_isPassed 25 = .ok (.iconst 4, 1) := by decide +kernel
theorem dL_isPassed_26 : decode cL_isPassed 26 = .ok (.iaload, 1) := by decide +kernel
theorem dL_isPassed_27 : decode cL_isPassed 27 = .ok (.if_icmp .ge 24, 3) := by decide +kernel
theorem dL_isPassed_30 : decode cL_isPassed 30 = .ok (.iload_n 3, 1) := by decide +kernel
theorem dL_isPassed_31 : decode cL_isPassed 31 = .ok (.iconst 1, 1) := by decide +kernel
theorem dL_isPassed_32 : decode cL_isPassed 32 = .ok (.aload_n 1, 1) := by decide +kernel
theorem dL_isPassed_33 : decode cL_isPassed 33 = .ok (.sipush 143, 3) := by decide +kernel
theorem dL_isPassed_36 : decode cL_isPassed 36 = .ok (.iconst 5, 1) := by decide +kernel
theorem dL_isPassed_37 : decode cL_isPassed 37 = .ok (.iload 4, 2) := by decide +kernel
theorem dL_isPassed_39 : decode cL_isPassed 39 = .ok (.imul, 1) := by decide +kernel
theorem dL_isPassed_40 : decode cL_isPassed 40 = .ok (.iadd, 1) := by decide +kernel
theorem dL_isPassed_41 : decode cL_isPassed 41 = .ok (.iaload, 1) := by decide +kernel
theorem dL_isPassed_42 : decode cL_isPassed 42 = .ok (.isub, 1) := by decide +kernel
theorem dL_isPassed_43 : decode cL_isPassed 43 = .ok (.iadd, 1) := by decide +kernel
theorem dL_isPassed_44 : decode cL_isPassed 44 = .ok (.istore_n 3, 1) := by decide +kernel
theorem dL_isPassed_45 : decode cL_isPassed 45 = .ok (.iinc 4 1, 3) := by decide +kernel
theorem dL_isPassed_48 : decode cL_isPassed 48 = .ok (.goto (-26), 3) := by decide +kernel
theorem dL_isPassed_51 : decode cL_isPassed 51 = .ok (.aload_n 0, 1) := by decide +kernel
theorem dL_isPassed_52 : decode cL_isPassed 52 = .ok (.iload_n 2, 1) := by decide +kernel
theorem dL_isPassed_53 : decode cL_isPassed 53 = .ok (.invokestatic 239, 3) := by decide +kernel
theorem dL_isPassed_56 : decode cL_isPassed 56 = .ok (.iload_n 3, 1) := by decide +kernel
theorem dL_isPassed_57 : decode cL_isPassed 57 = .ok (.if_icmp .ne 18, 3) := by decide +kernel
theorem dL_isPassed_60 : decode cL_isPassed 60 = .ok (.aload_n 0, 1) := by decide +kernel
theorem dL_isPassed_61 : decode cL_isPassed 61 = .ok (.invokevirtual 241, 3) := by decide +kernel
theorem dL_isPassed_64 : decode cL_isPassed 64 = .ok (.aload_n 1, 1) := by decide +kernel
theorem dL_isPassed_65 : decode cL_isPassed 65 = .ok (.bipush 7, 2) := by decide +kernel
theorem dL_isPassed_67 : decode cL_isPassed 67 = .ok (.iaload, 1) := by decide +kernel
theorem dL_isPassed_68 : decode cL_isPassed 68 = .ok (.if_icmp .ne 7, 3) := by decide +kernel
theorem dL_isPassed_71 : decode cL_isPassed 71 = .ok (.iconst 1, 1) := by decide +kernel
theorem dL_isPassed_72 : decode cL_isPassed 72 = .ok (.goto 4, 3) := by decide +kernel
theorem dL_isPassed_75 : decode cL_isPassed 75 = .ok (.iconst 0, 1) := by decide +kernel
theorem dL_isPassed_76 : decode cL_isPassed 76 = .ok (.ireturn, 1) := by decide +kernel
set_option maxRecDepth 20000 in
theorem ggL_isDone_L_in : GoodIn wsL_isDone wsL_in := goodIn_r _ [4, 5, 6, 7, 3, 8, 9, 10] (by decide +kernel) (by decide +kernel)
set_option maxRecDepth 20000 in
theorem gL_isDone_L_in : GoodIn wsL_isDone (va_wsS RL 136 yL_in wsL_in) := goodIn_app (goodIn_of _ (by decide +kernel)) ggL_isDone_L_in
set_option maxRecDepth 20000 in
theorem ggL_isDone_L_isStarted : GoodIn wsL_isDone wsL_isStarted := goodIn_ca (goodIn_ca (goodIn_ca (goodIn_r _ [13, 14, 15, 16, 17, 3, 18, 19, 20, 21, 22, 23, 24, 25, 26, 27, 28, 29, 30, 31, 32, 33, 34, 35, 36, 37, 38, 39, 40, 41, 42, 43, 44, 45, 46, 47, 48, 49, 50, 51, 52, 53, 54, 55, 56, 57, 58, 59, 60, 61, 62, 63, 64, 65, 66, 67, 68, 69, 70, 71, 542, 543, 544, 545, 546, 547, 548, 549, 550, 551, 552, 553, 554, 555, 556, 557, 558, 559, 560, 561, 562] (by decide +kernel) (by decide +kernel)) (goodIn_sub (fun _ h => List.mem_cons_of_mem _ (List.mem_append_left _ (List.mem_append_left _ (List.mem_append_left _ (List.mem_append_left _ (List.mem_append_right _ h)))))) (by decide +kernel))) (goodIn_sub (fun _ h => List.mem_cons_of_mem _ (List.mem_append_left _ (List.mem_append_left _ (List.mem_append_left _ (List.mem_append_right _ h))))) (by decide +kernel))) (goodIn_sub (fun _ h => List.mem_cons_of_mem _ (List.mem_append_left _ (List.mem_append_left _ (List.mem_append_right _ h)))) (by decide +kernel))
set_option maxRecDepth 20000 in
theorem gL_isDone_L_isStarted : GoodIn wsL_isDone (va_wsS RL 244 yL_isStarted wsL_isStarted) := goodIn_app (goodIn_of _ (by decide +kernel)) ggL_isDone_L_isStarted
set_option maxRecDepth 20000 in
theorem ggL_isDone_L_isNext : GoodIn wsL_isDone wsL_isNext := goodIn_ca (goodIn_ca (goodIn_r _ [74, 14, 75, 76, 3, 77, 78, 79, 80, 19, 21, 22, 81, 82, 83, 26, 84, 30, 31, 38, 85, 86, 40, 87, 88, 89, 90, 91, 41, 42, 43, 44, 45, 92, 93, 94, 95, 96, 97, 98, 99, 100, 101, 102, 103, 47, 48, 49, 50, 51, 52, 104, 105, 106, 107, 57, 108, 53, 54, 55, 56, 58, 59, 550, 551, 552, 553, 554, 555, 556, 557, 563, 564, 565, 566, 567, 568, 569, 570, 571, 572, 558, 559, 560, 561, 562, 542, 543, 544, 545, 546, 547, 548, 549] (by decide +kernel) (by decide +kernel)) (goodIn_sub (fun _ h => List.mem_cons_of_mem _ (List.mem_append_left _ (List.mem_append_left _ (List.mem_append_left _ (List.mem_append_right _ h))))) (by decide +kernel))) (goodIn_sub (fun _ h => List.mem_cons_of_mem _ (List.mem_append_left _ (List.mem_append_left _ (List.mem_append_right _ h)))) (by decide +kernel))
set_option maxRecDepth 20000 in
theorem gL_isDone_L_isNext : GoodIn wsL_isDone (va_wsS RL 248 yL_isNext wsL_isNext) := goodIn_app (goodIn_of _ (by decide +kernel)) ggL_isDone_L_isNext
set_option maxRecDepth 20000 in
theorem ggL_isDone_L_refuel : GoodIn wsL_isDone wsL_refuel := goodIn_ca (goodIn_ca (goodIn_ca (goodIn_r _ [111, 19, 112, 20, 22, 14, 15, 113, 114, 115, 26, 116, 28, 29, 67, 117, 34, 35, 36, 37, 38, 39, 40, 41, 42, 43, 44, 45, 118, 119, 120, 121, 122, 542, 543, 544, 545, 546, 547, 548, 549, 550, 551, 552, 553, 554, 555, 556, 557, 558, 559, 560, 561, 562] (by decide +kernel) (by decide +kernel)) (goodIn_sub (fun _ h => List.mem_cons_of_mem _ (List.mem_append_left _ (List.mem_append_left _ (List.mem_append_left _ (List.mem_append_left _ (List.mem_append_right _ h)))))) (by decide +kernel))) (goodIn_sub (fun _ h => List.mem_cons_of_mem _ (List.mem_append_left _ (List.mem_append_left _ (List.mem_append_right _ h)))) (by decide +kernel))) (goodIn_sub (fun _ h => List.mem_cons_of_mem _ (List.mem_append_left _ (List.mem_append_right _ h))) (by decide +kernel))
set_option maxRecDepth 20000 in
theorem gL_isDone_L_refuel : GoodIn wsL_isDone (va_wsS RL 251 yL_refuel wsL_refuel) := goodIn_app (goodIn_of _ (by decide +kernel)) ggL_isDone_L_refuel
set_option maxRecDepth 20000 in
theorem ggL_isDone_L_isSwitched : GoodIn wsL_isDone wsL_isSwitched := goodIn_ca (goodIn_ca (goodIn_ca (goodIn_r _ [125, 14, 15, 126, 127, 3, 128, 19, 20, 129, 22, 130, 131, 132, 26, 133, 28, 29, 134, 135, 85, 136, 137, 41, 42, 43, 44, 45, 138, 139, 140, 141, 142, 143, 144, 145, 146, 147, 148, 149, 150, 151, 152, 153, 154, 155, 156, 157, 158, 159, 160, 161, 162, 163, 164, 165, 166, 167, 168, 169, 170, 171, 172, 173, 174, 175, 176, 177, 178, 179, 180, 181, 182, 183, 184, 185, 186, 187, 188, 189, 190, 191, 192, 193, 194, 195, 196, 197, 198, 199, 75, 76, 77, 200, 201, 202, 203, 204, 205, 550, 551, 552, 553, 554, 555, 556, 557, 563, 564, 565, 566, 567, 568, 569, 570, 571, 572] (by decide +kernel) (by decide +kernel)) (goodIn_sub (fun _ h => List.mem_cons_of_mem _ (List.mem_append_left _ (List.mem_append_left _ (List.mem_append_left _ (List.mem_append_left _ (List.mem_append_right _ h)))))) (by decide +kernel))) (goodIn_sub (fun _ h => List.mem_cons_of_mem _ (List.mem_append_right _ h)) (by decide +kernel))) (goodIn_sub (fun _ h => List.mem_cons_of_mem _ (List.mem_append_left _ (List.mem_append_left _ (List.mem_append_right _ h)))) (by decide +kernel))
set_option maxRecDepth 20000 in
theorem gL_isDone_L_isSwitched : GoodIn wsL_isDone (va_wsS RL 253 yL_isSwitched wsL_isSwitched) := goodIn_app (goodIn_of _ (by decide +kernel)) ggL_isDone_L_isSwitched
set_option maxRecDepth 20000 in
theorem ggL_isDone_L_isTied : GoodIn wsL_isDone wsL_isTied := goodIn_ca (goodIn_ca (goodIn_ca (goodIn_r _ [208, 14, 22, 15, 209, 210, 3, 211, 21, 20, 129, 212, 213, 214, 26, 215, 30, 31, 28, 29, 134, 135, 85, 91, 216, 217, 147, 148, 141, 149, 150, 151, 152, 153, 154, 155, 218, 157, 158, 159, 160, 161, 162, 163, 164, 165, 219, 220, 221, 222, 175, 143, 223, 224, 225, 226, 227, 228, 229, 230, 231, 232, 75, 76, 77, 550, 551, 552, 553, 554, 555, 556, 557, 563, 564, 565, 566, 567, 568, 569, 570, 571, 572] (by decide +kernel) (by decide +kernel)) (goodIn_sub (fun _ h => List.mem_cons_of_mem _ (List.mem_append_left _ (List.mem_append_left _ (List.mem_append_left _ (List.mem_append_right _ h))))) (by decide +kernel))) (goodIn_sub (fun _ h => List.mem_cons_of_mem _ (List.mem_append_left _ (List.mem_append_left _ (List.mem_append_left _ (List.mem_append_left _ (List.mem_append_right _ h)))))) (by decide +kernel))) (goodIn_sub (fun _ h => List.mem_cons_of_mem _ (List.mem_append_right _ h)) (by decide +kernel))
set_option maxRecDepth 20000 in
theorem gL_isDone_L_isTied : GoodIn wsL_isDone (va_wsS RL 256 yL_isTied wsL_isTied) := goodIn_app (goodIn_of _ (by decide +kernel)) ggL_isDone_L_isTied
set_option maxRecDepth 20000 in
theorem ggL_isDone_L_setPhase : GoodIn wsL_isDone wsL_setPhase := goodIn_ca (goodIn_ca (goodIn_r _ [235, 19, 112, 22, 14, 236, 237, 238, 26, 239, 85, 240, 87, 88, 89, 90, 91, 41, 42, 43, 44, 45, 118, 119, 120, 121, 122, 550, 551, 552, 553, 554, 555, 556, 557, 563, 564, 565, 566, 567, 568, 569, 570, 571, 572] (by decide +kernel) (by decide +kernel)) (goodIn_sub (fun _ h => List.mem_cons_of_mem _ (List.mem_append_left _ (List.mem_append_left _ (List.mem_append_right _ h)))) (by decide +kernel))) (goodIn_sub (fun _ h => List.mem_cons_of_mem _ (List.mem_append_left _ (List.mem_append_right _ h))) (by decide +kernel))
set_option maxRecDepth 20000 in
theorem gL_isDone_L_setPhase : GoodIn wsL_isDone (va_wsS RL 260 yL_setPhase wsL_setPhase) := goodIn_app (goodIn_of _ (by decide +kernel)) ggL_isDone_L_setPhase
set_option maxRecDepth 20000 in
theorem ggL_isDone_L_setReserve : GoodIn wsL_isDone wsL_setReserve := goodIn_ca (goodIn_r _ [243, 112, 22, 244, 245, 246, 26, 247, 248, 118, 119, 120, 121, 122, 550, 551, 552, 553, 554, 555, 556, 557] (by decide +kernel) (by decide +kernel)) (goodIn_sub (fun _ h => List.mem_cons_of_mem _ (List.mem_append_left _ (List.mem_append_right _ h))) (by decide +kernel))
set_option maxRecDepth 20000 in
theorem gL_isDone_L_setReserve : GoodIn wsL_isDone (va_wsS RL 262 yL_setReserve wsL_setReserve) := goodIn_app (goodIn_of _ (by decide +kernel)) ggL_isDone_L_setReserve
set_option maxRecDepth 20000 in
theorem ggL_isDone_L_setDelay : GoodIn wsL_isDone wsL_setDelay := goodIn_ca (goodIn_r _ [251, 112, 22, 252, 253, 254, 26, 255, 256, 118, 119, 120, 121, 122, 550, 551, 552, 553, 554, 555, 556, 557] (by decide +kernel) (by decide +kernel)) (goodIn_sub (fun _ h => List.mem_cons_of_mem _ (List.mem_append_left _ (List.mem_append_right _ h))) (by decide +kernel))
set_option maxRecDepth 20000 in
theorem gL_isDone_L_setDelay : GoodIn wsL_isDone (va_wsS RL 264 yL_setDelay wsL_setDelay) := goodIn_app (goodIn_of _ (by decide +kernel)) ggL_isDone_L_setDelay
set_option maxRecDepth 20000 in
theorem ggL_isDone_L_setRank : GoodIn wsL_isDone wsL_setRank := goodIn_ca (goodIn_ca (goodIn_r _ [259, 19, 112, 22, 14, 260, 261, 262, 26, 263, 264, 265, 266, 267, 268, 269, 270, 271, 41, 42, 43, 44, 45, 118, 119, 120, 121, 122, 573, 574, 575, 576, 577, 578, 550, 551, 552, 553, 554, 555, 556, 557, 579, 580, 581] (by decide +kernel) (by decide +kernel)) (goodIn_sub (fun _ h => List.mem_cons_of_mem _ (List.mem_append_left _ (List.mem_append_left _ (List.mem_append_right _ h)))) (by decide +kernel))) (goodIn_sub (fun _ h => List.mem_cons_of_mem _ (List.mem_append_left _ (List.mem_append_right _ h))) (by decide +kernel))
set_option maxRecDepth 20000 in
theorem gL_isDone_L_setRank : GoodIn wsL_isDone (va_wsS RL 266 yL_setRank wsL_setRank) := goodIn_app (goodIn_of _ (by decide +kernel)) ggL_isDone_L_setRank
set_option maxRecDepth 20000 in
theorem ggL_isDone_L_isLoad : GoodIn wsL_isDone wsL_isLoad := goodIn_ca (goodIn_ca (goodIn_ca (goodIn_r _ [274, 15, 1, 2, 3, 4, 5, 6, 7, 8, 9, 10, 275, 276, 277, 19, 112, 20, 22, 14, 278, 279, 280, 26, 281, 28, 29, 269, 270, 87, 88, 89, 90, 85, 91, 41, 42, 43, 44, 45, 118, 119, 120, 121, 122, 282, 283, 284, 285, 286, 287, 288, 289, 290, 291, 292, 293, 294, 295, 296, 297, 298, 299, 300, 301, 302, 550, 551, 552, 553, 554, 555, 556, 557, 579, 580, 581, 563, 564, 565, 566, 567, 568, 569, 570, 571, 572, 573, 574, 575, 576, 577, 578] (by decide +kernel) (by decide +kernel)) (goodIn_sub (fun _ h => List.mem_cons_of_mem _ (List.mem_append_left _ (List.mem_append_left _ (List.mem_append_left _ (List.mem_append_left _ (List.mem_append_right _ h)))))) (by decide +kernel))) (goodIn_sub (fun _ h => List.mem_cons_of_mem _ (List.mem_append_left _ (List.mem_append_left _ (List.mem_append_right _ h)))) (by decide +kernel))) (goodIn_sub (fun _ h => List.mem_cons_of_mem _ (List.mem_append_left _ (List.mem_append_right _ h))) (by decide +kernel))
set_option maxRecDepth 20000 in
theorem gL_isDone_L_isLoad : GoodIn wsL_isDone (va_wsS RL 178 yL_isLoad wsL_isLoad) := goodIn_app (goodIn_of _ (by decide +kernel)) ggL_isDone_L_isLoad
set_option maxRecDepth 20000 in
theorem ggL_isDone_L_isStore : GoodIn wsL_isDone wsL_isStore := goodIn_ca (goodIn_ca (goodIn_ca (goodIn_r _ [305, 15, 1, 2, 3, 4, 5, 6, 7, 8, 9, 10, 306, 307, 308, 19, 112, 20, 22, 14, 309, 310, 311, 26, 312, 28, 29, 313, 314, 315, 316, 317, 87, 88, 89, 90, 85, 91, 41, 42, 43, 44, 45, 118, 119, 120, 121, 122, 318, 319, 320, 321, 296, 297, 322, 323, 324, 325, 326, 327, 328, 329, 330, 331, 550, 551, 552, 553, 554, 555, 556, 557, 582, 583, 584, 585, 586, 587, 588, 589, 563, 564, 565, 566, 567, 568, 569, 570, 571, 572] (by decide +kernel) (by decide +kernel)) (goodIn_sub (fun _ h => List.mem_cons_of_mem _ (List.mem_append_left _ (List.mem_append_left _ (List.mem_append_left _ (List.mem_append_left _ (List.mem_append_right _ h)))))) (by decide +kernel))) (goodIn_sub (fun _ h => List.mem_cons_of_mem _ (List.mem_append_left _ (List.mem_append_left _ (List.mem_append_right _ h)))) (by decide +kernel))) (goodIn_sub (fun _ h => List.mem_cons_of_mem _ (List.mem_append_left _ (List.mem_append_right _ h))) (by decide +kernel))
set_option maxRecDepth 20000 in
theorem gL_isDone_L_isStore : GoodIn wsL_isDone (va_wsS RL 175 yL_isStore wsL_isStore) := goodIn_app (goodIn_of _ (by decide +kernel)) ggL_isDone_L_isStore
