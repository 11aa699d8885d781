theorem gk_ggL_law_L_begun_0 : GoodIn wsL_law [.code yL_begun cL_begun 5 (some (.object "Islandgrid"))] := goodIn_r _ [6] (by decide +kernel) (by decide +kernel)
set_option maxRecDepth 20000 in
theorem gk_ggL_law_L_begun_1 : GoodIn wsL_law wsL_begun_r1 := goodIn_r _ [7, 8, 9, 1, 10, 11, 12, 13, 14, 15, 16, 17, 18, 19, 20, 21, 22, 23, 24, 25, 26, 27, 28, 29] (by decide +kernel) (by decide +kernel)
set_option maxRecDepth 20000 in
theorem gk_ggL_law_L_begun_2 : GoodIn wsL_law wsL_begun_r2 := goodIn_r _ [30, 31, 32, 33, 34, 35, 36, 37, 38, 39, 40, 0, 41, 42, 43, 44, 45, 46, 47, 48, 49, 50, 51, 52] (by decide +kernel) (by decide +kernel)
set_option maxRecDepth 20000 in
theorem gk_ggL_law_L_begun_3 : GoodIn wsL_law wsL_begun_r3 := goodIn_r _ [53, 54, 55, 56, 57, 58, 59, 60, 61, 62, 63, 64, 65, 66, 67, 68, 69, 70, 71, 72, 73, 74, 75, 76] (by decide +kernel) (by decide +kernel)
set_option maxRecDepth 20000 in
theorem gk_ggL_law_L_begun_4 : GoodIn wsL_law wsL_begun_r4 := goodIn_r _ [5, 77, 78, 79, 80, 2, 81, 82, 83, 84, 85, 86, 87, 88, 89, 90, 91, 92, 93, 94, 95, 96, 97, 98] (by decide +kernel) (by decide +kernel)
set_option maxRecDepth 20000 in
theorem gk_ggL_law_L_begun_5 : GoodIn wsL_law wsL_begun_r5 := goodIn_r _ [99, 100, 101, 102, 103, 104, 105, 106, 107, 108, 109, 110, 111, 112, 113, 114, 115, 116, 117, 118, 119, 120, 121, 122] (by decide +kernel) (by decide +kernel)
set_option maxRecDepth 20000 in
theorem gk_ggL_law_L_begun_6 : GoodIn wsL_law wsL_begun_r6 := goodIn_r _ [123, 124, 125, 126, 127, 128, 129, 130, 131, 132, 133, 134, 135, 136, 137, 138, 139, 140, 141, 142, 143, 144, 145, 146] (by decide +kernel) (by decide +kernel)
set_option maxRecDepth 20000 in
theorem gk_ggL_law_L_begun_7 : GoodIn wsL_law wsL_begun_r7 := goodIn_r _ [147, 148, 149, 150, 151, 152, 153, 154, 155, 156, 157, 158, 159, 160, 161, 162, 163, 164, 165, 166, 167, 168, 169, 170] (by decide +kernel) (by decide +kernel)
set_option maxRecDepth 20000 in
theorem gk_ggL_law_L_begun_8 : GoodIn wsL_law wsL_begun_r8 := goodIn_r _ [171, 172, 173, 174, 175, 176, 177, 178, 179, 180, 181, 182, 183, 184, 185, 186, 187, 188, 189, 190, 191, 192, 193, 194] (by decide +kernel) (by decide +kernel)
set_option maxRecDepth 20000 in
theorem gk_ggL_law_L_begun_9 : GoodIn wsL_law wsL_begun_r9 := goodIn_r _ [195, 196, 197, 198, 199, 200, 201, 202, 203, 204, 205, 206, 207, 208, 209, 210, 211, 212, 213, 214, 215, 216, 217, 218] (by decide +kernel) (by decide +kernel)
set_option maxRecDepth 20000 in
theorem gk_ggL_law_L_begun_10 : GoodIn wsL_law wsL_begun_r10 := goodIn_r _ [219, 220, 221, 222, 223, 224, 225, 226, 227, 228, 229, 230, 231, 232, 233, 234, 235, 236, 237, 238, 239, 240, 241, 242] (by decide +kernel) (by decide +kernel)
set_option maxRecDepth 20000 in
theorem gk_ggL_law_L_begun_11 : GoodIn wsL_law wsL_begun_r11 := goodIn_r _ [243, 244, 245, 246, 247, 248, 249, 250, 251, 252, 253, 254, 255, 256, 257, 258, 259, 260, 261, 262, 263, 264, 265, 266] (by decide +kernel) (by decide +kernel)
set_option maxRecDepth 20000 in
theorem gk_ggL_law_L_begun_12 : GoodIn wsL_law wsL_begun_r12 := goodIn_r _ [267, 268, 269, 270, 271, 272, 273, 274, 275, 276, 277, 278, 279, 280, 281, 282, 283, 284, 285, 286, 287, 288, 289, 290] (by decide +kernel) (by decide +kernel)
set_option maxRecDepth 20000 in
theorem gk_ggL_law_L_begun_13 : GoodIn wsL_law wsL_begun_r13 := goodIn_r _ [291, 292, 293, 294] (by decide +kernel) (by decide +kernel)
set_option maxRecDepth 20000 in
theorem gk_ggL_law_L_begun_wsX80 : GoodIn wsL_law wsX80 := goodIn_r _ [743, 744, 745, 746, 747, 748, 749, 750] (by decide +kernel) (by decide +kernel)
set_option maxRecDepth 20000 in
theorem gk_ggL_law_L_begun_wsX50 : GoodIn wsL_law wsX50 := goodIn_r _ [751, 752, 753, 754, 755, 756, 757, 758, 759, 760] (by decide +kernel) (by decide +kernel)
set_option maxRecDepth 20000 in
theorem gk_ggL_law_L_begun_wsX00 : GoodIn wsL_law wsX00 := goodIn_r _ [761, 762, 763, 764, 765] (by decide +kernel) (by decide +kernel)
set_option maxRecDepth 20000 in
theorem gk_ggL_law_L_begun_wsX60 : GoodIn wsL_law wsX60 := goodIn_r _ [766, 767, 768] (by decide +kernel) (by decide +kernel)
set_option maxRecDepth 20000 in
theorem gk_ggL_law_L_begun_wsX40 : GoodIn wsL_law wsX40 := goodIn_r _ [769, 770, 771] (by decide +kernel) (by decide +kernel)
set_option maxRecDepth 20000 in
theorem gk_ggL_law_L_begun_wsX20 : GoodIn wsL_law wsX20 := goodIn_r _ [772, 773, 774, 775, 776, 777] (by decide +kernel) (by decide +kernel)
set_option maxRecDepth 20000 in
theorem gk_ggL_law_L_begun_wsX30 : GoodIn wsL_law wsX30 := goodIn_r _ [778, 779, 780, 781, 782, 783] (by decide +kernel) (by decide +kernel)
set_option maxRecDepth 20000 in
theorem gk_ggL_law_L_begun_wsX10 : GoodIn wsL_law wsX10 := goodIn_r _ [784, 785, 786, 787, 788, 789, 790, 791] (by decide +kernel) (by decide +kernel)
set_option maxRecDepth 20000 in
theorem gk_ggL_law_L_begun_wsX70 : GoodIn wsL_law wsX70 := goodIn_r _ [792, 793, 794, 795, 796] (by decide +kernel) (by decide +kernel)
theorem ggL_law_L_begun : GoodIn wsL_law wsL_begun := goodIn_ca (goodIn_ca (goodIn_ca (goodIn_ca (goodIn_ca (fun w h => (List.mem_cons.mp h).elim (fun e => gk_ggL_law_L_begun_0 w (List.mem_cons.mpr (Or.inl e))) (fun h => (goodIn_app (goodIn_app (goodIn_app (goodIn_app (goodIn_app (goodIn_app (goodIn_app (goodIn_app (goodIn_app (goodIn_app gk_ggL_law_L_begun_1 (goodIn_app gk_ggL_law_L_begun_2 (goodIn_app gk_ggL_law_L_begun_3 (goodIn_app gk_ggL_law_L_begun_4 (goodIn_app gk_ggL_law_L_begun_5 (goodIn_app gk_ggL_law_L_begun_6 (goodIn_app gk_ggL_law_L_begun_7 (goodIn_app gk_ggL_law_L_begun_8 (goodIn_app gk_ggL_law_L_begun_9 (goodIn_app gk_ggL_law_L_begun_10 (goodIn_app gk_ggL_law_L_begun_11 (goodIn_app gk_ggL_law_L_begun_12 (gk_ggL_law_L_begun_13))))))))))))) gk_ggL_law_L_begun_wsX80) gk_ggL_law_L_begun_wsX50) gk_ggL_law_L_begun_wsX00) gk_ggL_law_L_begun_wsX60) gk_ggL_law_L_begun_wsX40) gk_ggL_law_L_begun_wsX20) gk_ggL_law_L_begun_wsX30) gk_ggL_law_L_begun_wsX10) gk_ggL_law_L_begun_wsX70) w h)) (goodIn_sub (fun _ h => List.mem_append_left _ (List.mem_append_left _ (List.mem_append_left _ (List.mem_append_left _ (List.mem_append_right _ h))))) (by decide +kernel))) (goodIn_sub (fun _ h => List.mem_append_left _ (List.mem_append_left _ (List.mem_append_left _ (List.mem_append_right _ h)))) (by decide +kernel))) (goodIn_sub (fun _ h => List.mem_append_left _ (List.mem_append_left _ (List.mem_append_right _ h))) (by decide +kernel))) (goodIn_sub (fun _ h => List.mem_append_left _ (List.mem_append_right _ h)) (by decide +kernel))) (goodIn_sub (fun _ h => List.mem_append_right _ h) (by decide +kernel))
