theorem gk_ggL_law_L_isTold_0 : GoodIn wsL_law [.code yL_isTold cL_isTold 6 (some .boolean)] := goodIn_r _ [297] (by decide +kernel) (by decide +kernel)
set_option maxRecDepth 20000 in
theorem gk_ggL_law_L_isTold_1 : GoodIn wsL_law wsL_isTold_r1 := goodIn_r _ [2, 298, 299, 300, 5, 301, 186, 1, 302, 303, 304, 9, 305, 306, 307, 308, 309, 310, 24, 222, 311, 199, 200, 201] (by decide +kernel) (by decide +kernel)
set_option maxRecDepth 20000 in
theorem gk_ggL_law_L_isTold_2 : GoodIn wsL_law wsL_isTold_r2 := goodIn_r _ [202, 203, 312, 313, 314, 315, 316, 317, 318, 319, 320, 321, 322, 323, 324, 325, 326, 327, 328, 329, 330, 78, 331, 332] (by decide +kernel) (by decide +kernel)
set_option maxRecDepth 20000 in
theorem gk_ggL_law_L_isTold_3 : GoodIn wsL_law wsL_isTold_r3 := goodIn_r _ [333, 334, 86, 87, 335, 336, 337, 338, 339, 340, 341, 342, 343, 344, 345, 346, 347, 28, 254, 348, 349, 350, 351, 352] (by decide +kernel) (by decide +kernel)
set_option maxRecDepth 20000 in
theorem gk_ggL_law_L_isTold_4 : GoodIn wsL_law wsL_isTold_r4 := goodIn_r _ [353, 354, 355, 356, 357, 358, 359, 360, 361, 362, 363, 364, 365, 366, 367, 368, 32, 132, 369, 370, 371, 372, 373, 374] (by decide +kernel) (by decide +kernel)
set_option maxRecDepth 20000 in
theorem gk_ggL_law_L_isTold_5 : GoodIn wsL_law wsL_isTold_r5 := goodIn_r _ [375, 376, 377, 378, 379, 380, 381, 382, 383, 384, 111, 108, 112, 211, 212, 213, 385, 386, 387, 388, 389, 390, 391, 392] (by decide +kernel) (by decide +kernel)
set_option maxRecDepth 20000 in
theorem gk_ggL_law_L_isTold_6 : GoodIn wsL_law wsL_isTold_r6 := goodIn_r _ [393, 394, 20, 395, 195, 196, 197, 198, 92, 396, 397, 398, 31, 399, 137, 70, 138, 400, 401, 402, 403, 404, 71, 405] (by decide +kernel) (by decide +kernel)
set_option maxRecDepth 20000 in
theorem gk_ggL_law_L_isTold_7 : GoodIn wsL_law wsL_isTold_r7 := goodIn_r _ [406, 407, 408, 409, 410, 411, 412, 413, 414, 415, 416, 417, 418, 419, 420, 421, 221, 422, 99, 100, 19, 101, 102, 423] (by decide +kernel) (by decide +kernel)
set_option maxRecDepth 20000 in
theorem gk_ggL_law_L_isTold_8 : GoodIn wsL_law wsL_isTold_r8 := goodIn_r _ [424, 425, 23, 426, 243, 54, 427, 428, 429, 430, 431, 57, 432, 433, 434, 435, 436, 225, 437, 236, 238, 438, 439, 440] (by decide +kernel) (by decide +kernel)
set_option maxRecDepth 20000 in
theorem gk_ggL_law_L_isTold_9 : GoodIn wsL_law wsL_isTold_r9 := goodIn_r _ [441, 27, 442, 269, 63, 443, 444, 445, 446, 64, 447, 448, 449, 450, 451, 257, 452, 264, 453, 454, 455, 456, 457, 458] (by decide +kernel) (by decide +kernel)
set_option maxRecDepth 20000 in
theorem gk_ggL_law_L_isTold_10 : GoodIn wsL_law wsL_isTold_r10 := goodIn_r _ [36, 459, 460, 461, 462, 463, 464, 465, 466, 467, 468, 469, 470, 471, 472, 473, 474, 125, 126, 127, 10, 128, 129, 130] (by decide +kernel) (by decide +kernel)
set_option maxRecDepth 20000 in
theorem gk_ggL_law_L_isTold_11 : GoodIn wsL_law wsL_isTold_r11 := goodIn_r _ [131, 133, 134, 135, 136] (by decide +kernel) (by decide +kernel)
set_option maxRecDepth 20000 in
theorem gk_ggL_law_L_isTold_wsX10 : GoodIn wsL_law wsX10 := goodIn_r _ [784, 785, 786, 787, 788, 789, 790, 791] (by decide +kernel) (by decide +kernel)
set_option maxRecDepth 20000 in
theorem gk_ggL_law_L_isTold_wsX80 : GoodIn wsL_law wsX80 := goodIn_r _ [743, 744, 745, 746, 747, 748, 749, 750] (by decide +kernel) (by decide +kernel)
set_option maxRecDepth 20000 in
theorem gk_ggL_law_L_isTold_wsX00 : GoodIn wsL_law wsX00 := goodIn_r _ [761, 762, 763, 764, 765] (by decide +kernel) (by decide +kernel)
set_option maxRecDepth 20000 in
theorem gk_ggL_law_L_isTold_wsX70 : GoodIn wsL_law wsX70 := goodIn_r _ [792, 793, 794, 795, 796] (by decide +kernel) (by decide +kernel)
set_option maxRecDepth 20000 in
theorem gk_ggL_law_L_isTold_wsX60 : GoodIn wsL_law wsX60 := goodIn_r _ [766, 767, 768] (by decide +kernel) (by decide +kernel)
set_option maxRecDepth 20000 in
theorem gk_ggL_law_L_isTold_wsX30 : GoodIn wsL_law wsX30 := goodIn_r _ [778, 779, 780, 781, 782, 783] (by decide +kernel) (by decide +kernel)
set_option maxRecDepth 20000 in
theorem gk_ggL_law_L_isTold_wsX40 : GoodIn wsL_law wsX40 := goodIn_r _ [769, 770, 771] (by decide +kernel) (by decide +kernel)
set_option maxRecDepth 20000 in
theorem gk_ggL_law_L_isTold_wsX50 : GoodIn wsL_law wsX50 := goodIn_r _ [751, 752, 753, 754, 755, 756, 757, 758, 759, 760] (by decide +kernel) (by decide +kernel)
set_option maxRecDepth 20000 in
theorem gk_ggL_law_L_isTold_wsX20 : GoodIn wsL_law wsX20 := goodIn_r _ [772, 773, 774, 775, 776, 777] (by decide +kernel) (by decide +kernel)
theorem ggL_law_L_isTold : GoodIn wsL_law wsL_isTold := goodIn_ca (goodIn_ca (fun w h => (List.mem_cons.mp h).elim (fun e => gk_ggL_law_L_isTold_0 w (List.mem_cons.mpr (Or.inl e))) (fun h => (goodIn_app (goodIn_app (goodIn_app (goodIn_app (goodIn_app (goodIn_app (goodIn_app (goodIn_app (goodIn_app (goodIn_app gk_ggL_law_L_isTold_1 (goodIn_app gk_ggL_law_L_isTold_2 (goodIn_app gk_ggL_law_L_isTold_3 (goodIn_app gk_ggL_law_L_isTold_4 (goodIn_app gk_ggL_law_L_isTold_5 (goodIn_app gk_ggL_law_L_isTold_6 (goodIn_app gk_ggL_law_L_isTold_7 (goodIn_app gk_ggL_law_L_isTold_8 (goodIn_app gk_ggL_law_L_isTold_9 (goodIn_app gk_ggL_law_L_isTold_10 (gk_ggL_law_L_isTold_11))))))))))) gk_ggL_law_L_isTold_wsX10) gk_ggL_law_L_isTold_wsX80) gk_ggL_law_L_isTold_wsX00) gk_ggL_law_L_isTold_wsX70) gk_ggL_law_L_isTold_wsX60) gk_ggL_law_L_isTold_wsX30) gk_ggL_law_L_isTold_wsX40) gk_ggL_law_L_isTold_wsX50) gk_ggL_law_L_isTold_wsX20) w h)) (goodIn_sub (fun _ h => List.mem_append_right _ h) (by decide +kernel))) (goodIn_sub (fun _ h => List.mem_append_left _ (List.mem_append_left _ (List.mem_append_left _ (List.mem_append_left _ (List.mem_append_right _ h))))) (by decide +kernel))
