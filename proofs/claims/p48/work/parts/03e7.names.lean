theorem gk_ggL_law_L_pass_0 : GoodIn wsL_law [.codeWith yL_pass cL_pass 3 (some .int) [(0, 5, 6, 24)]] := goodIn_r _ [631] (by decide +kernel) (by decide +kernel)
set_option maxRecDepth 20000 in
theorem gk_ggL_law_L_pass_1 : GoodIn wsL_law wsL_pass_r1 := goodIn_r _ [187, 1, 632, 633, 634, 9, 635, 32, 226, 227, 228, 192, 193, 636, 637, 638, 639, 640, 24, 36, 459, 20, 92, 395] (by decide +kernel) (by decide +kernel)
set_option maxRecDepth 20000 in
theorem gk_ggL_law_L_pass_2 : GoodIn wsL_law wsL_pass_r2 := goodIn_r _ [641, 642, 643, 23, 644, 243, 54, 645, 646, 647, 225, 648, 649, 233, 496, 650, 489, 490, 491, 238, 235, 651, 505, 506] (by decide +kernel) (by decide +kernel)
set_option maxRecDepth 20000 in
theorem gk_ggL_law_L_pass_3 : GoodIn wsL_law wsL_pass_r3 := goodIn_r _ [507, 652, 653, 654, 655, 37, 469, 464, 28, 474, 417, 418, 419, 420, 421, 221, 212, 108, 213, 422, 99, 100, 19, 101] (by decide +kernel) (by decide +kernel)
set_option maxRecDepth 20000 in
theorem gk_ggL_law_L_pass_4 : GoodIn wsL_law wsL_pass_r4 := goodIn_r _ [102, 423, 424, 425, 426, 427, 428, 429, 430, 431, 57, 432, 433, 434, 435, 436, 437, 236, 438, 111, 112, 439, 440, 441] (by decide +kernel) (by decide +kernel)
set_option maxRecDepth 20000 in
theorem gk_ggL_law_L_pass_5 : GoodIn wsL_law wsL_pass_r5 := goodIn_r _ [27, 442, 269, 63, 443, 444, 445, 446, 64, 447, 448, 449, 450, 451, 257, 452, 264, 453, 454, 656, 657, 658, 31, 659] (by decide +kernel) (by decide +kernel)
set_option maxRecDepth 20000 in
theorem gk_ggL_law_L_pass_6 : GoodIn wsL_law wsL_pass_r6 := goodIn_r _ [137, 70, 401, 402, 403, 404, 71, 405, 406, 660, 661, 662, 663, 664, 665, 666, 667, 400, 668, 669, 670, 285, 671, 294] (by decide +kernel) (by decide +kernel)
set_option maxRecDepth 20000 in
theorem gk_ggL_law_L_pass_7 : GoodIn wsL_law wsL_pass_r7 := goodIn_r _ [291, 672, 673, 674, 675, 290, 676, 396, 397, 398, 399, 138, 677, 678, 679, 680, 681, 682, 683, 684, 685, 686, 55, 687] (by decide +kernel) (by decide +kernel)
set_option maxRecDepth 20000 in
theorem gk_ggL_law_L_pass_8 : GoodIn wsL_law wsL_pass_r8 := goodIn_r _ [688, 689, 690, 691, 692, 693, 694, 695, 696, 697, 698, 699, 700, 701, 702, 703, 704, 705, 706, 707, 708, 709, 710, 711] (by decide +kernel) (by decide +kernel)
set_option maxRecDepth 20000 in
theorem gk_ggL_law_L_pass_9 : GoodIn wsL_law wsL_pass_r9 := goodIn_r _ [712, 713, 714, 715, 716, 717, 718, 719, 720, 721, 722, 35, 723, 724, 725, 726, 727, 728, 729, 730, 731, 732, 733, 263] (by decide +kernel) (by decide +kernel)
set_option maxRecDepth 20000 in
theorem gk_ggL_law_L_pass_10 : GoodIn wsL_law wsL_pass_r10 := goodIn_r _ [734, 735, 736, 737, 738, 133, 134, 135, 136] (by decide +kernel) (by decide +kernel)
set_option maxRecDepth 20000 in
theorem gk_ggL_law_L_pass_wsX80 : GoodIn wsL_law wsX80 := goodIn_r _ [743, 744, 745, 746, 747, 748, 749, 750] (by decide +kernel) (by decide +kernel)
set_option maxRecDepth 20000 in
theorem gk_ggL_law_L_pass_wsX20 : GoodIn wsL_law wsX20 := goodIn_r _ [772, 773, 774, 775, 776, 777] (by decide +kernel) (by decide +kernel)
set_option maxRecDepth 20000 in
theorem gk_ggL_law_L_pass_wsX50 : GoodIn wsL_law wsX50 := goodIn_r _ [751, 752, 753, 754, 755, 756, 757, 758, 759, 760] (by decide +kernel) (by decide +kernel)
set_option maxRecDepth 20000 in
theorem gk_ggL_law_L_pass_wsX00 : GoodIn wsL_law wsX00 := goodIn_r _ [761, 762, 763, 764, 765] (by decide +kernel) (by decide +kernel)
set_option maxRecDepth 20000 in
theorem gk_ggL_law_L_pass_wsX10 : GoodIn wsL_law wsX10 := goodIn_r _ [784, 785, 786, 787, 788, 789, 790, 791] (by decide +kernel) (by decide +kernel)
set_option maxRecDepth 20000 in
theorem gk_ggL_law_L_pass_wsX60 : GoodIn wsL_law wsX60 := goodIn_r _ [766, 767, 768] (by decide +kernel) (by decide +kernel)
set_option maxRecDepth 20000 in
theorem gk_ggL_law_L_pass_wsX70 : GoodIn wsL_law wsX70 := goodIn_r _ [792, 793, 794, 795, 796] (by decide +kernel) (by decide +kernel)
set_option maxRecDepth 20000 in
theorem gk_ggL_law_L_pass_wsX40 : GoodIn wsL_law wsX40 := goodIn_r _ [769, 770, 771] (by decide +kernel) (by decide +kernel)
set_option maxRecDepth 20000 in
theorem gk_ggL_law_L_pass_wsX30 : GoodIn wsL_law wsX30 := goodIn_r _ [778, 779, 780, 781, 782, 783] (by decide +kernel) (by decide +kernel)
theorem ggL_law_L_pass : GoodIn wsL_law wsL_pass := goodIn_ca (fun w h => (List.mem_cons.mp h).elim (fun e => gk_ggL_law_L_pass_0 w (List.mem_cons.mpr (Or.inl e))) (fun h => (goodIn_app (goodIn_app (goodIn_app (goodIn_app (goodIn_app (goodIn_app (goodIn_app (goodIn_app (goodIn_app (goodIn_app gk_ggL_law_L_pass_1 (goodIn_app gk_ggL_law_L_pass_2 (goodIn_app gk_ggL_law_L_pass_3 (goodIn_app gk_ggL_law_L_pass_4 (goodIn_app gk_ggL_law_L_pass_5 (goodIn_app gk_ggL_law_L_pass_6 (goodIn_app gk_ggL_law_L_pass_7 (goodIn_app gk_ggL_law_L_pass_8 (goodIn_app gk_ggL_law_L_pass_9 (gk_ggL_law_L_pass_10)))))))))) gk_ggL_law_L_pass_wsX80) gk_ggL_law_L_pass_wsX20) gk_ggL_law_L_pass_wsX50) gk_ggL_law_L_pass_wsX00) gk_ggL_law_L_pass_wsX10) gk_ggL_law_L_pass_wsX60) gk_ggL_law_L_pass_wsX70) gk_ggL_law_L_pass_wsX40) gk_ggL_law_L_pass_wsX30) w h)) (goodIn_sub (fun _ h => List.mem_append_left _ (List.mem_append_right _ h)) (by decide +kernel))
