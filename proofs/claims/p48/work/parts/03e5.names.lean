theorem gk_ggL_law_L_isDone_0 : GoodIn wsL_law [.code yL_isDone cL_isDone 8 (some .boolean)] := goodIn_r _ [477] (by decide +kernel) (by decide +kernel)
set_option maxRecDepth 20000 in
theorem gk_ggL_law_L_isDone_1 : GoodIn wsL_law wsL_isDone_r1 := goodIn_r _ [147, 148, 5, 149, 150, 151, 152, 153, 154, 155, 478, 479, 480, 2, 81, 481, 482, 483, 186, 79, 78, 1, 484, 485] (by decide +kernel) (by decide +kernel)
set_option maxRecDepth 20000 in
theorem gk_ggL_law_L_isDone_2 : GoodIn wsL_law wsL_isDone_r2 := goodIn_r _ [486, 9, 487, 88, 89, 86, 87, 306, 335, 307, 308, 309, 310, 24, 222, 311, 199, 200, 201, 202, 203, 488, 489, 490] (by decide +kernel) (by decide +kernel)
set_option maxRecDepth 20000 in
theorem gk_ggL_law_L_isDone_3 : GoodIn wsL_law wsL_isDone_r3 := goodIn_r _ [225, 491, 238, 235, 492, 493, 494, 495, 237, 496, 233, 497, 498, 499, 500, 501, 502, 503, 319, 504, 505, 506, 507, 508] (by decide +kernel) (by decide +kernel)
set_option maxRecDepth 20000 in
theorem gk_ggL_law_L_isDone_4 : GoodIn wsL_law wsL_isDone_r4 := goodIn_r _ [509, 510, 378, 379, 380, 511, 512, 513, 514, 515, 516, 517, 20, 395, 195, 196, 197, 198, 92, 518, 519, 520, 23, 521] (by decide +kernel) (by decide +kernel)
set_option maxRecDepth 20000 in
theorem gk_ggL_law_L_isDone_5 : GoodIn wsL_law wsL_isDone_r5 := goodIn_r _ [243, 54, 431, 57, 432, 433, 522, 523, 524, 525, 526, 236, 527, 528, 529, 187, 530, 531, 532, 533, 534, 226, 227, 228] (by decide +kernel) (by decide +kernel)
set_option maxRecDepth 20000 in
theorem gk_ggL_law_L_isDone_6 : GoodIn wsL_law wsL_isDone_r6 := goodIn_r _ [192, 193, 535, 536, 537, 538, 539, 540, 80, 541, 542, 543, 544, 90, 91, 194, 545, 546, 547, 548, 19, 549, 42, 43] (by decide +kernel) (by decide +kernel)
set_option maxRecDepth 20000 in
theorem gk_ggL_law_L_isDone_7 : GoodIn wsL_law wsL_isDone_r7 := goodIn_r _ [44, 550, 95, 96, 97, 41, 98, 99, 100, 101, 102, 551, 104, 105, 106, 107, 108, 109, 110, 111, 112, 552, 553, 554] (by decide +kernel) (by decide +kernel)
set_option maxRecDepth 20000 in
theorem gk_ggL_law_L_isDone_8 : GoodIn wsL_law wsL_isDone_r8 := goodIn_r _ [555, 46, 167, 168, 169, 170, 117, 171, 172, 173, 174, 47, 175, 176, 177, 178, 179, 143, 144, 145, 146, 556, 557, 558] (by decide +kernel) (by decide +kernel)
set_option maxRecDepth 20000 in
theorem gk_ggL_law_L_isDone_9 : GoodIn wsL_law wsL_isDone_r9 := goodIn_r _ [559, 560, 561, 562, 563, 564, 565, 566, 567, 568, 569, 570, 571, 572, 573, 574, 75, 76, 77, 82, 83, 84, 85, 93] (by decide +kernel) (by decide +kernel)
set_option maxRecDepth 20000 in
theorem gk_ggL_law_L_isDone_10 : GoodIn wsL_law wsL_isDone_r10 := goodIn_r _ [94, 103, 113, 114, 115, 116, 118, 119, 120, 121, 122, 123, 124, 575, 576, 577, 578, 579, 580, 581, 582, 583, 584, 585] (by decide +kernel) (by decide +kernel)
set_option maxRecDepth 20000 in
theorem gk_ggL_law_L_isDone_11 : GoodIn wsL_law wsL_isDone_r11 := goodIn_r _ [586, 587, 588, 589, 590, 591, 592, 421, 593, 594, 595, 596, 597, 598, 599, 37, 600, 601, 602, 603, 604, 605, 606, 607] (by decide +kernel) (by decide +kernel)
set_option maxRecDepth 20000 in
theorem gk_ggL_law_L_isDone_12 : GoodIn wsL_law wsL_isDone_r12 := goodIn_r _ [365, 366, 367, 368, 32, 132, 369, 270, 271, 272, 273, 274, 275, 276, 277, 278, 279, 280, 281, 282, 31, 283, 137, 70] (by decide +kernel) (by decide +kernel)
set_option maxRecDepth 20000 in
theorem gk_ggL_law_L_isDone_13 : GoodIn wsL_law wsL_isDone_r13 := goodIn_r _ [69, 284, 285, 286, 287, 288, 289, 15, 16, 290, 291, 292, 293, 294, 244, 245, 246, 247, 248, 249, 250, 251, 252, 253] (by decide +kernel) (by decide +kernel)
set_option maxRecDepth 20000 in
theorem gk_ggL_law_L_isDone_14 : GoodIn wsL_law wsL_isDone_r14 := goodIn_r _ [28, 254, 255, 256, 257, 258, 259, 260, 261, 262, 263, 264, 265, 266, 267, 27, 268, 269, 63, 608, 609, 610, 611, 612] (by decide +kernel) (by decide +kernel)
set_option maxRecDepth 20000 in
theorem gk_ggL_law_L_isDone_15 : GoodIn wsL_law wsL_isDone_r15 := goodIn_r _ [613, 614, 615, 616, 384, 617, 618, 619, 211, 212, 213, 620, 621, 622, 623, 624, 625, 381, 382, 383, 298, 385, 386, 387] (by decide +kernel) (by decide +kernel)
set_option maxRecDepth 20000 in
theorem gk_ggL_law_L_isDone_16 : GoodIn wsL_law wsL_isDone_r16 := goodIn_r _ [407, 408, 409, 626, 627, 628, 0, 629, 630, 631, 632, 633, 634, 635, 636, 637, 638, 639, 640, 36, 459, 641, 642, 643] (by decide +kernel) (by decide +kernel)
set_option maxRecDepth 20000 in
theorem gk_ggL_law_L_isDone_17 : GoodIn wsL_law wsL_isDone_r17 := goodIn_r _ [644, 645, 646, 647, 648, 649, 650, 651, 652, 653, 654, 655, 469, 464, 474, 417, 418, 419, 420, 221, 422, 423, 424, 425] (by decide +kernel) (by decide +kernel)
set_option maxRecDepth 20000 in
theorem gk_ggL_law_L_isDone_18 : GoodIn wsL_law wsL_isDone_r18 := goodIn_r _ [426, 427, 428, 429, 430, 434, 435, 436, 437, 438, 439, 440, 441, 442, 443, 444, 445, 446, 64, 447, 448, 449, 450, 451] (by decide +kernel) (by decide +kernel)
set_option maxRecDepth 20000 in
theorem gk_ggL_law_L_isDone_19 : GoodIn wsL_law wsL_isDone_r19 := goodIn_r _ [452, 453, 454, 656, 657, 658, 659, 401, 402, 403, 404, 71, 405, 406, 660, 661, 662, 663, 664, 665, 666, 667, 400, 668] (by decide +kernel) (by decide +kernel)
set_option maxRecDepth 20000 in
theorem gk_ggL_law_L_isDone_20 : GoodIn wsL_law wsL_isDone_r20 := goodIn_r _ [669, 670, 671, 672, 673, 674, 675, 676, 396, 397, 398, 399, 138, 677, 678, 679, 680, 681, 682, 683, 684, 685, 686, 55] (by decide +kernel) (by decide +kernel)
set_option maxRecDepth 20000 in
theorem gk_ggL_law_L_isDone_21 : GoodIn wsL_law wsL_isDone_r21 := goodIn_r _ [687, 688, 689, 690, 691, 692, 693, 694, 695, 696, 697, 698, 699, 700, 701, 702, 703, 704, 705, 706, 707, 708, 709, 710] (by decide +kernel) (by decide +kernel)
set_option maxRecDepth 20000 in
theorem gk_ggL_law_L_isDone_22 : GoodIn wsL_law wsL_isDone_r22 := goodIn_r _ [711, 712, 713, 714, 715, 716, 717, 718, 719, 720, 721, 722, 35, 723, 724, 725, 726, 727, 728, 729, 730, 731, 732, 733] (by decide +kernel) (by decide +kernel)
set_option maxRecDepth 20000 in
theorem gk_ggL_law_L_isDone_23 : GoodIn wsL_law wsL_isDone_r23 := goodIn_r _ [734, 735, 736, 737, 738, 133, 134, 135, 136, 739, 740, 741, 742] (by decide +kernel) (by decide +kernel)
set_option maxRecDepth 20000 in
theorem gk_ggL_law_L_isDone_wsX10 : GoodIn wsL_law wsX10 := goodIn_r _ [784, 785, 786, 787, 788, 789, 790, 791] (by decide +kernel) (by decide +kernel)
set_option maxRecDepth 20000 in
theorem gk_ggL_law_L_isDone_wsX80 : GoodIn wsL_law wsX80 := goodIn_r _ [743, 744, 745, 746, 747, 748, 749, 750] (by decide +kernel) (by decide +kernel)
set_option maxRecDepth 20000 in
theorem gk_ggL_law_L_isDone_wsX00 : GoodIn wsL_law wsX00 := goodIn_r _ [761, 762, 763, 764, 765] (by decide +kernel) (by decide +kernel)
set_option maxRecDepth 20000 in
theorem gk_ggL_law_L_isDone_wsX50 : GoodIn wsL_law wsX50 := goodIn_r _ [751, 752, 753, 754, 755, 756, 757, 758, 759, 760] (by decide +kernel) (by decide +kernel)
set_option maxRecDepth 20000 in
theorem gk_ggL_law_L_isDone_wsX30 : GoodIn wsL_law wsX30 := goodIn_r _ [778, 779, 780, 781, 782, 783] (by decide +kernel) (by decide +kernel)
set_option maxRecDepth 20000 in
theorem gk_ggL_law_L_isDone_wsX40 : GoodIn wsL_law wsX40 := goodIn_r _ [769, 770, 771] (by decide +kernel) (by decide +kernel)
set_option maxRecDepth 20000 in
theorem gk_ggL_law_L_isDone_wsX60 : GoodIn wsL_law wsX60 := goodIn_r _ [766, 767, 768] (by decide +kernel) (by decide +kernel)
set_option maxRecDepth 20000 in
theorem gk_ggL_law_L_isDone_wsX70 : GoodIn wsL_law wsX70 := goodIn_r _ [792, 793, 794, 795, 796] (by decide +kernel) (by decide +kernel)
set_option maxRecDepth 20000 in
theorem gk_ggL_law_L_isDone_wsX20 : GoodIn wsL_law wsX20 := goodIn_r _ [772, 773, 774, 775, 776, 777] (by decide +kernel) (by decide +kernel)
theorem ggL_law_L_isDone : GoodIn wsL_law wsL_isDone := goodIn_ca (goodIn_ca (goodIn_ca (goodIn_ca (goodIn_ca (fun w h => (List.mem_cons.mp h).elim (fun e => gk_ggL_law_L_isDone_0 w (List.mem_cons.mpr (Or.inl e))) (fun h => (goodIn_app (goodIn_app (goodIn_app (goodIn_app (goodIn_app (goodIn_app (goodIn_app (goodIn_app (goodIn_app (goodIn_app gk_ggL_law_L_isDone_1 (goodIn_app gk_ggL_law_L_isDone_2 (goodIn_app gk_ggL_law_L_isDone_3 (goodIn_app gk_ggL_law_L_isDone_4 (goodIn_app gk_ggL_law_L_isDone_5 (goodIn_app gk_ggL_law_L_isDone_6 (goodIn_app gk_ggL_law_L_isDone_7 (goodIn_app gk_ggL_law_L_isDone_8 (goodIn_app gk_ggL_law_L_isDone_9 (goodIn_app gk_ggL_law_L_isDone_10 (goodIn_app gk_ggL_law_L_isDone_11 (goodIn_app gk_ggL_law_L_isDone_12 (goodIn_app gk_ggL_law_L_isDone_13 (goodIn_app gk_ggL_law_L_isDone_14 (goodIn_app gk_ggL_law_L_isDone_15 (goodIn_app gk_ggL_law_L_isDone_16 (goodIn_app gk_ggL_law_L_isDone_17 (goodIn_app gk_ggL_law_L_isDone_18 (goodIn_app gk_ggL_law_L_isDone_19 (goodIn_app gk_ggL_law_L_isDone_20 (goodIn_app gk_ggL_law_L_isDone_21 (goodIn_app gk_ggL_law_L_isDone_22 (gk_ggL_law_L_isDone_23))))))))))))))))))))))) gk_ggL_law_L_isDone_wsX10) gk_ggL_law_L_isDone_wsX80) gk_ggL_law_L_isDone_wsX00) gk_ggL_law_L_isDone_wsX50) gk_ggL_law_L_isDone_wsX30) gk_ggL_law_L_isDone_wsX40) gk_ggL_law_L_isDone_wsX60) gk_ggL_law_L_isDone_wsX70) gk_ggL_law_L_isDone_wsX20) w h)) (goodIn_sub (fun _ h => List.mem_append_left _ (List.mem_append_left _ (List.mem_append_left _ (List.mem_append_right _ h)))) (by decide +kernel))) (goodIn_sub (fun _ h => List.mem_append_left _ (List.mem_append_left _ (List.mem_append_left _ (List.mem_append_left _ (List.mem_append_right _ h))))) (by decide +kernel))) (goodIn_sub (fun _ h => List.mem_append_right _ h) (by decide +kernel))) (goodIn_sub (fun _ h => List.mem_append_left _ (List.mem_append_right _ h)) (by decide +kernel))) (goodIn_sub (fun _ h => List.mem_append_left _ (List.mem_append_left _ (List.mem_append_right _ h))) (by decide +kernel))
