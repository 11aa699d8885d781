theorem gk_ggL_isDone_L_isPassed_0 : GoodIn wsL_isDone [.code yL_isPassed cL_isPassed 5 (some .boolean)] := goodIn_r _ [334] (by decide +kernel) (by decide +kernel)
set_option maxRecDepth 20000 in
theorem gk_ggL_isDone_L_isPassed_1 : GoodIn wsL_isDone wsL_isPassed_r1 := goodIn_r _ [335, 336, 3, 337, 75, 76, 77, 338, 339, 340, 341, 164, 161, 165, 342, 343, 344, 345, 346, 347, 348, 349, 350, 351] (by decide +kernel) (by decide +kernel)
set_option maxRecDepth 20000 in
theorem gk_ggL_isDone_L_isPassed_2 : GoodIn wsL_isDone wsL_isPassed_r2 := goodIn_r _ [352, 353, 354, 355, 356, 357, 358, 359, 360, 361, 362, 363, 364, 365, 366, 367, 368, 369, 370, 112, 22, 371, 372, 373] (by decide +kernel) (by decide +kernel)
set_option maxRecDepth 20000 in
theorem gk_ggL_isDone_L_isPassed_3 : GoodIn wsL_isDone wsL_isPassed_r3 := goodIn_r _ [26, 374, 269, 118, 119, 120, 121, 122, 375, 376, 377, 378, 379, 38, 380, 381, 85, 91, 86, 382, 383, 384, 95, 385] (by decide +kernel) (by decide +kernel)
set_option maxRecDepth 20000 in
theorem gk_ggL_isDone_L_isPassed_4 : GoodIn wsL_isDone wsL_isPassed_r4 := goodIn_r _ [97, 98, 386, 387, 388, 49, 389, 390, 59, 58, 391, 47, 48, 50, 51, 52, 392, 69, 70, 71, 393, 394, 395, 396] (by decide +kernel) (by decide +kernel)
set_option maxRecDepth 20000 in
theorem gk_ggL_isDone_L_isPassed_5 : GoodIn wsL_isDone wsL_isPassed_r5 := goodIn_r _ [256, 397, 398, 313, 399, 400, 401, 402, 403, 248, 404, 405, 152, 153, 141, 154, 155, 406, 407, 408, 409, 410, 411, 412] (by decide +kernel) (by decide +kernel)
set_option maxRecDepth 20000 in
theorem gk_ggL_isDone_L_isPassed_6 : GoodIn wsL_isDone wsL_isPassed_r6 := goodIn_r _ [413, 99, 100, 101, 102, 414, 415, 416, 417, 108, 418, 419, 420, 421, 328, 422, 330, 331, 423, 424, 425, 426, 427, 428] (by decide +kernel) (by decide +kernel)
set_option maxRecDepth 20000 in
theorem gk_ggL_isDone_L_isPassed_7 : GoodIn wsL_isDone wsL_isPassed_r7 := goodIn_r _ [429, 430, 431, 432, 317, 433, 324, 434, 435, 436, 437, 438, 285, 439, 287, 288, 440, 441, 442, 443, 444, 445, 446, 447] (by decide +kernel) (by decide +kernel)
set_option maxRecDepth 20000 in
theorem gk_ggL_isDone_L_isPassed_8 : GoodIn wsL_isDone wsL_isPassed_r8 := goodIn_r _ [448, 449, 450, 451, 452, 453, 454, 455, 456, 457, 458, 291, 459, 302, 299, 460, 461, 462, 463, 298, 464, 465, 466, 467] (by decide +kernel) (by decide +kernel)
set_option maxRecDepth 20000 in
theorem gk_ggL_isDone_L_isPassed_9 : GoodIn wsL_isDone wsL_isPassed_r9 := goodIn_r _ [468, 469, 470, 471, 472, 473, 474, 475, 476, 477, 478, 479, 480, 481, 482, 483, 484, 485, 486, 487, 488, 489, 490, 491] (by decide +kernel) (by decide +kernel)
set_option maxRecDepth 20000 in
theorem gk_ggL_isDone_L_isPassed_10 : GoodIn wsL_isDone wsL_isPassed_r10 := goodIn_r _ [492, 493, 494, 495, 496, 497, 498, 499, 500, 501, 502, 503, 504, 505, 506, 507, 508, 509, 510, 511, 512, 513, 514, 515] (by decide +kernel) (by decide +kernel)
set_option maxRecDepth 20000 in
theorem gk_ggL_isDone_L_isPassed_11 : GoodIn wsL_isDone wsL_isPassed_r11 := goodIn_r _ [516, 517, 518, 519, 520, 521, 522, 523, 524, 525, 526, 527, 528, 323, 529, 530, 531, 532, 533, 534, 535, 536, 537, 538] (by decide +kernel) (by decide +kernel)
set_option maxRecDepth 20000 in
theorem gk_ggL_isDone_L_isPassed_12 : GoodIn wsL_isDone wsL_isPassed_r12 := goodIn_r _ [539, 540, 541] (by decide +kernel) (by decide +kernel)
set_option maxRecDepth 20000 in
theorem gk_ggL_isDone_L_isPassed_wsX80 : GoodIn wsL_isDone wsX80 := goodIn_r _ [550, 551, 552, 553, 554, 555, 556, 557] (by decide +kernel) (by decide +kernel)
set_option maxRecDepth 20000 in
theorem gk_ggL_isDone_L_isPassed_wsX20 : GoodIn wsL_isDone wsX20 := goodIn_r _ [590, 591, 592, 593, 594, 595] (by decide +kernel) (by decide +kernel)
set_option maxRecDepth 20000 in
theorem gk_ggL_isDone_L_isPassed_wsX50 : GoodIn wsL_isDone wsX50 := goodIn_r _ [563, 564, 565, 566, 567, 568, 569, 570, 571, 572] (by decide +kernel) (by decide +kernel)
set_option maxRecDepth 20000 in
theorem gk_ggL_isDone_L_isPassed_wsX00 : GoodIn wsL_isDone wsX00 := goodIn_r _ [558, 559, 560, 561, 562] (by decide +kernel) (by decide +kernel)
set_option maxRecDepth 20000 in
theorem gk_ggL_isDone_L_isPassed_wsX10 : GoodIn wsL_isDone wsX10 := goodIn_r _ [542, 543, 544, 545, 546, 547, 548, 549] (by decide +kernel) (by decide +kernel)
set_option maxRecDepth 20000 in
theorem gk_ggL_isDone_L_isPassed_wsX60 : GoodIn wsL_isDone wsX60 := goodIn_r _ [582, 583, 584] (by decide +kernel) (by decide +kernel)
set_option maxRecDepth 20000 in
theorem gk_ggL_isDone_L_isPassed_wsX70 : GoodIn wsL_isDone wsX70 := goodIn_r _ [585, 586, 587, 588, 589] (by decide +kernel) (by decide +kernel)
set_option maxRecDepth 20000 in
theorem gk_ggL_isDone_L_isPassed_wsX40 : GoodIn wsL_isDone wsX40 := goodIn_r _ [579, 580, 581] (by decide +kernel) (by decide +kernel)
set_option maxRecDepth 20000 in
theorem gk_ggL_isDone_L_isPassed_wsX30 : GoodIn wsL_isDone wsX30 := goodIn_r _ [573, 574, 575, 576, 577, 578] (by decide +kernel) (by decide +kernel)
theorem ggL_isDone_L_isPassed : GoodIn wsL_isDone wsL_isPassed := goodIn_ca (fun w h => (List.mem_cons.mp h).elim (fun e => gk_ggL_isDone_L_isPassed_0 w (List.mem_cons.mpr (Or.inl e))) (fun h => (goodIn_app (goodIn_app (goodIn_app (goodIn_app (goodIn_app (goodIn_app (goodIn_app (goodIn_app (goodIn_app (goodIn_app gk_ggL_isDone_L_isPassed_1 (goodIn_app gk_ggL_isDone_L_isPassed_2 (goodIn_app gk_ggL_isDone_L_isPassed_3 (goodIn_app gk_ggL_isDone_L_isPassed_4 (goodIn_app gk_ggL_isDone_L_isPassed_5 (goodIn_app gk_ggL_isDone_L_isPassed_6 (goodIn_app gk_ggL_isDone_L_isPassed_7 (goodIn_app gk_ggL_isDone_L_isPassed_8 (goodIn_app gk_ggL_isDone_L_isPassed_9 (goodIn_app gk_ggL_isDone_L_isPassed_10 (goodIn_app gk_ggL_isDone_L_isPassed_11 (gk_ggL_isDone_L_isPassed_12)))))))))))) gk_ggL_isDone_L_isPassed_wsX80) gk_ggL_isDone_L_isPassed_wsX20) gk_ggL_isDone_L_isPassed_wsX50) gk_ggL_isDone_L_isPassed_wsX00) gk_ggL_isDone_L_isPassed_wsX10) gk_ggL_isDone_L_isPassed_wsX60) gk_ggL_isDone_L_isPassed_wsX70) gk_ggL_isDone_L_isPassed_wsX40) gk_ggL_isDone_L_isPassed_wsX30) w h)) (goodIn_sub (fun _ h => List.mem_cons_of_mem _ (List.mem_append_left _ (List.mem_append_right _ h))) (by decide +kernel))
