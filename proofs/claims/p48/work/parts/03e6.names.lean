set_option maxRecDepth 20000 in
theorem gL_law_L_isDone : GoodIn wsL_law (va_wsS RL 311 yL_isDone wsL_isDone) := goodIn_app (goodIn_of _ (by decide +kernel)) ggL_law_L_isDone
set_option maxRecDepth 20000 in
theorem ggL_law_L_addGenerator : GoodIn wsL_law wsL_addGenerator := goodIn_ca (goodIn_ca (goodIn_ca (goodIn_r _ [216, 186, 187, 79, 1, 2, 81, 217, 218, 219, 9, 220, 88, 89, 221, 212, 108, 213, 24, 222, 223, 224, 225, 195, 196, 197, 198, 20, 92, 199, 200, 201, 202, 203, 226, 227, 228, 192, 193, 229, 230, 231, 232, 15, 16, 233, 234, 235, 236, 237, 238, 239, 240, 241, 23, 242, 243, 54, 743, 744, 745, 746, 747, 748, 749, 750, 761, 762, 763, 764, 765, 784, 785, 786, 787, 788, 789, 790, 791, 751, 752, 753, 754, 755, 756, 757, 758, 759, 760] (by decide +kernel) (by decide +kernel)) (goodIn_sub (fun _ h => List.mem_append_left _ (List.mem_append_left _ (List.mem_append_left _ (List.mem_append_right _ h)))) (by decide +kernel))) (goodIn_sub (fun _ h => List.mem_append_right _ h) (by decide +kernel))) (goodIn_sub (fun _ h => List.mem_append_left _ (List.mem_append_right _ h)) (by decide +kernel))
set_option maxRecDepth 20000 in
theorem gL_law_L_addGenerator : GoodIn wsL_law (va_wsS RL 145 yL_addGenerator wsL_addGenerator) := goodIn_app (goodIn_of _ (by decide +kernel)) ggL_law_L_addGenerator
set_option maxRecDepth 20000 in
theorem ggL_law_L_start : GoodIn wsL_law wsL_start := goodIn_ca (goodIn_ca (goodIn_ca (goodIn_r _ [483, 186, 79, 78, 1, 2, 81, 484, 485, 486, 9, 487, 88, 89, 86, 87, 306, 335, 307, 308, 309, 310, 24, 222, 311, 199, 200, 201, 202, 203, 488, 489, 490, 225, 491, 238, 235, 492, 493, 494, 495, 237, 496, 233, 784, 785, 786, 787, 788, 789, 790, 791, 743, 744, 745, 746, 747, 748, 749, 750, 761, 762, 763, 764, 765] (by decide +kernel) (by decide +kernel)) (goodIn_sub (fun _ h => List.mem_append_left _ (List.mem_append_left _ (List.mem_append_left _ (List.mem_append_right _ h)))) (by decide +kernel))) (goodIn_sub (fun _ h => List.mem_append_left _ (List.mem_append_left _ (List.mem_append_left _ (List.mem_append_left _ (List.mem_append_right _ h))))) (by decide +kernel))) (goodIn_sub (fun _ h => List.mem_append_right _ h) (by decide +kernel))
set_option maxRecDepth 20000 in
theorem gL_law_L_start : GoodIn wsL_law (va_wsS RL 229 yL_start wsL_start) := goodIn_app (goodIn_of _ (by decide +kernel)) ggL_law_L_start
set_option maxRecDepth 20000 in
theorem ggL_law_L_stop : GoodIn wsL_law wsL_stop := goodIn_ca (goodIn_ca (goodIn_r _ [499, 186, 79, 1, 2, 500, 501, 502, 9, 503, 88, 89, 306, 319, 307, 308, 309, 310, 24, 222, 311, 199, 200, 201, 202, 203, 504, 505, 506, 225, 507, 233, 784, 785, 786, 787, 788, 789, 790, 791, 743, 744, 745, 746, 747, 748, 749, 750, 761, 762, 763, 764, 765] (by decide +kernel) (by decide +kernel)) (goodIn_sub (fun _ h => List.mem_append_left _ (List.mem_append_left _ (List.mem_append_left _ (List.mem_append_right _ h)))) (by decide +kernel))) (goodIn_sub (fun _ h => List.mem_append_right _ h) (by decide +kernel))
set_option maxRecDepth 20000 in
theorem gL_law_L_stop : GoodIn wsL_law (va_wsS RL 231 yL_stop wsL_stop) := goodIn_app (goodIn_of _ (by decide +kernel)) ggL_law_L_stop
set_option maxRecDepth 20000 in
theorem ggL_law_L_refuel : GoodIn wsL_law wsL_refuel := goodIn_ca (goodIn_ca (goodIn_ca (goodIn_r _ [529, 186, 187, 79, 1, 2, 81, 530, 531, 532, 9, 533, 88, 89, 319, 534, 307, 308, 309, 310, 24, 222, 311, 199, 200, 201, 202, 203, 226, 227, 228, 192, 193, 784, 785, 786, 787, 788, 789, 790, 791, 743, 744, 745, 746, 747, 748, 749, 750, 761, 762, 763, 764, 765] (by decide +kernel) (by decide +kernel)) (goodIn_sub (fun _ h => List.mem_append_left _ (List.mem_append_left _ (List.mem_append_left _ (List.mem_append_right _ h)))) (by decide +kernel))) (goodIn_sub (fun _ h => List.mem_append_right _ h) (by decide +kernel))) (goodIn_sub (fun _ h => List.mem_append_left _ (List.mem_append_right _ h)) (by decide +kernel))
set_option maxRecDepth 20000 in
theorem gL_law_L_refuel : GoodIn wsL_law (va_wsS RL 251 yL_refuel wsL_refuel) := goodIn_app (goodIn_of _ (by decide +kernel)) ggL_law_L_refuel
set_option maxRecDepth 20000 in
theorem ggL_law_L_state : GoodIn wsL_law wsL_state := goodIn_ca (goodIn_r _ [301, 186, 1, 302, 303, 304, 9, 305, 306, 307, 308, 309, 310, 24, 222, 311, 199, 200, 201, 202, 203, 784, 785, 786, 787, 788, 789, 790, 791, 743, 744, 745, 746, 747, 748, 749, 750, 761, 762, 763, 764, 765] (by decide +kernel) (by decide +kernel)) (goodIn_sub (fun _ h => List.mem_append_right _ h) (by decide +kernel))
set_option maxRecDepth 20000 in
theorem gL_law_L_state : GoodIn wsL_law (va_wsS RL 271 yL_state wsL_state) := goodIn_app (goodIn_of _ (by decide +kernel)) ggL_law_L_state
set_option maxRecDepth 20000 in
theorem ggL_law_L_fuel : GoodIn wsL_law wsL_fuel := goodIn_ca (goodIn_r _ [314, 186, 1, 315, 316, 317, 9, 318, 319, 307, 308, 309, 310, 24, 222, 311, 199, 200, 201, 202, 203, 784, 785, 786, 787, 788, 789, 790, 791, 743, 744, 745, 746, 747, 748, 749, 750, 761, 762, 763, 764, 765] (by decide +kernel) (by decide +kernel)) (goodIn_sub (fun _ h => List.mem_append_right _ h) (by decide +kernel))
set_option maxRecDepth 20000 in
theorem gL_law_L_fuel : GoodIn wsL_law (va_wsS RL 273 yL_fuel wsL_fuel) := goodIn_app (goodIn_of _ (by decide +kernel)) ggL_law_L_fuel
set_option maxRecDepth 20000 in
theorem ggL_law_L_toGo : GoodIn wsL_law wsL_toGo := goodIn_ca (goodIn_ca (goodIn_r _ [330, 186, 78, 1, 2, 331, 332, 333, 9, 334, 86, 87, 306, 335, 307, 308, 309, 310, 24, 222, 311, 199, 200, 201, 202, 203, 784, 785, 786, 787, 788, 789, 790, 791, 743, 744, 745, 746, 747, 748, 749, 750, 761, 762, 763, 764, 765] (by decide +kernel) (by decide +kernel)) (goodIn_sub (fun _ h => List.mem_append_left _ (List.mem_append_left _ (List.mem_append_left _ (List.mem_append_left _ (List.mem_append_right _ h))))) (by decide +kernel))) (goodIn_sub (fun _ h => List.mem_append_right _ h) (by decide +kernel))
set_option maxRecDepth 20000 in
theorem gL_law_L_toGo : GoodIn wsL_law (va_wsS RL 277 yL_toGo wsL_toGo) := goodIn_app (goodIn_of _ (by decide +kernel)) ggL_law_L_toGo
set_option maxRecDepth 20000 in
theorem ggL_law_L_given : GoodIn wsL_law wsL_given := goodIn_ca (goodIn_r _ [322, 186, 1, 323, 324, 325, 9, 326, 327, 307, 308, 309, 310, 24, 222, 311, 199, 200, 201, 202, 203, 784, 785, 786, 787, 788, 789, 790, 791, 743, 744, 745, 746, 747, 748, 749, 750, 761, 762, 763, 764, 765] (by decide +kernel) (by decide +kernel)) (goodIn_sub (fun _ h => List.mem_append_right _ h) (by decide +kernel))
set_option maxRecDepth 20000 in
theorem gL_law_L_given : GoodIn wsL_law (va_wsS RL 275 yL_given wsL_given) := goodIn_app (goodIn_of _ (by decide +kernel)) ggL_law_L_given
set_option maxRecDepth 20000 in
theorem ggL_law_L_addStore : GoodIn wsL_law wsL_addStore := goodIn_ca (goodIn_ca (goodIn_ca (goodIn_r _ [249, 186, 187, 79, 1, 2, 81, 250, 251, 252, 9, 253, 88, 89, 28, 254, 255, 256, 257, 195, 196, 197, 198, 20, 92, 199, 200, 201, 202, 203, 226, 227, 228, 192, 193, 258, 259, 260, 261, 15, 16, 262, 263, 264, 265, 266, 267, 27, 268, 269, 63, 743, 744, 745, 746, 747, 748, 749, 750, 766, 767, 768, 792, 793, 794, 795, 796, 751, 752, 753, 754, 755, 756, 757, 758, 759, 760] (by decide +kernel) (by decide +kernel)) (goodIn_sub (fun _ h => List.mem_append_left _ (List.mem_append_left _ (List.mem_append_left _ (List.mem_append_right _ h)))) (by decide +kernel))) (goodIn_sub (fun _ h => List.mem_append_right _ h) (by decide +kernel))) (goodIn_sub (fun _ h => List.mem_append_left _ (List.mem_append_right _ h)) (by decide +kernel))
set_option maxRecDepth 20000 in
theorem gL_law_L_addStore : GoodIn wsL_law (va_wsS RL 148 yL_addStore wsL_addStore) := goodIn_app (goodIn_of _ (by decide +kernel)) ggL_law_L_addStore
set_option maxRecDepth 20000 in
theorem ggL_law_L_charge : GoodIn wsL_law wsL_charge := goodIn_ca (goodIn_r _ [338, 186, 1, 339, 340, 341, 9, 342, 343, 344, 345, 346, 347, 28, 254, 348, 199, 200, 201, 202, 203, 792, 793, 794, 795, 796, 743, 744, 745, 746, 747, 748, 749, 750, 766, 767, 768] (by decide +kernel) (by decide +kernel)) (goodIn_sub (fun _ h => List.mem_append_right _ h) (by decide +kernel))
set_option maxRecDepth 20000 in
theorem gL_law_L_charge : GoodIn wsL_law (va_wsS RL 279 yL_charge wsL_charge) := goodIn_app (goodIn_of _ (by decide +kernel)) ggL_law_L_charge
set_option maxRecDepth 20000 in
theorem ggL_law_L_flow : GoodIn wsL_law wsL_flow := goodIn_ca (goodIn_r _ [351, 186, 1, 352, 353, 354, 9, 355, 356, 344, 345, 346, 347, 28, 254, 348, 199, 200, 201, 202, 203, 792, 793, 794, 795, 796, 743, 744, 745, 746, 747, 748, 749, 750, 766, 767, 768] (by decide +kernel) (by decide +kernel)) (goodIn_sub (fun _ h => List.mem_append_right _ h) (by decide +kernel))
set_option maxRecDepth 20000 in
theorem gL_law_L_flow : GoodIn wsL_law (va_wsS RL 281 yL_flow wsL_flow) := goodIn_app (goodIn_of _ (by decide +kernel)) ggL_law_L_flow
set_option maxRecDepth 20000 in
theorem ggL_law_L_addLoad : GoodIn wsL_law wsL_addLoad := goodIn_ca (goodIn_ca (goodIn_ca (goodIn_r _ [275, 186, 187, 79, 1, 2, 81, 276, 277, 278, 9, 279, 88, 89, 32, 132, 195, 196, 197, 198, 20, 92, 199, 200, 201, 202, 203, 226, 227, 228, 192, 193, 280, 281, 282, 31, 283, 137, 70, 69, 284, 285, 286, 287, 288, 289, 15, 16, 290, 291, 292, 293, 294, 743, 744, 745, 746, 747, 748, 749, 750, 769, 770, 771, 751, 752, 753, 754, 755, 756, 757, 758, 759, 760, 778, 779, 780, 781, 782, 783] (by decide +kernel) (by decide +kernel)) (goodIn_sub (fun _ h => List.mem_append_left _ (List.mem_append_left _ (List.mem_append_left _ (List.mem_append_right _ h)))) (by decide +kernel))) (goodIn_sub (fun _ h => List.mem_append_right _ h) (by decide +kernel))) (goodIn_sub (fun _ h => List.mem_append_left _ (List.mem_append_right _ h)) (by decide +kernel))
set_option maxRecDepth 20000 in
theorem gL_law_L_addLoad : GoodIn wsL_law (va_wsS RL 151 yL_addLoad wsL_addLoad) := goodIn_app (goodIn_of _ (by decide +kernel)) ggL_law_L_addLoad
set_option maxRecDepth 20000 in
theorem ggL_law_L_setRank : GoodIn wsL_law wsL_setRank := goodIn_ca (goodIn_ca (goodIn_r _ [602, 186, 187, 1, 2, 603, 604, 605, 9, 606, 607, 365, 366, 367, 368, 32, 132, 369, 199, 200, 201, 202, 203, 226, 227, 228, 192, 193, 778, 779, 780, 781, 782, 783, 743, 744, 745, 746, 747, 748, 749, 750, 769, 770, 771] (by decide +kernel) (by decide +kernel)) (goodIn_sub (fun _ h => List.mem_append_right _ h) (by decide +kernel))) (goodIn_sub (fun _ h => List.mem_append_left _ (List.mem_append_right _ h)) (by decide +kernel))
set_option maxRecDepth 20000 in
theorem gL_law_L_setRank : GoodIn wsL_law (va_wsS RL 266 yL_setRank wsL_setRank) := goodIn_app (goodIn_of _ (by decide +kernel)) ggL_law_L_setRank
set_option maxRecDepth 20000 in
theorem ggL_law_L_isLit : GoodIn wsL_law wsL_isLit := goodIn_ca (goodIn_r _ [359, 186, 1, 360, 361, 362, 9, 363, 364, 365, 366, 367, 368, 32, 132, 369, 199, 200, 201, 202, 203, 778, 779, 780, 781, 782, 783, 743, 744, 745, 746, 747, 748, 749, 750, 769, 770, 771] (by decide +kernel) (by decide +kernel)) (goodIn_sub (fun _ h => List.mem_append_right _ h) (by decide +kernel))
set_option maxRecDepth 20000 in
theorem gL_law_L_isLit : GoodIn wsL_law (va_wsS RL 283 yL_isLit wsL_isLit) := goodIn_app (goodIn_of _ (by decide +kernel)) ggL_law_L_isLit
set_option maxRecDepth 20000 in
theorem ggL_law_L_waits : GoodIn wsL_law wsL_waits := goodIn_ca (goodIn_ca (goodIn_r _ [372, 186, 78, 1, 2, 373, 374, 375, 9, 376, 86, 87, 364, 377, 365, 366, 367, 368, 32, 132, 369, 199, 200, 201, 202, 203, 778, 779, 780, 781, 782, 783, 743, 744, 745, 746, 747, 748, 749, 750, 769, 770, 771] (by decide +kernel) (by decide +kernel)) (goodIn_sub (fun _ h => List.mem_append_left _ (List.mem_append_left _ (List.mem_append_left _ (List.mem_append_left _ (List.mem_append_right _ h))))) (by decide +kernel))) (goodIn_sub (fun _ h => List.mem_append_right _ h) (by decide +kernel))
set_option maxRecDepth 20000 in
theorem gL_law_L_waits : GoodIn wsL_law (va_wsS RL 285 yL_waits wsL_waits) := goodIn_app (goodIn_of _ (by decide +kernel)) ggL_law_L_waits
set_option maxRecDepth 20000 in
theorem ggL_law_L_setReserve : GoodIn wsL_law wsL_setReserve := goodIn_ca (goodIn_r _ [588, 187, 1, 589, 590, 591, 9, 592, 421, 226, 227, 228, 192, 193, 743, 744, 745, 746, 747, 748, 749, 750] (by decide +kernel) (by decide +kernel)) (goodIn_sub (fun _ h => List.mem_append_left _ (List.mem_append_right _ h)) (by decide +kernel))
set_option maxRecDepth 20000 in
theorem gL_law_L_setReserve : GoodIn wsL_law (va_wsS RL 262 yL_setReserve wsL_setReserve) := goodIn_app (goodIn_of _ (by decide +kernel)) ggL_law_L_setReserve
set_option maxRecDepth 20000 in
theorem ggL_law_L_setDelay : GoodIn wsL_law wsL_setDelay := goodIn_ca (goodIn_r _ [595, 187, 1, 596, 597, 598, 9, 599, 37, 226, 227, 228, 192, 193, 743, 744, 745, 746, 747, 748, 749, 750] (by decide +kernel) (by decide +kernel)) (goodIn_sub (fun _ h => List.mem_append_left _ (List.mem_append_right _ h)) (by decide +kernel))
set_option maxRecDepth 20000 in
theorem gL_law_L_setDelay : GoodIn wsL_law (va_wsS RL 264 yL_setDelay wsL_setDelay) := goodIn_app (goodIn_of _ (by decide +kernel)) ggL_law_L_setDelay
set_option maxRecDepth 20000 in
theorem ggL_law_L_bound : GoodIn wsL_law wsL_bound := goodIn_ca (goodIn_r _ [412, 186, 1, 413, 414, 415, 9, 416, 20, 395, 195, 196, 197, 198, 92, 199, 200, 201, 202, 203, 417, 418, 419, 420, 24, 28, 421, 221, 212, 108, 213, 422, 99, 100, 19, 101, 102, 423, 424, 425, 23, 426, 243, 54, 427, 428, 429, 430, 431, 57, 432, 433, 434, 435, 436, 225, 437, 236, 238, 438, 111, 112, 439, 440, 441, 27, 442, 269, 63, 443, 444, 445, 446, 64, 447, 448, 449, 450, 451, 257, 452, 264, 453, 454, 743, 744, 745, 746, 747, 748, 749, 750, 751, 752, 753, 754, 755, 756, 757, 758, 759, 760, 761, 762, 763, 764, 765, 784, 785, 786, 787, 788, 789, 790, 791, 766, 767, 768, 792, 793, 794, 795, 796] (by decide +kernel) (by decide +kernel)) (goodIn_sub (fun _ h => List.mem_append_right _ h) (by decide +kernel))
set_option maxRecDepth 20000 in
theorem gL_law_L_bound : GoodIn wsL_law (va_wsS RL 289 yL_bound wsL_bound) := goodIn_app (goodIn_of _ (by decide +kernel)) ggL_law_L_bound
set_option maxRecDepth 20000 in
theorem ggL_law_L_demand : GoodIn wsL_law wsL_demand := goodIn_ca (goodIn_r _ [390, 186, 1, 391, 392, 393, 9, 394, 32, 20, 395, 195, 196, 197, 198, 92, 199, 200, 201, 202, 203, 396, 397, 398, 31, 399, 137, 70, 138, 400, 401, 402, 403, 404, 71, 405, 406, 743, 744, 745, 746, 747, 748, 749, 750, 751, 752, 753, 754, 755, 756, 757, 758, 759, 760, 769, 770, 771, 778, 779, 780, 781, 782, 783] (by decide +kernel) (by decide +kernel)) (goodIn_sub (fun _ h => List.mem_append_right _ h) (by decide +kernel))
set_option maxRecDepth 20000 in
theorem gL_law_L_demand : GoodIn wsL_law (va_wsS RL 287 yL_demand wsL_demand) := goodIn_app (goodIn_of _ (by decide +kernel)) ggL_law_L_demand
