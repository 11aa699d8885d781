/-! ===== the law's words stand in the tables ===== -/
set_option maxRecDepth 20000 in
theorem zy_r25 : ∀ w ∈ wsL_law0_r25, w ∈ lw_tbl := fun w h => (goodIn_p wsL_law0_r25 [1359, 756, 761, 765] (by decide +kernel) (by decide +kernel) w h).1
set_option maxRecDepth 20000 in
theorem zy_r26 : ∀ w ∈ wsL_law0_r26, w ∈ lw_tbl := fun w h => (goodIn_p wsL_law0_r26 [1363, 799, 803] (by decide +kernel) (by decide +kernel) w h).1
set_option maxRecDepth 20000 in
theorem zy_r27 : ∀ w ∈ wsL_law0_r27, w ∈ lw_tbl := fun w h => (goodIn_p wsL_law0_r27 [1367, 1371, 810, 1375, 817] (by decide +kernel) (by decide +kernel) w h).1
set_option maxRecDepth 20000 in
theorem zy_r28 : ∀ w ∈ wsL_law0_r28, w ∈ lw_tbl := fun w h => (goodIn_p wsL_law0_r28 [1379, 825, 1383] (by decide +kernel) (by decide +kernel) w h).1
set_option maxRecDepth 20000 in
theorem zy_r29 : ∀ w ∈ wsL_law0_r29, w ∈ lw_tbl := fun w h => (goodIn_p wsL_law0_r29 [832, 1387, 839, 843, 848] (by decide +kernel) (by decide +kernel) w h).1
set_option maxRecDepth 20000 in
theorem zy_r30 : ∀ w ∈ wsL_law0_r30, w ∈ lw_tbl := fun w h => (goodIn_p wsL_law0_r30 [852, 856, 861, 865, 869] (by decide +kernel) (by decide +kernel) w h).1
set_option maxRecDepth 20000 in
theorem zy_r31 : ∀ w ∈ wsL_law0_r31, w ∈ lw_tbl := fun w h => (goodIn_p wsL_law0_r31 [1391, 1395, 1399, 1403, 877] (by decide +kernel) (by decide +kernel) w h).1
set_option maxRecDepth 20000 in
theorem zy_r32 : ∀ w ∈ wsL_law0_r32, w ∈ lw_tbl := fun w h => (goodIn_p wsL_law0_r32 [881, 885, 1408, 1412] (by decide +kernel) (by decide +kernel) w h).1
set_option maxRecDepth 20000 in
theorem zy_r33 : ∀ w ∈ wsL_law0_r33, w ∈ lw_tbl := fun w h => (goodIn_p wsL_law0_r33 [892, 896, 900, 904, 908, 1416] (by decide +kernel) (by decide +kernel) w h).1
set_option maxRecDepth 20000 in
theorem zy_r34 : ∀ w ∈ wsL_law0_r34, w ∈ lw_tbl := fun w h => (goodIn_p wsL_law0_r34 [1420, 1424, 915, 919, 924] (by decide +kernel) (by decide +kernel) w h).1
set_option maxRecDepth 20000 in
theorem zy_r35 : ∀ w ∈ wsL_law0_r35, w ∈ lw_tbl := fun w h => (goodIn_p wsL_law0_r35 [1428, 1432, 932, 936, 1436] (by decide +kernel) (by decide +kernel) w h).1
set_option maxRecDepth 20000 in
theorem zy_r36 : ∀ w ∈ wsL_law0_r36, w ∈ lw_tbl := fun w h => (goodIn_p wsL_law0_r36 [943, 947, 953, 957, 961] (by decide +kernel) (by decide +kernel) w h).1
