set_option maxHeartbeats 4000000 in
set_option maxRecDepth 100000 in
theorem zp_checkNumber (l : Launch) (D : va_G) (c : Nat → ClassId) (ws : va_W) (j N : Nat) (hj : j < N) (hN : N < 2 ^ 31) : ze_V l yX8_checkNumber wsX8_checkNumber 0 0 0 0 D c ws [.int (nI j), .int (nI N)] ws := by
  intro sz
  refine ze_start (cc := cX8_checkNumber) (maxL := 2) (ret := none) (own := RX8) (by decide) rfl rfl (Nat.le_of_ble_eq_true rfl) ?_
  intro p e s m_ below meth cd F ls hF hsz E0
  obtain ⟨S, hr, hlocks, hK, hW, hA, hl⟩ := E0
  have hX_ := S.1
  have hB_ := S.2.1
  have hts := S.2.2.2.2
  have hl : lv_has ls 2 [(0, .int (nI j)), (1, .int (nI N))] := hl
  refine lv_iload_n hX_ hB_ dX8_checkNumber_0 rfl (lv_at hl 0 rfl) ?_
  refine lv_if_lt (tgt := 9) hX_ hB_ dX8_checkNumber_1 (by decide) (fun c1 => ?_) (fun c1 => ?_)
  · exact absurd c1 (nI_pos (by omega))
  · refine lv_iload_n hX_ hB_ dX8_checkNumber_4 rfl (lv_at hl 0 rfl) ?_
    refine lv_iload_n hX_ hB_ dX8_checkNumber_5 rfl (lv_at hl 1 rfl) ?_
    refine lv_icmp_lt (tgt := 20) hX_ hB_ dX8_checkNumber_6 (by decide) (fun c6 => ?_) (fun c6 => ?_)
    · have c6 : j < N := (nI_ltI (a := j) (b := N) (by omega) (by omega)).mp c6
      exact ze_vret S hr hlocks hF hK hW dX8_checkNumber_20 (Nat.le_of_ble_eq_true rfl) (Nat.le_of_ble_eq_true rfl) rfl
    · have c6 : ¬ j < N := fun h9 => c6 ((nI_ltI (a := j) (b := N) (by omega) (by omega)).mpr h9)
      exact absurd hj c6
set_option maxHeartbeats 4000000 in
set_option maxRecDepth 100000 in
theorem zp_checkRange (l : Launch) (D : va_G) (c : Nat → ClassId) (ws : va_W) (x y z : Int32) (h : zf_isIn x y z) : ze_V l yX8_checkRange wsX8_checkRange 0 0 0 0 D c ws [.int x, .int y, .int z] ws := by
  intro sz
  refine ze_start (cc := cX8_checkRange) (maxL := 3) (ret := none) (own := RX8) (by decide) rfl rfl (Nat.le_of_ble_eq_true rfl) ?_
  have hx := h.1
  have hz : x ≤ z := (zf_isInI h).2
  intro p e s m_ below meth cd F ls hF hsz E0
  obtain ⟨S, hr, hlocks, hK, hW, hA, hl⟩ := E0
  have hX_ := S.1
  have hB_ := S.2.1
  have hts := S.2.2.2.2
  have hl : lv_has ls 3 [(0, .int x), (1, .int y), (2, .int z)] := hl
  refine lv_iload_n hX_ hB_ dX8_checkRange_0 rfl (lv_at hl 0 rfl) ?_
  refine lv_iload_n hX_ hB_ dX8_checkRange_1 rfl (lv_at hl 1 rfl) ?_
  refine lv_icmp_lt (tgt := 10) hX_ hB_ dX8_checkRange_2 (by decide) (fun c2 => ?_) (fun c2 => ?_)
  · exact absurd c2 hx
  · refine lv_iload_n hX_ hB_ dX8_checkRange_5 rfl (lv_at hl 0 rfl) ?_
    refine lv_iload_n hX_ hB_ dX8_checkRange_6 rfl (lv_at hl 2 rfl) ?_
    refine lv_icmp_le (tgt := 21) hX_ hB_ dX8_checkRange_7 (by decide) (fun c7 => ?_) (fun c7 => ?_)
    · exact ze_vret S hr hlocks hF hK hW dX8_checkRange_21 (Nat.le_of_ble_eq_true rfl) (Nat.le_of_ble_eq_true rfl) rfl
    · exact absurd hz c7
set_option maxHeartbeats 4000000 in
set_option maxRecDepth 100000 in
theorem zp_checkSite (l : Launch) (D : va_G) (c : Nat → ClassId) (a n : Nat → Nat) (A : Nat → Nat → Int32) (B : Nat → Int64) (E : Nat → Nat → Int32) (j : Nat) (hN : zf_N n) (hj : j < n 0) : ze_V l yX8_checkSite wsX8_checkSite 1 21 0 0 D c (ze_wC c a n A B E) [.ref (a 0), .int (nI j)] (ze_wC c a n A B E) := by
  intro sz
  refine ze_start (cc := cX8_checkSite) (maxL := 2) (ret := none) (own := RX8) (by decide) rfl rfl (Nat.le_of_ble_eq_true rfl) ?_
  obtain ⟨hn0, hn1, hn2, hn3, hn4⟩ := id hN
  intro p e s m_ below meth cd F ls hF hsz E0
  obtain ⟨S, hr, hlocks, hK, hW, hA, hl⟩ := E0
  have hX_ := S.1
  have hB_ := S.2.1
  have hts := S.2.2.2.2
  have hl : lv_has ls 2 [(0, .ref (a 0)), (1, .int (nI j))] := hl
  have hiX5 : ∀ w ∈ u_ws RX5 TX5 10, w ∈ wsX8_checkSite := fun _ h => (List.mem_cons_of_mem _ (List.mem_append_left _ (List.mem_append_right _ h)))
  have hiX8 : ∀ w ∈ u_ws RX8 TX8 8, w ∈ wsX8_checkSite := fun _ h => (List.mem_cons_of_mem _ (List.mem_append_left _ (List.mem_append_left _ (List.mem_append_right _ h))))
  have w0 := hts (.fieldLink RX8 10 "Islandgrid" "network" "LIslandgrid$Network;") (List.mem_cons_of_mem _ (List.mem_append_left _ (List.mem_append_left _ (List.mem_append_left _ (List.mem_of_getElem? (i := 0) rfl)))))
  have w1 := hts (.fieldLink RX8 50 "Islandgrid$Network" "siteCount" "I") (List.mem_cons_of_mem _ (List.mem_append_left _ (List.mem_append_left _ (List.mem_append_left _ (List.mem_of_getElem? (i := 1) rfl)))))
  refine lv_iload_n hX_ hB_ dX8_checkSite_0 rfl (lv_at hl 1 rfl) ?_
  refine lv_aload_n hX_ hB_ dX8_checkSite_1 rfl (lv_at hl 0 rfl) ?_
  refine ze_get (ci := 8) (C := RX8) (T := TX8) (N := 8) (v := .ref (a 1)) S hiX8 hK hW 0 (ze_at0 0 rfl) rfl 0 (by decide) rfl w0 dX8_checkSite_2 ?_
  refine ze_get (ci := 5) (C := RX5) (T := TX5) (N := 10) (v := .int (nI (n 0))) S hiX5 hK hW 1 (ze_at0 1 rfl) rfl 0 (by decide) rfl w1 dX8_checkSite_5 ?_
  refine ze_Sv (As := [.int (nI j), .int (nI (n 0))]) (rest := []) S (zp_checkNumber l D c (ze_wC c a n A B E) j (n 0) (by omega) (by omega)) (va_cwS 2 hts gX8_checkSite_X8_checkNumber rfl rfl rfl (by decide +kernel) ⟨Nat.le_of_ble_eq_true rfl, Nat.le_of_ble_eq_true rfl⟩) hK hW hA rfl hl.1 rfl (lv_room (Nat.le_of_ble_eq_true rfl)) dX8_checkSite_8 ⟨Nat.le_of_ble_eq_true rfl, Nat.le_of_ble_eq_true rfl⟩ (fun H locs hW => ?_)
  exact ze_vret S hr hlocks hF hK hW dX8_checkSite_11 (Nat.le_of_ble_eq_true rfl) (Nat.le_of_ble_eq_true rfl) rfl
set_option maxHeartbeats 4000000 in
set_option maxRecDepth 100000 in
theorem zp_generatorAt (l : Launch) (D : va_G) (c : Nat → ClassId) (a n : Nat → Nat) (A : Nat → Nat → Int32) (B : Nat → Int64) (E : Nat → Nat → Int32) (j : Nat) (hN : zf_N n) (hj : j < n 2) : ze_R l yX8_generatorAt wsX8_generatorAt 1 21 0 0 D c (ze_wC c a n A B E) [.ref (a 0), .int (nI j)] (a (20 + j)) (ze_wC c a n A B E) := by
  intro sz
  refine ze_start (cc := cX8_generatorAt) (maxL := 2) (ret := (some (.object "Islandgrid$Generator"))) (own := RX8) (by decide) rfl rfl (Nat.le_of_ble_eq_true rfl) ?_
  obtain ⟨hn0, hn1, hn2, hn3, hn4⟩ := id hN
  intro p e s m_ below meth cd F ls hF hsz E0
  obtain ⟨S, hr, hlocks, hK, hW, hA, hl⟩ := E0
  have hX_ := S.1
  have hB_ := S.2.1
  have hts := S.2.2.2.2
  have hl : lv_has ls 2 [(0, .ref (a 0)), (1, .int (nI j))] := hl
  have hiX0 : ∀ w ∈ u_ws RX0 TX0 5, w ∈ wsX8_generatorAt := fun _ h => (List.mem_cons_of_mem _ (List.mem_append_left _ (List.mem_append_right _ h)))
  have hiX8 : ∀ w ∈ u_ws RX8 TX8 8, w ∈ wsX8_generatorAt := fun _ h => (List.mem_cons_of_mem _ (List.mem_append_left _ (List.mem_append_left _ (List.mem_append_right _ h))))
  have w0 := hts (.fieldLink RX8 21 "Islandgrid" "fleet" "LIslandgrid$Fleet;") (List.mem_cons_of_mem _ (List.mem_append_left _ (List.mem_append_left _ (List.mem_append_left _ (List.mem_of_getElem? (i := 0) rfl)))))
  have w1 := hts (.fieldLink RX8 151 "Islandgrid$Fleet" "count" "I") (List.mem_cons_of_mem _ (List.mem_append_left _ (List.mem_append_left _ (List.mem_append_left _ (List.mem_of_getElem? (i := 1) rfl)))))
  have w2 := hts (.fieldLink RX8 200 "Islandgrid$Fleet" "all" "[LIslandgrid$Generator;") (List.mem_cons_of_mem _ (List.mem_append_left _ (List.mem_append_left _ (List.mem_append_left _ (List.mem_of_getElem? (i := 2) rfl)))))
  refine lv_iload_n hX_ hB_ dX8_generatorAt_0 rfl (lv_at hl 1 rfl) ?_
  refine lv_aload_n hX_ hB_ dX8_generatorAt_1 rfl (lv_at hl 0 rfl) ?_
  refine ze_get (ci := 8) (C := RX8) (T := TX8) (N := 8) (v := .ref (a 9)) S hiX8 hK hW 0 (ze_at0 0 rfl) rfl 1 (by decide) rfl w0 dX8_generatorAt_2 ?_
  refine ze_get (ci := 0) (C := RX0) (T := TX0) (N := 5) (v := .int (nI (n 2))) S hiX0 hK hW 9 (ze_at0 9 rfl) rfl 2 (by decide) rfl w1 dX8_generatorAt_5 ?_
  refine ze_Sv (As := [.int (nI j), .int (nI (n 2))]) (rest := []) S (zp_checkNumber l D c (ze_wC c a n A B E) j (n 2) (by omega) (by omega)) (va_cwS 2 hts gX8_generatorAt_X8_checkNumber rfl rfl rfl (by decide +kernel) ⟨Nat.le_of_ble_eq_true rfl, Nat.le_of_ble_eq_true rfl⟩) hK hW hA rfl hl.1 rfl (lv_room (Nat.le_of_ble_eq_true rfl)) dX8_generatorAt_8 ⟨Nat.le_of_ble_eq_true rfl, Nat.le_of_ble_eq_true rfl⟩ (fun H locs hW => ?_)
  refine lv_aload_n hX_ hB_ dX8_generatorAt_11 rfl (lv_at hl 0 rfl) ?_
  refine ze_get (ci := 8) (C := RX8) (T := TX8) (N := 8) (v := .ref (a 9)) S hiX8 hK hW 0 (ze_at0 0 rfl) rfl 1 (by decide) rfl w0 dX8_generatorAt_12 ?_
  refine ze_get (ci := 0) (C := RX0) (T := TX0) (N := 5) (v := .ref (a 10)) S hiX0 hK hW 9 (ze_at0 9 rfl) rfl 1 (by decide) rfl w2 dX8_generatorAt_15 ?_
  refine lv_iload_n hX_ hB_ dX8_generatorAt_18 rfl (lv_at hl 1 rfl) ?_
  refine ze_aldN hX_ hB_ hK hW 10 3 (ze_at0 10 rfl) rfl (i := j) (by omega) (by omega) (by decide) dX8_generatorAt_19 ?_
  exact ze_rret S hr hlocks hF hK hW dX8_generatorAt_20 (Nat.le_of_ble_eq_true rfl) (Nat.le_of_ble_eq_true rfl) rfl rfl
set_option maxHeartbeats 4000000 in
set_option maxRecDepth 100000 in
theorem zp_storeAt (l : Launch) (D : va_G) (c : Nat → ClassId) (a n : Nat → Nat) (A : Nat → Nat → Int32) (B : Nat → Int64) (E : Nat → Nat → Int32) (j : Nat) (hN : zf_N n) (hj : j < n 3) : ze_R l yX8_storeAt wsX8_storeAt 1 21 0 0 D c (ze_wC c a n A B E) [.ref (a 0), .int (nI j)] (a (30 + j)) (ze_wC c a n A B E) := by
  intro sz
  refine ze_start (cc := cX8_storeAt) (maxL := 2) (ret := (some (.object "Islandgrid$Store"))) (own := RX8) (by decide) rfl rfl (Nat.le_of_ble_eq_true rfl) ?_
  obtain ⟨hn0, hn1, hn2, hn3, hn4⟩ := id hN
  intro p e s m_ below meth cd F ls hF hsz E0
  obtain ⟨S, hr, hlocks, hK, hW, hA, hl⟩ := E0
  have hX_ := S.1
  have hB_ := S.2.1
  have hts := S.2.2.2.2
  have hl : lv_has ls 2 [(0, .ref (a 0)), (1, .int (nI j))] := hl
  have hiX6 : ∀ w ∈ u_ws RX6 TX6 3, w ∈ wsX8_storeAt := fun _ h => (List.mem_cons_of_mem _ (List.mem_append_left _ (List.mem_append_right _ h)))
  have hiX8 : ∀ w ∈ u_ws RX8 TX8 8, w ∈ wsX8_storeAt := fun _ h => (List.mem_cons_of_mem _ (List.mem_append_left _ (List.mem_append_left _ (List.mem_append_right _ h))))
  have w0 := hts (.fieldLink RX8 28 "Islandgrid" "storage" "LIslandgrid$Storage;") (List.mem_cons_of_mem _ (List.mem_append_left _ (List.mem_append_left _ (List.mem_append_left _ (List.mem_of_getElem? (i := 0) rfl)))))
  have w1 := hts (.fieldLink RX8 209 "Islandgrid$Storage" "count" "I") (List.mem_cons_of_mem _ (List.mem_append_left _ (List.mem_append_left _ (List.mem_append_left _ (List.mem_of_getElem? (i := 1) rfl)))))
  have w2 := hts (.fieldLink RX8 332 "Islandgrid$Storage" "all" "[LIslandgrid$Store;") (List.mem_cons_of_mem _ (List.mem_append_left _ (List.mem_append_left _ (List.mem_append_left _ (List.mem_of_getElem? (i := 2) rfl)))))
  refine lv_iload_n hX_ hB_ dX8_storeAt_0 rfl (lv_at hl 1 rfl) ?_
  refine lv_aload_n hX_ hB_ dX8_storeAt_1 rfl (lv_at hl 0 rfl) ?_
  refine ze_get (ci := 8) (C := RX8) (T := TX8) (N := 8) (v := .ref (a 13)) S hiX8 hK hW 0 (ze_at0 0 rfl) rfl 2 (by decide) rfl w0 dX8_storeAt_2 ?_
  refine ze_get (ci := 6) (C := RX6) (T := TX6) (N := 3) (v := .int (nI (n 3))) S hiX6 hK hW 13 (ze_at0 13 rfl) rfl 2 (by decide) rfl w1 dX8_storeAt_5 ?_
  refine ze_Sv (As := [.int (nI j), .int (nI (n 3))]) (rest := []) S (zp_checkNumber l D c (ze_wC c a n A B E) j (n 3) (by omega) (by omega)) (va_cwS 2 hts gX8_storeAt_X8_checkNumber rfl rfl rfl (by decide +kernel) ⟨Nat.le_of_ble_eq_true rfl, Nat.le_of_ble_eq_true rfl⟩) hK hW hA rfl hl.1 rfl (lv_room (Nat.le_of_ble_eq_true rfl)) dX8_storeAt_8 ⟨Nat.le_of_ble_eq_true rfl, Nat.le_of_ble_eq_true rfl⟩ (fun H locs hW => ?_)
  refine lv_aload_n hX_ hB_ dX8_storeAt_11 rfl (lv_at hl 0 rfl) ?_
  refine ze_get (ci := 8) (C := RX8) (T := TX8) (N := 8) (v := .ref (a 13)) S hiX8 hK hW 0 (ze_at0 0 rfl) rfl 2 (by decide) rfl w0 dX8_storeAt_12 ?_
  refine ze_get (ci := 6) (C := RX6) (T := TX6) (N := 3) (v := .ref (a 14)) S hiX6 hK hW 13 (ze_at0 13 rfl) rfl 1 (by decide) rfl w2 dX8_storeAt_15 ?_
  refine lv_iload_n hX_ hB_ dX8_storeAt_18 rfl (lv_at hl 1 rfl) ?_
  refine ze_aldN hX_ hB_ hK hW 14 4 (ze_at0 14 rfl) rfl (i := j) (by omega) (by omega) (by decide) dX8_storeAt_19 ?_
  exact ze_rret S hr hlocks hF hK hW dX8_storeAt_20 (Nat.le_of_ble_eq_true rfl) (Nat.le_of_ble_eq_true rfl) rfl rfl
set_option maxHeartbeats 4000000 in
set_option maxRecDepth 100000 in
theorem zp_loadAt (l : Launch) (D : va_G) (c : Nat → ClassId) (a n : Nat → Nat) (A : Nat → Nat → Int32) (B : Nat → Int64) (E : Nat → Nat → Int32) (j : Nat) (hN : zf_N n) (hj : j < n 4) : ze_R l yX8_loadAt wsX8_loadAt 1 21 0 0 D c (ze_wC c a n A B E) [.ref (a 0), .int (nI j)] (a (40 + j)) (ze_wC c a n A B E) := by
  intro sz
  refine ze_start (cc := cX8_loadAt) (maxL := 2) (ret := (some (.object "Islandgrid$Load"))) (own := RX8) (by decide) rfl rfl (Nat.le_of_ble_eq_true rfl) ?_
  obtain ⟨hn0, hn1, hn2, hn3, hn4⟩ := id hN
  intro p e s m_ below meth cd F ls hF hsz E0
  obtain ⟨S, hr, hlocks, hK, hW, hA, hl⟩ := E0
  have hX_ := S.1
  have hB_ := S.2.1
  have hts := S.2.2.2.2
  have hl : lv_has ls 2 [(0, .ref (a 0)), (1, .int (nI j))] := hl
  have hiX4 : ∀ w ∈ u_ws RX4 TX4 3, w ∈ wsX8_loadAt := fun _ h => (List.mem_cons_of_mem _ (List.mem_append_left _ (List.mem_append_right _ h)))
  have hiX8 : ∀ w ∈ u_ws RX8 TX8 8, w ∈ wsX8_loadAt := fun _ h => (List.mem_cons_of_mem _ (List.mem_append_left _ (List.mem_append_left _ (List.mem_append_right _ h))))
  have w0 := hts (.fieldLink RX8 35 "Islandgrid" "loads" "LIslandgrid$Loads;") (List.mem_cons_of_mem _ (List.mem_append_left _ (List.mem_append_left _ (List.mem_append_left _ (List.mem_of_getElem? (i := 0) rfl)))))
  have w1 := hts (.fieldLink RX8 226 "Islandgrid$Loads" "count" "I") (List.mem_cons_of_mem _ (List.mem_append_left _ (List.mem_append_left _ (List.mem_append_left _ (List.mem_of_getElem? (i := 1) rfl)))))
  have w2 := hts (.fieldLink RX8 335 "Islandgrid$Loads" "all" "[LIslandgrid$Load;") (List.mem_cons_of_mem _ (List.mem_append_left _ (List.mem_append_left _ (List.mem_append_left _ (List.mem_of_getElem? (i := 2) rfl)))))
  refine lv_iload_n hX_ hB_ dX8_loadAt_0 rfl (lv_at hl 1 rfl) ?_
  refine lv_aload_n hX_ hB_ dX8_loadAt_1 rfl (lv_at hl 0 rfl) ?_
  refine ze_get (ci := 8) (C := RX8) (T := TX8) (N := 8) (v := .ref (a 15)) S hiX8 hK hW 0 (ze_at0 0 rfl) rfl 3 (by decide) rfl w0 dX8_loadAt_2 ?_
  refine ze_get (ci := 4) (C := RX4) (T := TX4) (N := 3) (v := .int (nI (n 4))) S hiX4 hK hW 15 (ze_at0 15 rfl) rfl 2 (by decide) rfl w1 dX8_loadAt_5 ?_
  refine ze_Sv (As := [.int (nI j), .int (nI (n 4))]) (rest := []) S (zp_checkNumber l D c (ze_wC c a n A B E) j (n 4) (by omega) (by omega)) (va_cwS 2 hts gX8_loadAt_X8_checkNumber rfl rfl rfl (by decide +kernel) ⟨Nat.le_of_ble_eq_true rfl, Nat.le_of_ble_eq_true rfl⟩) hK hW hA rfl hl.1 rfl (lv_room (Nat.le_of_ble_eq_true rfl)) dX8_loadAt_8 ⟨Nat.le_of_ble_eq_true rfl, Nat.le_of_ble_eq_true rfl⟩ (fun H locs hW => ?_)
  refine lv_aload_n hX_ hB_ dX8_loadAt_11 rfl (lv_at hl 0 rfl) ?_
  refine ze_get (ci := 8) (C := RX8) (T := TX8) (N := 8) (v := .ref (a 15)) S hiX8 hK hW 0 (ze_at0 0 rfl) rfl 3 (by decide) rfl w0 dX8_loadAt_12 ?_
  refine ze_get (ci := 4) (C := RX4) (T := TX4) (N := 3) (v := .ref (a 16)) S hiX4 hK hW 15 (ze_at0 15 rfl) rfl 1 (by decide) rfl w2 dX8_loadAt_15 ?_
  refine lv_iload_n hX_ hB_ dX8_loadAt_18 rfl (lv_at hl 1 rfl) ?_
  refine ze_aldN hX_ hB_ hK hW 16 5 (ze_at0 16 rfl) rfl (i := j) (by omega) (by omega) (by decide) dX8_loadAt_19 ?_
  exact ze_rret S hr hlocks hF hK hW dX8_loadAt_20 (Nat.le_of_ble_eq_true rfl) (Nat.le_of_ble_eq_true rfl) rfl rfl
set_option maxHeartbeats 4000000 in
set_option maxRecDepth 100000 in
theorem zp_boundOf (l : Launch) (D : va_G) (c : Nat → ClassId) (a n : Nat → Nat) (A : Nat → Nat → Int32) (B : Nat → Int64) (E : Nat → Nat → Int32) (m : Int32) (hN : zf_N n) (hS : zf_S n A) : ze_I l yX8_boundOf wsX8_boundOf 3 56 0 0 D c (ze_wC c a n A B E) [.ref (a 0), .int m] (zf_bOf n A (E 0) m) (ze_wC c a n A B E) := by
  intro sz
  refine ze_start (cc := cX8_boundOf) (maxL := 2) (ret := (some .int)) (own := RX8) (by decide) rfl rfl (Nat.le_of_ble_eq_true rfl) ?_
  obtain ⟨hn0, hn1, hn2, hn3, hn4⟩ := id hN
  intro p e s m_ below meth cd F ls hF hsz E0
  obtain ⟨S, hr, hlocks, hK, hW, hA, hl⟩ := E0
  have hX_ := S.1
  have hB_ := S.2.1
  have hts := S.2.2.2.2
  have hl : lv_has ls 2 [(0, .ref (a 0)), (1, .int m)] := hl
  have hiX8 : ∀ w ∈ u_ws RX8 TX8 8, w ∈ wsX8_boundOf := fun _ h => (List.mem_cons_of_mem _ (List.mem_append_left _ (List.mem_append_left _ (List.mem_append_left _ (List.mem_append_left _ (List.mem_append_left _ (List.mem_append_right _ h)))))))
  have w0 := hts (.fieldLink RX8 10 "Islandgrid" "network" "LIslandgrid$Network;") (List.mem_cons_of_mem _ (List.mem_append_left _ (List.mem_append_left _ (List.mem_append_left _ (List.mem_append_left _ (List.mem_append_left _ (List.mem_append_left _ (List.mem_append_left _ (List.mem_of_getElem? (i := 0) rfl)))))))))
  have w1 := hts (.fieldLink RX8 21 "Islandgrid" "fleet" "LIslandgrid$Fleet;") (List.mem_cons_of_mem _ (List.mem_append_left _ (List.mem_append_left _ (List.mem_append_left _ (List.mem_append_left _ (List.mem_append_left _ (List.mem_append_left _ (List.mem_append_left _ (List.mem_of_getElem? (i := 1) rfl)))))))))
  have w2 := hts (.fieldLink RX8 28 "Islandgrid" "storage" "LIslandgrid$Storage;") (List.mem_cons_of_mem _ (List.mem_append_left _ (List.mem_append_left _ (List.mem_append_left _ (List.mem_append_left _ (List.mem_append_left _ (List.mem_append_left _ (List.mem_append_left _ (List.mem_of_getElem? (i := 2) rfl)))))))))
  have w3 := hts (.fieldLink RX8 249 "Islandgrid" "reserve" "I") (List.mem_cons_of_mem _ (List.mem_append_left _ (List.mem_append_left _ (List.mem_append_left _ (List.mem_append_left _ (List.mem_append_left _ (List.mem_append_left _ (List.mem_append_left _ (List.mem_of_getElem? (i := 3) rfl)))))))))
  have w4 := hts (.methodLink RX8 146 Lib.Math.max.name) (List.mem_cons_of_mem _ (List.mem_append_left _ (List.mem_append_left _ (List.mem_append_left _ (List.mem_append_left _ (List.mem_append_left _ (List.mem_append_left _ (List.mem_append_left _ (List.mem_of_getElem? (i := 4) rfl)))))))))
  have w5 := hts (.static Lib.Math.max.name) (List.mem_cons_of_mem _ (List.mem_append_left _ (List.mem_append_left _ (List.mem_append_left _ (List.mem_append_left _ (List.mem_append_left _ (List.mem_append_left _ (List.mem_append_left _ (List.mem_of_getElem? (i := 5) rfl)))))))))
  have w6 := hts (.initialized "java/lang/Math") (List.mem_cons_of_mem _ (List.mem_append_left _ (List.mem_append_left _ (List.mem_append_left _ (List.mem_append_left _ (List.mem_append_left _ (List.mem_append_left _ (List.mem_append_left _ (List.mem_of_getElem? (i := 6) rfl)))))))))
  have w7 := hts (.code Lib.Math.max.name Lib.Math.max.code 2 (some .int)) (List.mem_cons_of_mem _ (List.mem_append_left _ (List.mem_append_left _ (List.mem_append_left _ (List.mem_append_left _ (List.mem_append_left _ (List.mem_append_left _ (List.mem_append_left _ (List.mem_of_getElem? (i := 7) rfl)))))))))
  refine lv_aload_n hX_ hB_ dX8_boundOf_0 rfl (lv_at hl 0 rfl) ?_
  refine ze_get (ci := 8) (C := RX8) (T := TX8) (N := 8) (v := .ref (a 1)) S hiX8 hK hW 0 (ze_at0 0 rfl) rfl 0 (by decide) rfl w0 dX8_boundOf_1 ?_
  refine lv_iload_n hX_ hB_ dX8_boundOf_4 rfl (lv_at hl 1 rfl) ?_
  refine ze_Vi (As := [.int m]) (rest := []) (ci := 5) (q0 := 1) (k := (RX5, TX5, 10)) S (zc_5_isTied l D c a n A B E m) (cwV 1 hts gX8_boundOf_X5_isTied rfl rfl rfl (by decide +kernel) ⟨Nat.le_of_ble_eq_true rfl, Nat.le_of_ble_eq_true rfl⟩) hK hW hA rfl (ze_at0 1 rfl) rfl hl.1 rfl (lv_room (Nat.le_of_ble_eq_true rfl)) dX8_boundOf_5 ⟨Nat.le_of_ble_eq_true rfl, Nat.le_of_ble_eq_true rfl⟩ (fun H locs hW => ?_)
  refine lv_if_eq (tgt := 13) hX_ hB_ dX8_boundOf_8 (by decide) (fun c8 => ?_) (fun c8 => ?_)
  · have c8 : ¬ (zf_tied A m) := ze_bf c8
    refine lv_iconst (v := 0) hX_ hB_ dX8_boundOf_13 (by decide) ?_
    refine lv_aload_n hX_ hB_ dX8_boundOf_14 rfl (lv_at hl 0 rfl) ?_
    refine ze_get (ci := 8) (C := RX8) (T := TX8) (N := 8) (v := .ref (a 9)) S hiX8 hK hW 0 (ze_at0 0 rfl) rfl 1 (by decide) rfl w1 dX8_boundOf_15 ?_
    refine lv_iload_n hX_ hB_ dX8_boundOf_18 rfl (lv_at hl 1 rfl) ?_
    refine ze_Vi (As := [.int m]) (rest := [.int 0]) (ci := 0) (q0 := 9) (k := (RX0, TX0, 5)) S (zc_0_sumOfSupply l D c a n A B E m hN hS) (cwV 1 hts gX8_boundOf_X0_sumOfSupply rfl rfl rfl (by decide +kernel) ⟨Nat.le_of_ble_eq_true rfl, Nat.le_of_ble_eq_true rfl⟩) hK hW hA rfl (ze_at0 9 rfl) rfl hl.1 rfl (lv_room (Nat.le_of_ble_eq_true rfl)) dX8_boundOf_19 ⟨Nat.le_of_ble_eq_true rfl, Nat.le_of_ble_eq_true rfl⟩ (fun H locs hW => ?_)
    refine lv_aload_n hX_ hB_ dX8_boundOf_22 rfl (lv_at hl 0 rfl) ?_
    refine ze_get (ci := 8) (C := RX8) (T := TX8) (N := 8) (v := .ref (a 13)) S hiX8 hK hW 0 (ze_at0 0 rfl) rfl 2 (by decide) rfl w2 dX8_boundOf_23 ?_
    refine lv_iload_n hX_ hB_ dX8_boundOf_26 rfl (lv_at hl 1 rfl) ?_
    refine ze_Vi (As := [.int m]) (rest := [.int (zf_supG A (E 0) m 0 (n 2)), .int 0]) (ci := 6) (q0 := 13) (k := (RX6, TX6, 3)) S (zc_6_sumOfSupply l D c a n A B E m hN hS) (cwV 1 hts gX8_boundOf_X6_sumOfSupply rfl rfl rfl (by decide +kernel) ⟨Nat.le_of_ble_eq_true rfl, Nat.le_of_ble_eq_true rfl⟩) hK hW hA rfl (ze_at0 13 rfl) rfl hl.1 rfl (lv_room (Nat.le_of_ble_eq_true rfl)) dX8_boundOf_27 ⟨Nat.le_of_ble_eq_true rfl, Nat.le_of_ble_eq_true rfl⟩ (fun H locs hW => ?_)
    refine lv_iadd hX_ hB_ dX8_boundOf_30 ?_
    refine lv_aload_n hX_ hB_ dX8_boundOf_31 rfl (lv_at hl 0 rfl) ?_
    refine ze_get (ci := 8) (C := RX8) (T := TX8) (N := 8) (v := .int (A 28 0)) S hiX8 hK hW 0 (ze_at0 0 rfl) rfl 5 (by decide) rfl w3 dX8_boundOf_32 ?_
    refine lv_isub hX_ hB_ dX8_boundOf_35 ?_
    refine ze_max S hl.1 w4 w5 w6 w7 ⟨Nat.le_of_ble_eq_true rfl, Nat.le_of_ble_eq_true rfl, Nat.le_of_ble_eq_true rfl, Nat.le_of_ble_eq_true rfl⟩ dX8_boundOf_36 ?_
    exact ze_iret S hr hlocks hF hK hW rfl dX8_boundOf_39 (Nat.le_of_ble_eq_true rfl) (Nat.le_of_ble_eq_true rfl) (by simp only [ze_b, zf_bOf, eq_false c8, not_true_eq_false, not_false_eq_true, and_true, true_and, and_false, false_and, or_true, true_or, or_false, false_or, and_self, or_self, Decidable.not_not, if_true, if_false, reduceIte, reduceCtorEq, ne_eq, eq_self, Int32.lt_irrefl, Int32.le_refl, Nat.lt_irrefl]) rfl
  · have c8 : zf_tied A m := ze_bt c8
    refine lv_iconst (v := (-1)) hX_ hB_ dX8_boundOf_11 (by decide) ?_
    exact ze_iret S hr hlocks hF hK hW rfl dX8_boundOf_12 (Nat.le_of_ble_eq_true rfl) (Nat.le_of_ble_eq_true rfl) (by simp only [ze_b, zf_bOf, eq_true c8, not_true_eq_false, not_false_eq_true, and_true, true_and, and_false, false_and, or_true, true_or, or_false, false_or, and_self, or_self, Decidable.not_not, if_true, if_false, reduceIte, reduceCtorEq, ne_eq, eq_self, Int32.lt_irrefl, Int32.le_refl, Nat.lt_irrefl]) rfl
set_option maxHeartbeats 4000000 in
set_option maxRecDepth 100000 in
theorem zp_balance (l : Launch) (D : va_G) (c : Nat → ClassId) (a n : Nat → Nat) (A : Nat → Nat → Int32) (B : Nat → Int64) (E : Nat → Nat → Int32) (m : Int32) (hN : zf_N n) (hS : zf_S n A) : ze_V l yX8_balance wsX8_balance 5 100 0 0 D c (ze_wC c a n A B E) [.ref (a 0), .int m] (ze_wC c a n (zf_cbA n A (E 0) (E 3) m) (zf_cbB n A B (E 0) (E 3) m) (zf_cbE n A E m)) := by
  intro sz
  refine ze_start (cc := cX8_balance) (maxL := 5) (ret := none) (own := RX8) (by decide) rfl rfl (Nat.le_of_ble_eq_true rfl) ?_
  obtain ⟨hn0, hn1, hn2, hn3, hn4⟩ := id hN
  intro p e s m_ below meth cd F ls hF hsz E0
  obtain ⟨S, hr, hlocks, hK, hW, hA, hl⟩ := E0
  have hX_ := S.1
  have hB_ := S.2.1
  have hts := S.2.2.2.2
  have hl : lv_has ls 5 [(0, .ref (a 0)), (1, .int m)] := hl
  have hiX2 : ∀ w ∈ u_ws RX2 TX2 6, w ∈ wsX8_balance := fun _ h => (List.mem_cons_of_mem _ (List.mem_append_left _ (List.mem_append_left _ (List.mem_append_left _ (List.mem_append_left _ (List.mem_append_left _ (List.mem_append_left _ (List.mem_append_left _ (List.mem_append_right _ h)))))))))
  have hiX8 : ∀ w ∈ u_ws RX8 TX8 8, w ∈ wsX8_balance := fun _ h => (List.mem_cons_of_mem _ (List.mem_append_left _ (List.mem_append_left _ (List.mem_append_left _ (List.mem_append_left _ (List.mem_append_left _ (List.mem_append_left _ (List.mem_append_left _ (List.mem_append_left _ (List.mem_append_right _ h))))))))))
  have w0 := hts (.fieldLink RX8 35 "Islandgrid" "loads" "LIslandgrid$Loads;") (List.mem_cons_of_mem _ (List.mem_append_left _ (List.mem_append_left _ (List.mem_append_left _ (List.mem_append_left _ (List.mem_append_left _ (List.mem_append_left _ (List.mem_append_left _ (List.mem_append_left _ (List.mem_append_left _ (List.mem_append_left _ (List.mem_of_getElem? (i := 0) rfl))))))))))))
  have w1 := hts (.fieldLink RX8 46 "Islandgrid" "delay" "I") (List.mem_cons_of_mem _ (List.mem_append_left _ (List.mem_append_left _ (List.mem_append_left _ (List.mem_append_left _ (List.mem_append_left _ (List.mem_append_left _ (List.mem_append_left _ (List.mem_append_left _ (List.mem_append_left _ (List.mem_append_left _ (List.mem_of_getElem? (i := 1) rfl))))))))))))
  have w2 := hts (.fieldLink RX8 21 "Islandgrid" "fleet" "LIslandgrid$Fleet;") (List.mem_cons_of_mem _ (List.mem_append_left _ (List.mem_append_left _ (List.mem_append_left _ (List.mem_append_left _ (List.mem_append_left _ (List.mem_append_left _ (List.mem_append_left _ (List.mem_append_left _ (List.mem_append_left _ (List.mem_append_left _ (List.mem_of_getElem? (i := 2) rfl))))))))))))
  have w3 := hts (.fieldLink RX8 42 "Islandgrid" "ledger" "LIslandgrid$Ledger;") (List.mem_cons_of_mem _ (List.mem_append_left _ (List.mem_append_left _ (List.mem_append_left _ (List.mem_append_left _ (List.mem_append_left _ (List.mem_append_left _ (List.mem_append_left _ (List.mem_append_left _ (List.mem_append_left _ (List.mem_append_left _ (List.mem_of_getElem? (i := 3) rfl))))))))))))
  have w4 := hts (.fieldLink RX8 308 "Islandgrid$Ledger" "servedSum" "J") (List.mem_cons_of_mem _ (List.mem_append_left _ (List.mem_append_left _ (List.mem_append_left _ (List.mem_append_left _ (List.mem_append_left _ (List.mem_append_left _ (List.mem_append_left _ (List.mem_append_left _ (List.mem_append_left _ (List.mem_append_left _ (List.mem_of_getElem? (i := 4) rfl))))))))))))
  have w5 := hts (.fieldLink RX8 304 "Islandgrid$Ledger" "burntSum" "J") (List.mem_cons_of_mem _ (List.mem_append_left _ (List.mem_append_left _ (List.mem_append_left _ (List.mem_append_left _ (List.mem_append_left _ (List.mem_append_left _ (List.mem_append_left _ (List.mem_append_left _ (List.mem_append_left _ (List.mem_append_left _ (List.mem_of_getElem? (i := 5) rfl))))))))))))
  have w6 := hts (.fieldLink RX8 28 "Islandgrid" "storage" "LIslandgrid$Storage;") (List.mem_cons_of_mem _ (List.mem_append_left _ (List.mem_append_left _ (List.mem_append_left _ (List.mem_append_left _ (List.mem_append_left _ (List.mem_append_left _ (List.mem_append_left _ (List.mem_append_left _ (List.mem_append_left _ (List.mem_append_left _ (List.mem_of_getElem? (i := 6) rfl))))))))))))
  have w7 := hts (.fieldLink RX8 10 "Islandgrid" "network" "LIslandgrid$Network;") (List.mem_cons_of_mem _ (List.mem_append_left _ (List.mem_append_left _ (List.mem_append_left _ (List.mem_append_left _ (List.mem_append_left _ (List.mem_append_left _ (List.mem_append_left _ (List.mem_append_left _ (List.mem_append_left _ (List.mem_append_left _ (List.mem_of_getElem? (i := 7) rfl))))))))))))
  have w8 := hts (.fieldLink RX8 311 "Islandgrid$Ledger" "lostSum" "J") (List.mem_cons_of_mem _ (List.mem_append_left _ (List.mem_append_left _ (List.mem_append_left _ (List.mem_append_left _ (List.mem_append_left _ (List.mem_append_left _ (List.mem_append_left _ (List.mem_append_left _ (List.mem_append_left _ (List.mem_append_left _ (List.mem_of_getElem? (i := 8) rfl))))))))))))
  refine lv_aload_n hX_ hB_ dX8_balance_0 rfl (lv_at hl 0 rfl) ?_
  refine ze_get (ci := 8) (C := RX8) (T := TX8) (N := 8) (v := .ref (a 15)) S hiX8 hK hW 0 (ze_at0 0 rfl) rfl 3 (by decide) rfl w0 dX8_balance_1 ?_
  refine lv_iload_n hX_ hB_ dX8_balance_4 rfl (lv_at hl 1 rfl) ?_
  refine lv_aload_n hX_ hB_ dX8_balance_5 rfl (lv_at hl 0 rfl) ?_
  refine lv_iload_n hX_ hB_ dX8_balance_6 rfl (lv_at hl 1 rfl) ?_
  refine ze_Vi (As := [.int m]) (rest := [.int m, .ref (a 15)]) (ci := 8) (q0 := 0) (k := (RX8, TX8, 8)) S (zp_boundOf l D c a n A B E m hN hS) (cwV 1 hts gX8_balance_X8_boundOf rfl rfl rfl (by decide +kernel) ⟨Nat.le_of_ble_eq_true rfl, Nat.le_of_ble_eq_true rfl⟩) hK hW hA rfl (ze_at0 0 rfl) rfl hl.1 rfl (lv_room (Nat.le_of_ble_eq_true rfl)) dX8_balance_7 ⟨Nat.le_of_ble_eq_true rfl, Nat.le_of_ble_eq_true rfl⟩ (fun H locs hW => ?_)
  refine lv_aload_n hX_ hB_ dX8_balance_10 rfl (lv_at hl 0 rfl) ?_
  refine ze_get (ci := 8) (C := RX8) (T := TX8) (N := 8) (v := .int (A 29 0)) S hiX8 hK hW 0 (ze_at0 0 rfl) rfl 6 (by decide) rfl w1 dX8_balance_11 ?_
  refine ze_Vv (As := [.int m, .int (zf_bOf n A (E 0) m), .int (A 29 0)]) (rest := []) (ci := 4) (q0 := 15) (k := (RX4, TX4, 3)) S (zc_4_shed l D c a n A B E m (zf_bOf n A (E 0) m) (A 29 0) hN hS) (cwV 3 hts gX8_balance_X4_shed rfl rfl rfl (by decide +kernel) ⟨Nat.le_of_ble_eq_true rfl, Nat.le_of_ble_eq_true rfl⟩) hK hW hA rfl (ze_at0 15 rfl) rfl hl.1 rfl (lv_room (Nat.le_of_ble_eq_true rfl)) dX8_balance_14 ⟨Nat.le_of_ble_eq_true rfl, Nat.le_of_ble_eq_true rfl⟩ (fun H locs hW => ?_)
  have hW : ze_W D (ze_wC c a n (ze_sA (ze_sA A 5 (ze_up (zf_shC n A (E 0) m (zf_bOf n A (E 0) m)) (A 5) (n 4))) 22 (ze_up (zf_shW n A (E 0) m (zf_bOf n A (E 0) m) (A 29 0)) (A 22) (n 4))) B E) F s.heap _ _ := hW
  have hS1 : zf_S n (zf_cA1 n A (E 0) m) := hS
  have hW : ze_W D (ze_wC c a n (zf_cA1 n A (E 0) m) B E) F s.heap _ _ := hW
  generalize eA1 : zf_cA1 n A (E 0) m = A1 at hW hS1
  refine lv_aload_n hX_ hB_ dX8_balance_17 rfl (lv_at hl 0 rfl) ?_
  refine ze_get (ci := 8) (C := RX8) (T := TX8) (N := 8) (v := .ref (a 15)) S hiX8 hK hW 0 (ze_at0 0 rfl) rfl 3 (by decide) rfl w0 dX8_balance_18 ?_
  refine lv_iload_n hX_ hB_ dX8_balance_21 rfl (lv_at hl 1 rfl) ?_
  refine ze_Vi (As := [.int m]) (rest := []) (ci := 4) (q0 := 15) (k := (RX4, TX4, 3)) S (zc_4_sumOfLit l D c a n A1 B E m hN hS1) (cwV 1 hts gX8_balance_X4_sumOfLit rfl rfl rfl (by decide +kernel) ⟨Nat.le_of_ble_eq_true rfl, Nat.le_of_ble_eq_true rfl⟩) hK hW hA rfl (ze_at0 15 rfl) rfl hl.1 rfl (lv_room (Nat.le_of_ble_eq_true rfl)) dX8_balance_22 ⟨Nat.le_of_ble_eq_true rfl, Nat.le_of_ble_eq_true rfl⟩ (fun H locs hW => ?_)
  refine ze_top (rfl : _ = (zf_dm n A1 (E 0) m)) ?_
  refine lv_istore_n (lv' := [(2, .int (zf_dm n A1 (E 0) m)), (0, .ref (a 0)), (1, .int m)]) hX_ hB_ dX8_balance_25 rfl hl (by decide) rfl (fun ls hl => ?_)
  refine lv_aload_n hX_ hB_ dX8_balance_26 rfl (lv_at hl 1 rfl) ?_
  refine ze_get (ci := 8) (C := RX8) (T := TX8) (N := 8) (v := .ref (a 9)) S hiX8 hK hW 0 (ze_at0 0 rfl) rfl 1 (by decide) rfl w2 dX8_balance_27 ?_
  refine lv_iload_n hX_ hB_ dX8_balance_30 rfl (lv_at hl 2 rfl) ?_
  refine lv_iload_n hX_ hB_ dX8_balance_31 rfl (lv_at hl 0 rfl) ?_
  refine ze_Vi (As := [.int m, .int (zf_dm n A1 (E 0) m)]) (rest := []) (ci := 0) (q0 := 9) (k := (RX0, TX0, 5)) S (zc_0_giveFor l D c a n A1 B E m (zf_dm n A1 (E 0) m) hN hS1) (cwV 2 hts gX8_balance_X0_giveFor rfl rfl rfl (by decide +kernel) ⟨Nat.le_of_ble_eq_true rfl, Nat.le_of_ble_eq_true rfl⟩) hK hW hA rfl (ze_at0 9 rfl) rfl hl.1 rfl (lv_room (Nat.le_of_ble_eq_true rfl)) dX8_balance_32 ⟨Nat.le_of_ble_eq_true rfl, Nat.le_of_ble_eq_true rfl⟩ (fun H locs hW => ?_)
  have hW : ze_W D (ze_wC c a n (ze_sA (ze_sA A1 12 (ze_up (zf_gvC A1 (ze_up (zf_stp A1 (E 0) m) (E 3) (n 2)) (n 2) (E 0) m ((zf_dm n A1 (E 0) m) - zf_gs A1 (E 0) m (n 2))) (A1 12) (n 2))) 10 (ze_up (zf_gfC A1 (ze_up (zf_stp A1 (E 0) m) (E 3) (n 2)) (n 2) (E 0) m ((zf_dm n A1 (E 0) m) - zf_gs A1 (E 0) m (n 2))) (A1 10) (n 2))) B (ze_sA E 3 (ze_up (zf_stp A1 (E 0) m) (E 3) (n 2)))) F s.heap _ _ := hW
  refine ze_top (rfl : _ = (zf_cg n A1 (E 0) (E 3) m (zf_dm n A1 (E 0) m))) ?_
  have hW : ze_W D (ze_wC c a n (zf_cA2 n A1 (E 0) (E 3) m (zf_dm n A1 (E 0) m)) B (ze_sA E 3 (zf_cs n A1 (E 0) (E 3) m))) F s.heap _ _ := hW
  have hS2 : zf_S n (zf_cA2 n A1 (E 0) (E 3) m (zf_dm n A1 (E 0) m)) := hS1
  generalize eA2 : zf_cA2 n A1 (E 0) (E 3) m (zf_dm n A1 (E 0) m) = A2 at hW hS2
  refine lv_istore_n (lv' := [(3, .int (zf_cg n A1 (E 0) (E 3) m (zf_dm n A1 (E 0) m))), (2, .int (zf_dm n A1 (E 0) m)), (0, .ref (a 0)), (1, .int m)]) hX_ hB_ dX8_balance_35 rfl hl (by decide) rfl (fun ls hl => ?_)
  refine lv_aload_n hX_ hB_ dX8_balance_36 rfl (lv_at hl 2 rfl) ?_
  refine ze_get (ci := 8) (C := RX8) (T := TX8) (N := 8) (v := .ref (a 17)) S hiX8 hK hW 0 (ze_at0 0 rfl) rfl 4 (by decide) rfl w3 dX8_balance_37 ?_
  refine lv_dup hX_ hB_ dX8_balance_40 rfl ?_
  refine ze_get (ci := 2) (C := RX2) (T := TX2) (N := 6) (v := .long (B 34)) S hiX2 hK hW 17 (ze_at0 17 rfl) rfl 2 (by decide) rfl w4 dX8_balance_41 ?_
  refine lv_iload_n hX_ hB_ dX8_balance_44 rfl (lv_at hl 1 rfl) ?_
  refine lv_i2l (v := (zf_dm n A1 (E 0) m).toInt64) hX_ hB_ dX8_balance_45 rfl ?_
  refine lv_ladd hX_ hB_ dX8_balance_46 ?_
  refine ze_put (ci := 2) (C := RX2) (T := TX2) (N := 6) (v := .long (B 34 + (zf_dm n A1 (E 0) m).toInt64)) S hiX2 tyX2 tyX2_ok nmX2 hK hW 17 (ze_at0 17 rfl) rfl 2 (by decide) (Nat.le_of_ble_eq_true rfl) rfl rfl rfl w4 dX8_balance_47 (ze_pC17_2 (B 34 + (zf_dm n A1 (E 0) m).toInt64) _ _ _ _ _ _) (fun H locs hW => ?_)
  have hW : ze_W D (ze_wC c a n A2 (ze_sB B 34 (B 34 + (zf_dm n A1 (E 0) m).toInt64)) (ze_sA E 3 (zf_cs n A1 (E 0) (E 3) m))) F s.heap _ _ := hW
  refine lv_aload_n hX_ hB_ dX8_balance_50 rfl (lv_at hl 2 rfl) ?_
  refine ze_get (ci := 8) (C := RX8) (T := TX8) (N := 8) (v := .ref (a 17)) S hiX8 hK hW 0 (ze_at0 0 rfl) rfl 4 (by decide) rfl w3 dX8_balance_51 ?_
  refine lv_dup hX_ hB_ dX8_balance_54 rfl ?_
  refine ze_get (ci := 2) (C := RX2) (T := TX2) (N := 6) (v := .long (B 33)) S hiX2 hK hW 17 (ze_at0 17 rfl) rfl 1 (by decide) rfl w5 dX8_balance_55 ?_
  refine lv_iload_n hX_ hB_ dX8_balance_58 rfl (lv_at hl 0 rfl) ?_
  refine lv_i2l (v := (zf_cg n A1 (E 0) (E 3) m (zf_dm n A1 (E 0) m)).toInt64) hX_ hB_ dX8_balance_59 rfl ?_
  refine lv_ladd hX_ hB_ dX8_balance_60 ?_
  refine ze_put (ci := 2) (C := RX2) (T := TX2) (N := 6) (v := .long (B 33 + (zf_cg n A1 (E 0) (E 3) m (zf_dm n A1 (E 0) m)).toInt64)) S hiX2 tyX2 tyX2_ok nmX2 hK hW 17 (ze_at0 17 rfl) rfl 1 (by decide) (Nat.le_of_ble_eq_true rfl) rfl rfl rfl w5 dX8_balance_61 (ze_pC17_1 (B 33 + (zf_cg n A1 (E 0) (E 3) m (zf_dm n A1 (E 0) m)).toInt64) _ _ _ _ _ _) (fun H locs hW => ?_)
  have hW : ze_W D (ze_wC c a n A2 (ze_sB (ze_sB B 34 (B 34 + (zf_dm n A1 (E 0) m).toInt64)) 33 (B 33 + (zf_cg n A1 (E 0) (E 3) m (zf_dm n A1 (E 0) m)).toInt64)) (ze_sA E 3 (zf_cs n A1 (E 0) (E 3) m))) F s.heap _ _ := hW
  refine lv_iload_n hX_ hB_ dX8_balance_64 rfl (lv_at hl 0 rfl) ?_
  refine lv_iload_n hX_ hB_ dX8_balance_65 rfl (lv_at hl 1 rfl) ?_
  refine lv_icmp_ge (tgt := 90) hX_ hB_ dX8_balance_66 (by decide) (fun c66 => ?_) (fun c66 => ?_)
  · refine lv_aload_n hX_ hB_ dX8_balance_90 rfl (lv_at hl 2 rfl) ?_
    refine ze_get (ci := 8) (C := RX8) (T := TX8) (N := 8) (v := .ref (a 13)) S hiX8 hK hW 0 (ze_at0 0 rfl) rfl 2 (by decide) rfl w6 dX8_balance_91 ?_
    refine lv_iload_n hX_ hB_ dX8_balance_94 rfl (lv_at hl 3 rfl) ?_
    refine lv_iload_n hX_ hB_ dX8_balance_95 rfl (lv_at hl 0 rfl) ?_
    refine lv_iload_n hX_ hB_ dX8_balance_96 rfl (lv_at hl 1 rfl) ?_
    refine lv_isub hX_ hB_ dX8_balance_97 ?_
    refine ze_Vi (As := [.int m, .int ((zf_cg n A1 (E 0) (E 3) m (zf_dm n A1 (E 0) m)) - (zf_dm n A1 (E 0) m))]) (rest := []) (ci := 6) (q0 := 13) (k := (RX6, TX6, 3)) S (zc_6_chargeUpTo l D c a n A2 (ze_sB (ze_sB B 34 (B 34 + (zf_dm n A1 (E 0) m).toInt64)) 33 (B 33 + (zf_cg n A1 (E 0) (E 3) m (zf_dm n A1 (E 0) m)).toInt64)) (ze_sA E 3 (zf_cs n A1 (E 0) (E 3) m)) m ((zf_cg n A1 (E 0) (E 3) m (zf_dm n A1 (E 0) m)) - (zf_dm n A1 (E 0) m)) hN hS2) (cwV 2 hts gX8_balance_X6_chargeUpTo rfl rfl rfl (by decide +kernel) ⟨Nat.le_of_ble_eq_true rfl, Nat.le_of_ble_eq_true rfl⟩) hK hW hA rfl (ze_at0 13 rfl) rfl hl.1 rfl (lv_room (Nat.le_of_ble_eq_true rfl)) dX8_balance_98 ⟨Nat.le_of_ble_eq_true rfl, Nat.le_of_ble_eq_true rfl⟩ (fun H locs hW => ?_)
    have hW : ze_W D (ze_wC c a n (ze_sA (ze_sA A2 18 (ze_up (zf_ccF A2 (E 0) m ((zf_cg n A1 (E 0) (E 3) m (zf_dm n A1 (E 0) m)) - (zf_dm n A1 (E 0) m))) (A2 18) (n 3))) 17 (ze_up (zf_ccC A2 (E 0) m ((zf_cg n A1 (E 0) (E 3) m (zf_dm n A1 (E 0) m)) - (zf_dm n A1 (E 0) m))) (A2 17) (n 3))) (ze_sB (ze_sB B 34 (B 34 + (zf_dm n A1 (E 0) m).toInt64)) 33 (B 33 + (zf_cg n A1 (E 0) (E 3) m (zf_dm n A1 (E 0) m)).toInt64)) (ze_sA E 3 (zf_cs n A1 (E 0) (E 3) m))) F s.heap _ _ := hW
    refine lv_istore (lv' := [(4, .int (zf_cc A2 (E 0) m ((zf_cg n A1 (E 0) (E 3) m (zf_dm n A1 (E 0) m)) - (zf_dm n A1 (E 0) m)) (n 3))), (3, .int (zf_cg n A1 (E 0) (E 3) m (zf_dm n A1 (E 0) m))), (2, .int (zf_dm n A1 (E 0) m)), (0, .ref (a 0)), (1, .int m)]) hX_ hB_ dX8_balance_101 hl (by decide) rfl (fun ls hl => ?_)
    refine lv_aload_n hX_ hB_ dX8_balance_103 rfl (lv_at hl 3 rfl) ?_
    refine ze_get (ci := 8) (C := RX8) (T := TX8) (N := 8) (v := .ref (a 1)) S hiX8 hK hW 0 (ze_at0 0 rfl) rfl 0 (by decide) rfl w7 dX8_balance_104 ?_
    refine lv_iload_n hX_ hB_ dX8_balance_107 rfl (lv_at hl 4 rfl) ?_
    refine ze_Vi (As := [.int m]) (rest := []) (ci := 5) (q0 := 1) (k := (RX5, TX5, 10)) S (zc_5_isTied l D c a n (ze_sA (ze_sA A2 18 (ze_up (zf_ccF A2 (E 0) m ((zf_cg n A1 (E 0) (E 3) m (zf_dm n A1 (E 0) m)) - (zf_dm n A1 (E 0) m))) (A2 18) (n 3))) 17 (ze_up (zf_ccC A2 (E 0) m ((zf_cg n A1 (E 0) (E 3) m (zf_dm n A1 (E 0) m)) - (zf_dm n A1 (E 0) m))) (A2 17) (n 3))) (ze_sB (ze_sB B 34 (B 34 + (zf_dm n A1 (E 0) m).toInt64)) 33 (B 33 + (zf_cg n A1 (E 0) (E 3) m (zf_dm n A1 (E 0) m)).toInt64)) (ze_sA E 3 (zf_cs n A1 (E 0) (E 3) m)) m) (cwV 1 hts gX8_balance_X5_isTied rfl rfl rfl (by decide +kernel) ⟨Nat.le_of_ble_eq_true rfl, Nat.le_of_ble_eq_true rfl⟩) hK hW hA rfl (ze_at0 1 rfl) rfl hl.1 rfl (lv_room (Nat.le_of_ble_eq_true rfl)) dX8_balance_108 ⟨Nat.le_of_ble_eq_true rfl, Nat.le_of_ble_eq_true rfl⟩ (fun H locs hW => ?_)
    refine lv_if_eq (tgt := 126) hX_ hB_ dX8_balance_111 (by decide) (fun c111 => ?_) (fun c111 => ?_)
    · have c111 : ¬ (zf_tied A2 m) := ze_bf c111
      refine lv_aload_n hX_ hB_ dX8_balance_126 rfl (lv_at hl 3 rfl) ?_
      refine ze_get (ci := 8) (C := RX8) (T := TX8) (N := 8) (v := .ref (a 17)) S hiX8 hK hW 0 (ze_at0 0 rfl) rfl 4 (by decide) rfl w3 dX8_balance_127 ?_
      refine lv_dup hX_ hB_ dX8_balance_130 rfl ?_
      refine ze_get (ci := 2) (C := RX2) (T := TX2) (N := 6) (v := .long (B 35)) S hiX2 hK hW 17 (ze_at0 17 rfl) rfl 3 (by decide) rfl w8 dX8_balance_131 ?_
      refine lv_iload hX_ hB_ dX8_balance_134 (lv_at hl 0 rfl) ?_
      refine lv_i2l (v := (zf_cc A2 (E 0) m ((zf_cg n A1 (E 0) (E 3) m (zf_dm n A1 (E 0) m)) - (zf_dm n A1 (E 0) m)) (n 3)).toInt64) hX_ hB_ dX8_balance_136 rfl ?_
      refine lv_ladd hX_ hB_ dX8_balance_137 ?_
      refine ze_put (ci := 2) (C := RX2) (T := TX2) (N := 6) (v := .long (B 35 + (zf_cc A2 (E 0) m ((zf_cg n A1 (E 0) (E 3) m (zf_dm n A1 (E 0) m)) - (zf_dm n A1 (E 0) m)) (n 3)).toInt64)) S hiX2 tyX2 tyX2_ok nmX2 hK hW 17 (ze_at0 17 rfl) rfl 3 (by decide) (Nat.le_of_ble_eq_true rfl) rfl rfl rfl w8 dX8_balance_138 (ze_pC17_3 (B 35 + (zf_cc A2 (E 0) m ((zf_cg n A1 (E 0) (E 3) m (zf_dm n A1 (E 0) m)) - (zf_dm n A1 (E 0) m)) (n 3)).toInt64) _ _ _ _ _ _) (fun H locs hW => ?_)
      have hW : ze_W D (ze_wC c a n (ze_sA (ze_sA A2 18 (ze_up (zf_ccF A2 (E 0) m ((zf_cg n A1 (E 0) (E 3) m (zf_dm n A1 (E 0) m)) - (zf_dm n A1 (E 0) m))) (A2 18) (n 3))) 17 (ze_up (zf_ccC A2 (E 0) m ((zf_cg n A1 (E 0) (E 3) m (zf_dm n A1 (E 0) m)) - (zf_dm n A1 (E 0) m))) (A2 17) (n 3))) (ze_sB (ze_sB (ze_sB B 34 (B 34 + (zf_dm n A1 (E 0) m).toInt64)) 33 (B 33 + (zf_cg n A1 (E 0) (E 3) m (zf_dm n A1 (E 0) m)).toInt64)) 35 (B 35 + (zf_cc A2 (E 0) m ((zf_cg n A1 (E 0) (E 3) m (zf_dm n A1 (E 0) m)) - (zf_dm n A1 (E 0) m)) (n 3)).toInt64)) (ze_sA E 3 (zf_cs n A1 (E 0) (E 3) m))) F s.heap _ _ := hW
      exact ze_vret S hr hlocks hF hK hW dX8_balance_141 (Nat.le_of_ble_eq_true rfl) (Nat.le_of_ble_eq_true rfl) (by subst eA2; subst eA1; simp only [zf_cbA, zf_cbB, zf_cfA, zf_cfB, zf_ccA, zf_cdA, zf_cbE, if_pos c66, if_neg c111])
    · have c111 : zf_tied A2 m := ze_bt c111
      refine lv_aload_n hX_ hB_ dX8_balance_114 rfl (lv_at hl 3 rfl) ?_
      refine ze_get (ci := 8) (C := RX8) (T := TX8) (N := 8) (v := .ref (a 17)) S hiX8 hK hW 0 (ze_at0 0 rfl) rfl 4 (by decide) rfl w3 dX8_balance_115 ?_
      refine lv_iload hX_ hB_ dX8_balance_118 (lv_at hl 0 rfl) ?_
      refine ze_Vv (As := [.int (zf_cc A2 (E 0) m ((zf_cg n A1 (E 0) (E 3) m (zf_dm n A1 (E 0) m)) - (zf_dm n A1 (E 0) m)) (n 3))]) (rest := []) (ci := 2) (q0 := 17) (k := (RX2, TX2, 6)) S (zc_2_giveToGrid l D c a n (ze_sA (ze_sA A2 18 (ze_up (zf_ccF A2 (E 0) m ((zf_cg n A1 (E 0) (E 3) m (zf_dm n A1 (E 0) m)) - (zf_dm n A1 (E 0) m))) (A2 18) (n 3))) 17 (ze_up (zf_ccC A2 (E 0) m ((zf_cg n A1 (E 0) (E 3) m (zf_dm n A1 (E 0) m)) - (zf_dm n A1 (E 0) m))) (A2 17) (n 3))) (ze_sB (ze_sB B 34 (B 34 + (zf_dm n A1 (E 0) m).toInt64)) 33 (B 33 + (zf_cg n A1 (E 0) (E 3) m (zf_dm n A1 (E 0) m)).toInt64)) (ze_sA E 3 (zf_cs n A1 (E 0) (E 3) m)) (zf_cc A2 (E 0) m ((zf_cg n A1 (E 0) (E 3) m (zf_dm n A1 (E 0) m)) - (zf_dm n A1 (E 0) m)) (n 3))) (cwV 1 hts gX8_balance_X2_giveToGrid rfl rfl rfl (by decide +kernel) ⟨Nat.le_of_ble_eq_true rfl, Nat.le_of_ble_eq_true rfl⟩) hK hW hA rfl (ze_at0 17 rfl) rfl hl.1 rfl (lv_room (Nat.le_of_ble_eq_true rfl)) dX8_balance_120 ⟨Nat.le_of_ble_eq_true rfl, Nat.le_of_ble_eq_true rfl⟩ (fun H locs hW => ?_)
      have hW : ze_W D (ze_wC c a n (ze_sC (ze_sA (ze_sA A2 18 (ze_up (zf_ccF A2 (E 0) m ((zf_cg n A1 (E 0) (E 3) m (zf_dm n A1 (E 0) m)) - (zf_dm n A1 (E 0) m))) (A2 18) (n 3))) 17 (ze_up (zf_ccC A2 (E 0) m ((zf_cg n A1 (E 0) (E 3) m (zf_dm n A1 (E 0) m)) - (zf_dm n A1 (E 0) m))) (A2 17) (n 3))) 31 (A2 31 0 - (zf_cc A2 (E 0) m ((zf_cg n A1 (E 0) (E 3) m (zf_dm n A1 (E 0) m)) - (zf_dm n A1 (E 0) m)) (n 3)))) (ze_sB (ze_sB (ze_sB B 34 (B 34 + (zf_dm n A1 (E 0) m).toInt64)) 33 (B 33 + (zf_cg n A1 (E 0) (E 3) m (zf_dm n A1 (E 0) m)).toInt64)) 37 (B 37 + (zf_cc A2 (E 0) m ((zf_cg n A1 (E 0) (E 3) m (zf_dm n A1 (E 0) m)) - (zf_dm n A1 (E 0) m)) (n 3)).toInt64)) (ze_sA E 3 (zf_cs n A1 (E 0) (E 3) m))) F s.heap _ _ := hW
      refine lv_goto (tgt := 141) hX_ hB_ dX8_balance_123 (by decide) ?_
      exact ze_vret S hr hlocks hF hK hW dX8_balance_141 (Nat.le_of_ble_eq_true rfl) (Nat.le_of_ble_eq_true rfl) (by subst eA2; subst eA1; simp only [zf_cbA, zf_cbB, zf_cfA, zf_cfB, zf_ccA, zf_cdA, zf_cbE, if_pos c66, if_pos c111])
  · refine lv_aload_n hX_ hB_ dX8_balance_69 rfl (lv_at hl 2 rfl) ?_
    refine ze_get (ci := 8) (C := RX8) (T := TX8) (N := 8) (v := .ref (a 17)) S hiX8 hK hW 0 (ze_at0 0 rfl) rfl 4 (by decide) rfl w3 dX8_balance_70 ?_
    refine lv_aload_n hX_ hB_ dX8_balance_73 rfl (lv_at hl 2 rfl) ?_
    refine ze_get (ci := 8) (C := RX8) (T := TX8) (N := 8) (v := .ref (a 13)) S hiX8 hK hW 0 (ze_at0 0 rfl) rfl 2 (by decide) rfl w6 dX8_balance_74 ?_
    refine lv_iload_n hX_ hB_ dX8_balance_77 rfl (lv_at hl 3 rfl) ?_
    refine lv_iload_n hX_ hB_ dX8_balance_78 rfl (lv_at hl 1 rfl) ?_
    refine lv_iload_n hX_ hB_ dX8_balance_79 rfl (lv_at hl 0 rfl) ?_
    refine lv_isub hX_ hB_ dX8_balance_80 ?_
    refine ze_Vi (As := [.int m, .int ((zf_dm n A1 (E 0) m) - (zf_cg n A1 (E 0) (E 3) m (zf_dm n A1 (E 0) m)))]) (rest := [.ref (a 17)]) (ci := 6) (q0 := 13) (k := (RX6, TX6, 3)) S (zc_6_dischargeUpTo l D c a n A2 (ze_sB (ze_sB B 34 (B 34 + (zf_dm n A1 (E 0) m).toInt64)) 33 (B 33 + (zf_cg n A1 (E 0) (E 3) m (zf_dm n A1 (E 0) m)).toInt64)) (ze_sA E 3 (zf_cs n A1 (E 0) (E 3) m)) m ((zf_dm n A1 (E 0) m) - (zf_cg n A1 (E 0) (E 3) m (zf_dm n A1 (E 0) m))) hN hS2) (cwV 2 hts gX8_balance_X6_dischargeUpTo rfl rfl rfl (by decide +kernel) ⟨Nat.le_of_ble_eq_true rfl, Nat.le_of_ble_eq_true rfl⟩) hK hW hA rfl (ze_at0 13 rfl) rfl hl.1 rfl (lv_room (Nat.le_of_ble_eq_true rfl)) dX8_balance_81 ⟨Nat.le_of_ble_eq_true rfl, Nat.le_of_ble_eq_true rfl⟩ (fun H locs hW => ?_)
    have hW : ze_W D (ze_wC c a n (ze_sA (ze_sA A2 18 (ze_up (zf_dcF A2 (E 0) m ((zf_dm n A1 (E 0) m) - (zf_cg n A1 (E 0) (E 3) m (zf_dm n A1 (E 0) m)))) (A2 18) (n 3))) 17 (ze_up (zf_dcC A2 (E 0) m ((zf_dm n A1 (E 0) m) - (zf_cg n A1 (E 0) (E 3) m (zf_dm n A1 (E 0) m)))) (A2 17) (n 3))) (ze_sB (ze_sB B 34 (B 34 + (zf_dm n A1 (E 0) m).toInt64)) 33 (B 33 + (zf_cg n A1 (E 0) (E 3) m (zf_dm n A1 (E 0) m)).toInt64)) (ze_sA E 3 (zf_cs n A1 (E 0) (E 3) m))) F s.heap _ _ := hW
    refine ze_Vv (As := [.int (zf_dc A2 (E 0) m ((zf_dm n A1 (E 0) m) - (zf_cg n A1 (E 0) (E 3) m (zf_dm n A1 (E 0) m))) (n 3))]) (rest := []) (ci := 2) (q0 := 17) (k := (RX2, TX2, 6)) S (zc_2_takeFromGrid l D c a n (ze_sA (ze_sA A2 18 (ze_up (zf_dcF A2 (E 0) m ((zf_dm n A1 (E 0) m) - (zf_cg n A1 (E 0) (E 3) m (zf_dm n A1 (E 0) m)))) (A2 18) (n 3))) 17 (ze_up (zf_dcC A2 (E 0) m ((zf_dm n A1 (E 0) m) - (zf_cg n A1 (E 0) (E 3) m (zf_dm n A1 (E 0) m)))) (A2 17) (n 3))) (ze_sB (ze_sB B 34 (B 34 + (zf_dm n A1 (E 0) m).toInt64)) 33 (B 33 + (zf_cg n A1 (E 0) (E 3) m (zf_dm n A1 (E 0) m)).toInt64)) (ze_sA E 3 (zf_cs n A1 (E 0) (E 3) m)) (zf_dc A2 (E 0) m ((zf_dm n A1 (E 0) m) - (zf_cg n A1 (E 0) (E 3) m (zf_dm n A1 (E 0) m))) (n 3))) (cwV 1 hts gX8_balance_X2_takeFromGrid rfl rfl rfl (by decide +kernel) ⟨Nat.le_of_ble_eq_true rfl, Nat.le_of_ble_eq_true rfl⟩) hK hW hA rfl (ze_at0 17 rfl) rfl hl.1 rfl (lv_room (Nat.le_of_ble_eq_true rfl)) dX8_balance_84 ⟨Nat.le_of_ble_eq_true rfl, Nat.le_of_ble_eq_true rfl⟩ (fun H locs hW => ?_)
    have hW : ze_W D (ze_wC c a n (ze_sC (ze_sA (ze_sA A2 18 (ze_up (zf_dcF A2 (E 0) m ((zf_dm n A1 (E 0) m) - (zf_cg n A1 (E 0) (E 3) m (zf_dm n A1 (E 0) m)))) (A2 18) (n 3))) 17 (ze_up (zf_dcC A2 (E 0) m ((zf_dm n A1 (E 0) m) - (zf_cg n A1 (E 0) (E 3) m (zf_dm n A1 (E 0) m)))) (A2 17) (n 3))) 31 (A2 31 0 + (zf_dc A2 (E 0) m ((zf_dm n A1 (E 0) m) - (zf_cg n A1 (E 0) (E 3) m (zf_dm n A1 (E 0) m))) (n 3)))) (ze_sB (ze_sB (ze_sB B 34 (B 34 + (zf_dm n A1 (E 0) m).toInt64)) 33 (B 33 + (zf_cg n A1 (E 0) (E 3) m (zf_dm n A1 (E 0) m)).toInt64)) 36 (B 36 + (zf_dc A2 (E 0) m ((zf_dm n A1 (E 0) m) - (zf_cg n A1 (E 0) (E 3) m (zf_dm n A1 (E 0) m))) (n 3)).toInt64)) (ze_sA E 3 (zf_cs n A1 (E 0) (E 3) m))) F s.heap _ _ := hW
    refine lv_goto (tgt := 141) hX_ hB_ dX8_balance_87 (by decide) ?_
    exact ze_vret S hr hlocks hF hK hW dX8_balance_141 (Nat.le_of_ble_eq_true rfl) (Nat.le_of_ble_eq_true rfl) (by subst eA2; subst eA1; simp only [zf_cbA, zf_cbB, zf_cfA, zf_cfB, zf_ccA, zf_cdA, zf_cbE, if_neg c66])
set_option maxHeartbeats 4000000 in
set_option maxRecDepth 100000 in
theorem zp_passOneTick (l : Launch) (D : va_G) (c : Nat → ClassId) (a n : Nat → Nat) (A : Nat → Nat → Int32) (B : Nat → Int64) (E : Nat → Nat → Int32) (hN : zf_N n) (hS : zf_S n A) : ze_V l yX8_passOneTick wsX8_passOneTick 6 124 0 0 D c (ze_wC c a n A B E) [.ref (a 0)] (ze_wC c a n ((zf_ctk n A B E).1) ((zf_ctk n A B E).2.1) ((zf_ctk n A B E).2.2)) := by
  intro sz
  refine ze_start (cc := cX8_passOneTick) (maxL := 2) (ret := none) (own := RX8) (by decide) rfl rfl (Nat.le_of_ble_eq_true rfl) ?_
  obtain ⟨hn0, hn1, hn2, hn3, hn4⟩ := id hN
  intro p e s m_ below meth cd F ls hF hsz E0
  obtain ⟨S, hr, hlocks, hK, hW, hA, hl⟩ := E0
  have hX_ := S.1
  have hB_ := S.2.1
  have hts := S.2.2.2.2
  have hl : lv_has ls 2 [(0, .ref (a 0))] := hl
  have hiX2 : ∀ w ∈ u_ws RX2 TX2 6, w ∈ wsX8_passOneTick := fun _ h => (List.mem_cons_of_mem _ (List.mem_append_left _ (List.mem_append_left _ (List.mem_append_left _ (List.mem_append_left _ (List.mem_append_left _ (List.mem_append_left _ (List.mem_append_left _ (List.mem_append_right _ h)))))))))
  have hiX5 : ∀ w ∈ u_ws RX5 TX5 10, w ∈ wsX8_passOneTick := fun _ h => (List.mem_cons_of_mem _ (List.mem_append_left _ (List.mem_append_left _ (List.mem_append_left _ (List.mem_append_left _ (List.mem_append_left _ (List.mem_append_left _ (List.mem_append_right _ h))))))))
  have hiX8 : ∀ w ∈ u_ws RX8 TX8 8, w ∈ wsX8_passOneTick := fun _ h => (List.mem_cons_of_mem _ (List.mem_append_left _ (List.mem_append_left _ (List.mem_append_left _ (List.mem_append_left _ (List.mem_append_left _ (List.mem_append_left _ (List.mem_append_left _ (List.mem_append_left _ (List.mem_append_right _ h))))))))))
  have w0 := hts (.fieldLink RX8 294 "Islandgrid" "time" "I") (List.mem_cons_of_mem _ (List.mem_append_left _ (List.mem_append_left _ (List.mem_append_left _ (List.mem_append_left _ (List.mem_append_left _ (List.mem_append_left _ (List.mem_append_left _ (List.mem_append_left _ (List.mem_append_left _ (List.mem_append_left _ (List.mem_of_getElem? (i := 0) rfl))))))))))))
  have w1 := hts (.fieldLink RX8 21 "Islandgrid" "fleet" "LIslandgrid$Fleet;") (List.mem_cons_of_mem _ (List.mem_append_left _ (List.mem_append_left _ (List.mem_append_left _ (List.mem_append_left _ (List.mem_append_left _ (List.mem_append_left _ (List.mem_append_left _ (List.mem_append_left _ (List.mem_append_left _ (List.mem_append_left _ (List.mem_of_getElem? (i := 1) rfl))))))))))))
  have w2 := hts (.fieldLink RX8 42 "Islandgrid" "ledger" "LIslandgrid$Ledger;") (List.mem_cons_of_mem _ (List.mem_append_left _ (List.mem_append_left _ (List.mem_append_left _ (List.mem_append_left _ (List.mem_append_left _ (List.mem_append_left _ (List.mem_append_left _ (List.mem_append_left _ (List.mem_append_left _ (List.mem_append_left _ (List.mem_of_getElem? (i := 2) rfl))))))))))))
  have w3 := hts (.fieldLink RX8 301 "Islandgrid$Ledger" "gridGave" "I") (List.mem_cons_of_mem _ (List.mem_append_left _ (List.mem_append_left _ (List.mem_append_left _ (List.mem_append_left _ (List.mem_append_left _ (List.mem_append_left _ (List.mem_append_left _ (List.mem_append_left _ (List.mem_append_left _ (List.mem_append_left _ (List.mem_of_getElem? (i := 3) rfl))))))))))))
  have w4 := hts (.fieldLink RX8 10 "Islandgrid" "network" "LIslandgrid$Network;") (List.mem_cons_of_mem _ (List.mem_append_left _ (List.mem_append_left _ (List.mem_append_left _ (List.mem_append_left _ (List.mem_append_left _ (List.mem_append_left _ (List.mem_append_left _ (List.mem_append_left _ (List.mem_append_left _ (List.mem_append_left _ (List.mem_of_getElem? (i := 4) rfl))))))))))))
  have w5 := hts (.fieldLink RX8 50 "Islandgrid$Network" "siteCount" "I") (List.mem_cons_of_mem _ (List.mem_append_left _ (List.mem_append_left _ (List.mem_append_left _ (List.mem_append_left _ (List.mem_append_left _ (List.mem_append_left _ (List.mem_append_left _ (List.mem_append_left _ (List.mem_append_left _ (List.mem_append_left _ (List.mem_of_getElem? (i := 5) rfl))))))))))))
  have w6 := hts (.fieldLink RX8 140 "Islandgrid$Network" "islandOf" "[I") (List.mem_cons_of_mem _ (List.mem_append_left _ (List.mem_append_left _ (List.mem_append_left _ (List.mem_append_left _ (List.mem_append_left _ (List.mem_append_left _ (List.mem_append_left _ (List.mem_append_left _ (List.mem_append_left _ (List.mem_append_left _ (List.mem_of_getElem? (i := 6) rfl))))))))))))
  refine lv_aload_n hX_ hB_ dX8_passOneTick_0 rfl (lv_at hl 0 rfl) ?_
  refine lv_dup hX_ hB_ dX8_passOneTick_1 rfl ?_
  refine ze_get (ci := 8) (C := RX8) (T := TX8) (N := 8) (v := .int (A 30 0)) S hiX8 hK hW 0 (ze_at0 0 rfl) rfl 7 (by decide) rfl w0 dX8_passOneTick_2 ?_
  refine lv_iconst (v := 1) hX_ hB_ dX8_passOneTick_5 (by decide) ?_
  refine lv_iadd hX_ hB_ dX8_passOneTick_6 ?_
  refine ze_put (ci := 8) (C := RX8) (T := TX8) (N := 8) (v := .int (A 30 0 + 1)) S hiX8 tyX8 tyX8_ok nmX8 hK hW 0 (ze_at0 0 rfl) rfl 7 (by decide) (Nat.le_of_ble_eq_true rfl) rfl rfl rfl w0 dX8_passOneTick_7 (ze_pC0_7 (A 30 0 + 1) _ _ _ _ _ _) (fun H locs hW => ?_)
  have hW : ze_W D (ze_wC c a n (ze_sC A 30 (A 30 0 + 1)) B E) F s.heap _ _ := hW
  refine lv_aload_n hX_ hB_ dX8_passOneTick_10 rfl (lv_at hl 0 rfl) ?_
  refine ze_get (ci := 8) (C := RX8) (T := TX8) (N := 8) (v := .ref (a 9)) S hiX8 hK hW 0 (ze_at0 0 rfl) rfl 1 (by decide) rfl w1 dX8_passOneTick_11 ?_
  refine ze_Vv (As := []) (rest := []) (ci := 0) (q0 := 9) (k := (RX0, TX0, 5)) S (zc_0_beginTick l D c a n (ze_sC A 30 (A 30 0 + 1)) B E  hN) (cwV 0 hts gX8_passOneTick_X0_beginTick rfl rfl rfl (by decide +kernel) ⟨Nat.le_of_ble_eq_true rfl, Nat.le_of_ble_eq_true rfl⟩) hK hW hA rfl (ze_at0 9 rfl) rfl hl.1 rfl (lv_room (Nat.le_of_ble_eq_true rfl)) dX8_passOneTick_14 ⟨Nat.le_of_ble_eq_true rfl, Nat.le_of_ble_eq_true rfl⟩ (fun H locs hW => ?_)
  have hW : ze_W D (ze_wC c a n (ze_sA (ze_sA (ze_sA (ze_sC A 30 (A 30 0 + 1)) 12 (ze_up (fun _ => 0) (A 12) (n 2))) 11 (ze_up (zf_tG (ze_sC A 30 (A 30 0 + 1))) (A 11) (n 2))) 13 (ze_up (zf_tS (ze_sC A 30 (A 30 0 + 1))) (A 13) (n 2))) B E) F s.heap _ _ := hW
  refine lv_aload_n hX_ hB_ dX8_passOneTick_17 rfl (lv_at hl 0 rfl) ?_
  refine ze_get (ci := 8) (C := RX8) (T := TX8) (N := 8) (v := .ref (a 17)) S hiX8 hK hW 0 (ze_at0 0 rfl) rfl 4 (by decide) rfl w2 dX8_passOneTick_18 ?_
  refine lv_iconst (v := 0) hX_ hB_ dX8_passOneTick_21 (by decide) ?_
  refine ze_put (ci := 2) (C := RX2) (T := TX2) (N := 6) (v := .int 0) S hiX2 tyX2 tyX2_ok nmX2 hK hW 17 (ze_at0 17 rfl) rfl 0 (by decide) (Nat.le_of_ble_eq_true rfl) rfl rfl rfl w3 dX8_passOneTick_22 (ze_pC17_0 0 _ _ _ _ _ _) (fun H locs hW => ?_)
  have hW : ze_W D (ze_wC c a n (ze_sC (ze_sA (ze_sA (ze_sA (ze_sC A 30 (A 30 0 + 1)) 12 (ze_up (fun _ => 0) (A 12) (n 2))) 11 (ze_up (zf_tG (ze_sC A 30 (A 30 0 + 1))) (A 11) (n 2))) 13 (ze_up (zf_tS (ze_sC A 30 (A 30 0 + 1))) (A 13) (n 2))) 31 0) B E) F s.heap _ _ := hW
  refine lv_iconst (v := 0) hX_ hB_ dX8_passOneTick_25 (by decide) ?_
  refine lv_istore_n (lv' := [(1, .int 0), (0, .ref (a 0))]) hX_ hB_ dX8_passOneTick_26 rfl hl (by decide) rfl (fun ls hl => ?_)
  have L27 : ∀ (k27 : Nat) (i27 : Nat), (i27 ≤ n 0) → (n 0 - i27) < k27 → ∀ (H : Heap) (locs : List Loc) (ls : Array Slot), ze_W D (ze_wC c a n ((zf_cil n (zf_ct0 n A) B E i27).1) ((zf_cil n (zf_ct0 n A) B E i27).2.1) ((zf_cil n (zf_ct0 n A) B E i27).2.2)) F s.heap H locs → lv_has ls 2 [(1, .int (nI i27)), (0, .ref (a 0))] → W p l e { frames := 6, cells := 0, slots := 0, locals := 124 } s m_ ([.ref (a 0)] : List Value).toArray below meth cd H locs 0 0 (MQ below (ze_Qv D c (ze_wC c a n A B E) sz (ze_wC c a n ((zf_ctk n A B E).1) ((zf_ctk n A B E).2.1) ((zf_ctk n A B E).2.2))) ([.ref (a 0)] : List Value).toArray s 0 0 F) (F0 m_ 27 ls []) := by
    intro k27
    induction k27 with
    | zero =>
      intro i27 h27 hk27
      exact absurd hk27 (Nat.not_lt_zero _)
    | succ k27 ih27 =>
      intro i27 h27 hk27 H locs ls hW hl
      have hS2 : zf_S n (zf_cil n (zf_ct0 n A) B E i27).1 := zf_cilS (zf_ct0S hS) i27
      refine lv_iload_n hX_ hB_ dX8_passOneTick_27 rfl (lv_at hl 0 rfl) ?_
      refine lv_aload_n hX_ hB_ dX8_passOneTick_28 rfl (lv_at hl 1 rfl) ?_
      refine ze_get (ci := 8) (C := RX8) (T := TX8) (N := 8) (v := .ref (a 1)) S hiX8 hK hW 0 (ze_at0 0 rfl) rfl 0 (by decide) rfl w4 dX8_passOneTick_29 ?_
      refine ze_get (ci := 5) (C := RX5) (T := TX5) (N := 10) (v := .int (nI (n 0))) S hiX5 hK hW 1 (ze_at0 1 rfl) rfl 0 (by decide) rfl w5 dX8_passOneTick_32 ?_
      refine lv_icmp_ge (tgt := 62) hX_ hB_ dX8_passOneTick_35 (by decide) (fun c35 => ?_) (fun c35 => ?_)
      · have c35 : ¬ i27 < (n 0) := Nat.not_lt.mpr ((nI_leI (a := (n 0)) (b := i27) (by omega) (by omega)).mp c35)
        have e27 : i27 = n 0 := by omega
        subst e27
        exact ze_vret S hr hlocks hF hK hW dX8_passOneTick_62 (Nat.le_of_ble_eq_true rfl) (Nat.le_of_ble_eq_true rfl) rfl
      · have c35 : i27 < (n 0) := Nat.lt_of_not_le (fun h9 => c35 ((nI_leI (a := (n 0)) (b := i27) (by omega) (by omega)).mpr h9))
        refine lv_aload_n hX_ hB_ dX8_passOneTick_38 rfl (lv_at hl 1 rfl) ?_
        refine ze_get (ci := 8) (C := RX8) (T := TX8) (N := 8) (v := .ref (a 1)) S hiX8 hK hW 0 (ze_at0 0 rfl) rfl 0 (by decide) rfl w4 dX8_passOneTick_39 ?_
        refine ze_get (ci := 5) (C := RX5) (T := TX5) (N := 10) (v := .ref (a 3)) S hiX5 hK hW 1 (ze_at0 1 rfl) rfl 4 (by decide) rfl w6 dX8_passOneTick_42 ?_
        refine lv_iload_n hX_ hB_ dX8_passOneTick_45 rfl (lv_at hl 0 rfl) ?_
        refine ze_ialdN hX_ hB_ hK hW 3 (f := ((zf_cil n (zf_ct0 n A) B E i27).2.2) 0) (ze_at0 3 rfl) (i := i27) (by omega) (by decide) dX8_passOneTick_46 ?_
        refine lv_iload_n hX_ hB_ dX8_passOneTick_47 rfl (lv_at hl 0 rfl) ?_
        refine lv_icmp_ne (tgt := 56) hX_ hB_ dX8_passOneTick_48 (by decide) (fun c48 => ?_) (fun c48 => ?_)
        · refine lv_iinc (v := nI (i27 + 1)) (lv' := [(1, .int (nI (i27 + 1))), (0, .ref (a 0))]) hX_ hB_ dX8_passOneTick_56 hl (k := 0) rfl (ze_inc _) (by decide) rfl (fun ls hl => ?_)
          refine lv_goto (tgt := 27) hX_ hB_ dX8_passOneTick_59 (by decide) ?_
          have eW : (ze_wC c a n ((zf_cil n (zf_ct0 n A) B E i27).1) ((zf_cil n (zf_ct0 n A) B E i27).2.1) ((zf_cil n (zf_ct0 n A) B E i27).2.2)) = (ze_wC c a n ((zf_cil n (zf_ct0 n A) B E (i27 + 1)).1) ((zf_cil n (zf_ct0 n A) B E (i27 + 1)).2.1) ((zf_cil n (zf_ct0 n A) B E (i27 + 1)).2.2)) := (by simp only [zf_cil, if_neg c48])
          rw [eW] at hW
          exact ih27 (i27 + 1) (by omega) (by omega) _ _ ls hW (lv_sub hl [0, 1] rfl)
        · refine lv_aload_n hX_ hB_ dX8_passOneTick_51 rfl (lv_at hl 1 rfl) ?_
          refine lv_iload_n hX_ hB_ dX8_passOneTick_52 rfl (lv_at hl 0 rfl) ?_
          refine ze_Vv (As := [.int (nI i27)]) (rest := []) (ci := 8) (q0 := 0) (k := (RX8, TX8, 8)) S (zp_balance l D c a n ((zf_cil n (zf_ct0 n A) B E i27).1) ((zf_cil n (zf_ct0 n A) B E i27).2.1) ((zf_cil n (zf_ct0 n A) B E i27).2.2) (nI i27) hN hS2) (cwV 1 hts gX8_passOneTick_X8_balance rfl rfl rfl (by decide +kernel) ⟨Nat.le_of_ble_eq_true rfl, Nat.le_of_ble_eq_true rfl⟩) hK hW hA rfl (ze_at0 0 rfl) rfl hl.1 rfl (lv_room (Nat.le_of_ble_eq_true rfl)) dX8_passOneTick_53 ⟨Nat.le_of_ble_eq_true rfl, Nat.le_of_ble_eq_true rfl⟩ (fun H locs hW => ?_)
          have hW : ze_W D (ze_wC c a n (zf_cbA n ((zf_cil n (zf_ct0 n A) B E i27).1) (((zf_cil n (zf_ct0 n A) B E i27).2.2) 0) (((zf_cil n (zf_ct0 n A) B E i27).2.2) 3) (nI i27)) (zf_cbB n ((zf_cil n (zf_ct0 n A) B E i27).1) ((zf_cil n (zf_ct0 n A) B E i27).2.1) (((zf_cil n (zf_ct0 n A) B E i27).2.2) 0) (((zf_cil n (zf_ct0 n A) B E i27).2.2) 3) (nI i27)) (zf_cbE n ((zf_cil n (zf_ct0 n A) B E i27).1) ((zf_cil n (zf_ct0 n A) B E i27).2.2) (nI i27))) F s.heap _ _ := hW
          refine lv_iinc (v := nI (i27 + 1)) (lv' := [(1, .int (nI (i27 + 1))), (0, .ref (a 0))]) hX_ hB_ dX8_passOneTick_56 hl (k := 0) rfl (ze_inc _) (by decide) rfl (fun ls hl => ?_)
          refine lv_goto (tgt := 27) hX_ hB_ dX8_passOneTick_59 (by decide) ?_
          have eW : (ze_wC c a n (zf_cbA n ((zf_cil n (zf_ct0 n A) B E i27).1) (((zf_cil n (zf_ct0 n A) B E i27).2.2) 0) (((zf_cil n (zf_ct0 n A) B E i27).2.2) 3) (nI i27)) (zf_cbB n ((zf_cil n (zf_ct0 n A) B E i27).1) ((zf_cil n (zf_ct0 n A) B E i27).2.1) (((zf_cil n (zf_ct0 n A) B E i27).2.2) 0) (((zf_cil n (zf_ct0 n A) B E i27).2.2) 3) (nI i27)) (zf_cbE n ((zf_cil n (zf_ct0 n A) B E i27).1) ((zf_cil n (zf_ct0 n A) B E i27).2.2) (nI i27))) = (ze_wC c a n ((zf_cil n (zf_ct0 n A) B E (i27 + 1)).1) ((zf_cil n (zf_ct0 n A) B E (i27 + 1)).2.1) ((zf_cil n (zf_ct0 n A) B E (i27 + 1)).2.2)) := (by simp only [zf_cil, if_pos c48])
          rw [eW] at hW
          exact ih27 (i27 + 1) (by omega) (by omega) _ _ ls hW (lv_sub hl [0, 1] rfl)
  have hl : lv_has ls 2 [(1, .int (nI 0)), (0, .ref (a 0))] := hl
  have hW : ze_W D (ze_wC c a n ((zf_cil n (zf_ct0 n A) B E 0).1) ((zf_cil n (zf_ct0 n A) B E 0).2.1) ((zf_cil n (zf_ct0 n A) B E 0).2.2)) F s.heap _ _ := hW
  exact L27 _ 0 (by omega) (Nat.lt_succ_self _) _ _ ls hW (lv_sub hl [0, 1] rfl)
