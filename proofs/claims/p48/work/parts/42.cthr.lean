set_option maxHeartbeats 4000000 in
set_option maxRecDepth 100000 in
theorem zt_checkNumber_t (l : Launch) (D : va_G) (hst : l.stackTraces = false) (c : Nat → ClassId) (ws : va_W) (x : Int32) (N : Nat) (hx : ¬ zf_isIn x 0 (nI N - 1)) (hN : N < 2 ^ 31) : ze_T l yX8_checkNumber wsX8_checkNumber 6 82 D c ws [.int x, .int (nI N)] "java/lang/IndexOutOfBoundsException" := by
  intro sz
  refine zx_start (cc := cX8_checkNumber) (maxL := 2) (ret := none) (own := RX8) (by decide) rfl rfl (Nat.le_of_ble_eq_true rfl) ?_
  intro p e s m_ below meth cd F ls hF hsz E0 hXB htab
  obtain ⟨S, hr, hlocks, hK, hW, hA, hl⟩ := E0
  have hX_ := S.1
  have hB_ := S.2.1
  have hts := S.2.2.2.2
  have hl : lv_has ls 2 [(0, .int x), (1, .int (nI N))] := hl
  have w0 := hts (.classLink RX8 325 "java/lang/IndexOutOfBoundsException") (List.mem_cons_of_mem _ (List.mem_append_left _ (List.mem_of_getElem? (i := 0) rfl)))
  have w1 := hts (.initialized "java/lang/IndexOutOfBoundsException") (List.mem_cons_of_mem _ (List.mem_append_left _ (List.mem_of_getElem? (i := 1) rfl)))
  refine lv_iload_n hX_ hB_ dX8_checkNumber_0 rfl (lv_at hl 0 rfl) ?_
  refine lv_if_lt (tgt := 9) hX_ hB_ dX8_checkNumber_1 (by decide) (fun c1 => ?_) (fun c1 => ?_)
  · exact zx_throwW (is := 327) (tx := "there is no such number") hst S hlocks hF hK hW hXB htab hl.1 (by decide +kernel) w0 w1 (by decide +kernel) zx_g329 zx_o329 (fun _ h => (List.mem_cons_of_mem _ (List.mem_append_right _ h))) ⟨rfl, rfl⟩ dX8_checkNumber_9 dX8_checkNumber_12 dX8_checkNumber_13 dX8_checkNumber_16 dX8_checkNumber_19 ⟨(Nat.le_of_ble_eq_true rfl), (Nat.le_of_ble_eq_true rfl), (Nat.le_of_ble_eq_true rfl), (Nat.le_of_ble_eq_true rfl)⟩ (Nat.le_of_ble_eq_true rfl) (Nat.le_of_ble_eq_true rfl)
  · refine lv_iload_n hX_ hB_ dX8_checkNumber_4 rfl (lv_at hl 0 rfl) ?_
    refine lv_iload_n hX_ hB_ dX8_checkNumber_5 rfl (lv_at hl 1 rfl) ?_
    refine lv_icmp_lt (tgt := 20) hX_ hB_ dX8_checkNumber_6 (by decide) (fun c6 => ?_) (fun c6 => ?_)
    · exact absurd (zf_isInM c1 c6 hN) hx
    · exact zx_throwW (is := 327) (tx := "there is no such number") hst S hlocks hF hK hW hXB htab hl.1 (by decide +kernel) w0 w1 (by decide +kernel) zx_g329 zx_o329 (fun _ h => (List.mem_cons_of_mem _ (List.mem_append_right _ h))) ⟨rfl, rfl⟩ dX8_checkNumber_9 dX8_checkNumber_12 dX8_checkNumber_13 dX8_checkNumber_16 dX8_checkNumber_19 ⟨(Nat.le_of_ble_eq_true rfl), (Nat.le_of_ble_eq_true rfl), (Nat.le_of_ble_eq_true rfl), (Nat.le_of_ble_eq_true rfl)⟩ (Nat.le_of_ble_eq_true rfl) (Nat.le_of_ble_eq_true rfl)
set_option maxHeartbeats 4000000 in
set_option maxRecDepth 100000 in
theorem zt_checkRange_t (l : Launch) (D : va_G) (hst : l.stackTraces = false) (c : Nat → ClassId) (ws : va_W) (x y z : Int32) (hx : ¬ zf_isIn x y z) : ze_T l yX8_checkRange wsX8_checkRange 6 82 D c ws [.int x, .int y, .int z] "java/lang/IllegalArgumentException" := by
  intro sz
  refine zx_start (cc := cX8_checkRange) (maxL := 3) (ret := none) (own := RX8) (by decide) rfl rfl (Nat.le_of_ble_eq_true rfl) ?_
  intro p e s m_ below meth cd F ls hF hsz E0 hXB htab
  obtain ⟨S, hr, hlocks, hK, hW, hA, hl⟩ := E0
  have hX_ := S.1
  have hB_ := S.2.1
  have hts := S.2.2.2.2
  have hl : lv_has ls 3 [(0, .int x), (1, .int y), (2, .int z)] := hl
  have w0 := hts (.classLink RX8 76 "java/lang/IllegalArgumentException") (List.mem_cons_of_mem _ (List.mem_append_left _ (List.mem_of_getElem? (i := 0) rfl)))
  have w1 := hts (.initialized "java/lang/IllegalArgumentException") (List.mem_cons_of_mem _ (List.mem_append_left _ (List.mem_of_getElem? (i := 1) rfl)))
  refine lv_iload_n hX_ hB_ dX8_checkRange_0 rfl (lv_at hl 0 rfl) ?_
  refine lv_iload_n hX_ hB_ dX8_checkRange_1 rfl (lv_at hl 1 rfl) ?_
  refine lv_icmp_lt (tgt := 10) hX_ hB_ dX8_checkRange_2 (by decide) (fun c2 => ?_) (fun c2 => ?_)
  · exact zx_throwW (is := 330) (tx := "the value is out of its range") hst S hlocks hF hK hW hXB htab hl.1 (by decide +kernel) w0 w1 (by decide +kernel) zx_g80 zx_o80 (fun _ h => (List.mem_cons_of_mem _ (List.mem_append_right _ h))) ⟨rfl, rfl⟩ dX8_checkRange_10 dX8_checkRange_13 dX8_checkRange_14 dX8_checkRange_17 dX8_checkRange_20 ⟨(Nat.le_of_ble_eq_true rfl), (Nat.le_of_ble_eq_true rfl), (Nat.le_of_ble_eq_true rfl), (Nat.le_of_ble_eq_true rfl)⟩ (Nat.le_of_ble_eq_true rfl) (Nat.le_of_ble_eq_true rfl)
  · refine lv_iload_n hX_ hB_ dX8_checkRange_5 rfl (lv_at hl 0 rfl) ?_
    refine lv_iload_n hX_ hB_ dX8_checkRange_6 rfl (lv_at hl 2 rfl) ?_
    refine lv_icmp_le (tgt := 21) hX_ hB_ dX8_checkRange_7 (by decide) (fun c7 => ?_) (fun c7 => ?_)
    · exact absurd (⟨c2, Int32.not_lt.mpr c7⟩ : zf_isIn x y z) hx
    · exact zx_throwW (is := 330) (tx := "the value is out of its range") hst S hlocks hF hK hW hXB htab hl.1 (by decide +kernel) w0 w1 (by decide +kernel) zx_g80 zx_o80 (fun _ h => (List.mem_cons_of_mem _ (List.mem_append_right _ h))) ⟨rfl, rfl⟩ dX8_checkRange_10 dX8_checkRange_13 dX8_checkRange_14 dX8_checkRange_17 dX8_checkRange_20 ⟨(Nat.le_of_ble_eq_true rfl), (Nat.le_of_ble_eq_true rfl), (Nat.le_of_ble_eq_true rfl), (Nat.le_of_ble_eq_true rfl)⟩ (Nat.le_of_ble_eq_true rfl) (Nat.le_of_ble_eq_true rfl)
set_option maxHeartbeats 4000000 in
set_option maxRecDepth 100000 in
theorem zt_checkSite_t (l : Launch) (D : va_G) (hst : l.stackTraces = false) (c : Nat → ClassId) (a n : Nat → Nat) (A : Nat → Nat → Int32) (B : Nat → Int64) (E : Nat → Nat → Int32) (x : Int32) (hN : zf_N n) (hx : ¬ zf_isIn x 0 (nI (n 0) - 1)) : ze_T l yX8_checkSite wsX8_checkSite 7 103 D c (ze_wC c a n A B E) [.ref (a 0), .int x] "java/lang/IndexOutOfBoundsException" := by
  intro sz
  refine zx_start (cc := cX8_checkSite) (maxL := 2) (ret := none) (own := RX8) (by decide) rfl rfl (Nat.le_of_ble_eq_true rfl) ?_
  obtain ⟨hn0, hn1, hn2, hn3, hn4⟩ := id hN
  intro p e s m_ below meth cd F ls hF hsz E0 hXB htab
  obtain ⟨S, hr, hlocks, hK, hW, hA, hl⟩ := E0
  have hX_ := S.1
  have hB_ := S.2.1
  have hts := S.2.2.2.2
  have hl : lv_has ls 2 [(0, .ref (a 0)), (1, .int x)] := hl
  have hiX5 : ∀ w ∈ u_ws RX5 TX5 10, w ∈ wsX8_checkSite := fun _ h => (List.mem_cons_of_mem _ (List.mem_append_left _ (List.mem_append_right _ h)))
  have hiX8 : ∀ w ∈ u_ws RX8 TX8 8, w ∈ wsX8_checkSite := fun _ h => (List.mem_cons_of_mem _ (List.mem_append_left _ (List.mem_append_left _ (List.mem_append_right _ h))))
  have w0 := hts (.fieldLink RX8 10 "Islandgrid" "network" "LIslandgrid$Network;") (List.mem_cons_of_mem _ (List.mem_append_left _ (List.mem_append_left _ (List.mem_append_left _ (List.mem_of_getElem? (i := 0) rfl)))))
  have w1 := hts (.fieldLink RX8 50 "Islandgrid$Network" "siteCount" "I") (List.mem_cons_of_mem _ (List.mem_append_left _ (List.mem_append_left _ (List.mem_append_left _ (List.mem_of_getElem? (i := 1) rfl)))))
  refine lv_iload_n hX_ hB_ dX8_checkSite_0 rfl (lv_at hl 1 rfl) ?_
  refine lv_aload_n hX_ hB_ dX8_checkSite_1 rfl (lv_at hl 0 rfl) ?_
  refine ze_get (ci := 8) (C := RX8) (T := TX8) (N := 8) (v := .ref (a 1)) S hiX8 hK hW 0 (ze_at0 0 rfl) rfl 0 (by decide) rfl w0 dX8_checkSite_2 ?_
  refine ze_get (ci := 5) (C := RX5) (T := TX5) (N := 10) (v := .int (nI (n 0))) S hiX5 hK hW 1 (ze_at0 1 rfl) rfl 0 (by decide) rfl w1 dX8_checkSite_5 ?_
  exact zx_St (As := [.int x, .int (nI (n 0))]) (rest := []) S (zt_checkNumber_t l D hst c (ze_wC c a n A B E) x (n 0) hx (by omega)) (va_cwS 2 hts gX8_checkSite_X8_checkNumber rfl rfl rfl (by decide +kernel) ⟨(Nat.le_of_ble_eq_true rfl), (Nat.le_of_ble_eq_true rfl)⟩) hlocks hF hK hW hXB htab hA rfl hl.1 rfl (lv_room (Nat.le_of_ble_eq_true rfl)) dX8_checkSite_8 ⟨(Nat.le_of_ble_eq_true rfl), (Nat.le_of_ble_eq_true rfl)⟩ (Nat.le_of_ble_eq_true rfl) (Nat.le_of_ble_eq_true rfl)
set_option maxHeartbeats 4000000 in
set_option maxRecDepth 100000 in
theorem zt_generatorAt_t (l : Launch) (D : va_G) (hst : l.stackTraces = false) (c : Nat → ClassId) (a n : Nat → Nat) (A : Nat → Nat → Int32) (B : Nat → Int64) (E : Nat → Nat → Int32) (x : Int32) (hN : zf_N n) (hx : ¬ zf_isIn x 0 (nI (n 2) - 1)) : ze_T l yX8_generatorAt wsX8_generatorAt 7 103 D c (ze_wC c a n A B E) [.ref (a 0), .int x] "java/lang/IndexOutOfBoundsException" := by
  intro sz
  refine zx_start (cc := cX8_generatorAt) (maxL := 2) (ret := (some (.object "Islandgrid$Generator"))) (own := RX8) (by decide) rfl rfl (Nat.le_of_ble_eq_true rfl) ?_
  obtain ⟨hn0, hn1, hn2, hn3, hn4⟩ := id hN
  intro p e s m_ below meth cd F ls hF hsz E0 hXB htab
  obtain ⟨S, hr, hlocks, hK, hW, hA, hl⟩ := E0
  have hX_ := S.1
  have hB_ := S.2.1
  have hts := S.2.2.2.2
  have hl : lv_has ls 2 [(0, .ref (a 0)), (1, .int x)] := hl
  have hiX0 : ∀ w ∈ u_ws RX0 TX0 5, w ∈ wsX8_generatorAt := fun _ h => (List.mem_cons_of_mem _ (List.mem_append_left _ (List.mem_append_right _ h)))
  have hiX8 : ∀ w ∈ u_ws RX8 TX8 8, w ∈ wsX8_generatorAt := fun _ h => (List.mem_cons_of_mem _ (List.mem_append_left _ (List.mem_append_left _ (List.mem_append_right _ h))))
  have w0 := hts (.fieldLink RX8 21 "Islandgrid" "fleet" "LIslandgrid$Fleet;") (List.mem_cons_of_mem _ (List.mem_append_left _ (List.mem_append_left _ (List.mem_append_left _ (List.mem_of_getElem? (i := 0) rfl)))))
  have w1 := hts (.fieldLink RX8 151 "Islandgrid$Fleet" "count" "I") (List.mem_cons_of_mem _ (List.mem_append_left _ (List.mem_append_left _ (List.mem_append_left _ (List.mem_of_getElem? (i := 1) rfl)))))
  refine lv_iload_n hX_ hB_ dX8_generatorAt_0 rfl (lv_at hl 1 rfl) ?_
  refine lv_aload_n hX_ hB_ dX8_generatorAt_1 rfl (lv_at hl 0 rfl) ?_
  refine ze_get (ci := 8) (C := RX8) (T := TX8) (N := 8) (v := .ref (a 9)) S hiX8 hK hW 0 (ze_at0 0 rfl) rfl 1 (by decide) rfl w0 dX8_generatorAt_2 ?_
  refine ze_get (ci := 0) (C := RX0) (T := TX0) (N := 5) (v := .int (nI (n 2))) S hiX0 hK hW 9 (ze_at0 9 rfl) rfl 2 (by decide) rfl w1 dX8_generatorAt_5 ?_
  exact zx_St (As := [.int x, .int (nI (n 2))]) (rest := []) S (zt_checkNumber_t l D hst c (ze_wC c a n A B E) x (n 2) hx (by omega)) (va_cwS 2 hts gX8_generatorAt_X8_checkNumber rfl rfl rfl (by decide +kernel) ⟨(Nat.le_of_ble_eq_true rfl), (Nat.le_of_ble_eq_true rfl)⟩) hlocks hF hK hW hXB htab hA rfl hl.1 rfl (lv_room (Nat.le_of_ble_eq_true rfl)) dX8_generatorAt_8 ⟨(Nat.le_of_ble_eq_true rfl), (Nat.le_of_ble_eq_true rfl)⟩ (Nat.le_of_ble_eq_true rfl) (Nat.le_of_ble_eq_true rfl)
set_option maxHeartbeats 4000000 in
set_option maxRecDepth 100000 in
theorem zt_storeAt_t (l : Launch) (D : va_G) (hst : l.stackTraces = false) (c : Nat → ClassId) (a n : Nat → Nat) (A : Nat → Nat → Int32) (B : Nat → Int64) (E : Nat → Nat → Int32) (x : Int32) (hN : zf_N n) (hx : ¬ zf_isIn x 0 (nI (n 3) - 1)) : ze_T l yX8_storeAt wsX8_storeAt 7 103 D c (ze_wC c a n A B E) [.ref (a 0), .int x] "java/lang/IndexOutOfBoundsException" := by
  intro sz
  refine zx_start (cc := cX8_storeAt) (maxL := 2) (ret := (some (.object "Islandgrid$Store"))) (own := RX8) (by decide) rfl rfl (Nat.le_of_ble_eq_true rfl) ?_
  obtain ⟨hn0, hn1, hn2, hn3, hn4⟩ := id hN
  intro p e s m_ below meth cd F ls hF hsz E0 hXB htab
  obtain ⟨S, hr, hlocks, hK, hW, hA, hl⟩ := E0
  have hX_ := S.1
  have hB_ := S.2.1
  have hts := S.2.2.2.2
  have hl : lv_has ls 2 [(0, .ref (a 0)), (1, .int x)] := hl
  have hiX6 : ∀ w ∈ u_ws RX6 TX6 3, w ∈ wsX8_storeAt := fun _ h => (List.mem_cons_of_mem _ (List.mem_append_left _ (List.mem_append_right _ h)))
  have hiX8 : ∀ w ∈ u_ws RX8 TX8 8, w ∈ wsX8_storeAt := fun _ h => (List.mem_cons_of_mem _ (List.mem_append_left _ (List.mem_append_left _ (List.mem_append_right _ h))))
  have w0 := hts (.fieldLink RX8 28 "Islandgrid" "storage" "LIslandgrid$Storage;") (List.mem_cons_of_mem _ (List.mem_append_left _ (List.mem_append_left _ (List.mem_append_left _ (List.mem_of_getElem? (i := 0) rfl)))))
  have w1 := hts (.fieldLink RX8 209 "Islandgrid$Storage" "count" "I") (List.mem_cons_of_mem _ (List.mem_append_left _ (List.mem_append_left _ (List.mem_append_left _ (List.mem_of_getElem? (i := 1) rfl)))))
  refine lv_iload_n hX_ hB_ dX8_storeAt_0 rfl (lv_at hl 1 rfl) ?_
  refine lv_aload_n hX_ hB_ dX8_storeAt_1 rfl (lv_at hl 0 rfl) ?_
  refine ze_get (ci := 8) (C := RX8) (T := TX8) (N := 8) (v := .ref (a 13)) S hiX8 hK hW 0 (ze_at0 0 rfl) rfl 2 (by decide) rfl w0 dX8_storeAt_2 ?_
  refine ze_get (ci := 6) (C := RX6) (T := TX6) (N := 3) (v := .int (nI (n 3))) S hiX6 hK hW 13 (ze_at0 13 rfl) rfl 2 (by decide) rfl w1 dX8_storeAt_5 ?_
  exact zx_St (As := [.int x, .int (nI (n 3))]) (rest := []) S (zt_checkNumber_t l D hst c (ze_wC c a n A B E) x (n 3) hx (by omega)) (va_cwS 2 hts gX8_storeAt_X8_checkNumber rfl rfl rfl (by decide +kernel) ⟨(Nat.le_of_ble_eq_true rfl), (Nat.le_of_ble_eq_true rfl)⟩) hlocks hF hK hW hXB htab hA rfl hl.1 rfl (lv_room (Nat.le_of_ble_eq_true rfl)) dX8_storeAt_8 ⟨(Nat.le_of_ble_eq_true rfl), (Nat.le_of_ble_eq_true rfl)⟩ (Nat.le_of_ble_eq_true rfl) (Nat.le_of_ble_eq_true rfl)
set_option maxHeartbeats 4000000 in
set_option maxRecDepth 100000 in
theorem zt_loadAt_t (l : Launch) (D : va_G) (hst : l.stackTraces = false) (c : Nat → ClassId) (a n : Nat → Nat) (A : Nat → Nat → Int32) (B : Nat → Int64) (E : Nat → Nat → Int32) (x : Int32) (hN : zf_N n) (hx : ¬ zf_isIn x 0 (nI (n 4) - 1)) : ze_T l yX8_loadAt wsX8_loadAt 7 103 D c (ze_wC c a n A B E) [.ref (a 0), .int x] "java/lang/IndexOutOfBoundsException" := by
  intro sz
  refine zx_start (cc := cX8_loadAt) (maxL := 2) (ret := (some (.object "Islandgrid$Load"))) (own := RX8) (by decide) rfl rfl (Nat.le_of_ble_eq_true rfl) ?_
  obtain ⟨hn0, hn1, hn2, hn3, hn4⟩ := id hN
  intro p e s m_ below meth cd F ls hF hsz E0 hXB htab
  obtain ⟨S, hr, hlocks, hK, hW, hA, hl⟩ := E0
  have hX_ := S.1
  have hB_ := S.2.1
  have hts := S.2.2.2.2
  have hl : lv_has ls 2 [(0, .ref (a 0)), (1, .int x)] := hl
  have hiX4 : ∀ w ∈ u_ws RX4 TX4 3, w ∈ wsX8_loadAt := fun _ h => (List.mem_cons_of_mem _ (List.mem_append_left _ (List.mem_append_right _ h)))
  have hiX8 : ∀ w ∈ u_ws RX8 TX8 8, w ∈ wsX8_loadAt := fun _ h => (List.mem_cons_of_mem _ (List.mem_append_left _ (List.mem_append_left _ (List.mem_append_right _ h))))
  have w0 := hts (.fieldLink RX8 35 "Islandgrid" "loads" "LIslandgrid$Loads;") (List.mem_cons_of_mem _ (List.mem_append_left _ (List.mem_append_left _ (List.mem_append_left _ (List.mem_of_getElem? (i := 0) rfl)))))
  have w1 := hts (.fieldLink RX8 226 "Islandgrid$Loads" "count" "I") (List.mem_cons_of_mem _ (List.mem_append_left _ (List.mem_append_left _ (List.mem_append_left _ (List.mem_of_getElem? (i := 1) rfl)))))
  refine lv_iload_n hX_ hB_ dX8_loadAt_0 rfl (lv_at hl 1 rfl) ?_
  refine lv_aload_n hX_ hB_ dX8_loadAt_1 rfl (lv_at hl 0 rfl) ?_
  refine ze_get (ci := 8) (C := RX8) (T := TX8) (N := 8) (v := .ref (a 15)) S hiX8 hK hW 0 (ze_at0 0 rfl) rfl 3 (by decide) rfl w0 dX8_loadAt_2 ?_
  refine ze_get (ci := 4) (C := RX4) (T := TX4) (N := 3) (v := .int (nI (n 4))) S hiX4 hK hW 15 (ze_at0 15 rfl) rfl 2 (by decide) rfl w1 dX8_loadAt_5 ?_
  exact zx_St (As := [.int x, .int (nI (n 4))]) (rest := []) S (zt_checkNumber_t l D hst c (ze_wC c a n A B E) x (n 4) hx (by omega)) (va_cwS 2 hts gX8_loadAt_X8_checkNumber rfl rfl rfl (by decide +kernel) ⟨(Nat.le_of_ble_eq_true rfl), (Nat.le_of_ble_eq_true rfl)⟩) hlocks hF hK hW hXB htab hA rfl hl.1 rfl (lv_room (Nat.le_of_ble_eq_true rfl)) dX8_loadAt_8 ⟨(Nat.le_of_ble_eq_true rfl), (Nat.le_of_ble_eq_true rfl)⟩ (Nat.le_of_ble_eq_true rfl) (Nat.le_of_ble_eq_true rfl)
set_option maxHeartbeats 4000000 in
set_option maxRecDepth 100000 in
theorem zt_addSite_t1 (l : Launch) (D : va_G) (hst : l.stackTraces = false) (c : Nat → ClassId) (a n : Nat → Nat) (A : Nat → Nat → Int32) (B : Nat → Int64) (E : Nat → Nat → Int32) (hN : zf_N n) (h : ¬ n 0 < 6) : ze_T l yX8_addSite wsX8_addSite 6 82 D c (ze_wC c a n A B E) [.ref (a 0)] "java/lang/IllegalStateException" := by
  intro sz
  refine zx_start (cc := cX8_addSite) (maxL := 1) (ret := (some .int)) (own := RX8) (by decide) rfl rfl (Nat.le_of_ble_eq_true rfl) ?_
  obtain ⟨hn0, hn1, hn2, hn3, hn4⟩ := id hN
  intro p e s m_ below meth cd F ls hF hsz E0 hXB htab
  obtain ⟨S, hr, hlocks, hK, hW, hA, hl⟩ := E0
  have hX_ := S.1
  have hB_ := S.2.1
  have hts := S.2.2.2.2
  have hl : lv_has ls 1 [(0, .ref (a 0))] := hl
  have hiX5 : ∀ w ∈ u_ws RX5 TX5 10, w ∈ wsX8_addSite := fun _ h => (List.mem_cons_of_mem _ (List.mem_append_left _ (List.mem_append_right _ h)))
  have hiX8 : ∀ w ∈ u_ws RX8 TX8 8, w ∈ wsX8_addSite := fun _ h => (List.mem_cons_of_mem _ (List.mem_append_left _ (List.mem_append_left _ (List.mem_append_right _ h))))
  have w0 := hts (.fieldLink RX8 10 "Islandgrid" "network" "LIslandgrid$Network;") (List.mem_cons_of_mem _ (List.mem_append_left _ (List.mem_append_left _ (List.mem_append_left _ (List.mem_append_left _ (List.mem_of_getElem? (i := 2) rfl))))))
  have w1 := hts (.fieldLink RX8 50 "Islandgrid$Network" "siteCount" "I") (List.mem_cons_of_mem _ (List.mem_append_left _ (List.mem_append_left _ (List.mem_append_left _ (List.mem_append_left _ (List.mem_of_getElem? (i := 3) rfl))))))
  have w2 := hts (.classLink RX8 53 "java/lang/IllegalStateException") (List.mem_cons_of_mem _ (List.mem_append_left _ (List.mem_append_left _ (List.mem_append_left _ (List.mem_append_left _ (List.mem_of_getElem? (i := 0) rfl))))))
  have w3 := hts (.initialized "java/lang/IllegalStateException") (List.mem_cons_of_mem _ (List.mem_append_left _ (List.mem_append_left _ (List.mem_append_left _ (List.mem_append_left _ (List.mem_of_getElem? (i := 1) rfl))))))
  refine lv_aload_n hX_ hB_ dX8_addSite_0 rfl (lv_at hl 0 rfl) ?_
  refine ze_get (ci := 8) (C := RX8) (T := TX8) (N := 8) (v := .ref (a 1)) S hiX8 hK hW 0 (ze_at0 0 rfl) rfl 0 (by decide) rfl w0 dX8_addSite_1 ?_
  refine ze_get (ci := 5) (C := RX5) (T := TX5) (N := 10) (v := .int (nI (n 0))) S hiX5 hK hW 1 (ze_at0 1 rfl) rfl 0 (by decide) rfl w1 dX8_addSite_4 ?_
  refine lv_bipush (v := 6) hX_ hB_ dX8_addSite_7 (by decide) ?_
  refine lv_icmp_lt (tgt := 22) hX_ hB_ dX8_addSite_9 (by decide) (fun c9 => ?_) (fun c9 => ?_)
  · have c9 : (n 0) < 6 := (nI_ltI (a := (n 0)) (b := 6) (by omega) (by omega)).mp c9
    exact absurd c9 h
  · have c9 : ¬ (n 0) < 6 := fun h9 => c9 ((nI_ltI (a := (n 0)) (b := 6) (by omega) (by omega)).mpr h9)
    exact zx_throw (is := 55) (tx := "there are 6 sites") hst S hlocks hF hK hW hXB htab hl.1 (by decide +kernel) w2 w3 (by decide +kernel) zx_g57 zx_o57 (fun _ h => (List.mem_cons_of_mem _ (List.mem_append_right _ h))) ⟨rfl, rfl⟩ dX8_addSite_12 dX8_addSite_15 dX8_addSite_16 dX8_addSite_18 dX8_addSite_21 ⟨(Nat.le_of_ble_eq_true rfl), (Nat.le_of_ble_eq_true rfl), (Nat.le_of_ble_eq_true rfl), (Nat.le_of_ble_eq_true rfl)⟩ (Nat.le_of_ble_eq_true rfl) (Nat.le_of_ble_eq_true rfl)
set_option maxHeartbeats 4000000 in
set_option maxRecDepth 100000 in
theorem zt_setPhase_t1 (l : Launch) (D : va_G) (hst : l.stackTraces = false) (c : Nat → ClassId) (a n : Nat → Nat) (A : Nat → Nat → Int32) (B : Nat → Int64) (E : Nat → Nat → Int32) (x : Int32) (hN : zf_N n) (hx : ¬ zf_isIn x 0 (nI (n 0) - 1)) (y : Int32) : ze_T l yX8_setPhase wsX8_setPhase 8 124 D c (ze_wC c a n A B E) [.ref (a 0), .int x, .int y] "java/lang/IndexOutOfBoundsException" := by
  intro sz
  refine zx_start (cc := cX8_setPhase) (maxL := 4) (ret := (some .int)) (own := RX8) (by decide) rfl rfl (Nat.le_of_ble_eq_true rfl) ?_
  obtain ⟨hn0, hn1, hn2, hn3, hn4⟩ := id hN
  intro p e s m_ below meth cd F ls hF hsz E0 hXB htab
  obtain ⟨S, hr, hlocks, hK, hW, hA, hl⟩ := E0
  have hX_ := S.1
  have hB_ := S.2.1
  have hts := S.2.2.2.2
  have hl : lv_has ls 4 [(0, .ref (a 0)), (1, .int x), (2, .int y)] := hl
  refine lv_aload_n hX_ hB_ dX8_setPhase_0 rfl (lv_at hl 0 rfl) ?_
  refine lv_iload_n hX_ hB_ dX8_setPhase_1 rfl (lv_at hl 1 rfl) ?_
  exact zx_Vt (As := [.int x]) (rest := []) (ci := 8) (q0 := 0) (k := (RX8, TX8, 8)) S (zt_checkSite_t l D hst c a n A B E x hN hx) (cwV 1 hts gX8_setPhase_X8_checkSite rfl rfl rfl (by decide +kernel) ⟨(Nat.le_of_ble_eq_true rfl), (Nat.le_of_ble_eq_true rfl)⟩) hlocks hF hK hW hXB htab hA rfl (ze_at0 0 rfl) rfl hl.1 rfl (lv_room (Nat.le_of_ble_eq_true rfl)) dX8_setPhase_2 ⟨(Nat.le_of_ble_eq_true rfl), (Nat.le_of_ble_eq_true rfl)⟩ (Nat.le_of_ble_eq_true rfl) (Nat.le_of_ble_eq_true rfl)
set_option maxHeartbeats 4000000 in
set_option maxRecDepth 100000 in
theorem zt_setPhase_t2 (l : Launch) (D : va_G) (hst : l.stackTraces = false) (c : Nat → ClassId) (a n : Nat → Nat) (A : Nat → Nat → Int32) (B : Nat → Int64) (E : Nat → Nat → Int32) (j : Nat) (hN : zf_N n) (hj : j < n 0) (y : Int32) (hy : ¬ zf_isIn y 0 359) : ze_T l yX8_setPhase wsX8_setPhase 7 104 D c (ze_wC c a n A B E) [.ref (a 0), .int (nI j), .int y] "java/lang/IllegalArgumentException" := by
  intro sz
  refine zx_start (cc := cX8_setPhase) (maxL := 4) (ret := (some .int)) (own := RX8) (by decide) rfl rfl (Nat.le_of_ble_eq_true rfl) ?_
  obtain ⟨hn0, hn1, hn2, hn3, hn4⟩ := id hN
  intro p e s m_ below meth cd F ls hF hsz E0 hXB htab
  obtain ⟨S, hr, hlocks, hK, hW, hA, hl⟩ := E0
  have hX_ := S.1
  have hB_ := S.2.1
  have hts := S.2.2.2.2
  have hl : lv_has ls 4 [(0, .ref (a 0)), (1, .int (nI j)), (2, .int y)] := hl
  refine lv_aload_n hX_ hB_ dX8_setPhase_0 rfl (lv_at hl 0 rfl) ?_
  refine lv_iload_n hX_ hB_ dX8_setPhase_1 rfl (lv_at hl 1 rfl) ?_
  refine ze_Vv (As := [.int (nI j)]) (rest := []) (ci := 8) (q0 := 0) (k := (RX8, TX8, 8)) S (zp_checkSite l D c a n A B E j hN (by omega)) (cwV 1 hts gX8_setPhase_X8_checkSite rfl rfl rfl (by decide +kernel) ⟨Nat.le_of_ble_eq_true rfl, Nat.le_of_ble_eq_true rfl⟩) hK hW hA rfl (ze_at0 0 rfl) rfl hl.1 rfl (lv_room (Nat.le_of_ble_eq_true rfl)) dX8_setPhase_2 ⟨Nat.le_of_ble_eq_true rfl, Nat.le_of_ble_eq_true rfl⟩ (fun H locs hW => ?_)
  refine lv_iload_n hX_ hB_ dX8_setPhase_5 rfl (lv_at hl 2 rfl) ?_
  refine lv_iconst (v := 0) hX_ hB_ dX8_setPhase_6 (by decide) ?_
  refine lv_sipush (v := 359) hX_ hB_ dX8_setPhase_7 (by decide) ?_
  exact zx_St (As := [.int y, .int 0, .int 359]) (rest := []) S (zt_checkRange_t l D hst c (ze_wC c a n A B E) y 0 359 hy) (va_cwS 3 hts gX8_setPhase_X8_checkRange rfl rfl rfl (by decide +kernel) ⟨(Nat.le_of_ble_eq_true rfl), (Nat.le_of_ble_eq_true rfl)⟩) hlocks hF hK hW hXB htab hA rfl hl.1 rfl (lv_room (Nat.le_of_ble_eq_true rfl)) dX8_setPhase_10 ⟨(Nat.le_of_ble_eq_true rfl), (Nat.le_of_ble_eq_true rfl)⟩ (Nat.le_of_ble_eq_true rfl) (Nat.le_of_ble_eq_true rfl)
set_option maxHeartbeats 4000000 in
set_option maxRecDepth 100000 in
theorem zt_addLine_t1a (l : Launch) (D : va_G) (hst : l.stackTraces = false) (c : Nat → ClassId) (a n : Nat → Nat) (A : Nat → Nat → Int32) (B : Nat → Int64) (E : Nat → Nat → Int32) (x : Int32) (hN : zf_N n) (hx : ¬ zf_isIn x 0 (nI (n 0) - 1)) (y : Int32) : ze_T l yX8_addLine wsX8_addLine 8 124 D c (ze_wC c a n A B E) [.ref (a 0), .int x, .int y] "java/lang/IndexOutOfBoundsException" := by
  intro sz
  refine zx_start (cc := cX8_addLine) (maxL := 3) (ret := (some .int)) (own := RX8) (by decide) rfl rfl (Nat.le_of_ble_eq_true rfl) ?_
  obtain ⟨hn0, hn1, hn2, hn3, hn4⟩ := id hN
  intro p e s m_ below meth cd F ls hF hsz E0 hXB htab
  obtain ⟨S, hr, hlocks, hK, hW, hA, hl⟩ := E0
  have hX_ := S.1
  have hB_ := S.2.1
  have hts := S.2.2.2.2
  have hl : lv_has ls 3 [(0, .ref (a 0)), (1, .int x), (2, .int y)] := hl
  refine lv_aload_n hX_ hB_ dX8_addLine_0 rfl (lv_at hl 0 rfl) ?_
  refine lv_iload_n hX_ hB_ dX8_addLine_1 rfl (lv_at hl 1 rfl) ?_
  exact zx_Vt (As := [.int x]) (rest := []) (ci := 8) (q0 := 0) (k := (RX8, TX8, 8)) S (zt_checkSite_t l D hst c a n A B E x hN hx) (cwV 1 hts gX8_addLine_X8_checkSite rfl rfl rfl (by decide +kernel) ⟨(Nat.le_of_ble_eq_true rfl), (Nat.le_of_ble_eq_true rfl)⟩) hlocks hF hK hW hXB htab hA rfl (ze_at0 0 rfl) rfl hl.1 rfl (lv_room (Nat.le_of_ble_eq_true rfl)) dX8_addLine_2 ⟨(Nat.le_of_ble_eq_true rfl), (Nat.le_of_ble_eq_true rfl)⟩ (Nat.le_of_ble_eq_true rfl) (Nat.le_of_ble_eq_true rfl)
set_option maxHeartbeats 4000000 in
set_option maxRecDepth 100000 in
theorem zt_addLine_t1b (l : Launch) (D : va_G) (hst : l.stackTraces = false) (c : Nat → ClassId) (a n : Nat → Nat) (A : Nat → Nat → Int32) (B : Nat → Int64) (E : Nat → Nat → Int32) (j : Nat) (hN : zf_N n) (hj : j < n 0) (y : Int32) (hy : ¬ zf_isIn y 0 (nI (n 0) - 1)) : ze_T l yX8_addLine wsX8_addLine 8 124 D c (ze_wC c a n A B E) [.ref (a 0), .int (nI j), .int y] "java/lang/IndexOutOfBoundsException" := by
  intro sz
  refine zx_start (cc := cX8_addLine) (maxL := 3) (ret := (some .int)) (own := RX8) (by decide) rfl rfl (Nat.le_of_ble_eq_true rfl) ?_
  obtain ⟨hn0, hn1, hn2, hn3, hn4⟩ := id hN
  intro p e s m_ below meth cd F ls hF hsz E0 hXB htab
  obtain ⟨S, hr, hlocks, hK, hW, hA, hl⟩ := E0
  have hX_ := S.1
  have hB_ := S.2.1
  have hts := S.2.2.2.2
  have hl : lv_has ls 3 [(0, .ref (a 0)), (1, .int (nI j)), (2, .int y)] := hl
  refine lv_aload_n hX_ hB_ dX8_addLine_0 rfl (lv_at hl 0 rfl) ?_
  refine lv_iload_n hX_ hB_ dX8_addLine_1 rfl (lv_at hl 1 rfl) ?_
  refine ze_Vv (As := [.int (nI j)]) (rest := []) (ci := 8) (q0 := 0) (k := (RX8, TX8, 8)) S (zp_checkSite l D c a n A B E j hN (by omega)) (cwV 1 hts gX8_addLine_X8_checkSite rfl rfl rfl (by decide +kernel) ⟨Nat.le_of_ble_eq_true rfl, Nat.le_of_ble_eq_true rfl⟩) hK hW hA rfl (ze_at0 0 rfl) rfl hl.1 rfl (lv_room (Nat.le_of_ble_eq_true rfl)) dX8_addLine_2 ⟨Nat.le_of_ble_eq_true rfl, Nat.le_of_ble_eq_true rfl⟩ (fun H locs hW => ?_)
  refine lv_aload_n hX_ hB_ dX8_addLine_5 rfl (lv_at hl 0 rfl) ?_
  refine lv_iload_n hX_ hB_ dX8_addLine_6 rfl (lv_at hl 2 rfl) ?_
  exact zx_Vt (As := [.int y]) (rest := []) (ci := 8) (q0 := 0) (k := (RX8, TX8, 8)) S (zt_checkSite_t l D hst c a n A B E y hN hy) (cwV 1 hts gX8_addLine_X8_checkSite rfl rfl rfl (by decide +kernel) ⟨(Nat.le_of_ble_eq_true rfl), (Nat.le_of_ble_eq_true rfl)⟩) hlocks hF hK hW hXB htab hA rfl (ze_at0 0 rfl) rfl hl.1 rfl (lv_room (Nat.le_of_ble_eq_true rfl)) dX8_addLine_7 ⟨(Nat.le_of_ble_eq_true rfl), (Nat.le_of_ble_eq_true rfl)⟩ (Nat.le_of_ble_eq_true rfl) (Nat.le_of_ble_eq_true rfl)
set_option maxHeartbeats 4000000 in
set_option maxRecDepth 100000 in
theorem zt_addLine_t2 (l : Launch) (D : va_G) (hst : l.stackTraces = false) (c : Nat → ClassId) (a n : Nat → Nat) (A : Nat → Nat → Int32) (B : Nat → Int64) (E : Nat → Nat → Int32) (j : Nat) (hN : zf_N n) (hj : j < n 0) (k : Nat) (hk : k < n 0) (h : j = k) : ze_T l yX8_addLine wsX8_addLine 6 82 D c (ze_wC c a n A B E) [.ref (a 0), .int (nI j), .int (nI k)] "java/lang/IllegalArgumentException" := by
  intro sz
  refine zx_start (cc := cX8_addLine) (maxL := 3) (ret := (some .int)) (own := RX8) (by decide) rfl rfl (Nat.le_of_ble_eq_true rfl) ?_
  obtain ⟨hn0, hn1, hn2, hn3, hn4⟩ := id hN
  intro p e s m_ below meth cd F ls hF hsz E0 hXB htab
  obtain ⟨S, hr, hlocks, hK, hW, hA, hl⟩ := E0
  have hX_ := S.1
  have hB_ := S.2.1
  have hts := S.2.2.2.2
  have hl : lv_has ls 3 [(0, .ref (a 0)), (1, .int (nI j)), (2, .int (nI k))] := hl
  have w0 := hts (.classLink RX8 76 "java/lang/IllegalArgumentException") (List.mem_cons_of_mem _ (List.mem_append_left _ (List.mem_append_left _ (List.mem_append_left _ (List.mem_append_left _ (List.mem_append_left _ (List.mem_append_left _ (List.mem_of_getElem? (i := 0) rfl))))))))
  have w1 := hts (.initialized "java/lang/IllegalArgumentException") (List.mem_cons_of_mem _ (List.mem_append_left _ (List.mem_append_left _ (List.mem_append_left _ (List.mem_append_left _ (List.mem_append_left _ (List.mem_append_left _ (List.mem_of_getElem? (i := 1) rfl))))))))
  refine lv_aload_n hX_ hB_ dX8_addLine_0 rfl (lv_at hl 0 rfl) ?_
  refine lv_iload_n hX_ hB_ dX8_addLine_1 rfl (lv_at hl 1 rfl) ?_
  refine ze_Vv (As := [.int (nI j)]) (rest := []) (ci := 8) (q0 := 0) (k := (RX8, TX8, 8)) S (zp_checkSite l D c a n A B E j hN (by omega)) (cwV 1 hts gX8_addLine_X8_checkSite rfl rfl rfl (by decide +kernel) ⟨Nat.le_of_ble_eq_true rfl, Nat.le_of_ble_eq_true rfl⟩) hK hW hA rfl (ze_at0 0 rfl) rfl hl.1 rfl (lv_room (Nat.le_of_ble_eq_true rfl)) dX8_addLine_2 ⟨Nat.le_of_ble_eq_true rfl, Nat.le_of_ble_eq_true rfl⟩ (fun H locs hW => ?_)
  refine lv_aload_n hX_ hB_ dX8_addLine_5 rfl (lv_at hl 0 rfl) ?_
  refine lv_iload_n hX_ hB_ dX8_addLine_6 rfl (lv_at hl 2 rfl) ?_
  refine ze_Vv (As := [.int (nI k)]) (rest := []) (ci := 8) (q0 := 0) (k := (RX8, TX8, 8)) S (zp_checkSite l D c a n A B E k hN (by omega)) (cwV 1 hts gX8_addLine_X8_checkSite rfl rfl rfl (by decide +kernel) ⟨Nat.le_of_ble_eq_true rfl, Nat.le_of_ble_eq_true rfl⟩) hK hW hA rfl (ze_at0 0 rfl) rfl hl.1 rfl (lv_room (Nat.le_of_ble_eq_true rfl)) dX8_addLine_7 ⟨Nat.le_of_ble_eq_true rfl, Nat.le_of_ble_eq_true rfl⟩ (fun H locs hW => ?_)
  refine lv_iload_n hX_ hB_ dX8_addLine_10 rfl (lv_at hl 1 rfl) ?_
  refine lv_iload_n hX_ hB_ dX8_addLine_11 rfl (lv_at hl 2 rfl) ?_
  refine lv_icmp_ne (tgt := 25) hX_ hB_ dX8_addLine_12 (by decide) (fun c12 => ?_) (fun c12 => ?_)
  · have c12 : ¬ j = k := fun h9 => c12 ((nI_eq (a := j) (b := k) (by omega) (by omega)).mpr h9)
    exact absurd h c12
  · have c12 : j = k := (nI_eq (a := j) (b := k) (by omega) (by omega)).mp c12
    exact zx_throw (is := 78) (tx := "a line is between two different sites") hst S hlocks hF hK hW hXB htab hl.1 (by decide +kernel) w0 w1 (by decide +kernel) zx_g80 zx_o80 (fun _ h => (List.mem_cons_of_mem _ (List.mem_append_left _ (List.mem_append_left _ (List.mem_append_right _ h))))) ⟨rfl, rfl⟩ dX8_addLine_15 dX8_addLine_18 dX8_addLine_19 dX8_addLine_21 dX8_addLine_24 ⟨(Nat.le_of_ble_eq_true rfl), (Nat.le_of_ble_eq_true rfl), (Nat.le_of_ble_eq_true rfl), (Nat.le_of_ble_eq_true rfl)⟩ (Nat.le_of_ble_eq_true rfl) (Nat.le_of_ble_eq_true rfl)
set_option maxHeartbeats 4000000 in
set_option maxRecDepth 100000 in
theorem zt_addLine_t3 (l : Launch) (D : va_G) (hst : l.stackTraces = false) (c : Nat → ClassId) (a n : Nat → Nat) (A : Nat → Nat → Int32) (B : Nat → Int64) (E : Nat → Nat → Int32) (j : Nat) (hN : zf_N n) (hj : j < n 0) (k : Nat) (hk : k < n 0) (h : ¬ j = k) (h8 : ¬ n 1 < 8) : ze_T l yX8_addLine wsX8_addLine 6 82 D c (ze_wC c a n A B E) [.ref (a 0), .int (nI j), .int (nI k)] "java/lang/IllegalStateException" := by
  intro sz
  refine zx_start (cc := cX8_addLine) (maxL := 3) (ret := (some .int)) (own := RX8) (by decide) rfl rfl (Nat.le_of_ble_eq_true rfl) ?_
  obtain ⟨hn0, hn1, hn2, hn3, hn4⟩ := id hN
  intro p e s m_ below meth cd F ls hF hsz E0 hXB htab
  obtain ⟨S, hr, hlocks, hK, hW, hA, hl⟩ := E0
  have hX_ := S.1
  have hB_ := S.2.1
  have hts := S.2.2.2.2
  have hl : lv_has ls 3 [(0, .ref (a 0)), (1, .int (nI j)), (2, .int (nI k))] := hl
  have hiX5 : ∀ w ∈ u_ws RX5 TX5 10, w ∈ wsX8_addLine := fun _ h => (List.mem_cons_of_mem _ (List.mem_append_left _ (List.mem_append_left _ (List.mem_append_left _ (List.mem_append_right _ h)))))
  have hiX8 : ∀ w ∈ u_ws RX8 TX8 8, w ∈ wsX8_addLine := fun _ h => (List.mem_cons_of_mem _ (List.mem_append_left _ (List.mem_append_left _ (List.mem_append_left _ (List.mem_append_left _ (List.mem_append_right _ h))))))
  have w0 := hts (.fieldLink RX8 10 "Islandgrid" "network" "LIslandgrid$Network;") (List.mem_cons_of_mem _ (List.mem_append_left _ (List.mem_append_left _ (List.mem_append_left _ (List.mem_append_left _ (List.mem_append_left _ (List.mem_append_left _ (List.mem_of_getElem? (i := 4) rfl))))))))
  have w1 := hts (.fieldLink RX8 81 "Islandgrid$Network" "lineCount" "I") (List.mem_cons_of_mem _ (List.mem_append_left _ (List.mem_append_left _ (List.mem_append_left _ (List.mem_append_left _ (List.mem_append_left _ (List.mem_append_left _ (List.mem_of_getElem? (i := 5) rfl))))))))
  have w2 := hts (.classLink RX8 53 "java/lang/IllegalStateException") (List.mem_cons_of_mem _ (List.mem_append_left _ (List.mem_append_left _ (List.mem_append_left _ (List.mem_append_left _ (List.mem_append_left _ (List.mem_append_left _ (List.mem_of_getElem? (i := 2) rfl))))))))
  have w3 := hts (.initialized "java/lang/IllegalStateException") (List.mem_cons_of_mem _ (List.mem_append_left _ (List.mem_append_left _ (List.mem_append_left _ (List.mem_append_left _ (List.mem_append_left _ (List.mem_append_left _ (List.mem_of_getElem? (i := 3) rfl))))))))
  refine lv_aload_n hX_ hB_ dX8_addLine_0 rfl (lv_at hl 0 rfl) ?_
  refine lv_iload_n hX_ hB_ dX8_addLine_1 rfl (lv_at hl 1 rfl) ?_
  refine ze_Vv (As := [.int (nI j)]) (rest := []) (ci := 8) (q0 := 0) (k := (RX8, TX8, 8)) S (zp_checkSite l D c a n A B E j hN (by omega)) (cwV 1 hts gX8_addLine_X8_checkSite rfl rfl rfl (by decide +kernel) ⟨Nat.le_of_ble_eq_true rfl, Nat.le_of_ble_eq_true rfl⟩) hK hW hA rfl (ze_at0 0 rfl) rfl hl.1 rfl (lv_room (Nat.le_of_ble_eq_true rfl)) dX8_addLine_2 ⟨Nat.le_of_ble_eq_true rfl, Nat.le_of_ble_eq_true rfl⟩ (fun H locs hW => ?_)
  refine lv_aload_n hX_ hB_ dX8_addLine_5 rfl (lv_at hl 0 rfl) ?_
  refine lv_iload_n hX_ hB_ dX8_addLine_6 rfl (lv_at hl 2 rfl) ?_
  refine ze_Vv (As := [.int (nI k)]) (rest := []) (ci := 8) (q0 := 0) (k := (RX8, TX8, 8)) S (zp_checkSite l D c a n A B E k hN (by omega)) (cwV 1 hts gX8_addLine_X8_checkSite rfl rfl rfl (by decide +kernel) ⟨Nat.le_of_ble_eq_true rfl, Nat.le_of_ble_eq_true rfl⟩) hK hW hA rfl (ze_at0 0 rfl) rfl hl.1 rfl (lv_room (Nat.le_of_ble_eq_true rfl)) dX8_addLine_7 ⟨Nat.le_of_ble_eq_true rfl, Nat.le_of_ble_eq_true rfl⟩ (fun H locs hW => ?_)
  refine lv_iload_n hX_ hB_ dX8_addLine_10 rfl (lv_at hl 1 rfl) ?_
  refine lv_iload_n hX_ hB_ dX8_addLine_11 rfl (lv_at hl 2 rfl) ?_
  refine lv_icmp_ne (tgt := 25) hX_ hB_ dX8_addLine_12 (by decide) (fun c12 => ?_) (fun c12 => ?_)
  · have c12 : ¬ j = k := fun h9 => c12 ((nI_eq (a := j) (b := k) (by omega) (by omega)).mpr h9)
    refine lv_aload_n hX_ hB_ dX8_addLine_25 rfl (lv_at hl 0 rfl) ?_
    refine ze_get (ci := 8) (C := RX8) (T := TX8) (N := 8) (v := .ref (a 1)) S hiX8 hK hW 0 (ze_at0 0 rfl) rfl 0 (by decide) rfl w0 dX8_addLine_26 ?_
    refine ze_get (ci := 5) (C := RX5) (T := TX5) (N := 10) (v := .int (nI (n 1))) S hiX5 hK hW 1 (ze_at0 1 rfl) rfl 1 (by decide) rfl w1 dX8_addLine_29 ?_
    refine lv_bipush (v := 8) hX_ hB_ dX8_addLine_32 (by decide) ?_
    refine lv_icmp_lt (tgt := 47) hX_ hB_ dX8_addLine_34 (by decide) (fun c34 => ?_) (fun c34 => ?_)
    · have c34 : (n 1) < 8 := (nI_ltI (a := (n 1)) (b := 8) (by omega) (by omega)).mp c34
      exact absurd c34 h8
    · have c34 : ¬ (n 1) < 8 := fun h9 => c34 ((nI_ltI (a := (n 1)) (b := 8) (by omega) (by omega)).mpr h9)
      exact zx_throw (is := 84) (tx := "there are 8 lines") hst S hlocks hF hK hW hXB htab hl.1 (by decide +kernel) w2 w3 (by decide +kernel) zx_g57 zx_o57 (fun _ h => (List.mem_cons_of_mem _ (List.mem_append_left _ (List.mem_append_right _ h)))) ⟨rfl, rfl⟩ dX8_addLine_37 dX8_addLine_40 dX8_addLine_41 dX8_addLine_43 dX8_addLine_46 ⟨(Nat.le_of_ble_eq_true rfl), (Nat.le_of_ble_eq_true rfl), (Nat.le_of_ble_eq_true rfl), (Nat.le_of_ble_eq_true rfl)⟩ (Nat.le_of_ble_eq_true rfl) (Nat.le_of_ble_eq_true rfl)
  · have c12 : j = k := (nI_eq (a := j) (b := k) (by omega) (by omega)).mp c12
    exact absurd c12 h
set_option maxHeartbeats 4000000 in
set_option maxRecDepth 100000 in
theorem zt_close_t1 (l : Launch) (D : va_G) (hst : l.stackTraces = false) (c : Nat → ClassId) (a n : Nat → Nat) (A : Nat → Nat → Int32) (B : Nat → Int64) (E : Nat → Nat → Int32) (x : Int32) (hN : zf_N n) (hx : ¬ zf_isIn x 0 (nI (n 1) - 1)) : ze_T l yX8_close wsX8_close 7 103 D c (ze_wC c a n A B E) [.ref (a 0), .int x] "java/lang/IndexOutOfBoundsException" := by
  intro sz
  refine zx_start (cc := cX8_close) (maxL := 2) (ret := (some .int)) (own := RX8) (by decide) rfl rfl (Nat.le_of_ble_eq_true rfl) ?_
  obtain ⟨hn0, hn1, hn2, hn3, hn4⟩ := id hN
  intro p e s m_ below meth cd F ls hF hsz E0 hXB htab
  obtain ⟨S, hr, hlocks, hK, hW, hA, hl⟩ := E0
  have hX_ := S.1
  have hB_ := S.2.1
  have hts := S.2.2.2.2
  have hl : lv_has ls 2 [(0, .ref (a 0)), (1, .int x)] := hl
  have hiX5 : ∀ w ∈ u_ws RX5 TX5 10, w ∈ wsX8_close := fun _ h => (List.mem_cons_of_mem _ (List.mem_append_left _ (List.mem_append_left _ (List.mem_append_left _ (List.mem_append_right _ h)))))
  have hiX8 : ∀ w ∈ u_ws RX8 TX8 8, w ∈ wsX8_close := fun _ h => (List.mem_cons_of_mem _ (List.mem_append_left _ (List.mem_append_left _ (List.mem_append_left _ (List.mem_append_left _ (List.mem_append_right _ h))))))
  have w0 := hts (.fieldLink RX8 10 "Islandgrid" "network" "LIslandgrid$Network;") (List.mem_cons_of_mem _ (List.mem_append_left _ (List.mem_append_left _ (List.mem_append_left _ (List.mem_append_left _ (List.mem_append_left _ (List.mem_append_left _ (List.mem_of_getElem? (i := 4) rfl))))))))
  have w1 := hts (.fieldLink RX8 81 "Islandgrid$Network" "lineCount" "I") (List.mem_cons_of_mem _ (List.mem_append_left _ (List.mem_append_left _ (List.mem_append_left _ (List.mem_append_left _ (List.mem_append_left _ (List.mem_append_left _ (List.mem_of_getElem? (i := 5) rfl))))))))
  refine lv_iload_n hX_ hB_ dX8_close_0 rfl (lv_at hl 1 rfl) ?_
  refine lv_aload_n hX_ hB_ dX8_close_1 rfl (lv_at hl 0 rfl) ?_
  refine ze_get (ci := 8) (C := RX8) (T := TX8) (N := 8) (v := .ref (a 1)) S hiX8 hK hW 0 (ze_at0 0 rfl) rfl 0 (by decide) rfl w0 dX8_close_2 ?_
  refine ze_get (ci := 5) (C := RX5) (T := TX5) (N := 10) (v := .int (nI (n 1))) S hiX5 hK hW 1 (ze_at0 1 rfl) rfl 1 (by decide) rfl w1 dX8_close_5 ?_
  exact zx_St (As := [.int x, .int (nI (n 1))]) (rest := []) S (zt_checkNumber_t l D hst c (ze_wC c a n A B E) x (n 1) hx (by omega)) (va_cwS 2 hts gX8_close_X8_checkNumber rfl rfl rfl (by decide +kernel) ⟨(Nat.le_of_ble_eq_true rfl), (Nat.le_of_ble_eq_true rfl)⟩) hlocks hF hK hW hXB htab hA rfl hl.1 rfl (lv_room (Nat.le_of_ble_eq_true rfl)) dX8_close_8 ⟨(Nat.le_of_ble_eq_true rfl), (Nat.le_of_ble_eq_true rfl)⟩ (Nat.le_of_ble_eq_true rfl) (Nat.le_of_ble_eq_true rfl)
set_option maxHeartbeats 4000000 in
set_option maxRecDepth 100000 in
theorem zt_open_t1 (l : Launch) (D : va_G) (hst : l.stackTraces = false) (c : Nat → ClassId) (a n : Nat → Nat) (A : Nat → Nat → Int32) (B : Nat → Int64) (E : Nat → Nat → Int32) (x : Int32) (hN : zf_N n) (hx : ¬ zf_isIn x 0 (nI (n 1) - 1)) : ze_T l yX8_open wsX8_open 7 103 D c (ze_wC c a n A B E) [.ref (a 0), .int x] "java/lang/IndexOutOfBoundsException" := by
  intro sz
  refine zx_start (cc := cX8_open) (maxL := 2) (ret := (some .int)) (own := RX8) (by decide) rfl rfl (Nat.le_of_ble_eq_true rfl) ?_
  obtain ⟨hn0, hn1, hn2, hn3, hn4⟩ := id hN
  intro p e s m_ below meth cd F ls hF hsz E0 hXB htab
  obtain ⟨S, hr, hlocks, hK, hW, hA, hl⟩ := E0
  have hX_ := S.1
  have hB_ := S.2.1
  have hts := S.2.2.2.2
  have hl : lv_has ls 2 [(0, .ref (a 0)), (1, .int x)] := hl
  have hiX5 : ∀ w ∈ u_ws RX5 TX5 10, w ∈ wsX8_open := fun _ h => (List.mem_cons_of_mem _ (List.mem_append_left _ (List.mem_append_left _ (List.mem_append_right _ h))))
  have hiX8 : ∀ w ∈ u_ws RX8 TX8 8, w ∈ wsX8_open := fun _ h => (List.mem_cons_of_mem _ (List.mem_append_left _ (List.mem_append_left _ (List.mem_append_left _ (List.mem_append_right _ h)))))
  have w0 := hts (.fieldLink RX8 10 "Islandgrid" "network" "LIslandgrid$Network;") (List.mem_cons_of_mem _ (List.mem_append_left _ (List.mem_append_left _ (List.mem_append_left _ (List.mem_append_left _ (List.mem_append_left _ (List.mem_of_getElem? (i := 2) rfl)))))))
  have w1 := hts (.fieldLink RX8 81 "Islandgrid$Network" "lineCount" "I") (List.mem_cons_of_mem _ (List.mem_append_left _ (List.mem_append_left _ (List.mem_append_left _ (List.mem_append_left _ (List.mem_append_left _ (List.mem_of_getElem? (i := 3) rfl)))))))
  refine lv_iload_n hX_ hB_ dX8_open_0 rfl (lv_at hl 1 rfl) ?_
  refine lv_aload_n hX_ hB_ dX8_open_1 rfl (lv_at hl 0 rfl) ?_
  refine ze_get (ci := 8) (C := RX8) (T := TX8) (N := 8) (v := .ref (a 1)) S hiX8 hK hW 0 (ze_at0 0 rfl) rfl 0 (by decide) rfl w0 dX8_open_2 ?_
  refine ze_get (ci := 5) (C := RX5) (T := TX5) (N := 10) (v := .int (nI (n 1))) S hiX5 hK hW 1 (ze_at0 1 rfl) rfl 1 (by decide) rfl w1 dX8_open_5 ?_
  exact zx_St (As := [.int x, .int (nI (n 1))]) (rest := []) S (zt_checkNumber_t l D hst c (ze_wC c a n A B E) x (n 1) hx (by omega)) (va_cwS 2 hts gX8_open_X8_checkNumber rfl rfl rfl (by decide +kernel) ⟨(Nat.le_of_ble_eq_true rfl), (Nat.le_of_ble_eq_true rfl)⟩) hlocks hF hK hW hXB htab hA rfl hl.1 rfl (lv_room (Nat.le_of_ble_eq_true rfl)) dX8_open_8 ⟨(Nat.le_of_ble_eq_true rfl), (Nat.le_of_ble_eq_true rfl)⟩ (Nat.le_of_ble_eq_true rfl) (Nat.le_of_ble_eq_true rfl)
set_option maxHeartbeats 4000000 in
set_option maxRecDepth 100000 in
theorem zt_close_t2 (l : Launch) (D : va_G) (hst : l.stackTraces = false) (c : Nat → ClassId) (a n : Nat → Nat) (A : Nat → Nat → Int32) (B : Nat → Int64) (E : Nat → Nat → Int32) (j : Nat) (hN : zf_N n) (hj : j < n 1) (h4 : ¬ A 4 j = 0) : ze_T l yX8_close wsX8_close 6 82 D c (ze_wC c a n A B E) [.ref (a 0), .int (nI j)] "java/lang/IllegalStateException" := by
  intro sz
  refine zx_start (cc := cX8_close) (maxL := 2) (ret := (some .int)) (own := RX8) (by decide) rfl rfl (Nat.le_of_ble_eq_true rfl) ?_
  obtain ⟨hn0, hn1, hn2, hn3, hn4⟩ := id hN
  intro p e s m_ below meth cd F ls hF hsz E0 hXB htab
  obtain ⟨S, hr, hlocks, hK, hW, hA, hl⟩ := E0
  have hX_ := S.1
  have hB_ := S.2.1
  have hts := S.2.2.2.2
  have hl : lv_has ls 2 [(0, .ref (a 0)), (1, .int (nI j))] := hl
  have hiX5 : ∀ w ∈ u_ws RX5 TX5 10, w ∈ wsX8_close := fun _ h => (List.mem_cons_of_mem _ (List.mem_append_left _ (List.mem_append_left _ (List.mem_append_left _ (List.mem_append_right _ h)))))
  have hiX8 : ∀ w ∈ u_ws RX8 TX8 8, w ∈ wsX8_close := fun _ h => (List.mem_cons_of_mem _ (List.mem_append_left _ (List.mem_append_left _ (List.mem_append_left _ (List.mem_append_left _ (List.mem_append_right _ h))))))
  have w0 := hts (.fieldLink RX8 10 "Islandgrid" "network" "LIslandgrid$Network;") (List.mem_cons_of_mem _ (List.mem_append_left _ (List.mem_append_left _ (List.mem_append_left _ (List.mem_append_left _ (List.mem_append_left _ (List.mem_append_left _ (List.mem_of_getElem? (i := 4) rfl))))))))
  have w1 := hts (.fieldLink RX8 81 "Islandgrid$Network" "lineCount" "I") (List.mem_cons_of_mem _ (List.mem_append_left _ (List.mem_append_left _ (List.mem_append_left _ (List.mem_append_left _ (List.mem_append_left _ (List.mem_append_left _ (List.mem_of_getElem? (i := 5) rfl))))))))
  have w2 := hts (.fieldLink RX8 94 "Islandgrid$Network" "closed" "[Z") (List.mem_cons_of_mem _ (List.mem_append_left _ (List.mem_append_left _ (List.mem_append_left _ (List.mem_append_left _ (List.mem_append_left _ (List.mem_append_left _ (List.mem_of_getElem? (i := 6) rfl))))))))
  have w3 := hts (.classLink RX8 53 "java/lang/IllegalStateException") (List.mem_cons_of_mem _ (List.mem_append_left _ (List.mem_append_left _ (List.mem_append_left _ (List.mem_append_left _ (List.mem_append_left _ (List.mem_append_left _ (List.mem_of_getElem? (i := 0) rfl))))))))
  have w4 := hts (.initialized "java/lang/IllegalStateException") (List.mem_cons_of_mem _ (List.mem_append_left _ (List.mem_append_left _ (List.mem_append_left _ (List.mem_append_left _ (List.mem_append_left _ (List.mem_append_left _ (List.mem_of_getElem? (i := 1) rfl))))))))
  refine lv_iload_n hX_ hB_ dX8_close_0 rfl (lv_at hl 1 rfl) ?_
  refine lv_aload_n hX_ hB_ dX8_close_1 rfl (lv_at hl 0 rfl) ?_
  refine ze_get (ci := 8) (C := RX8) (T := TX8) (N := 8) (v := .ref (a 1)) S hiX8 hK hW 0 (ze_at0 0 rfl) rfl 0 (by decide) rfl w0 dX8_close_2 ?_
  refine ze_get (ci := 5) (C := RX5) (T := TX5) (N := 10) (v := .int (nI (n 1))) S hiX5 hK hW 1 (ze_at0 1 rfl) rfl 1 (by decide) rfl w1 dX8_close_5 ?_
  refine ze_Sv (As := [.int (nI j), .int (nI (n 1))]) (rest := []) S (zp_checkNumber l D c (ze_wC c a n A B E) j (n 1) (by omega) (by omega)) (va_cwS 2 hts gX8_close_X8_checkNumber rfl rfl rfl (by decide +kernel) ⟨Nat.le_of_ble_eq_true rfl, Nat.le_of_ble_eq_true rfl⟩) hK hW hA rfl hl.1 rfl (lv_room (Nat.le_of_ble_eq_true rfl)) dX8_close_8 ⟨Nat.le_of_ble_eq_true rfl, Nat.le_of_ble_eq_true rfl⟩ (fun H locs hW => ?_)
  refine lv_aload_n hX_ hB_ dX8_close_11 rfl (lv_at hl 0 rfl) ?_
  refine ze_get (ci := 8) (C := RX8) (T := TX8) (N := 8) (v := .ref (a 1)) S hiX8 hK hW 0 (ze_at0 0 rfl) rfl 0 (by decide) rfl w0 dX8_close_12 ?_
  refine ze_get (ci := 5) (C := RX5) (T := TX5) (N := 10) (v := .ref (a 6)) S hiX5 hK hW 1 (ze_at0 1 rfl) rfl 7 (by decide) rfl w2 dX8_close_15 ?_
  refine lv_iload_n hX_ hB_ dX8_close_18 rfl (lv_at hl 1 rfl) ?_
  refine ze_zaldN hX_ hB_ hK hW 6 (f := A 4) (ze_at0 6 rfl) (i := j) (by omega) (by decide) dX8_close_19 ?_
  refine lv_if_eq (tgt := 33) hX_ hB_ dX8_close_20 (by decide) (fun c20 => ?_) (fun c20 => ?_)
  · exact absurd c20 h4
  · exact zx_throw (is := 98) (tx := "the line is closed") hst S hlocks hF hK hW hXB htab hl.1 (by decide +kernel) w3 w4 (by decide +kernel) zx_g57 zx_o57 (fun _ h => (List.mem_cons_of_mem _ (List.mem_append_left _ (List.mem_append_left _ (List.mem_append_right _ h))))) ⟨rfl, rfl⟩ dX8_close_23 dX8_close_26 dX8_close_27 dX8_close_29 dX8_close_32 ⟨(Nat.le_of_ble_eq_true rfl), (Nat.le_of_ble_eq_true rfl), (Nat.le_of_ble_eq_true rfl), (Nat.le_of_ble_eq_true rfl)⟩ (Nat.le_of_ble_eq_true rfl) (Nat.le_of_ble_eq_true rfl)
set_option maxHeartbeats 4000000 in
set_option maxRecDepth 100000 in
theorem zt_close_t3 (l : Launch) (D : va_G) (hst : l.stackTraces = false) (c : Nat → ClassId) (a n : Nat → Nat) (A : Nat → Nat → Int32) (B : Nat → Int64) (E : Nat → Nat → Int32) (j : Nat) (hN : zf_N n) (hj : j < n 1) (hS : zf_S n A) (hE : ∀ x, zf_site n x → zf_site n (E 0 (ze_ix x))) (h4 : A 4 j = 0) (hg : ¬ zf_gapC A (E 0) j ≤ 10) : ze_T l yX8_close wsX8_close 6 82 D c (ze_wC c a n A B E) [.ref (a 0), .int (nI j)] "java/lang/UnsupportedOperationException" := by
  intro sz
  refine zx_start (cc := cX8_close) (maxL := 2) (ret := (some .int)) (own := RX8) (by decide) rfl rfl (Nat.le_of_ble_eq_true rfl) ?_
  obtain ⟨hn0, hn1, hn2, hn3, hn4⟩ := id hN
  intro p e s m_ below meth cd F ls hF hsz E0 hXB htab
  obtain ⟨S, hr, hlocks, hK, hW, hA, hl⟩ := E0
  have hX_ := S.1
  have hB_ := S.2.1
  have hts := S.2.2.2.2
  have hl : lv_has ls 2 [(0, .ref (a 0)), (1, .int (nI j))] := hl
  have hiX5 : ∀ w ∈ u_ws RX5 TX5 10, w ∈ wsX8_close := fun _ h => (List.mem_cons_of_mem _ (List.mem_append_left _ (List.mem_append_left _ (List.mem_append_left _ (List.mem_append_right _ h)))))
  have hiX8 : ∀ w ∈ u_ws RX8 TX8 8, w ∈ wsX8_close := fun _ h => (List.mem_cons_of_mem _ (List.mem_append_left _ (List.mem_append_left _ (List.mem_append_left _ (List.mem_append_left _ (List.mem_append_right _ h))))))
  have w0 := hts (.fieldLink RX8 10 "Islandgrid" "network" "LIslandgrid$Network;") (List.mem_cons_of_mem _ (List.mem_append_left _ (List.mem_append_left _ (List.mem_append_left _ (List.mem_append_left _ (List.mem_append_left _ (List.mem_append_left _ (List.mem_of_getElem? (i := 4) rfl))))))))
  have w1 := hts (.fieldLink RX8 81 "Islandgrid$Network" "lineCount" "I") (List.mem_cons_of_mem _ (List.mem_append_left _ (List.mem_append_left _ (List.mem_append_left _ (List.mem_append_left _ (List.mem_append_left _ (List.mem_append_left _ (List.mem_of_getElem? (i := 5) rfl))))))))
  have w2 := hts (.fieldLink RX8 94 "Islandgrid$Network" "closed" "[Z") (List.mem_cons_of_mem _ (List.mem_append_left _ (List.mem_append_left _ (List.mem_append_left _ (List.mem_append_left _ (List.mem_append_left _ (List.mem_append_left _ (List.mem_of_getElem? (i := 6) rfl))))))))
  have w3 := hts (.classLink RX8 104 "java/lang/UnsupportedOperationException") (List.mem_cons_of_mem _ (List.mem_append_left _ (List.mem_append_left _ (List.mem_append_left _ (List.mem_append_left _ (List.mem_append_left _ (List.mem_append_left _ (List.mem_of_getElem? (i := 2) rfl))))))))
  have w4 := hts (.initialized "java/lang/UnsupportedOperationException") (List.mem_cons_of_mem _ (List.mem_append_left _ (List.mem_append_left _ (List.mem_append_left _ (List.mem_append_left _ (List.mem_append_left _ (List.mem_append_left _ (List.mem_of_getElem? (i := 3) rfl))))))))
  refine lv_iload_n hX_ hB_ dX8_close_0 rfl (lv_at hl 1 rfl) ?_
  refine lv_aload_n hX_ hB_ dX8_close_1 rfl (lv_at hl 0 rfl) ?_
  refine ze_get (ci := 8) (C := RX8) (T := TX8) (N := 8) (v := .ref (a 1)) S hiX8 hK hW 0 (ze_at0 0 rfl) rfl 0 (by decide) rfl w0 dX8_close_2 ?_
  refine ze_get (ci := 5) (C := RX5) (T := TX5) (N := 10) (v := .int (nI (n 1))) S hiX5 hK hW 1 (ze_at0 1 rfl) rfl 1 (by decide) rfl w1 dX8_close_5 ?_
  refine ze_Sv (As := [.int (nI j), .int (nI (n 1))]) (rest := []) S (zp_checkNumber l D c (ze_wC c a n A B E) j (n 1) (by omega) (by omega)) (va_cwS 2 hts gX8_close_X8_checkNumber rfl rfl rfl (by decide +kernel) ⟨Nat.le_of_ble_eq_true rfl, Nat.le_of_ble_eq_true rfl⟩) hK hW hA rfl hl.1 rfl (lv_room (Nat.le_of_ble_eq_true rfl)) dX8_close_8 ⟨Nat.le_of_ble_eq_true rfl, Nat.le_of_ble_eq_true rfl⟩ (fun H locs hW => ?_)
  refine lv_aload_n hX_ hB_ dX8_close_11 rfl (lv_at hl 0 rfl) ?_
  refine ze_get (ci := 8) (C := RX8) (T := TX8) (N := 8) (v := .ref (a 1)) S hiX8 hK hW 0 (ze_at0 0 rfl) rfl 0 (by decide) rfl w0 dX8_close_12 ?_
  refine ze_get (ci := 5) (C := RX5) (T := TX5) (N := 10) (v := .ref (a 6)) S hiX5 hK hW 1 (ze_at0 1 rfl) rfl 7 (by decide) rfl w2 dX8_close_15 ?_
  refine lv_iload_n hX_ hB_ dX8_close_18 rfl (lv_at hl 1 rfl) ?_
  refine ze_zaldN hX_ hB_ hK hW 6 (f := A 4) (ze_at0 6 rfl) (i := j) (by omega) (by decide) dX8_close_19 ?_
  refine lv_if_eq (tgt := 33) hX_ hB_ dX8_close_20 (by decide) (fun c20 => ?_) (fun c20 => ?_)
  · refine lv_aload_n hX_ hB_ dX8_close_33 rfl (lv_at hl 0 rfl) ?_
    refine ze_get (ci := 8) (C := RX8) (T := TX8) (N := 8) (v := .ref (a 1)) S hiX8 hK hW 0 (ze_at0 0 rfl) rfl 0 (by decide) rfl w0 dX8_close_34 ?_
    refine lv_iload_n hX_ hB_ dX8_close_37 rfl (lv_at hl 1 rfl) ?_
    refine ze_Vi (As := [.int (nI j)]) (rest := []) (ci := 5) (q0 := 1) (k := (RX5, TX5, 10)) S (zc_5_gapOf l D c a n A B E j hN hS (by omega) hE) (cwV 1 hts gX8_close_X5_gapOf rfl rfl rfl (by decide +kernel) ⟨Nat.le_of_ble_eq_true rfl, Nat.le_of_ble_eq_true rfl⟩) hK hW hA rfl (ze_at0 1 rfl) rfl hl.1 rfl (lv_room (Nat.le_of_ble_eq_true rfl)) dX8_close_38 ⟨Nat.le_of_ble_eq_true rfl, Nat.le_of_ble_eq_true rfl⟩ (fun H locs hW => ?_)
    refine lv_bipush (v := 10) hX_ hB_ dX8_close_41 (by decide) ?_
    refine lv_icmp_le (tgt := 56) hX_ hB_ dX8_close_43 (by decide) (fun c43 => ?_) (fun c43 => ?_)
    · exact absurd c43 hg
    · exact zx_throw (is := 106) (tx := "the phases do not fit") hst S hlocks hF hK hW hXB htab hl.1 (by decide +kernel) w3 w4 (by decide +kernel) zx_g108 zx_o108 (fun _ h => (List.mem_cons_of_mem _ (List.mem_append_left _ (List.mem_append_right _ h)))) ⟨rfl, rfl⟩ dX8_close_46 dX8_close_49 dX8_close_50 dX8_close_52 dX8_close_55 ⟨(Nat.le_of_ble_eq_true rfl), (Nat.le_of_ble_eq_true rfl), (Nat.le_of_ble_eq_true rfl), (Nat.le_of_ble_eq_true rfl)⟩ (Nat.le_of_ble_eq_true rfl) (Nat.le_of_ble_eq_true rfl)
  · exact absurd h4 c20
set_option maxHeartbeats 4000000 in
set_option maxRecDepth 100000 in
theorem zt_open_t2 (l : Launch) (D : va_G) (hst : l.stackTraces = false) (c : Nat → ClassId) (a n : Nat → Nat) (A : Nat → Nat → Int32) (B : Nat → Int64) (E : Nat → Nat → Int32) (j : Nat) (hN : zf_N n) (hj : j < n 1) (h4 : A 4 j = 0) : ze_T l yX8_open wsX8_open 6 82 D c (ze_wC c a n A B E) [.ref (a 0), .int (nI j)] "java/lang/IllegalStateException" := by
  intro sz
  refine zx_start (cc := cX8_open) (maxL := 2) (ret := (some .int)) (own := RX8) (by decide) rfl rfl (Nat.le_of_ble_eq_true rfl) ?_
  obtain ⟨hn0, hn1, hn2, hn3, hn4⟩ := id hN
  intro p e s m_ below meth cd F ls hF hsz E0 hXB htab
  obtain ⟨S, hr, hlocks, hK, hW, hA, hl⟩ := E0
  have hX_ := S.1
  have hB_ := S.2.1
  have hts := S.2.2.2.2
  have hl : lv_has ls 2 [(0, .ref (a 0)), (1, .int (nI j))] := hl
  have hiX5 : ∀ w ∈ u_ws RX5 TX5 10, w ∈ wsX8_open := fun _ h => (List.mem_cons_of_mem _ (List.mem_append_left _ (List.mem_append_left _ (List.mem_append_right _ h))))
  have hiX8 : ∀ w ∈ u_ws RX8 TX8 8, w ∈ wsX8_open := fun _ h => (List.mem_cons_of_mem _ (List.mem_append_left _ (List.mem_append_left _ (List.mem_append_left _ (List.mem_append_right _ h)))))
  have w0 := hts (.fieldLink RX8 10 "Islandgrid" "network" "LIslandgrid$Network;") (List.mem_cons_of_mem _ (List.mem_append_left _ (List.mem_append_left _ (List.mem_append_left _ (List.mem_append_left _ (List.mem_append_left _ (List.mem_of_getElem? (i := 2) rfl)))))))
  have w1 := hts (.fieldLink RX8 81 "Islandgrid$Network" "lineCount" "I") (List.mem_cons_of_mem _ (List.mem_append_left _ (List.mem_append_left _ (List.mem_append_left _ (List.mem_append_left _ (List.mem_append_left _ (List.mem_of_getElem? (i := 3) rfl)))))))
  have w2 := hts (.fieldLink RX8 94 "Islandgrid$Network" "closed" "[Z") (List.mem_cons_of_mem _ (List.mem_append_left _ (List.mem_append_left _ (List.mem_append_left _ (List.mem_append_left _ (List.mem_append_left _ (List.mem_of_getElem? (i := 4) rfl)))))))
  have w3 := hts (.classLink RX8 53 "java/lang/IllegalStateException") (List.mem_cons_of_mem _ (List.mem_append_left _ (List.mem_append_left _ (List.mem_append_left _ (List.mem_append_left _ (List.mem_append_left _ (List.mem_of_getElem? (i := 0) rfl)))))))
  have w4 := hts (.initialized "java/lang/IllegalStateException") (List.mem_cons_of_mem _ (List.mem_append_left _ (List.mem_append_left _ (List.mem_append_left _ (List.mem_append_left _ (List.mem_append_left _ (List.mem_of_getElem? (i := 1) rfl)))))))
  refine lv_iload_n hX_ hB_ dX8_open_0 rfl (lv_at hl 1 rfl) ?_
  refine lv_aload_n hX_ hB_ dX8_open_1 rfl (lv_at hl 0 rfl) ?_
  refine ze_get (ci := 8) (C := RX8) (T := TX8) (N := 8) (v := .ref (a 1)) S hiX8 hK hW 0 (ze_at0 0 rfl) rfl 0 (by decide) rfl w0 dX8_open_2 ?_
  refine ze_get (ci := 5) (C := RX5) (T := TX5) (N := 10) (v := .int (nI (n 1))) S hiX5 hK hW 1 (ze_at0 1 rfl) rfl 1 (by decide) rfl w1 dX8_open_5 ?_
  refine ze_Sv (As := [.int (nI j), .int (nI (n 1))]) (rest := []) S (zp_checkNumber l D c (ze_wC c a n A B E) j (n 1) (by omega) (by omega)) (va_cwS 2 hts gX8_open_X8_checkNumber rfl rfl rfl (by decide +kernel) ⟨Nat.le_of_ble_eq_true rfl, Nat.le_of_ble_eq_true rfl⟩) hK hW hA rfl hl.1 rfl (lv_room (Nat.le_of_ble_eq_true rfl)) dX8_open_8 ⟨Nat.le_of_ble_eq_true rfl, Nat.le_of_ble_eq_true rfl⟩ (fun H locs hW => ?_)
  refine lv_aload_n hX_ hB_ dX8_open_11 rfl (lv_at hl 0 rfl) ?_
  refine ze_get (ci := 8) (C := RX8) (T := TX8) (N := 8) (v := .ref (a 1)) S hiX8 hK hW 0 (ze_at0 0 rfl) rfl 0 (by decide) rfl w0 dX8_open_12 ?_
  refine ze_get (ci := 5) (C := RX5) (T := TX5) (N := 10) (v := .ref (a 6)) S hiX5 hK hW 1 (ze_at0 1 rfl) rfl 7 (by decide) rfl w2 dX8_open_15 ?_
  refine lv_iload_n hX_ hB_ dX8_open_18 rfl (lv_at hl 1 rfl) ?_
  refine ze_zaldN hX_ hB_ hK hW 6 (f := A 4) (ze_at0 6 rfl) (i := j) (by omega) (by decide) dX8_open_19 ?_
  refine lv_if_ne (tgt := 33) hX_ hB_ dX8_open_20 (by decide) (fun c20 => ?_) (fun c20 => ?_)
  · exact absurd h4 c20
  · exact zx_throw (is := 116) (tx := "the line is open") hst S hlocks hF hK hW hXB htab hl.1 (by decide +kernel) w3 w4 (by decide +kernel) zx_g57 zx_o57 (fun _ h => (List.mem_cons_of_mem _ (List.mem_append_left _ (List.mem_append_right _ h)))) ⟨rfl, rfl⟩ dX8_open_23 dX8_open_26 dX8_open_27 dX8_open_29 dX8_open_32 ⟨(Nat.le_of_ble_eq_true rfl), (Nat.le_of_ble_eq_true rfl), (Nat.le_of_ble_eq_true rfl), (Nat.le_of_ble_eq_true rfl)⟩ (Nat.le_of_ble_eq_true rfl) (Nat.le_of_ble_eq_true rfl)
set_option maxHeartbeats 4000000 in
set_option maxRecDepth 100000 in
theorem zt_tie_t1 (l : Launch) (D : va_G) (hst : l.stackTraces = false) (c : Nat → ClassId) (a n : Nat → Nat) (A : Nat → Nat → Int32) (B : Nat → Int64) (E : Nat → Nat → Int32) (hN : zf_N n) (h : n 0 = 0) : ze_T l yX8_tie wsX8_tie 6 82 D c (ze_wC c a n A B E) [.ref (a 0)] "java/util/NoSuchElementException" := by
  intro sz
  refine zx_start (cc := cX8_tie) (maxL := 1) (ret := (some .int)) (own := RX8) (by decide) rfl rfl (Nat.le_of_ble_eq_true rfl) ?_
  obtain ⟨hn0, hn1, hn2, hn3, hn4⟩ := id hN
  intro p e s m_ below meth cd F ls hF hsz E0 hXB htab
  obtain ⟨S, hr, hlocks, hK, hW, hA, hl⟩ := E0
  have hX_ := S.1
  have hB_ := S.2.1
  have hts := S.2.2.2.2
  have hl : lv_has ls 1 [(0, .ref (a 0))] := hl
  have hiX5 : ∀ w ∈ u_ws RX5 TX5 10, w ∈ wsX8_tie := fun _ h => (List.mem_cons_of_mem _ (List.mem_append_left _ (List.mem_append_left _ (List.mem_append_left _ (List.mem_append_right _ h)))))
  have hiX8 : ∀ w ∈ u_ws RX8 TX8 8, w ∈ wsX8_tie := fun _ h => (List.mem_cons_of_mem _ (List.mem_append_left _ (List.mem_append_left _ (List.mem_append_left _ (List.mem_append_left _ (List.mem_append_right _ h))))))
  have w0 := hts (.fieldLink RX8 10 "Islandgrid" "network" "LIslandgrid$Network;") (List.mem_cons_of_mem _ (List.mem_append_left _ (List.mem_append_left _ (List.mem_append_left _ (List.mem_append_left _ (List.mem_append_left _ (List.mem_append_left _ (List.mem_of_getElem? (i := 6) rfl))))))))
  have w1 := hts (.fieldLink RX8 50 "Islandgrid$Network" "siteCount" "I") (List.mem_cons_of_mem _ (List.mem_append_left _ (List.mem_append_left _ (List.mem_append_left _ (List.mem_append_left _ (List.mem_append_left _ (List.mem_append_left _ (List.mem_of_getElem? (i := 7) rfl))))))))
  have w2 := hts (.classLink RX8 118 "java/util/NoSuchElementException") (List.mem_cons_of_mem _ (List.mem_append_left _ (List.mem_append_left _ (List.mem_append_left _ (List.mem_append_left _ (List.mem_append_left _ (List.mem_append_left _ (List.mem_of_getElem? (i := 0) rfl))))))))
  have w3 := hts (.initialized "java/util/NoSuchElementException") (List.mem_cons_of_mem _ (List.mem_append_left _ (List.mem_append_left _ (List.mem_append_left _ (List.mem_append_left _ (List.mem_append_left _ (List.mem_append_left _ (List.mem_of_getElem? (i := 1) rfl))))))))
  refine lv_aload_n hX_ hB_ dX8_tie_0 rfl (lv_at hl 0 rfl) ?_
  refine ze_get (ci := 8) (C := RX8) (T := TX8) (N := 8) (v := .ref (a 1)) S hiX8 hK hW 0 (ze_at0 0 rfl) rfl 0 (by decide) rfl w0 dX8_tie_1 ?_
  refine ze_get (ci := 5) (C := RX5) (T := TX5) (N := 10) (v := .int (nI (n 0))) S hiX5 hK hW 1 (ze_at0 1 rfl) rfl 0 (by decide) rfl w1 dX8_tie_4 ?_
  refine lv_if_ne (tgt := 20) hX_ hB_ dX8_tie_7 (by decide) (fun c7 => ?_) (fun c7 => ?_)
  · have c7 : ¬ (n 0) = 0 := fun h9 => c7 ((nI_eq (a := (n 0)) (b := 0) (by omega) (by omega)).mpr h9)
    exact absurd h c7
  · have c7 : (n 0) = 0 := (nI_eq (a := (n 0)) (b := 0) (by omega) (by omega)).mp c7
    exact zm_thr (is := 120) (tx := "there is no site") hst S hlocks hF hK hW hXB htab hl.1 (by decide +kernel) w2 w3 (by decide +kernel) zm_g122 zm_o122 (fun _ h => (List.mem_cons_of_mem _ (List.mem_append_left _ (List.mem_append_left _ (List.mem_append_right _ h))))) ⟨rfl, rfl⟩ dX8_tie_10 dX8_tie_13 dX8_tie_14 dX8_tie_16 dX8_tie_19 ⟨(Nat.le_of_ble_eq_true rfl), (Nat.le_of_ble_eq_true rfl), (Nat.le_of_ble_eq_true rfl), (Nat.le_of_ble_eq_true rfl)⟩ (Nat.le_of_ble_eq_true rfl) (Nat.le_of_ble_eq_true rfl)
set_option maxHeartbeats 4000000 in
set_option maxRecDepth 100000 in
theorem zt_tie_t2 (l : Launch) (D : va_G) (hst : l.stackTraces = false) (c : Nat → ClassId) (a n : Nat → Nat) (A : Nat → Nat → Int32) (B : Nat → Int64) (E : Nat → Nat → Int32) (hN : zf_N n) (h : ¬ n 0 = 0) (h2 : ¬ A 38 0 = 0) : ze_T l yX8_tie wsX8_tie 6 82 D c (ze_wC c a n A B E) [.ref (a 0)] "java/lang/IllegalStateException" := by
  intro sz
  refine zx_start (cc := cX8_tie) (maxL := 1) (ret := (some .int)) (own := RX8) (by decide) rfl rfl (Nat.le_of_ble_eq_true rfl) ?_
  obtain ⟨hn0, hn1, hn2, hn3, hn4⟩ := id hN
  intro p e s m_ below meth cd F ls hF hsz E0 hXB htab
  obtain ⟨S, hr, hlocks, hK, hW, hA, hl⟩ := E0
  have hX_ := S.1
  have hB_ := S.2.1
  have hts := S.2.2.2.2
  have hl : lv_has ls 1 [(0, .ref (a 0))] := hl
  have hiX5 : ∀ w ∈ u_ws RX5 TX5 10, w ∈ wsX8_tie := fun _ h => (List.mem_cons_of_mem _ (List.mem_append_left _ (List.mem_append_left _ (List.mem_append_left _ (List.mem_append_right _ h)))))
  have hiX8 : ∀ w ∈ u_ws RX8 TX8 8, w ∈ wsX8_tie := fun _ h => (List.mem_cons_of_mem _ (List.mem_append_left _ (List.mem_append_left _ (List.mem_append_left _ (List.mem_append_left _ (List.mem_append_right _ h))))))
  have w0 := hts (.fieldLink RX8 10 "Islandgrid" "network" "LIslandgrid$Network;") (List.mem_cons_of_mem _ (List.mem_append_left _ (List.mem_append_left _ (List.mem_append_left _ (List.mem_append_left _ (List.mem_append_left _ (List.mem_append_left _ (List.mem_of_getElem? (i := 6) rfl))))))))
  have w1 := hts (.fieldLink RX8 50 "Islandgrid$Network" "siteCount" "I") (List.mem_cons_of_mem _ (List.mem_append_left _ (List.mem_append_left _ (List.mem_append_left _ (List.mem_append_left _ (List.mem_append_left _ (List.mem_append_left _ (List.mem_of_getElem? (i := 7) rfl))))))))
  have w2 := hts (.fieldLink RX8 123 "Islandgrid$Network" "tied" "Z") (List.mem_cons_of_mem _ (List.mem_append_left _ (List.mem_append_left _ (List.mem_append_left _ (List.mem_append_left _ (List.mem_append_left _ (List.mem_append_left _ (List.mem_of_getElem? (i := 8) rfl))))))))
  have w3 := hts (.classLink RX8 53 "java/lang/IllegalStateException") (List.mem_cons_of_mem _ (List.mem_append_left _ (List.mem_append_left _ (List.mem_append_left _ (List.mem_append_left _ (List.mem_append_left _ (List.mem_append_left _ (List.mem_of_getElem? (i := 2) rfl))))))))
  have w4 := hts (.initialized "java/lang/IllegalStateException") (List.mem_cons_of_mem _ (List.mem_append_left _ (List.mem_append_left _ (List.mem_append_left _ (List.mem_append_left _ (List.mem_append_left _ (List.mem_append_left _ (List.mem_of_getElem? (i := 3) rfl))))))))
  refine lv_aload_n hX_ hB_ dX8_tie_0 rfl (lv_at hl 0 rfl) ?_
  refine ze_get (ci := 8) (C := RX8) (T := TX8) (N := 8) (v := .ref (a 1)) S hiX8 hK hW 0 (ze_at0 0 rfl) rfl 0 (by decide) rfl w0 dX8_tie_1 ?_
  refine ze_get (ci := 5) (C := RX5) (T := TX5) (N := 10) (v := .int (nI (n 0))) S hiX5 hK hW 1 (ze_at0 1 rfl) rfl 0 (by decide) rfl w1 dX8_tie_4 ?_
  refine lv_if_ne (tgt := 20) hX_ hB_ dX8_tie_7 (by decide) (fun c7 => ?_) (fun c7 => ?_)
  · have c7 : ¬ (n 0) = 0 := fun h9 => c7 ((nI_eq (a := (n 0)) (b := 0) (by omega) (by omega)).mpr h9)
    refine lv_aload_n hX_ hB_ dX8_tie_20 rfl (lv_at hl 0 rfl) ?_
    refine ze_get (ci := 8) (C := RX8) (T := TX8) (N := 8) (v := .ref (a 1)) S hiX8 hK hW 0 (ze_at0 0 rfl) rfl 0 (by decide) rfl w0 dX8_tie_21 ?_
    refine ze_get (ci := 5) (C := RX5) (T := TX5) (N := 10) (v := .int (A 38 0)) S hiX5 hK hW 1 (ze_at0 1 rfl) rfl 2 (by decide) rfl w2 dX8_tie_24 ?_
    refine lv_if_eq (tgt := 40) hX_ hB_ dX8_tie_27 (by decide) (fun c27 => ?_) (fun c27 => ?_)
    · exact absurd c27 h2
    · exact zx_throw (is := 127) (tx := "the main grid is tied") hst S hlocks hF hK hW hXB htab hl.1 (by decide +kernel) w3 w4 (by decide +kernel) zx_g57 zx_o57 (fun _ h => (List.mem_cons_of_mem _ (List.mem_append_left _ (List.mem_append_right _ h)))) ⟨rfl, rfl⟩ dX8_tie_30 dX8_tie_33 dX8_tie_34 dX8_tie_36 dX8_tie_39 ⟨(Nat.le_of_ble_eq_true rfl), (Nat.le_of_ble_eq_true rfl), (Nat.le_of_ble_eq_true rfl), (Nat.le_of_ble_eq_true rfl)⟩ (Nat.le_of_ble_eq_true rfl) (Nat.le_of_ble_eq_true rfl)
  · have c7 : (n 0) = 0 := (nI_eq (a := (n 0)) (b := 0) (by omega) (by omega)).mp c7
    exact absurd c7 h
set_option maxHeartbeats 4000000 in
set_option maxRecDepth 100000 in
theorem zt_tie_t3 (l : Launch) (D : va_G) (hst : l.stackTraces = false) (c : Nat → ClassId) (a n : Nat → Nat) (A : Nat → Nat → Int32) (B : Nat → Int64) (E : Nat → Nat → Int32) (hN : zf_N n) (h : ¬ n 0 = 0) (h2 : A 38 0 = 0) (h3 : ¬ ze_mn (ze_ab ((if zf_tied A 0 then 0 else A 0 (ze_ix 0)) - 0)) (360 - ze_ab ((if zf_tied A 0 then 0 else A 0 (ze_ix 0)) - 0)) ≤ 10) : ze_T l yX8_tie wsX8_tie 6 82 D c (ze_wC c a n A B E) [.ref (a 0)] "java/lang/UnsupportedOperationException" := by
  intro sz
  refine zx_start (cc := cX8_tie) (maxL := 1) (ret := (some .int)) (own := RX8) (by decide) rfl rfl (Nat.le_of_ble_eq_true rfl) ?_
  obtain ⟨hn0, hn1, hn2, hn3, hn4⟩ := id hN
  intro p e s m_ below meth cd F ls hF hsz E0 hXB htab
  obtain ⟨S, hr, hlocks, hK, hW, hA, hl⟩ := E0
  have hX_ := S.1
  have hB_ := S.2.1
  have hts := S.2.2.2.2
  have hl : lv_has ls 1 [(0, .ref (a 0))] := hl
  have hiX5 : ∀ w ∈ u_ws RX5 TX5 10, w ∈ wsX8_tie := fun _ h => (List.mem_cons_of_mem _ (List.mem_append_left _ (List.mem_append_left _ (List.mem_append_left _ (List.mem_append_right _ h)))))
  have hiX8 : ∀ w ∈ u_ws RX8 TX8 8, w ∈ wsX8_tie := fun _ h => (List.mem_cons_of_mem _ (List.mem_append_left _ (List.mem_append_left _ (List.mem_append_left _ (List.mem_append_left _ (List.mem_append_right _ h))))))
  have w0 := hts (.fieldLink RX8 10 "Islandgrid" "network" "LIslandgrid$Network;") (List.mem_cons_of_mem _ (List.mem_append_left _ (List.mem_append_left _ (List.mem_append_left _ (List.mem_append_left _ (List.mem_append_left _ (List.mem_append_left _ (List.mem_of_getElem? (i := 6) rfl))))))))
  have w1 := hts (.fieldLink RX8 50 "Islandgrid$Network" "siteCount" "I") (List.mem_cons_of_mem _ (List.mem_append_left _ (List.mem_append_left _ (List.mem_append_left _ (List.mem_append_left _ (List.mem_append_left _ (List.mem_append_left _ (List.mem_of_getElem? (i := 7) rfl))))))))
  have w2 := hts (.fieldLink RX8 123 "Islandgrid$Network" "tied" "Z") (List.mem_cons_of_mem _ (List.mem_append_left _ (List.mem_append_left _ (List.mem_append_left _ (List.mem_append_left _ (List.mem_append_left _ (List.mem_append_left _ (List.mem_of_getElem? (i := 8) rfl))))))))
  have w3 := hts (.classLink RX8 104 "java/lang/UnsupportedOperationException") (List.mem_cons_of_mem _ (List.mem_append_left _ (List.mem_append_left _ (List.mem_append_left _ (List.mem_append_left _ (List.mem_append_left _ (List.mem_append_left _ (List.mem_of_getElem? (i := 4) rfl))))))))
  have w4 := hts (.initialized "java/lang/UnsupportedOperationException") (List.mem_cons_of_mem _ (List.mem_append_left _ (List.mem_append_left _ (List.mem_append_left _ (List.mem_append_left _ (List.mem_append_left _ (List.mem_append_left _ (List.mem_of_getElem? (i := 5) rfl))))))))
  refine lv_aload_n hX_ hB_ dX8_tie_0 rfl (lv_at hl 0 rfl) ?_
  refine ze_get (ci := 8) (C := RX8) (T := TX8) (N := 8) (v := .ref (a 1)) S hiX8 hK hW 0 (ze_at0 0 rfl) rfl 0 (by decide) rfl w0 dX8_tie_1 ?_
  refine ze_get (ci := 5) (C := RX5) (T := TX5) (N := 10) (v := .int (nI (n 0))) S hiX5 hK hW 1 (ze_at0 1 rfl) rfl 0 (by decide) rfl w1 dX8_tie_4 ?_
  refine lv_if_ne (tgt := 20) hX_ hB_ dX8_tie_7 (by decide) (fun c7 => ?_) (fun c7 => ?_)
  · have c7 : ¬ (n 0) = 0 := fun h9 => c7 ((nI_eq (a := (n 0)) (b := 0) (by omega) (by omega)).mpr h9)
    refine lv_aload_n hX_ hB_ dX8_tie_20 rfl (lv_at hl 0 rfl) ?_
    refine ze_get (ci := 8) (C := RX8) (T := TX8) (N := 8) (v := .ref (a 1)) S hiX8 hK hW 0 (ze_at0 0 rfl) rfl 0 (by decide) rfl w0 dX8_tie_21 ?_
    refine ze_get (ci := 5) (C := RX5) (T := TX5) (N := 10) (v := .int (A 38 0)) S hiX5 hK hW 1 (ze_at0 1 rfl) rfl 2 (by decide) rfl w2 dX8_tie_24 ?_
    refine lv_if_eq (tgt := 40) hX_ hB_ dX8_tie_27 (by decide) (fun c27 => ?_) (fun c27 => ?_)
    · refine lv_aload_n hX_ hB_ dX8_tie_40 rfl (lv_at hl 0 rfl) ?_
      refine ze_get (ci := 8) (C := RX8) (T := TX8) (N := 8) (v := .ref (a 1)) S hiX8 hK hW 0 (ze_at0 0 rfl) rfl 0 (by decide) rfl w0 dX8_tie_41 ?_
      refine lv_iconst (v := 0) hX_ hB_ dX8_tie_44 (by decide) ?_
      refine ze_Vi (As := [.int 0]) (rest := []) (ci := 5) (q0 := 1) (k := (RX5, TX5, 10)) S (zc_5_phaseOf l D c a n A B E 0 hN ⟨0, (by omega), rfl⟩) (cwV 1 hts gX8_tie_X5_phaseOf rfl rfl rfl (by decide +kernel) ⟨Nat.le_of_ble_eq_true rfl, Nat.le_of_ble_eq_true rfl⟩) hK hW hA rfl (ze_at0 1 rfl) rfl hl.1 rfl (lv_room (Nat.le_of_ble_eq_true rfl)) dX8_tie_45 ⟨Nat.le_of_ble_eq_true rfl, Nat.le_of_ble_eq_true rfl⟩ (fun H locs hW => ?_)
      refine lv_iconst (v := 0) hX_ hB_ dX8_tie_48 (by decide) ?_
      refine ze_Si (As := [.int (if zf_tied A 0 then 0 else A 0 (ze_ix 0)), .int 0]) (rest := []) S (zc_X5_apart l D c (ze_wC c a n A B E) (if zf_tied A 0 then 0 else A 0 (ze_ix 0)) 0) (va_cwS 2 hts gX8_tie_X5_apart rfl rfl rfl (by decide +kernel) ⟨Nat.le_of_ble_eq_true rfl, Nat.le_of_ble_eq_true rfl⟩) hK hW hA rfl hl.1 rfl (lv_room (Nat.le_of_ble_eq_true rfl)) dX8_tie_49 ⟨Nat.le_of_ble_eq_true rfl, Nat.le_of_ble_eq_true rfl⟩ (fun H locs hW => ?_)
      refine lv_bipush (v := 10) hX_ hB_ dX8_tie_52 (by decide) ?_
      refine lv_icmp_le (tgt := 67) hX_ hB_ dX8_tie_54 (by decide) (fun c54 => ?_) (fun c54 => ?_)
      · exact absurd c54 h3
      · exact zx_throw (is := 106) (tx := "the phases do not fit") hst S hlocks hF hK hW hXB htab hl.1 (by decide +kernel) w3 w4 (by decide +kernel) zx_g108 zx_o108 (fun _ h => (List.mem_cons_of_mem _ (List.mem_append_right _ h))) ⟨rfl, rfl⟩ dX8_tie_57 dX8_tie_60 dX8_tie_61 dX8_tie_63 dX8_tie_66 ⟨(Nat.le_of_ble_eq_true rfl), (Nat.le_of_ble_eq_true rfl), (Nat.le_of_ble_eq_true rfl), (Nat.le_of_ble_eq_true rfl)⟩ (Nat.le_of_ble_eq_true rfl) (Nat.le_of_ble_eq_true rfl)
    · exact absurd h2 c27
  · have c7 : (n 0) = 0 := (nI_eq (a := (n 0)) (b := 0) (by omega) (by omega)).mp c7
    exact absurd c7 h
set_option maxHeartbeats 4000000 in
set_option maxRecDepth 100000 in
theorem zt_untie_t1 (l : Launch) (D : va_G) (hst : l.stackTraces = false) (c : Nat → ClassId) (a n : Nat → Nat) (A : Nat → Nat → Int32) (B : Nat → Int64) (E : Nat → Nat → Int32) (h2 : A 38 0 = 0) : ze_T l yX8_untie wsX8_untie 6 82 D c (ze_wC c a n A B E) [.ref (a 0)] "java/lang/IllegalStateException" := by
  intro sz
  refine zx_start (cc := cX8_untie) (maxL := 1) (ret := (some .int)) (own := RX8) (by decide) rfl rfl (Nat.le_of_ble_eq_true rfl) ?_
  intro p e s m_ below meth cd F ls hF hsz E0 hXB htab
  obtain ⟨S, hr, hlocks, hK, hW, hA, hl⟩ := E0
  have hX_ := S.1
  have hB_ := S.2.1
  have hts := S.2.2.2.2
  have hl : lv_has ls 1 [(0, .ref (a 0))] := hl
  have hiX5 : ∀ w ∈ u_ws RX5 TX5 10, w ∈ wsX8_untie := fun _ h => (List.mem_cons_of_mem _ (List.mem_append_left _ (List.mem_append_right _ h)))
  have hiX8 : ∀ w ∈ u_ws RX8 TX8 8, w ∈ wsX8_untie := fun _ h => (List.mem_cons_of_mem _ (List.mem_append_left _ (List.mem_append_left _ (List.mem_append_right _ h))))
  have w0 := hts (.fieldLink RX8 10 "Islandgrid" "network" "LIslandgrid$Network;") (List.mem_cons_of_mem _ (List.mem_append_left _ (List.mem_append_left _ (List.mem_append_left _ (List.mem_of_getElem? (i := 2) rfl)))))
  have w1 := hts (.fieldLink RX8 123 "Islandgrid$Network" "tied" "Z") (List.mem_cons_of_mem _ (List.mem_append_left _ (List.mem_append_left _ (List.mem_append_left _ (List.mem_of_getElem? (i := 3) rfl)))))
  have w2 := hts (.classLink RX8 53 "java/lang/IllegalStateException") (List.mem_cons_of_mem _ (List.mem_append_left _ (List.mem_append_left _ (List.mem_append_left _ (List.mem_of_getElem? (i := 0) rfl)))))
  have w3 := hts (.initialized "java/lang/IllegalStateException") (List.mem_cons_of_mem _ (List.mem_append_left _ (List.mem_append_left _ (List.mem_append_left _ (List.mem_of_getElem? (i := 1) rfl)))))
  refine lv_aload_n hX_ hB_ dX8_untie_0 rfl (lv_at hl 0 rfl) ?_
  refine ze_get (ci := 8) (C := RX8) (T := TX8) (N := 8) (v := .ref (a 1)) S hiX8 hK hW 0 (ze_at0 0 rfl) rfl 0 (by decide) rfl w0 dX8_untie_1 ?_
  refine ze_get (ci := 5) (C := RX5) (T := TX5) (N := 10) (v := .int (A 38 0)) S hiX5 hK hW 1 (ze_at0 1 rfl) rfl 2 (by decide) rfl w1 dX8_untie_4 ?_
  refine lv_if_ne (tgt := 20) hX_ hB_ dX8_untie_7 (by decide) (fun c7 => ?_) (fun c7 => ?_)
  · exact absurd h2 c7
  · exact zx_throw (is := 138) (tx := "the main grid is not tied") hst S hlocks hF hK hW hXB htab hl.1 (by decide +kernel) w2 w3 (by decide +kernel) zx_g57 zx_o57 (fun _ h => (List.mem_cons_of_mem _ (List.mem_append_right _ h))) ⟨rfl, rfl⟩ dX8_untie_10 dX8_untie_13 dX8_untie_14 dX8_untie_16 dX8_untie_19 ⟨(Nat.le_of_ble_eq_true rfl), (Nat.le_of_ble_eq_true rfl), (Nat.le_of_ble_eq_true rfl), (Nat.le_of_ble_eq_true rfl)⟩ (Nat.le_of_ble_eq_true rfl) (Nat.le_of_ble_eq_true rfl)
set_option maxHeartbeats 4000000 in
set_option maxRecDepth 100000 in
theorem zt_startNext_t1 (l : Launch) (D : va_G) (hst : l.stackTraces = false) (c : Nat → ClassId) (a n : Nat → Nat) (A : Nat → Nat → Int32) (B : Nat → Int64) (E : Nat → Nat → Int32) (x : Int32) (hN : zf_N n) (hx : ¬ zf_isIn x 0 (nI (n 0) - 1)) : ze_T l yX8_startNext wsX8_startNext 8 124 D c (ze_wC c a n A B E) [.ref (a 0), .int x] "java/lang/IndexOutOfBoundsException" := by
  intro sz
  refine zx_start (cc := cX8_startNext) (maxL := 3) (ret := (some .int)) (own := RX8) (by decide) rfl rfl (Nat.le_of_ble_eq_true rfl) ?_
  obtain ⟨hn0, hn1, hn2, hn3, hn4⟩ := id hN
  intro p e s m_ below meth cd F ls hF hsz E0 hXB htab
  obtain ⟨S, hr, hlocks, hK, hW, hA, hl⟩ := E0
  have hX_ := S.1
  have hB_ := S.2.1
  have hts := S.2.2.2.2
  have hl : lv_has ls 3 [(0, .ref (a 0)), (1, .int x)] := hl
  refine lv_aload_n hX_ hB_ dX8_startNext_0 rfl (lv_at hl 0 rfl) ?_
  refine lv_iload_n hX_ hB_ dX8_startNext_1 rfl (lv_at hl 1 rfl) ?_
  exact zx_Vt (As := [.int x]) (rest := []) (ci := 8) (q0 := 0) (k := (RX8, TX8, 8)) S (zt_checkSite_t l D hst c a n A B E x hN hx) (cwV 1 hts gX8_startNext_X8_checkSite rfl rfl rfl (by decide +kernel) ⟨(Nat.le_of_ble_eq_true rfl), (Nat.le_of_ble_eq_true rfl)⟩) hlocks hF hK hW hXB htab hA rfl (ze_at0 0 rfl) rfl hl.1 rfl (lv_room (Nat.le_of_ble_eq_true rfl)) dX8_startNext_2 ⟨(Nat.le_of_ble_eq_true rfl), (Nat.le_of_ble_eq_true rfl)⟩ (Nat.le_of_ble_eq_true rfl) (Nat.le_of_ble_eq_true rfl)
set_option maxHeartbeats 4000000 in
set_option maxRecDepth 100000 in
theorem zt_bound_t1 (l : Launch) (D : va_G) (hst : l.stackTraces = false) (c : Nat → ClassId) (a n : Nat → Nat) (A : Nat → Nat → Int32) (B : Nat → Int64) (E : Nat → Nat → Int32) (x : Int32) (hN : zf_N n) (hx : ¬ zf_isIn x 0 (nI (n 0) - 1)) : ze_T l yX8_bound wsX8_bound 8 124 D c (ze_wC c a n A B E) [.ref (a 0), .int x] "java/lang/IndexOutOfBoundsException" := by
  intro sz
  refine zx_start (cc := cX8_bound) (maxL := 2) (ret := (some .int)) (own := RX8) (by decide) rfl rfl (Nat.le_of_ble_eq_true rfl) ?_
  obtain ⟨hn0, hn1, hn2, hn3, hn4⟩ := id hN
  intro p e s m_ below meth cd F ls hF hsz E0 hXB htab
  obtain ⟨S, hr, hlocks, hK, hW, hA, hl⟩ := E0
  have hX_ := S.1
  have hB_ := S.2.1
  have hts := S.2.2.2.2
  have hl : lv_has ls 2 [(0, .ref (a 0)), (1, .int x)] := hl
  refine lv_aload_n hX_ hB_ dX8_bound_0 rfl (lv_at hl 0 rfl) ?_
  refine lv_iload_n hX_ hB_ dX8_bound_1 rfl (lv_at hl 1 rfl) ?_
  exact zx_Vt (As := [.int x]) (rest := []) (ci := 8) (q0 := 0) (k := (RX8, TX8, 8)) S (zt_checkSite_t l D hst c a n A B E x hN hx) (cwV 1 hts gX8_bound_X8_checkSite rfl rfl rfl (by decide +kernel) ⟨(Nat.le_of_ble_eq_true rfl), (Nat.le_of_ble_eq_true rfl)⟩) hlocks hF hK hW hXB htab hA rfl (ze_at0 0 rfl) rfl hl.1 rfl (lv_room (Nat.le_of_ble_eq_true rfl)) dX8_bound_2 ⟨(Nat.le_of_ble_eq_true rfl), (Nat.le_of_ble_eq_true rfl)⟩ (Nat.le_of_ble_eq_true rfl) (Nat.le_of_ble_eq_true rfl)
set_option maxHeartbeats 4000000 in
set_option maxRecDepth 100000 in
theorem zt_demand_t1 (l : Launch) (D : va_G) (hst : l.stackTraces = false) (c : Nat → ClassId) (a n : Nat → Nat) (A : Nat → Nat → Int32) (B : Nat → Int64) (E : Nat → Nat → Int32) (x : Int32) (hN : zf_N n) (hx : ¬ zf_isIn x 0 (nI (n 0) - 1)) : ze_T l yX8_demand wsX8_demand 8 124 D c (ze_wC c a n A B E) [.ref (a 0), .int x] "java/lang/IndexOutOfBoundsException" := by
  intro sz
  refine zx_start (cc := cX8_demand) (maxL := 2) (ret := (some .int)) (own := RX8) (by decide) rfl rfl (Nat.le_of_ble_eq_true rfl) ?_
  obtain ⟨hn0, hn1, hn2, hn3, hn4⟩ := id hN
  intro p e s m_ below meth cd F ls hF hsz E0 hXB htab
  obtain ⟨S, hr, hlocks, hK, hW, hA, hl⟩ := E0
  have hX_ := S.1
  have hB_ := S.2.1
  have hts := S.2.2.2.2
  have hl : lv_has ls 2 [(0, .ref (a 0)), (1, .int x)] := hl
  refine lv_aload_n hX_ hB_ dX8_demand_0 rfl (lv_at hl 0 rfl) ?_
  refine lv_iload_n hX_ hB_ dX8_demand_1 rfl (lv_at hl 1 rfl) ?_
  exact zx_Vt (As := [.int x]) (rest := []) (ci := 8) (q0 := 0) (k := (RX8, TX8, 8)) S (zt_checkSite_t l D hst c a n A B E x hN hx) (cwV 1 hts gX8_demand_X8_checkSite rfl rfl rfl (by decide +kernel) ⟨(Nat.le_of_ble_eq_true rfl), (Nat.le_of_ble_eq_true rfl)⟩) hlocks hF hK hW hXB htab hA rfl (ze_at0 0 rfl) rfl hl.1 rfl (lv_room (Nat.le_of_ble_eq_true rfl)) dX8_demand_2 ⟨(Nat.le_of_ble_eq_true rfl), (Nat.le_of_ble_eq_true rfl)⟩ (Nat.le_of_ble_eq_true rfl) (Nat.le_of_ble_eq_true rfl)
set_option maxHeartbeats 4000000 in
set_option maxRecDepth 100000 in
theorem zt_start_t1 (l : Launch) (D : va_G) (hst : l.stackTraces = false) (c : Nat → ClassId) (a n : Nat → Nat) (A : Nat → Nat → Int32) (B : Nat → Int64) (E : Nat → Nat → Int32) (x : Int32) (hN : zf_N n) (hx : ¬ zf_isIn x 0 (nI (n 2) - 1)) : ze_T l yX8_start wsX8_start 8 124 D c (ze_wC c a n A B E) [.ref (a 0), .int x] "java/lang/IndexOutOfBoundsException" := by
  intro sz
  refine zx_start (cc := cX8_start) (maxL := 3) (ret := (some .int)) (own := RX8) (by decide) rfl rfl (Nat.le_of_ble_eq_true rfl) ?_
  obtain ⟨hn0, hn1, hn2, hn3, hn4⟩ := id hN
  intro p e s m_ below meth cd F ls hF hsz E0 hXB htab
  obtain ⟨S, hr, hlocks, hK, hW, hA, hl⟩ := E0
  have hX_ := S.1
  have hB_ := S.2.1
  have hts := S.2.2.2.2
  have hl : lv_has ls 3 [(0, .ref (a 0)), (1, .int x)] := hl
  refine lv_aload_n hX_ hB_ dX8_start_0 rfl (lv_at hl 0 rfl) ?_
  refine lv_iload_n hX_ hB_ dX8_start_1 rfl (lv_at hl 1 rfl) ?_
  exact zx_Vt (As := [.int x]) (rest := []) (ci := 8) (q0 := 0) (k := (RX8, TX8, 8)) S (zt_generatorAt_t l D hst c a n A B E x hN hx) (cwV 1 hts gX8_start_X8_generatorAt rfl rfl rfl (by decide +kernel) ⟨(Nat.le_of_ble_eq_true rfl), (Nat.le_of_ble_eq_true rfl)⟩) hlocks hF hK hW hXB htab hA rfl (ze_at0 0 rfl) rfl hl.1 rfl (lv_room (Nat.le_of_ble_eq_true rfl)) dX8_start_2 ⟨(Nat.le_of_ble_eq_true rfl), (Nat.le_of_ble_eq_true rfl)⟩ (Nat.le_of_ble_eq_true rfl) (Nat.le_of_ble_eq_true rfl)
set_option maxHeartbeats 4000000 in
set_option maxRecDepth 100000 in
theorem zt_stop_t1 (l : Launch) (D : va_G) (hst : l.stackTraces = false) (c : Nat → ClassId) (a n : Nat → Nat) (A : Nat → Nat → Int32) (B : Nat → Int64) (E : Nat → Nat → Int32) (x : Int32) (hN : zf_N n) (hx : ¬ zf_isIn x 0 (nI (n 2) - 1)) : ze_T l yX8_stop wsX8_stop 8 124 D c (ze_wC c a n A B E) [.ref (a 0), .int x] "java/lang/IndexOutOfBoundsException" := by
  intro sz
  refine zx_start (cc := cX8_stop) (maxL := 3) (ret := (some .int)) (own := RX8) (by decide) rfl rfl (Nat.le_of_ble_eq_true rfl) ?_
  obtain ⟨hn0, hn1, hn2, hn3, hn4⟩ := id hN
  intro p e s m_ below meth cd F ls hF hsz E0 hXB htab
  obtain ⟨S, hr, hlocks, hK, hW, hA, hl⟩ := E0
  have hX_ := S.1
  have hB_ := S.2.1
  have hts := S.2.2.2.2
  have hl : lv_has ls 3 [(0, .ref (a 0)), (1, .int x)] := hl
  refine lv_aload_n hX_ hB_ dX8_stop_0 rfl (lv_at hl 0 rfl) ?_
  refine lv_iload_n hX_ hB_ dX8_stop_1 rfl (lv_at hl 1 rfl) ?_
  exact zx_Vt (As := [.int x]) (rest := []) (ci := 8) (q0 := 0) (k := (RX8, TX8, 8)) S (zt_generatorAt_t l D hst c a n A B E x hN hx) (cwV 1 hts gX8_stop_X8_generatorAt rfl rfl rfl (by decide +kernel) ⟨(Nat.le_of_ble_eq_true rfl), (Nat.le_of_ble_eq_true rfl)⟩) hlocks hF hK hW hXB htab hA rfl (ze_at0 0 rfl) rfl hl.1 rfl (lv_room (Nat.le_of_ble_eq_true rfl)) dX8_stop_2 ⟨(Nat.le_of_ble_eq_true rfl), (Nat.le_of_ble_eq_true rfl)⟩ (Nat.le_of_ble_eq_true rfl) (Nat.le_of_ble_eq_true rfl)
set_option maxHeartbeats 4000000 in
set_option maxRecDepth 100000 in
theorem zt_state_t1 (l : Launch) (D : va_G) (hst : l.stackTraces = false) (c : Nat → ClassId) (a n : Nat → Nat) (A : Nat → Nat → Int32) (B : Nat → Int64) (E : Nat → Nat → Int32) (x : Int32) (hN : zf_N n) (hx : ¬ zf_isIn x 0 (nI (n 2) - 1)) : ze_T l yX8_state wsX8_state 8 124 D c (ze_wC c a n A B E) [.ref (a 0), .int x] "java/lang/IndexOutOfBoundsException" := by
  intro sz
  refine zx_start (cc := cX8_state) (maxL := 2) (ret := (some .char)) (own := RX8) (by decide) rfl rfl (Nat.le_of_ble_eq_true rfl) ?_
  obtain ⟨hn0, hn1, hn2, hn3, hn4⟩ := id hN
  intro p e s m_ below meth cd F ls hF hsz E0 hXB htab
  obtain ⟨S, hr, hlocks, hK, hW, hA, hl⟩ := E0
  have hX_ := S.1
  have hB_ := S.2.1
  have hts := S.2.2.2.2
  have hl : lv_has ls 2 [(0, .ref (a 0)), (1, .int x)] := hl
  refine lv_aload_n hX_ hB_ dX8_state_0 rfl (lv_at hl 0 rfl) ?_
  refine lv_iload_n hX_ hB_ dX8_state_1 rfl (lv_at hl 1 rfl) ?_
  exact zx_Vt (As := [.int x]) (rest := []) (ci := 8) (q0 := 0) (k := (RX8, TX8, 8)) S (zt_generatorAt_t l D hst c a n A B E x hN hx) (cwV 1 hts gX8_state_X8_generatorAt rfl rfl rfl (by decide +kernel) ⟨(Nat.le_of_ble_eq_true rfl), (Nat.le_of_ble_eq_true rfl)⟩) hlocks hF hK hW hXB htab hA rfl (ze_at0 0 rfl) rfl hl.1 rfl (lv_room (Nat.le_of_ble_eq_true rfl)) dX8_state_2 ⟨(Nat.le_of_ble_eq_true rfl), (Nat.le_of_ble_eq_true rfl)⟩ (Nat.le_of_ble_eq_true rfl) (Nat.le_of_ble_eq_true rfl)
set_option maxHeartbeats 4000000 in
set_option maxRecDepth 100000 in
theorem zt_fuel_t1 (l : Launch) (D : va_G) (hst : l.stackTraces = false) (c : Nat → ClassId) (a n : Nat → Nat) (A : Nat → Nat → Int32) (B : Nat → Int64) (E : Nat → Nat → Int32) (x : Int32) (hN : zf_N n) (hx : ¬ zf_isIn x 0 (nI (n 2) - 1)) : ze_T l yX8_fuel wsX8_fuel 8 124 D c (ze_wC c a n A B E) [.ref (a 0), .int x] "java/lang/IndexOutOfBoundsException" := by
  intro sz
  refine zx_start (cc := cX8_fuel) (maxL := 2) (ret := (some .int)) (own := RX8) (by decide) rfl rfl (Nat.le_of_ble_eq_true rfl) ?_
  obtain ⟨hn0, hn1, hn2, hn3, hn4⟩ := id hN
  intro p e s m_ below meth cd F ls hF hsz E0 hXB htab
  obtain ⟨S, hr, hlocks, hK, hW, hA, hl⟩ := E0
  have hX_ := S.1
  have hB_ := S.2.1
  have hts := S.2.2.2.2
  have hl : lv_has ls 2 [(0, .ref (a 0)), (1, .int x)] := hl
  refine lv_aload_n hX_ hB_ dX8_fuel_0 rfl (lv_at hl 0 rfl) ?_
  refine lv_iload_n hX_ hB_ dX8_fuel_1 rfl (lv_at hl 1 rfl) ?_
  exact zx_Vt (As := [.int x]) (rest := []) (ci := 8) (q0 := 0) (k := (RX8, TX8, 8)) S (zt_generatorAt_t l D hst c a n A B E x hN hx) (cwV 1 hts gX8_fuel_X8_generatorAt rfl rfl rfl (by decide +kernel) ⟨(Nat.le_of_ble_eq_true rfl), (Nat.le_of_ble_eq_true rfl)⟩) hlocks hF hK hW hXB htab hA rfl (ze_at0 0 rfl) rfl hl.1 rfl (lv_room (Nat.le_of_ble_eq_true rfl)) dX8_fuel_2 ⟨(Nat.le_of_ble_eq_true rfl), (Nat.le_of_ble_eq_true rfl)⟩ (Nat.le_of_ble_eq_true rfl) (Nat.le_of_ble_eq_true rfl)
set_option maxHeartbeats 4000000 in
set_option maxRecDepth 100000 in
theorem zt_toGo_t1 (l : Launch) (D : va_G) (hst : l.stackTraces = false) (c : Nat → ClassId) (a n : Nat → Nat) (A : Nat → Nat → Int32) (B : Nat → Int64) (E : Nat → Nat → Int32) (x : Int32) (hN : zf_N n) (hx : ¬ zf_isIn x 0 (nI (n 2) - 1)) : ze_T l yX8_toGo wsX8_toGo 8 124 D c (ze_wC c a n A B E) [.ref (a 0), .int x] "java/lang/IndexOutOfBoundsException" := by
  intro sz
  refine zx_start (cc := cX8_toGo) (maxL := 3) (ret := (some .int)) (own := RX8) (by decide) rfl rfl (Nat.le_of_ble_eq_true rfl) ?_
  obtain ⟨hn0, hn1, hn2, hn3, hn4⟩ := id hN
  intro p e s m_ below meth cd F ls hF hsz E0 hXB htab
  obtain ⟨S, hr, hlocks, hK, hW, hA, hl⟩ := E0
  have hX_ := S.1
  have hB_ := S.2.1
  have hts := S.2.2.2.2
  have hl : lv_has ls 3 [(0, .ref (a 0)), (1, .int x)] := hl
  refine lv_aload_n hX_ hB_ dX8_toGo_0 rfl (lv_at hl 0 rfl) ?_
  refine lv_iload_n hX_ hB_ dX8_toGo_1 rfl (lv_at hl 1 rfl) ?_
  exact zx_Vt (As := [.int x]) (rest := []) (ci := 8) (q0 := 0) (k := (RX8, TX8, 8)) S (zt_generatorAt_t l D hst c a n A B E x hN hx) (cwV 1 hts gX8_toGo_X8_generatorAt rfl rfl rfl (by decide +kernel) ⟨(Nat.le_of_ble_eq_true rfl), (Nat.le_of_ble_eq_true rfl)⟩) hlocks hF hK hW hXB htab hA rfl (ze_at0 0 rfl) rfl hl.1 rfl (lv_room (Nat.le_of_ble_eq_true rfl)) dX8_toGo_2 ⟨(Nat.le_of_ble_eq_true rfl), (Nat.le_of_ble_eq_true rfl)⟩ (Nat.le_of_ble_eq_true rfl) (Nat.le_of_ble_eq_true rfl)
set_option maxHeartbeats 4000000 in
set_option maxRecDepth 100000 in
theorem zt_given_t1 (l : Launch) (D : va_G) (hst : l.stackTraces = false) (c : Nat → ClassId) (a n : Nat → Nat) (A : Nat → Nat → Int32) (B : Nat → Int64) (E : Nat → Nat → Int32) (x : Int32) (hN : zf_N n) (hx : ¬ zf_isIn x 0 (nI (n 2) - 1)) : ze_T l yX8_given wsX8_given 8 124 D c (ze_wC c a n A B E) [.ref (a 0), .int x] "java/lang/IndexOutOfBoundsException" := by
  intro sz
  refine zx_start (cc := cX8_given) (maxL := 2) (ret := (some .int)) (own := RX8) (by decide) rfl rfl (Nat.le_of_ble_eq_true rfl) ?_
  obtain ⟨hn0, hn1, hn2, hn3, hn4⟩ := id hN
  intro p e s m_ below meth cd F ls hF hsz E0 hXB htab
  obtain ⟨S, hr, hlocks, hK, hW, hA, hl⟩ := E0
  have hX_ := S.1
  have hB_ := S.2.1
  have hts := S.2.2.2.2
  have hl : lv_has ls 2 [(0, .ref (a 0)), (1, .int x)] := hl
  refine lv_aload_n hX_ hB_ dX8_given_0 rfl (lv_at hl 0 rfl) ?_
  refine lv_iload_n hX_ hB_ dX8_given_1 rfl (lv_at hl 1 rfl) ?_
  exact zx_Vt (As := [.int x]) (rest := []) (ci := 8) (q0 := 0) (k := (RX8, TX8, 8)) S (zt_generatorAt_t l D hst c a n A B E x hN hx) (cwV 1 hts gX8_given_X8_generatorAt rfl rfl rfl (by decide +kernel) ⟨(Nat.le_of_ble_eq_true rfl), (Nat.le_of_ble_eq_true rfl)⟩) hlocks hF hK hW hXB htab hA rfl (ze_at0 0 rfl) rfl hl.1 rfl (lv_room (Nat.le_of_ble_eq_true rfl)) dX8_given_2 ⟨(Nat.le_of_ble_eq_true rfl), (Nat.le_of_ble_eq_true rfl)⟩ (Nat.le_of_ble_eq_true rfl) (Nat.le_of_ble_eq_true rfl)
set_option maxHeartbeats 4000000 in
set_option maxRecDepth 100000 in
theorem zt_charge_t1 (l : Launch) (D : va_G) (hst : l.stackTraces = false) (c : Nat → ClassId) (a n : Nat → Nat) (A : Nat → Nat → Int32) (B : Nat → Int64) (E : Nat → Nat → Int32) (x : Int32) (hN : zf_N n) (hx : ¬ zf_isIn x 0 (nI (n 3) - 1)) : ze_T l yX8_charge wsX8_charge 8 124 D c (ze_wC c a n A B E) [.ref (a 0), .int x] "java/lang/IndexOutOfBoundsException" := by
  intro sz
  refine zx_start (cc := cX8_charge) (maxL := 2) (ret := (some .int)) (own := RX8) (by decide) rfl rfl (Nat.le_of_ble_eq_true rfl) ?_
  obtain ⟨hn0, hn1, hn2, hn3, hn4⟩ := id hN
  intro p e s m_ below meth cd F ls hF hsz E0 hXB htab
  obtain ⟨S, hr, hlocks, hK, hW, hA, hl⟩ := E0
  have hX_ := S.1
  have hB_ := S.2.1
  have hts := S.2.2.2.2
  have hl : lv_has ls 2 [(0, .ref (a 0)), (1, .int x)] := hl
  refine lv_aload_n hX_ hB_ dX8_charge_0 rfl (lv_at hl 0 rfl) ?_
  refine lv_iload_n hX_ hB_ dX8_charge_1 rfl (lv_at hl 1 rfl) ?_
  exact zx_Vt (As := [.int x]) (rest := []) (ci := 8) (q0 := 0) (k := (RX8, TX8, 8)) S (zt_storeAt_t l D hst c a n A B E x hN hx) (cwV 1 hts gX8_charge_X8_storeAt rfl rfl rfl (by decide +kernel) ⟨(Nat.le_of_ble_eq_true rfl), (Nat.le_of_ble_eq_true rfl)⟩) hlocks hF hK hW hXB htab hA rfl (ze_at0 0 rfl) rfl hl.1 rfl (lv_room (Nat.le_of_ble_eq_true rfl)) dX8_charge_2 ⟨(Nat.le_of_ble_eq_true rfl), (Nat.le_of_ble_eq_true rfl)⟩ (Nat.le_of_ble_eq_true rfl) (Nat.le_of_ble_eq_true rfl)
set_option maxHeartbeats 4000000 in
set_option maxRecDepth 100000 in
theorem zt_flow_t1 (l : Launch) (D : va_G) (hst : l.stackTraces = false) (c : Nat → ClassId) (a n : Nat → Nat) (A : Nat → Nat → Int32) (B : Nat → Int64) (E : Nat → Nat → Int32) (x : Int32) (hN : zf_N n) (hx : ¬ zf_isIn x 0 (nI (n 3) - 1)) : ze_T l yX8_flow wsX8_flow 8 124 D c (ze_wC c a n A B E) [.ref (a 0), .int x] "java/lang/IndexOutOfBoundsException" := by
  intro sz
  refine zx_start (cc := cX8_flow) (maxL := 2) (ret := (some .int)) (own := RX8) (by decide) rfl rfl (Nat.le_of_ble_eq_true rfl) ?_
  obtain ⟨hn0, hn1, hn2, hn3, hn4⟩ := id hN
  intro p e s m_ below meth cd F ls hF hsz E0 hXB htab
  obtain ⟨S, hr, hlocks, hK, hW, hA, hl⟩ := E0
  have hX_ := S.1
  have hB_ := S.2.1
  have hts := S.2.2.2.2
  have hl : lv_has ls 2 [(0, .ref (a 0)), (1, .int x)] := hl
  refine lv_aload_n hX_ hB_ dX8_flow_0 rfl (lv_at hl 0 rfl) ?_
  refine lv_iload_n hX_ hB_ dX8_flow_1 rfl (lv_at hl 1 rfl) ?_
  exact zx_Vt (As := [.int x]) (rest := []) (ci := 8) (q0 := 0) (k := (RX8, TX8, 8)) S (zt_storeAt_t l D hst c a n A B E x hN hx) (cwV 1 hts gX8_flow_X8_storeAt rfl rfl rfl (by decide +kernel) ⟨(Nat.le_of_ble_eq_true rfl), (Nat.le_of_ble_eq_true rfl)⟩) hlocks hF hK hW hXB htab hA rfl (ze_at0 0 rfl) rfl hl.1 rfl (lv_room (Nat.le_of_ble_eq_true rfl)) dX8_flow_2 ⟨(Nat.le_of_ble_eq_true rfl), (Nat.le_of_ble_eq_true rfl)⟩ (Nat.le_of_ble_eq_true rfl) (Nat.le_of_ble_eq_true rfl)
set_option maxHeartbeats 4000000 in
set_option maxRecDepth 100000 in
theorem zt_isLit_t1 (l : Launch) (D : va_G) (hst : l.stackTraces = false) (c : Nat → ClassId) (a n : Nat → Nat) (A : Nat → Nat → Int32) (B : Nat → Int64) (E : Nat → Nat → Int32) (x : Int32) (hN : zf_N n) (hx : ¬ zf_isIn x 0 (nI (n 4) - 1)) : ze_T l yX8_isLit wsX8_isLit 8 124 D c (ze_wC c a n A B E) [.ref (a 0), .int x] "java/lang/IndexOutOfBoundsException" := by
  intro sz
  refine zx_start (cc := cX8_isLit) (maxL := 2) (ret := (some .boolean)) (own := RX8) (by decide) rfl rfl (Nat.le_of_ble_eq_true rfl) ?_
  obtain ⟨hn0, hn1, hn2, hn3, hn4⟩ := id hN
  intro p e s m_ below meth cd F ls hF hsz E0 hXB htab
  obtain ⟨S, hr, hlocks, hK, hW, hA, hl⟩ := E0
  have hX_ := S.1
  have hB_ := S.2.1
  have hts := S.2.2.2.2
  have hl : lv_has ls 2 [(0, .ref (a 0)), (1, .int x)] := hl
  refine lv_aload_n hX_ hB_ dX8_isLit_0 rfl (lv_at hl 0 rfl) ?_
  refine lv_iload_n hX_ hB_ dX8_isLit_1 rfl (lv_at hl 1 rfl) ?_
  exact zx_Vt (As := [.int x]) (rest := []) (ci := 8) (q0 := 0) (k := (RX8, TX8, 8)) S (zt_loadAt_t l D hst c a n A B E x hN hx) (cwV 1 hts gX8_isLit_X8_loadAt rfl rfl rfl (by decide +kernel) ⟨(Nat.le_of_ble_eq_true rfl), (Nat.le_of_ble_eq_true rfl)⟩) hlocks hF hK hW hXB htab hA rfl (ze_at0 0 rfl) rfl hl.1 rfl (lv_room (Nat.le_of_ble_eq_true rfl)) dX8_isLit_2 ⟨(Nat.le_of_ble_eq_true rfl), (Nat.le_of_ble_eq_true rfl)⟩ (Nat.le_of_ble_eq_true rfl) (Nat.le_of_ble_eq_true rfl)
set_option maxHeartbeats 4000000 in
set_option maxRecDepth 100000 in
theorem zt_waits_t1 (l : Launch) (D : va_G) (hst : l.stackTraces = false) (c : Nat → ClassId) (a n : Nat → Nat) (A : Nat → Nat → Int32) (B : Nat → Int64) (E : Nat → Nat → Int32) (x : Int32) (hN : zf_N n) (hx : ¬ zf_isIn x 0 (nI (n 4) - 1)) : ze_T l yX8_waits wsX8_waits 8 124 D c (ze_wC c a n A B E) [.ref (a 0), .int x] "java/lang/IndexOutOfBoundsException" := by
  intro sz
  refine zx_start (cc := cX8_waits) (maxL := 3) (ret := (some .int)) (own := RX8) (by decide) rfl rfl (Nat.le_of_ble_eq_true rfl) ?_
  obtain ⟨hn0, hn1, hn2, hn3, hn4⟩ := id hN
  intro p e s m_ below meth cd F ls hF hsz E0 hXB htab
  obtain ⟨S, hr, hlocks, hK, hW, hA, hl⟩ := E0
  have hX_ := S.1
  have hB_ := S.2.1
  have hts := S.2.2.2.2
  have hl : lv_has ls 3 [(0, .ref (a 0)), (1, .int x)] := hl
  refine lv_aload_n hX_ hB_ dX8_waits_0 rfl (lv_at hl 0 rfl) ?_
  refine lv_iload_n hX_ hB_ dX8_waits_1 rfl (lv_at hl 1 rfl) ?_
  exact zx_Vt (As := [.int x]) (rest := []) (ci := 8) (q0 := 0) (k := (RX8, TX8, 8)) S (zt_loadAt_t l D hst c a n A B E x hN hx) (cwV 1 hts gX8_waits_X8_loadAt rfl rfl rfl (by decide +kernel) ⟨(Nat.le_of_ble_eq_true rfl), (Nat.le_of_ble_eq_true rfl)⟩) hlocks hF hK hW hXB htab hA rfl (ze_at0 0 rfl) rfl hl.1 rfl (lv_room (Nat.le_of_ble_eq_true rfl)) dX8_waits_2 ⟨(Nat.le_of_ble_eq_true rfl), (Nat.le_of_ble_eq_true rfl)⟩ (Nat.le_of_ble_eq_true rfl) (Nat.le_of_ble_eq_true rfl)
set_option maxHeartbeats 4000000 in
set_option maxRecDepth 100000 in
theorem zt_refuel_t1 (l : Launch) (D : va_G) (hst : l.stackTraces = false) (c : Nat → ClassId) (a n : Nat → Nat) (A : Nat → Nat → Int32) (B : Nat → Int64) (E : Nat → Nat → Int32) (x : Int32) (hN : zf_N n) (hx : ¬ zf_isIn x 0 (nI (n 2) - 1)) (y : Int32) : ze_T l yX8_refuel wsX8_refuel 8 124 D c (ze_wC c a n A B E) [.ref (a 0), .int x, .int y] "java/lang/IndexOutOfBoundsException" := by
  intro sz
  refine zx_start (cc := cX8_refuel) (maxL := 4) (ret := (some .int)) (own := RX8) (by decide) rfl rfl (Nat.le_of_ble_eq_true rfl) ?_
  obtain ⟨hn0, hn1, hn2, hn3, hn4⟩ := id hN
  intro p e s m_ below meth cd F ls hF hsz E0 hXB htab
  obtain ⟨S, hr, hlocks, hK, hW, hA, hl⟩ := E0
  have hX_ := S.1
  have hB_ := S.2.1
  have hts := S.2.2.2.2
  have hl : lv_has ls 4 [(0, .ref (a 0)), (1, .int x), (2, .int y)] := hl
  refine lv_aload_n hX_ hB_ dX8_refuel_0 rfl (lv_at hl 0 rfl) ?_
  refine lv_iload_n hX_ hB_ dX8_refuel_1 rfl (lv_at hl 1 rfl) ?_
  exact zx_Vt (As := [.int x]) (rest := []) (ci := 8) (q0 := 0) (k := (RX8, TX8, 8)) S (zt_generatorAt_t l D hst c a n A B E x hN hx) (cwV 1 hts gX8_refuel_X8_generatorAt rfl rfl rfl (by decide +kernel) ⟨(Nat.le_of_ble_eq_true rfl), (Nat.le_of_ble_eq_true rfl)⟩) hlocks hF hK hW hXB htab hA rfl (ze_at0 0 rfl) rfl hl.1 rfl (lv_room (Nat.le_of_ble_eq_true rfl)) dX8_refuel_2 ⟨(Nat.le_of_ble_eq_true rfl), (Nat.le_of_ble_eq_true rfl)⟩ (Nat.le_of_ble_eq_true rfl) (Nat.le_of_ble_eq_true rfl)
set_option maxHeartbeats 4000000 in
set_option maxRecDepth 100000 in
theorem zt_setRank_t1 (l : Launch) (D : va_G) (hst : l.stackTraces = false) (c : Nat → ClassId) (a n : Nat → Nat) (A : Nat → Nat → Int32) (B : Nat → Int64) (E : Nat → Nat → Int32) (x : Int32) (hN : zf_N n) (hx : ¬ zf_isIn x 0 (nI (n 4) - 1)) (y : Int32) : ze_T l yX8_setRank wsX8_setRank 8 124 D c (ze_wC c a n A B E) [.ref (a 0), .int x, .int y] "java/lang/IndexOutOfBoundsException" := by
  intro sz
  refine zx_start (cc := cX8_setRank) (maxL := 5) (ret := (some .int)) (own := RX8) (by decide) rfl rfl (Nat.le_of_ble_eq_true rfl) ?_
  obtain ⟨hn0, hn1, hn2, hn3, hn4⟩ := id hN
  intro p e s m_ below meth cd F ls hF hsz E0 hXB htab
  obtain ⟨S, hr, hlocks, hK, hW, hA, hl⟩ := E0
  have hX_ := S.1
  have hB_ := S.2.1
  have hts := S.2.2.2.2
  have hl : lv_has ls 5 [(0, .ref (a 0)), (1, .int x), (2, .int y)] := hl
  refine lv_aload_n hX_ hB_ dX8_setRank_0 rfl (lv_at hl 0 rfl) ?_
  refine lv_iload_n hX_ hB_ dX8_setRank_1 rfl (lv_at hl 1 rfl) ?_
  exact zx_Vt (As := [.int x]) (rest := []) (ci := 8) (q0 := 0) (k := (RX8, TX8, 8)) S (zt_loadAt_t l D hst c a n A B E x hN hx) (cwV 1 hts gX8_setRank_X8_loadAt rfl rfl rfl (by decide +kernel) ⟨(Nat.le_of_ble_eq_true rfl), (Nat.le_of_ble_eq_true rfl)⟩) hlocks hF hK hW hXB htab hA rfl (ze_at0 0 rfl) rfl hl.1 rfl (lv_room (Nat.le_of_ble_eq_true rfl)) dX8_setRank_2 ⟨(Nat.le_of_ble_eq_true rfl), (Nat.le_of_ble_eq_true rfl)⟩ (Nat.le_of_ble_eq_true rfl) (Nat.le_of_ble_eq_true rfl)
set_option maxHeartbeats 4000000 in
set_option maxRecDepth 100000 in
theorem zt_addGenerator_t1 (l : Launch) (D : va_G) (hst : l.stackTraces = false) (c : Nat → ClassId) (a n : Nat → Nat) (A : Nat → Nat → Int32) (B : Nat → Int64) (E : Nat → Nat → Int32) (x : Int32) (hN : zf_N n) (hx : ¬ zf_isIn x 0 (nI (n 0) - 1)) (le gr wu fu : Int32) : ze_T l yX8_addGenerator wsX8_addGenerator 8 124 D c (ze_wC c a n A B E) [.ref (a 0), .int x, .int le, .int gr, .int wu, .int fu] "java/lang/IndexOutOfBoundsException" := by
  intro sz
  refine zx_start (cc := cX8_addGenerator) (maxL := 6) (ret := (some .int)) (own := RX8) (by decide) rfl rfl (Nat.le_of_ble_eq_true rfl) ?_
  obtain ⟨hn0, hn1, hn2, hn3, hn4⟩ := id hN
  intro p e s m_ below meth cd F ls hF hsz E0 hXB htab
  obtain ⟨S, hr, hlocks, hK, hW, hA, hl⟩ := E0
  have hX_ := S.1
  have hB_ := S.2.1
  have hts := S.2.2.2.2
  have hl : lv_has ls 6 [(0, .ref (a 0)), (1, .int x), (2, .int le), (3, .int gr), (4, .int wu), (5, .int fu)] := hl
  refine lv_aload_n hX_ hB_ dX8_addGenerator_0 rfl (lv_at hl 0 rfl) ?_
  refine lv_iload_n hX_ hB_ dX8_addGenerator_1 rfl (lv_at hl 1 rfl) ?_
  exact zx_Vt (As := [.int x]) (rest := []) (ci := 8) (q0 := 0) (k := (RX8, TX8, 8)) S (zt_checkSite_t l D hst c a n A B E x hN hx) (cwV 1 hts gX8_addGenerator_X8_checkSite rfl rfl rfl (by decide +kernel) ⟨(Nat.le_of_ble_eq_true rfl), (Nat.le_of_ble_eq_true rfl)⟩) hlocks hF hK hW hXB htab hA rfl (ze_at0 0 rfl) rfl hl.1 rfl (lv_room (Nat.le_of_ble_eq_true rfl)) dX8_addGenerator_2 ⟨(Nat.le_of_ble_eq_true rfl), (Nat.le_of_ble_eq_true rfl)⟩ (Nat.le_of_ble_eq_true rfl) (Nat.le_of_ble_eq_true rfl)
set_option maxHeartbeats 4000000 in
set_option maxRecDepth 100000 in
theorem zt_addStore_t1 (l : Launch) (D : va_G) (hst : l.stackTraces = false) (c : Nat → ClassId) (a n : Nat → Nat) (A : Nat → Nat → Int32) (B : Nat → Int64) (E : Nat → Nat → Int32) (x : Int32) (hN : zf_N n) (hx : ¬ zf_isIn x 0 (nI (n 0) - 1)) (y z : Int32) : ze_T l yX8_addStore wsX8_addStore 8 124 D c (ze_wC c a n A B E) [.ref (a 0), .int x, .int y, .int z] "java/lang/IndexOutOfBoundsException" := by
  intro sz
  refine zx_start (cc := cX8_addStore) (maxL := 4) (ret := (some .int)) (own := RX8) (by decide) rfl rfl (Nat.le_of_ble_eq_true rfl) ?_
  obtain ⟨hn0, hn1, hn2, hn3, hn4⟩ := id hN
  intro p e s m_ below meth cd F ls hF hsz E0 hXB htab
  obtain ⟨S, hr, hlocks, hK, hW, hA, hl⟩ := E0
  have hX_ := S.1
  have hB_ := S.2.1
  have hts := S.2.2.2.2
  have hl : lv_has ls 4 [(0, .ref (a 0)), (1, .int x), (2, .int y), (3, .int z)] := hl
  refine lv_aload_n hX_ hB_ dX8_addStore_0 rfl (lv_at hl 0 rfl) ?_
  refine lv_iload_n hX_ hB_ dX8_addStore_1 rfl (lv_at hl 1 rfl) ?_
  exact zx_Vt (As := [.int x]) (rest := []) (ci := 8) (q0 := 0) (k := (RX8, TX8, 8)) S (zt_checkSite_t l D hst c a n A B E x hN hx) (cwV 1 hts gX8_addStore_X8_checkSite rfl rfl rfl (by decide +kernel) ⟨(Nat.le_of_ble_eq_true rfl), (Nat.le_of_ble_eq_true rfl)⟩) hlocks hF hK hW hXB htab hA rfl (ze_at0 0 rfl) rfl hl.1 rfl (lv_room (Nat.le_of_ble_eq_true rfl)) dX8_addStore_2 ⟨(Nat.le_of_ble_eq_true rfl), (Nat.le_of_ble_eq_true rfl)⟩ (Nat.le_of_ble_eq_true rfl) (Nat.le_of_ble_eq_true rfl)
set_option maxHeartbeats 4000000 in
set_option maxRecDepth 100000 in
theorem zt_addLoad_t1 (l : Launch) (D : va_G) (hst : l.stackTraces = false) (c : Nat → ClassId) (a n : Nat → Nat) (A : Nat → Nat → Int32) (B : Nat → Int64) (E : Nat → Nat → Int32) (x : Int32) (hN : zf_N n) (hx : ¬ zf_isIn x 0 (nI (n 0) - 1)) (y z : Int32) : ze_T l yX8_addLoad wsX8_addLoad 8 124 D c (ze_wC c a n A B E) [.ref (a 0), .int x, .int y, .int z] "java/lang/IndexOutOfBoundsException" := by
  intro sz
  refine zx_start (cc := cX8_addLoad) (maxL := 4) (ret := (some .int)) (own := RX8) (by decide) rfl rfl (Nat.le_of_ble_eq_true rfl) ?_
  obtain ⟨hn0, hn1, hn2, hn3, hn4⟩ := id hN
  intro p e s m_ below meth cd F ls hF hsz E0 hXB htab
  obtain ⟨S, hr, hlocks, hK, hW, hA, hl⟩ := E0
  have hX_ := S.1
  have hB_ := S.2.1
  have hts := S.2.2.2.2
  have hl : lv_has ls 4 [(0, .ref (a 0)), (1, .int x), (2, .int y), (3, .int z)] := hl
  refine lv_aload_n hX_ hB_ dX8_addLoad_0 rfl (lv_at hl 0 rfl) ?_
  refine lv_iload_n hX_ hB_ dX8_addLoad_1 rfl (lv_at hl 1 rfl) ?_
  exact zx_Vt (As := [.int x]) (rest := []) (ci := 8) (q0 := 0) (k := (RX8, TX8, 8)) S (zt_checkSite_t l D hst c a n A B E x hN hx) (cwV 1 hts gX8_addLoad_X8_checkSite rfl rfl rfl (by decide +kernel) ⟨(Nat.le_of_ble_eq_true rfl), (Nat.le_of_ble_eq_true rfl)⟩) hlocks hF hK hW hXB htab hA rfl (ze_at0 0 rfl) rfl hl.1 rfl (lv_room (Nat.le_of_ble_eq_true rfl)) dX8_addLoad_2 ⟨(Nat.le_of_ble_eq_true rfl), (Nat.le_of_ble_eq_true rfl)⟩ (Nat.le_of_ble_eq_true rfl) (Nat.le_of_ble_eq_true rfl)
set_option maxHeartbeats 4000000 in
set_option maxRecDepth 100000 in
theorem zt_addGenerator_t2a (l : Launch) (D : va_G) (hst : l.stackTraces = false) (c : Nat → ClassId) (a n : Nat → Nat) (A : Nat → Nat → Int32) (B : Nat → Int64) (E : Nat → Nat → Int32) (j : Nat) (hN : zf_N n) (hj : j < n 0) (le gr wu fu : Int32) (h1 : ¬ zf_isIn le 0 100) : ze_T l yX8_addGenerator wsX8_addGenerator 7 104 D c (ze_wC c a n A B E) [.ref (a 0), .int (nI j), .int le, .int gr, .int wu, .int fu] "java/lang/IllegalArgumentException" := by
  intro sz
  refine zx_start (cc := cX8_addGenerator) (maxL := 6) (ret := (some .int)) (own := RX8) (by decide) rfl rfl (Nat.le_of_ble_eq_true rfl) ?_
  obtain ⟨hn0, hn1, hn2, hn3, hn4⟩ := id hN
  intro p e s m_ below meth cd F ls hF hsz E0 hXB htab
  obtain ⟨S, hr, hlocks, hK, hW, hA, hl⟩ := E0
  have hX_ := S.1
  have hB_ := S.2.1
  have hts := S.2.2.2.2
  have hl : lv_has ls 6 [(0, .ref (a 0)), (1, .int (nI j)), (2, .int le), (3, .int gr), (4, .int wu), (5, .int fu)] := hl
  refine lv_aload_n hX_ hB_ dX8_addGenerator_0 rfl (lv_at hl 0 rfl) ?_
  refine lv_iload_n hX_ hB_ dX8_addGenerator_1 rfl (lv_at hl 1 rfl) ?_
  refine ze_Vv (As := [.int (nI j)]) (rest := []) (ci := 8) (q0 := 0) (k := (RX8, TX8, 8)) S (zp_checkSite l D c a n A B E j hN (by omega)) (cwV 1 hts gX8_addGenerator_X8_checkSite rfl rfl rfl (by decide +kernel) ⟨Nat.le_of_ble_eq_true rfl, Nat.le_of_ble_eq_true rfl⟩) hK hW hA rfl (ze_at0 0 rfl) rfl hl.1 rfl (lv_room (Nat.le_of_ble_eq_true rfl)) dX8_addGenerator_2 ⟨Nat.le_of_ble_eq_true rfl, Nat.le_of_ble_eq_true rfl⟩ (fun H locs hW => ?_)
  refine lv_iload_n hX_ hB_ dX8_addGenerator_5 rfl (lv_at hl 2 rfl) ?_
  refine lv_iconst (v := 0) hX_ hB_ dX8_addGenerator_6 (by decide) ?_
  refine lv_bipush (v := 100) hX_ hB_ dX8_addGenerator_7 (by decide) ?_
  exact zx_St (As := [.int le, .int 0, .int 100]) (rest := []) S (zt_checkRange_t l D hst c (ze_wC c a n A B E) le 0 100 h1) (va_cwS 3 hts gX8_addGenerator_X8_checkRange rfl rfl rfl (by decide +kernel) ⟨(Nat.le_of_ble_eq_true rfl), (Nat.le_of_ble_eq_true rfl)⟩) hlocks hF hK hW hXB htab hA rfl hl.1 rfl (lv_room (Nat.le_of_ble_eq_true rfl)) dX8_addGenerator_9 ⟨(Nat.le_of_ble_eq_true rfl), (Nat.le_of_ble_eq_true rfl)⟩ (Nat.le_of_ble_eq_true rfl) (Nat.le_of_ble_eq_true rfl)
set_option maxHeartbeats 4000000 in
set_option maxRecDepth 100000 in
theorem zt_addGenerator_t2b (l : Launch) (D : va_G) (hst : l.stackTraces = false) (c : Nat → ClassId) (a n : Nat → Nat) (A : Nat → Nat → Int32) (B : Nat → Int64) (E : Nat → Nat → Int32) (j : Nat) (hN : zf_N n) (hj : j < n 0) (le gr wu fu : Int32) (h1 : zf_isIn le 0 100) (h2 : ¬ zf_isIn gr (ze_mx 1 le) 200) : ze_T l yX8_addGenerator wsX8_addGenerator 7 104 D c (ze_wC c a n A B E) [.ref (a 0), .int (nI j), .int le, .int gr, .int wu, .int fu] "java/lang/IllegalArgumentException" := by
  intro sz
  refine zx_start (cc := cX8_addGenerator) (maxL := 6) (ret := (some .int)) (own := RX8) (by decide) rfl rfl (Nat.le_of_ble_eq_true rfl) ?_
  obtain ⟨hn0, hn1, hn2, hn3, hn4⟩ := id hN
  intro p e s m_ below meth cd F ls hF hsz E0 hXB htab
  obtain ⟨S, hr, hlocks, hK, hW, hA, hl⟩ := E0
  have hX_ := S.1
  have hB_ := S.2.1
  have hts := S.2.2.2.2
  have hl : lv_has ls 6 [(0, .ref (a 0)), (1, .int (nI j)), (2, .int le), (3, .int gr), (4, .int wu), (5, .int fu)] := hl
  have w0 := hts (.methodLink RX8 146 Lib.Math.max.name) (List.mem_cons_of_mem _ (List.mem_append_left _ (List.mem_append_left _ (List.mem_append_left _ (List.mem_append_left _ (List.mem_append_left _ (List.mem_append_left _ (List.mem_append_left _ (List.mem_append_left _ (List.mem_of_getElem? (i := 2) rfl))))))))))
  have w1 := hts (.static Lib.Math.max.name) (List.mem_cons_of_mem _ (List.mem_append_left _ (List.mem_append_left _ (List.mem_append_left _ (List.mem_append_left _ (List.mem_append_left _ (List.mem_append_left _ (List.mem_append_left _ (List.mem_append_left _ (List.mem_of_getElem? (i := 3) rfl))))))))))
  have w2 := hts (.initialized "java/lang/Math") (List.mem_cons_of_mem _ (List.mem_append_left _ (List.mem_append_left _ (List.mem_append_left _ (List.mem_append_left _ (List.mem_append_left _ (List.mem_append_left _ (List.mem_append_left _ (List.mem_append_left _ (List.mem_of_getElem? (i := 4) rfl))))))))))
  have w3 := hts (.code Lib.Math.max.name Lib.Math.max.code 2 (some .int)) (List.mem_cons_of_mem _ (List.mem_append_left _ (List.mem_append_left _ (List.mem_append_left _ (List.mem_append_left _ (List.mem_append_left _ (List.mem_append_left _ (List.mem_append_left _ (List.mem_append_left _ (List.mem_of_getElem? (i := 5) rfl))))))))))
  refine lv_aload_n hX_ hB_ dX8_addGenerator_0 rfl (lv_at hl 0 rfl) ?_
  refine lv_iload_n hX_ hB_ dX8_addGenerator_1 rfl (lv_at hl 1 rfl) ?_
  refine ze_Vv (As := [.int (nI j)]) (rest := []) (ci := 8) (q0 := 0) (k := (RX8, TX8, 8)) S (zp_checkSite l D c a n A B E j hN (by omega)) (cwV 1 hts gX8_addGenerator_X8_checkSite rfl rfl rfl (by decide +kernel) ⟨Nat.le_of_ble_eq_true rfl, Nat.le_of_ble_eq_true rfl⟩) hK hW hA rfl (ze_at0 0 rfl) rfl hl.1 rfl (lv_room (Nat.le_of_ble_eq_true rfl)) dX8_addGenerator_2 ⟨Nat.le_of_ble_eq_true rfl, Nat.le_of_ble_eq_true rfl⟩ (fun H locs hW => ?_)
  refine lv_iload_n hX_ hB_ dX8_addGenerator_5 rfl (lv_at hl 2 rfl) ?_
  refine lv_iconst (v := 0) hX_ hB_ dX8_addGenerator_6 (by decide) ?_
  refine lv_bipush (v := 100) hX_ hB_ dX8_addGenerator_7 (by decide) ?_
  refine ze_Sv (As := [.int le, .int 0, .int 100]) (rest := []) S (zp_checkRange l D c (ze_wC c a n A B E) le 0 100 (by assumption)) (va_cwS 3 hts gX8_addGenerator_X8_checkRange rfl rfl rfl (by decide +kernel) ⟨Nat.le_of_ble_eq_true rfl, Nat.le_of_ble_eq_true rfl⟩) hK hW hA rfl hl.1 rfl (lv_room (Nat.le_of_ble_eq_true rfl)) dX8_addGenerator_9 ⟨Nat.le_of_ble_eq_true rfl, Nat.le_of_ble_eq_true rfl⟩ (fun H locs hW => ?_)
  refine lv_iload_n hX_ hB_ dX8_addGenerator_12 rfl (lv_at hl 3 rfl) ?_
  refine lv_iconst (v := 1) hX_ hB_ dX8_addGenerator_13 (by decide) ?_
  refine lv_iload_n hX_ hB_ dX8_addGenerator_14 rfl (lv_at hl 2 rfl) ?_
  refine ze_max S hl.1 w0 w1 w2 w3 ⟨Nat.le_of_ble_eq_true rfl, Nat.le_of_ble_eq_true rfl, Nat.le_of_ble_eq_true rfl, Nat.le_of_ble_eq_true rfl⟩ dX8_addGenerator_15 ?_
  refine lv_sipush (v := 200) hX_ hB_ dX8_addGenerator_18 (by decide) ?_
  exact zx_St (As := [.int gr, .int (ze_mx 1 le), .int 200]) (rest := []) S (zt_checkRange_t l D hst c (ze_wC c a n A B E) gr (ze_mx 1 le) 200 h2) (va_cwS 3 hts gX8_addGenerator_X8_checkRange rfl rfl rfl (by decide +kernel) ⟨(Nat.le_of_ble_eq_true rfl), (Nat.le_of_ble_eq_true rfl)⟩) hlocks hF hK hW hXB htab hA rfl hl.1 rfl (lv_room (Nat.le_of_ble_eq_true rfl)) dX8_addGenerator_21 ⟨(Nat.le_of_ble_eq_true rfl), (Nat.le_of_ble_eq_true rfl)⟩ (Nat.le_of_ble_eq_true rfl) (Nat.le_of_ble_eq_true rfl)
set_option maxHeartbeats 4000000 in
set_option maxRecDepth 100000 in
theorem zt_addGenerator_t2c (l : Launch) (D : va_G) (hst : l.stackTraces = false) (c : Nat → ClassId) (a n : Nat → Nat) (A : Nat → Nat → Int32) (B : Nat → Int64) (E : Nat → Nat → Int32) (j : Nat) (hN : zf_N n) (hj : j < n 0) (le gr wu fu : Int32) (h1 : zf_isIn le 0 100) (h2 : zf_isIn gr (ze_mx 1 le) 200) (h3 : ¬ zf_isIn wu 0 9) : ze_T l yX8_addGenerator wsX8_addGenerator 7 104 D c (ze_wC c a n A B E) [.ref (a 0), .int (nI j), .int le, .int gr, .int wu, .int fu] "java/lang/IllegalArgumentException" := by
  intro sz
  refine zx_start (cc := cX8_addGenerator) (maxL := 6) (ret := (some .int)) (own := RX8) (by decide) rfl rfl (Nat.le_of_ble_eq_true rfl) ?_
  obtain ⟨hn0, hn1, hn2, hn3, hn4⟩ := id hN
  intro p e s m_ below meth cd F ls hF hsz E0 hXB htab
  obtain ⟨S, hr, hlocks, hK, hW, hA, hl⟩ := E0
  have hX_ := S.1
  have hB_ := S.2.1
  have hts := S.2.2.2.2
  have hl : lv_has ls 6 [(0, .ref (a 0)), (1, .int (nI j)), (2, .int le), (3, .int gr), (4, .int wu), (5, .int fu)] := hl
  have w0 := hts (.methodLink RX8 146 Lib.Math.max.name) (List.mem_cons_of_mem _ (List.mem_append_left _ (List.mem_append_left _ (List.mem_append_left _ (List.mem_append_left _ (List.mem_append_left _ (List.mem_append_left _ (List.mem_append_left _ (List.mem_append_left _ (List.mem_of_getElem? (i := 2) rfl))))))))))
  have w1 := hts (.static Lib.Math.max.name) (List.mem_cons_of_mem _ (List.mem_append_left _ (List.mem_append_left _ (List.mem_append_left _ (List.mem_append_left _ (List.mem_append_left _ (List.mem_append_left _ (List.mem_append_left _ (List.mem_append_left _ (List.mem_of_getElem? (i := 3) rfl))))))))))
  have w2 := hts (.initialized "java/lang/Math") (List.mem_cons_of_mem _ (List.mem_append_left _ (List.mem_append_left _ (List.mem_append_left _ (List.mem_append_left _ (List.mem_append_left _ (List.mem_append_left _ (List.mem_append_left _ (List.mem_append_left _ (List.mem_of_getElem? (i := 4) rfl))))))))))
  have w3 := hts (.code Lib.Math.max.name Lib.Math.max.code 2 (some .int)) (List.mem_cons_of_mem _ (List.mem_append_left _ (List.mem_append_left _ (List.mem_append_left _ (List.mem_append_left _ (List.mem_append_left _ (List.mem_append_left _ (List.mem_append_left _ (List.mem_append_left _ (List.mem_of_getElem? (i := 5) rfl))))))))))
  refine lv_aload_n hX_ hB_ dX8_addGenerator_0 rfl (lv_at hl 0 rfl) ?_
  refine lv_iload_n hX_ hB_ dX8_addGenerator_1 rfl (lv_at hl 1 rfl) ?_
  refine ze_Vv (As := [.int (nI j)]) (rest := []) (ci := 8) (q0 := 0) (k := (RX8, TX8, 8)) S (zp_checkSite l D c a n A B E j hN (by omega)) (cwV 1 hts gX8_addGenerator_X8_checkSite rfl rfl rfl (by decide +kernel) ⟨Nat.le_of_ble_eq_true rfl, Nat.le_of_ble_eq_true rfl⟩) hK hW hA rfl (ze_at0 0 rfl) rfl hl.1 rfl (lv_room (Nat.le_of_ble_eq_true rfl)) dX8_addGenerator_2 ⟨Nat.le_of_ble_eq_true rfl, Nat.le_of_ble_eq_true rfl⟩ (fun H locs hW => ?_)
  refine lv_iload_n hX_ hB_ dX8_addGenerator_5 rfl (lv_at hl 2 rfl) ?_
  refine lv_iconst (v := 0) hX_ hB_ dX8_addGenerator_6 (by decide) ?_
  refine lv_bipush (v := 100) hX_ hB_ dX8_addGenerator_7 (by decide) ?_
  refine ze_Sv (As := [.int le, .int 0, .int 100]) (rest := []) S (zp_checkRange l D c (ze_wC c a n A B E) le 0 100 (by assumption)) (va_cwS 3 hts gX8_addGenerator_X8_checkRange rfl rfl rfl (by decide +kernel) ⟨Nat.le_of_ble_eq_true rfl, Nat.le_of_ble_eq_true rfl⟩) hK hW hA rfl hl.1 rfl (lv_room (Nat.le_of_ble_eq_true rfl)) dX8_addGenerator_9 ⟨Nat.le_of_ble_eq_true rfl, Nat.le_of_ble_eq_true rfl⟩ (fun H locs hW => ?_)
  refine lv_iload_n hX_ hB_ dX8_addGenerator_12 rfl (lv_at hl 3 rfl) ?_
  refine lv_iconst (v := 1) hX_ hB_ dX8_addGenerator_13 (by decide) ?_
  refine lv_iload_n hX_ hB_ dX8_addGenerator_14 rfl (lv_at hl 2 rfl) ?_
  refine ze_max S hl.1 w0 w1 w2 w3 ⟨Nat.le_of_ble_eq_true rfl, Nat.le_of_ble_eq_true rfl, Nat.le_of_ble_eq_true rfl, Nat.le_of_ble_eq_true rfl⟩ dX8_addGenerator_15 ?_
  refine lv_sipush (v := 200) hX_ hB_ dX8_addGenerator_18 (by decide) ?_
  refine ze_Sv (As := [.int gr, .int (ze_mx 1 le), .int 200]) (rest := []) S (zp_checkRange l D c (ze_wC c a n A B E) gr (ze_mx 1 le) 200 (by assumption)) (va_cwS 3 hts gX8_addGenerator_X8_checkRange rfl rfl rfl (by decide +kernel) ⟨Nat.le_of_ble_eq_true rfl, Nat.le_of_ble_eq_true rfl⟩) hK hW hA rfl hl.1 rfl (lv_room (Nat.le_of_ble_eq_true rfl)) dX8_addGenerator_21 ⟨Nat.le_of_ble_eq_true rfl, Nat.le_of_ble_eq_true rfl⟩ (fun H locs hW => ?_)
  refine lv_iload hX_ hB_ dX8_addGenerator_24 (lv_at hl 4 rfl) ?_
  refine lv_iconst (v := 0) hX_ hB_ dX8_addGenerator_26 (by decide) ?_
  refine lv_bipush (v := 9) hX_ hB_ dX8_addGenerator_27 (by decide) ?_
  exact zx_St (As := [.int wu, .int 0, .int 9]) (rest := []) S (zt_checkRange_t l D hst c (ze_wC c a n A B E) wu 0 9 h3) (va_cwS 3 hts gX8_addGenerator_X8_checkRange rfl rfl rfl (by decide +kernel) ⟨(Nat.le_of_ble_eq_true rfl), (Nat.le_of_ble_eq_true rfl)⟩) hlocks hF hK hW hXB htab hA rfl hl.1 rfl (lv_room (Nat.le_of_ble_eq_true rfl)) dX8_addGenerator_29 ⟨(Nat.le_of_ble_eq_true rfl), (Nat.le_of_ble_eq_true rfl)⟩ (Nat.le_of_ble_eq_true rfl) (Nat.le_of_ble_eq_true rfl)
set_option maxHeartbeats 4000000 in
set_option maxRecDepth 100000 in
theorem zt_addGenerator_t2d (l : Launch) (D : va_G) (hst : l.stackTraces = false) (c : Nat → ClassId) (a n : Nat → Nat) (A : Nat → Nat → Int32) (B : Nat → Int64) (E : Nat → Nat → Int32) (j : Nat) (hN : zf_N n) (hj : j < n 0) (le gr wu fu : Int32) (h1 : zf_isIn le 0 100) (h2 : zf_isIn gr (ze_mx 1 le) 200) (h3 : zf_isIn wu 0 9) (h4 : ¬ zf_isIn fu 0 9999) : ze_T l yX8_addGenerator wsX8_addGenerator 7 104 D c (ze_wC c a n A B E) [.ref (a 0), .int (nI j), .int le, .int gr, .int wu, .int fu] "java/lang/IllegalArgumentException" := by
  intro sz
  refine zx_start (cc := cX8_addGenerator) (maxL := 6) (ret := (some .int)) (own := RX8) (by decide) rfl rfl (Nat.le_of_ble_eq_true rfl) ?_
  obtain ⟨hn0, hn1, hn2, hn3, hn4⟩ := id hN
  intro p e s m_ below meth cd F ls hF hsz E0 hXB htab
  obtain ⟨S, hr, hlocks, hK, hW, hA, hl⟩ := E0
  have hX_ := S.1
  have hB_ := S.2.1
  have hts := S.2.2.2.2
  have hl : lv_has ls 6 [(0, .ref (a 0)), (1, .int (nI j)), (2, .int le), (3, .int gr), (4, .int wu), (5, .int fu)] := hl
  have w0 := hts (.methodLink RX8 146 Lib.Math.max.name) (List.mem_cons_of_mem _ (List.mem_append_left _ (List.mem_append_left _ (List.mem_append_left _ (List.mem_append_left _ (List.mem_append_left _ (List.mem_append_left _ (List.mem_append_left _ (List.mem_append_left _ (List.mem_of_getElem? (i := 2) rfl))))))))))
  have w1 := hts (.static Lib.Math.max.name) (List.mem_cons_of_mem _ (List.mem_append_left _ (List.mem_append_left _ (List.mem_append_left _ (List.mem_append_left _ (List.mem_append_left _ (List.mem_append_left _ (List.mem_append_left _ (List.mem_append_left _ (List.mem_of_getElem? (i := 3) rfl))))))))))
  have w2 := hts (.initialized "java/lang/Math") (List.mem_cons_of_mem _ (List.mem_append_left _ (List.mem_append_left _ (List.mem_append_left _ (List.mem_append_left _ (List.mem_append_left _ (List.mem_append_left _ (List.mem_append_left _ (List.mem_append_left _ (List.mem_of_getElem? (i := 4) rfl))))))))))
  have w3 := hts (.code Lib.Math.max.name Lib.Math.max.code 2 (some .int)) (List.mem_cons_of_mem _ (List.mem_append_left _ (List.mem_append_left _ (List.mem_append_left _ (List.mem_append_left _ (List.mem_append_left _ (List.mem_append_left _ (List.mem_append_left _ (List.mem_append_left _ (List.mem_of_getElem? (i := 5) rfl))))))))))
  refine lv_aload_n hX_ hB_ dX8_addGenerator_0 rfl (lv_at hl 0 rfl) ?_
  refine lv_iload_n hX_ hB_ dX8_addGenerator_1 rfl (lv_at hl 1 rfl) ?_
  refine ze_Vv (As := [.int (nI j)]) (rest := []) (ci := 8) (q0 := 0) (k := (RX8, TX8, 8)) S (zp_checkSite l D c a n A B E j hN (by omega)) (cwV 1 hts gX8_addGenerator_X8_checkSite rfl rfl rfl (by decide +kernel) ⟨Nat.le_of_ble_eq_true rfl, Nat.le_of_ble_eq_true rfl⟩) hK hW hA rfl (ze_at0 0 rfl) rfl hl.1 rfl (lv_room (Nat.le_of_ble_eq_true rfl)) dX8_addGenerator_2 ⟨Nat.le_of_ble_eq_true rfl, Nat.le_of_ble_eq_true rfl⟩ (fun H locs hW => ?_)
  refine lv_iload_n hX_ hB_ dX8_addGenerator_5 rfl (lv_at hl 2 rfl) ?_
  refine lv_iconst (v := 0) hX_ hB_ dX8_addGenerator_6 (by decide) ?_
  refine lv_bipush (v := 100) hX_ hB_ dX8_addGenerator_7 (by decide) ?_
  refine ze_Sv (As := [.int le, .int 0, .int 100]) (rest := []) S (zp_checkRange l D c (ze_wC c a n A B E) le 0 100 (by assumption)) (va_cwS 3 hts gX8_addGenerator_X8_checkRange rfl rfl rfl (by decide +kernel) ⟨Nat.le_of_ble_eq_true rfl, Nat.le_of_ble_eq_true rfl⟩) hK hW hA rfl hl.1 rfl (lv_room (Nat.le_of_ble_eq_true rfl)) dX8_addGenerator_9 ⟨Nat.le_of_ble_eq_true rfl, Nat.le_of_ble_eq_true rfl⟩ (fun H locs hW => ?_)
  refine lv_iload_n hX_ hB_ dX8_addGenerator_12 rfl (lv_at hl 3 rfl) ?_
  refine lv_iconst (v := 1) hX_ hB_ dX8_addGenerator_13 (by decide) ?_
  refine lv_iload_n hX_ hB_ dX8_addGenerator_14 rfl (lv_at hl 2 rfl) ?_
  refine ze_max S hl.1 w0 w1 w2 w3 ⟨Nat.le_of_ble_eq_true rfl, Nat.le_of_ble_eq_true rfl, Nat.le_of_ble_eq_true rfl, Nat.le_of_ble_eq_true rfl⟩ dX8_addGenerator_15 ?_
  refine lv_sipush (v := 200) hX_ hB_ dX8_addGenerator_18 (by decide) ?_
  refine ze_Sv (As := [.int gr, .int (ze_mx 1 le), .int 200]) (rest := []) S (zp_checkRange l D c (ze_wC c a n A B E) gr (ze_mx 1 le) 200 (by assumption)) (va_cwS 3 hts gX8_addGenerator_X8_checkRange rfl rfl rfl (by decide +kernel) ⟨Nat.le_of_ble_eq_true rfl, Nat.le_of_ble_eq_true rfl⟩) hK hW hA rfl hl.1 rfl (lv_room (Nat.le_of_ble_eq_true rfl)) dX8_addGenerator_21 ⟨Nat.le_of_ble_eq_true rfl, Nat.le_of_ble_eq_true rfl⟩ (fun H locs hW => ?_)
  refine lv_iload hX_ hB_ dX8_addGenerator_24 (lv_at hl 4 rfl) ?_
  refine lv_iconst (v := 0) hX_ hB_ dX8_addGenerator_26 (by decide) ?_
  refine lv_bipush (v := 9) hX_ hB_ dX8_addGenerator_27 (by decide) ?_
  refine ze_Sv (As := [.int wu, .int 0, .int 9]) (rest := []) S (zp_checkRange l D c (ze_wC c a n A B E) wu 0 9 (by assumption)) (va_cwS 3 hts gX8_addGenerator_X8_checkRange rfl rfl rfl (by decide +kernel) ⟨Nat.le_of_ble_eq_true rfl, Nat.le_of_ble_eq_true rfl⟩) hK hW hA rfl hl.1 rfl (lv_room (Nat.le_of_ble_eq_true rfl)) dX8_addGenerator_29 ⟨Nat.le_of_ble_eq_true rfl, Nat.le_of_ble_eq_true rfl⟩ (fun H locs hW => ?_)
  refine lv_iload hX_ hB_ dX8_addGenerator_32 (lv_at hl 5 rfl) ?_
  refine lv_iconst (v := 0) hX_ hB_ dX8_addGenerator_34 (by decide) ?_
  refine lv_sipush (v := 9999) hX_ hB_ dX8_addGenerator_35 (by decide) ?_
  exact zx_St (As := [.int fu, .int 0, .int 9999]) (rest := []) S (zt_checkRange_t l D hst c (ze_wC c a n A B E) fu 0 9999 h4) (va_cwS 3 hts gX8_addGenerator_X8_checkRange rfl rfl rfl (by decide +kernel) ⟨(Nat.le_of_ble_eq_true rfl), (Nat.le_of_ble_eq_true rfl)⟩) hlocks hF hK hW hXB htab hA rfl hl.1 rfl (lv_room (Nat.le_of_ble_eq_true rfl)) dX8_addGenerator_38 ⟨(Nat.le_of_ble_eq_true rfl), (Nat.le_of_ble_eq_true rfl)⟩ (Nat.le_of_ble_eq_true rfl) (Nat.le_of_ble_eq_true rfl)
set_option maxHeartbeats 4000000 in
set_option maxRecDepth 100000 in
theorem zt_addGenerator_t3 (l : Launch) (D : va_G) (hst : l.stackTraces = false) (c : Nat → ClassId) (a n : Nat → Nat) (A : Nat → Nat → Int32) (B : Nat → Int64) (E : Nat → Nat → Int32) (j : Nat) (hN : zf_N n) (hj : j < n 0) (le gr wu fu : Int32) (h1 : zf_isIn le 0 100) (h2 : zf_isIn gr (ze_mx 1 le) 200) (h3 : zf_isIn wu 0 9) (h4 : zf_isIn fu 0 9999) (h5 : ¬ n 2 < 6) : ze_T l yX8_addGenerator wsX8_addGenerator 6 82 D c (ze_wC c a n A B E) [.ref (a 0), .int (nI j), .int le, .int gr, .int wu, .int fu] "java/lang/IllegalStateException" := by
  intro sz
  refine zx_start (cc := cX8_addGenerator) (maxL := 6) (ret := (some .int)) (own := RX8) (by decide) rfl rfl (Nat.le_of_ble_eq_true rfl) ?_
  obtain ⟨hn0, hn1, hn2, hn3, hn4⟩ := id hN
  intro p e s m_ below meth cd F ls hF hsz E0 hXB htab
  obtain ⟨S, hr, hlocks, hK, hW, hA, hl⟩ := E0
  have hX_ := S.1
  have hB_ := S.2.1
  have hts := S.2.2.2.2
  have hl : lv_has ls 6 [(0, .ref (a 0)), (1, .int (nI j)), (2, .int le), (3, .int gr), (4, .int wu), (5, .int fu)] := hl
  have hiX0 : ∀ w ∈ u_ws RX0 TX0 5, w ∈ wsX8_addGenerator := fun _ h => (List.mem_cons_of_mem _ (List.mem_append_left _ (List.mem_append_left _ (List.mem_append_left _ (List.mem_append_left _ (List.mem_append_left _ (List.mem_append_right _ h)))))))
  have hiX8 : ∀ w ∈ u_ws RX8 TX8 8, w ∈ wsX8_addGenerator := fun _ h => (List.mem_cons_of_mem _ (List.mem_append_left _ (List.mem_append_left _ (List.mem_append_left _ (List.mem_append_left _ (List.mem_append_left _ (List.mem_append_left _ (List.mem_append_right _ h))))))))
  have w0 := hts (.methodLink RX8 146 Lib.Math.max.name) (List.mem_cons_of_mem _ (List.mem_append_left _ (List.mem_append_left _ (List.mem_append_left _ (List.mem_append_left _ (List.mem_append_left _ (List.mem_append_left _ (List.mem_append_left _ (List.mem_append_left _ (List.mem_of_getElem? (i := 2) rfl))))))))))
  have w1 := hts (.static Lib.Math.max.name) (List.mem_cons_of_mem _ (List.mem_append_left _ (List.mem_append_left _ (List.mem_append_left _ (List.mem_append_left _ (List.mem_append_left _ (List.mem_append_left _ (List.mem_append_left _ (List.mem_append_left _ (List.mem_of_getElem? (i := 3) rfl))))))))))
  have w2 := hts (.initialized "java/lang/Math") (List.mem_cons_of_mem _ (List.mem_append_left _ (List.mem_append_left _ (List.mem_append_left _ (List.mem_append_left _ (List.mem_append_left _ (List.mem_append_left _ (List.mem_append_left _ (List.mem_append_left _ (List.mem_of_getElem? (i := 4) rfl))))))))))
  have w3 := hts (.code Lib.Math.max.name Lib.Math.max.code 2 (some .int)) (List.mem_cons_of_mem _ (List.mem_append_left _ (List.mem_append_left _ (List.mem_append_left _ (List.mem_append_left _ (List.mem_append_left _ (List.mem_append_left _ (List.mem_append_left _ (List.mem_append_left _ (List.mem_of_getElem? (i := 5) rfl))))))))))
  have w4 := hts (.fieldLink RX8 21 "Islandgrid" "fleet" "LIslandgrid$Fleet;") (List.mem_cons_of_mem _ (List.mem_append_left _ (List.mem_append_left _ (List.mem_append_left _ (List.mem_append_left _ (List.mem_append_left _ (List.mem_append_left _ (List.mem_append_left _ (List.mem_append_left _ (List.mem_of_getElem? (i := 6) rfl))))))))))
  have w5 := hts (.fieldLink RX8 151 "Islandgrid$Fleet" "count" "I") (List.mem_cons_of_mem _ (List.mem_append_left _ (List.mem_append_left _ (List.mem_append_left _ (List.mem_append_left _ (List.mem_append_left _ (List.mem_append_left _ (List.mem_append_left _ (List.mem_append_left _ (List.mem_of_getElem? (i := 7) rfl))))))))))
  have w6 := hts (.classLink RX8 53 "java/lang/IllegalStateException") (List.mem_cons_of_mem _ (List.mem_append_left _ (List.mem_append_left _ (List.mem_append_left _ (List.mem_append_left _ (List.mem_append_left _ (List.mem_append_left _ (List.mem_append_left _ (List.mem_append_left _ (List.mem_of_getElem? (i := 0) rfl))))))))))
  have w7 := hts (.initialized "java/lang/IllegalStateException") (List.mem_cons_of_mem _ (List.mem_append_left _ (List.mem_append_left _ (List.mem_append_left _ (List.mem_append_left _ (List.mem_append_left _ (List.mem_append_left _ (List.mem_append_left _ (List.mem_append_left _ (List.mem_of_getElem? (i := 1) rfl))))))))))
  refine lv_aload_n hX_ hB_ dX8_addGenerator_0 rfl (lv_at hl 0 rfl) ?_
  refine lv_iload_n hX_ hB_ dX8_addGenerator_1 rfl (lv_at hl 1 rfl) ?_
  refine ze_Vv (As := [.int (nI j)]) (rest := []) (ci := 8) (q0 := 0) (k := (RX8, TX8, 8)) S (zp_checkSite l D c a n A B E j hN (by omega)) (cwV 1 hts gX8_addGenerator_X8_checkSite rfl rfl rfl (by decide +kernel) ⟨Nat.le_of_ble_eq_true rfl, Nat.le_of_ble_eq_true rfl⟩) hK hW hA rfl (ze_at0 0 rfl) rfl hl.1 rfl (lv_room (Nat.le_of_ble_eq_true rfl)) dX8_addGenerator_2 ⟨Nat.le_of_ble_eq_true rfl, Nat.le_of_ble_eq_true rfl⟩ (fun H locs hW => ?_)
  refine lv_iload_n hX_ hB_ dX8_addGenerator_5 rfl (lv_at hl 2 rfl) ?_
  refine lv_iconst (v := 0) hX_ hB_ dX8_addGenerator_6 (by decide) ?_
  refine lv_bipush (v := 100) hX_ hB_ dX8_addGenerator_7 (by decide) ?_
  refine ze_Sv (As := [.int le, .int 0, .int 100]) (rest := []) S (zp_checkRange l D c (ze_wC c a n A B E) le 0 100 (by assumption)) (va_cwS 3 hts gX8_addGenerator_X8_checkRange rfl rfl rfl (by decide +kernel) ⟨Nat.le_of_ble_eq_true rfl, Nat.le_of_ble_eq_true rfl⟩) hK hW hA rfl hl.1 rfl (lv_room (Nat.le_of_ble_eq_true rfl)) dX8_addGenerator_9 ⟨Nat.le_of_ble_eq_true rfl, Nat.le_of_ble_eq_true rfl⟩ (fun H locs hW => ?_)
  refine lv_iload_n hX_ hB_ dX8_addGenerator_12 rfl (lv_at hl 3 rfl) ?_
  refine lv_iconst (v := 1) hX_ hB_ dX8_addGenerator_13 (by decide) ?_
  refine lv_iload_n hX_ hB_ dX8_addGenerator_14 rfl (lv_at hl 2 rfl) ?_
  refine ze_max S hl.1 w0 w1 w2 w3 ⟨Nat.le_of_ble_eq_true rfl, Nat.le_of_ble_eq_true rfl, Nat.le_of_ble_eq_true rfl, Nat.le_of_ble_eq_true rfl⟩ dX8_addGenerator_15 ?_
  refine lv_sipush (v := 200) hX_ hB_ dX8_addGenerator_18 (by decide) ?_
  refine ze_Sv (As := [.int gr, .int (ze_mx 1 le), .int 200]) (rest := []) S (zp_checkRange l D c (ze_wC c a n A B E) gr (ze_mx 1 le) 200 (by assumption)) (va_cwS 3 hts gX8_addGenerator_X8_checkRange rfl rfl rfl (by decide +kernel) ⟨Nat.le_of_ble_eq_true rfl, Nat.le_of_ble_eq_true rfl⟩) hK hW hA rfl hl.1 rfl (lv_room (Nat.le_of_ble_eq_true rfl)) dX8_addGenerator_21 ⟨Nat.le_of_ble_eq_true rfl, Nat.le_of_ble_eq_true rfl⟩ (fun H locs hW => ?_)
  refine lv_iload hX_ hB_ dX8_addGenerator_24 (lv_at hl 4 rfl) ?_
  refine lv_iconst (v := 0) hX_ hB_ dX8_addGenerator_26 (by decide) ?_
  refine lv_bipush (v := 9) hX_ hB_ dX8_addGenerator_27 (by decide) ?_
  refine ze_Sv (As := [.int wu, .int 0, .int 9]) (rest := []) S (zp_checkRange l D c (ze_wC c a n A B E) wu 0 9 (by assumption)) (va_cwS 3 hts gX8_addGenerator_X8_checkRange rfl rfl rfl (by decide +kernel) ⟨Nat.le_of_ble_eq_true rfl, Nat.le_of_ble_eq_true rfl⟩) hK hW hA rfl hl.1 rfl (lv_room (Nat.le_of_ble_eq_true rfl)) dX8_addGenerator_29 ⟨Nat.le_of_ble_eq_true rfl, Nat.le_of_ble_eq_true rfl⟩ (fun H locs hW => ?_)
  refine lv_iload hX_ hB_ dX8_addGenerator_32 (lv_at hl 5 rfl) ?_
  refine lv_iconst (v := 0) hX_ hB_ dX8_addGenerator_34 (by decide) ?_
  refine lv_sipush (v := 9999) hX_ hB_ dX8_addGenerator_35 (by decide) ?_
  refine ze_Sv (As := [.int fu, .int 0, .int 9999]) (rest := []) S (zp_checkRange l D c (ze_wC c a n A B E) fu 0 9999 (by assumption)) (va_cwS 3 hts gX8_addGenerator_X8_checkRange rfl rfl rfl (by decide +kernel) ⟨Nat.le_of_ble_eq_true rfl, Nat.le_of_ble_eq_true rfl⟩) hK hW hA rfl hl.1 rfl (lv_room (Nat.le_of_ble_eq_true rfl)) dX8_addGenerator_38 ⟨Nat.le_of_ble_eq_true rfl, Nat.le_of_ble_eq_true rfl⟩ (fun H locs hW => ?_)
  refine lv_aload_n hX_ hB_ dX8_addGenerator_41 rfl (lv_at hl 0 rfl) ?_
  refine ze_get (ci := 8) (C := RX8) (T := TX8) (N := 8) (v := .ref (a 9)) S hiX8 hK hW 0 (ze_at0 0 rfl) rfl 1 (by decide) rfl w4 dX8_addGenerator_42 ?_
  refine ze_get (ci := 0) (C := RX0) (T := TX0) (N := 5) (v := .int (nI (n 2))) S hiX0 hK hW 9 (ze_at0 9 rfl) rfl 2 (by decide) rfl w5 dX8_addGenerator_45 ?_
  refine lv_bipush (v := 6) hX_ hB_ dX8_addGenerator_48 (by decide) ?_
  refine lv_icmp_lt (tgt := 63) hX_ hB_ dX8_addGenerator_50 (by decide) (fun c50 => ?_) (fun c50 => ?_)
  · have c50 : (n 2) < 6 := (nI_ltI (a := (n 2)) (b := 6) (by omega) (by omega)).mp c50
    exact absurd c50 h5
  · have c50 : ¬ (n 2) < 6 := fun h9 => c50 ((nI_ltI (a := (n 2)) (b := 6) (by omega) (by omega)).mpr h9)
    exact zx_throw (is := 154) (tx := "there are 6 generators") hst S hlocks hF hK hW hXB htab hl.1 (by decide +kernel) w6 w7 (by decide +kernel) zx_g57 zx_o57 (fun _ h => (List.mem_cons_of_mem _ (List.mem_append_left _ (List.mem_append_left _ (List.mem_append_right _ h))))) ⟨rfl, rfl⟩ dX8_addGenerator_53 dX8_addGenerator_56 dX8_addGenerator_57 dX8_addGenerator_59 dX8_addGenerator_62 ⟨(Nat.le_of_ble_eq_true rfl), (Nat.le_of_ble_eq_true rfl), (Nat.le_of_ble_eq_true rfl), (Nat.le_of_ble_eq_true rfl)⟩ (Nat.le_of_ble_eq_true rfl) (Nat.le_of_ble_eq_true rfl)
set_option maxHeartbeats 4000000 in
set_option maxRecDepth 100000 in
theorem zt_addStore_t2a (l : Launch) (D : va_G) (hst : l.stackTraces = false) (c : Nat → ClassId) (a n : Nat → Nat) (A : Nat → Nat → Int32) (B : Nat → Int64) (E : Nat → Nat → Int32) (j : Nat) (hN : zf_N n) (hj : j < n 0) (y z : Int32) (h1 : ¬ zf_isIn y 1 999) : ze_T l yX8_addStore wsX8_addStore 7 104 D c (ze_wC c a n A B E) [.ref (a 0), .int (nI j), .int y, .int z] "java/lang/IllegalArgumentException" := by
  intro sz
  refine zx_start (cc := cX8_addStore) (maxL := 4) (ret := (some .int)) (own := RX8) (by decide) rfl rfl (Nat.le_of_ble_eq_true rfl) ?_
  obtain ⟨hn0, hn1, hn2, hn3, hn4⟩ := id hN
  intro p e s m_ below meth cd F ls hF hsz E0 hXB htab
  obtain ⟨S, hr, hlocks, hK, hW, hA, hl⟩ := E0
  have hX_ := S.1
  have hB_ := S.2.1
  have hts := S.2.2.2.2
  have hl : lv_has ls 4 [(0, .ref (a 0)), (1, .int (nI j)), (2, .int y), (3, .int z)] := hl
  refine lv_aload_n hX_ hB_ dX8_addStore_0 rfl (lv_at hl 0 rfl) ?_
  refine lv_iload_n hX_ hB_ dX8_addStore_1 rfl (lv_at hl 1 rfl) ?_
  refine ze_Vv (As := [.int (nI j)]) (rest := []) (ci := 8) (q0 := 0) (k := (RX8, TX8, 8)) S (zp_checkSite l D c a n A B E j hN (by omega)) (cwV 1 hts gX8_addStore_X8_checkSite rfl rfl rfl (by decide +kernel) ⟨Nat.le_of_ble_eq_true rfl, Nat.le_of_ble_eq_true rfl⟩) hK hW hA rfl (ze_at0 0 rfl) rfl hl.1 rfl (lv_room (Nat.le_of_ble_eq_true rfl)) dX8_addStore_2 ⟨Nat.le_of_ble_eq_true rfl, Nat.le_of_ble_eq_true rfl⟩ (fun H locs hW => ?_)
  refine lv_iload_n hX_ hB_ dX8_addStore_5 rfl (lv_at hl 2 rfl) ?_
  refine lv_iconst (v := 1) hX_ hB_ dX8_addStore_6 (by decide) ?_
  refine lv_sipush (v := 999) hX_ hB_ dX8_addStore_7 (by decide) ?_
  exact zx_St (As := [.int y, .int 1, .int 999]) (rest := []) S (zt_checkRange_t l D hst c (ze_wC c a n A B E) y 1 999 h1) (va_cwS 3 hts gX8_addStore_X8_checkRange rfl rfl rfl (by decide +kernel) ⟨(Nat.le_of_ble_eq_true rfl), (Nat.le_of_ble_eq_true rfl)⟩) hlocks hF hK hW hXB htab hA rfl hl.1 rfl (lv_room (Nat.le_of_ble_eq_true rfl)) dX8_addStore_10 ⟨(Nat.le_of_ble_eq_true rfl), (Nat.le_of_ble_eq_true rfl)⟩ (Nat.le_of_ble_eq_true rfl) (Nat.le_of_ble_eq_true rfl)
set_option maxHeartbeats 4000000 in
set_option maxRecDepth 100000 in
theorem zt_addStore_t2b (l : Launch) (D : va_G) (hst : l.stackTraces = false) (c : Nat → ClassId) (a n : Nat → Nat) (A : Nat → Nat → Int32) (B : Nat → Int64) (E : Nat → Nat → Int32) (j : Nat) (hN : zf_N n) (hj : j < n 0) (y z : Int32) (h1 : zf_isIn y 1 999) (h2 : ¬ zf_isIn z 1 99) : ze_T l yX8_addStore wsX8_addStore 7 104 D c (ze_wC c a n A B E) [.ref (a 0), .int (nI j), .int y, .int z] "java/lang/IllegalArgumentException" := by
  intro sz
  refine zx_start (cc := cX8_addStore) (maxL := 4) (ret := (some .int)) (own := RX8) (by decide) rfl rfl (Nat.le_of_ble_eq_true rfl) ?_
  obtain ⟨hn0, hn1, hn2, hn3, hn4⟩ := id hN
  intro p e s m_ below meth cd F ls hF hsz E0 hXB htab
  obtain ⟨S, hr, hlocks, hK, hW, hA, hl⟩ := E0
  have hX_ := S.1
  have hB_ := S.2.1
  have hts := S.2.2.2.2
  have hl : lv_has ls 4 [(0, .ref (a 0)), (1, .int (nI j)), (2, .int y), (3, .int z)] := hl
  refine lv_aload_n hX_ hB_ dX8_addStore_0 rfl (lv_at hl 0 rfl) ?_
  refine lv_iload_n hX_ hB_ dX8_addStore_1 rfl (lv_at hl 1 rfl) ?_
  refine ze_Vv (As := [.int (nI j)]) (rest := []) (ci := 8) (q0 := 0) (k := (RX8, TX8, 8)) S (zp_checkSite l D c a n A B E j hN (by omega)) (cwV 1 hts gX8_addStore_X8_checkSite rfl rfl rfl (by decide +kernel) ⟨Nat.le_of_ble_eq_true rfl, Nat.le_of_ble_eq_true rfl⟩) hK hW hA rfl (ze_at0 0 rfl) rfl hl.1 rfl (lv_room (Nat.le_of_ble_eq_true rfl)) dX8_addStore_2 ⟨Nat.le_of_ble_eq_true rfl, Nat.le_of_ble_eq_true rfl⟩ (fun H locs hW => ?_)
  refine lv_iload_n hX_ hB_ dX8_addStore_5 rfl (lv_at hl 2 rfl) ?_
  refine lv_iconst (v := 1) hX_ hB_ dX8_addStore_6 (by decide) ?_
  refine lv_sipush (v := 999) hX_ hB_ dX8_addStore_7 (by decide) ?_
  refine ze_Sv (As := [.int y, .int 1, .int 999]) (rest := []) S (zp_checkRange l D c (ze_wC c a n A B E) y 1 999 (by assumption)) (va_cwS 3 hts gX8_addStore_X8_checkRange rfl rfl rfl (by decide +kernel) ⟨Nat.le_of_ble_eq_true rfl, Nat.le_of_ble_eq_true rfl⟩) hK hW hA rfl hl.1 rfl (lv_room (Nat.le_of_ble_eq_true rfl)) dX8_addStore_10 ⟨Nat.le_of_ble_eq_true rfl, Nat.le_of_ble_eq_true rfl⟩ (fun H locs hW => ?_)
  refine lv_iload_n hX_ hB_ dX8_addStore_13 rfl (lv_at hl 3 rfl) ?_
  refine lv_iconst (v := 1) hX_ hB_ dX8_addStore_14 (by decide) ?_
  refine lv_bipush (v := 99) hX_ hB_ dX8_addStore_15 (by decide) ?_
  exact zx_St (As := [.int z, .int 1, .int 99]) (rest := []) S (zt_checkRange_t l D hst c (ze_wC c a n A B E) z 1 99 h2) (va_cwS 3 hts gX8_addStore_X8_checkRange rfl rfl rfl (by decide +kernel) ⟨(Nat.le_of_ble_eq_true rfl), (Nat.le_of_ble_eq_true rfl)⟩) hlocks hF hK hW hXB htab hA rfl hl.1 rfl (lv_room (Nat.le_of_ble_eq_true rfl)) dX8_addStore_17 ⟨(Nat.le_of_ble_eq_true rfl), (Nat.le_of_ble_eq_true rfl)⟩ (Nat.le_of_ble_eq_true rfl) (Nat.le_of_ble_eq_true rfl)
set_option maxHeartbeats 4000000 in
set_option maxRecDepth 100000 in
theorem zt_addStore_t3 (l : Launch) (D : va_G) (hst : l.stackTraces = false) (c : Nat → ClassId) (a n : Nat → Nat) (A : Nat → Nat → Int32) (B : Nat → Int64) (E : Nat → Nat → Int32) (j : Nat) (hN : zf_N n) (hj : j < n 0) (y z : Int32) (h1 : zf_isIn y 1 999) (h2 : zf_isIn z 1 99) (h3 : ¬ n 3 < 4) : ze_T l yX8_addStore wsX8_addStore 6 82 D c (ze_wC c a n A B E) [.ref (a 0), .int (nI j), .int y, .int z] "java/lang/IllegalStateException" := by
  intro sz
  refine zx_start (cc := cX8_addStore) (maxL := 4) (ret := (some .int)) (own := RX8) (by decide) rfl rfl (Nat.le_of_ble_eq_true rfl) ?_
  obtain ⟨hn0, hn1, hn2, hn3, hn4⟩ := id hN
  intro p e s m_ below meth cd F ls hF hsz E0 hXB htab
  obtain ⟨S, hr, hlocks, hK, hW, hA, hl⟩ := E0
  have hX_ := S.1
  have hB_ := S.2.1
  have hts := S.2.2.2.2
  have hl : lv_has ls 4 [(0, .ref (a 0)), (1, .int (nI j)), (2, .int y), (3, .int z)] := hl
  have hiX6 : ∀ w ∈ u_ws RX6 TX6 3, w ∈ wsX8_addStore := fun _ h => (List.mem_cons_of_mem _ (List.mem_append_left _ (List.mem_append_left _ (List.mem_append_left _ (List.mem_append_left _ (List.mem_append_left _ (List.mem_append_right _ h)))))))
  have hiX8 : ∀ w ∈ u_ws RX8 TX8 8, w ∈ wsX8_addStore := fun _ h => (List.mem_cons_of_mem _ (List.mem_append_left _ (List.mem_append_left _ (List.mem_append_left _ (List.mem_append_left _ (List.mem_append_left _ (List.mem_append_left _ (List.mem_append_right _ h))))))))
  have w0 := hts (.fieldLink RX8 28 "Islandgrid" "storage" "LIslandgrid$Storage;") (List.mem_cons_of_mem _ (List.mem_append_left _ (List.mem_append_left _ (List.mem_append_left _ (List.mem_append_left _ (List.mem_append_left _ (List.mem_append_left _ (List.mem_append_left _ (List.mem_append_left _ (List.mem_of_getElem? (i := 2) rfl))))))))))
  have w1 := hts (.fieldLink RX8 209 "Islandgrid$Storage" "count" "I") (List.mem_cons_of_mem _ (List.mem_append_left _ (List.mem_append_left _ (List.mem_append_left _ (List.mem_append_left _ (List.mem_append_left _ (List.mem_append_left _ (List.mem_append_left _ (List.mem_append_left _ (List.mem_of_getElem? (i := 3) rfl))))))))))
  have w2 := hts (.classLink RX8 53 "java/lang/IllegalStateException") (List.mem_cons_of_mem _ (List.mem_append_left _ (List.mem_append_left _ (List.mem_append_left _ (List.mem_append_left _ (List.mem_append_left _ (List.mem_append_left _ (List.mem_append_left _ (List.mem_append_left _ (List.mem_of_getElem? (i := 0) rfl))))))))))
  have w3 := hts (.initialized "java/lang/IllegalStateException") (List.mem_cons_of_mem _ (List.mem_append_left _ (List.mem_append_left _ (List.mem_append_left _ (List.mem_append_left _ (List.mem_append_left _ (List.mem_append_left _ (List.mem_append_left _ (List.mem_append_left _ (List.mem_of_getElem? (i := 1) rfl))))))))))
  refine lv_aload_n hX_ hB_ dX8_addStore_0 rfl (lv_at hl 0 rfl) ?_
  refine lv_iload_n hX_ hB_ dX8_addStore_1 rfl (lv_at hl 1 rfl) ?_
  refine ze_Vv (As := [.int (nI j)]) (rest := []) (ci := 8) (q0 := 0) (k := (RX8, TX8, 8)) S (zp_checkSite l D c a n A B E j hN (by omega)) (cwV 1 hts gX8_addStore_X8_checkSite rfl rfl rfl (by decide +kernel) ⟨Nat.le_of_ble_eq_true rfl, Nat.le_of_ble_eq_true rfl⟩) hK hW hA rfl (ze_at0 0 rfl) rfl hl.1 rfl (lv_room (Nat.le_of_ble_eq_true rfl)) dX8_addStore_2 ⟨Nat.le_of_ble_eq_true rfl, Nat.le_of_ble_eq_true rfl⟩ (fun H locs hW => ?_)
  refine lv_iload_n hX_ hB_ dX8_addStore_5 rfl (lv_at hl 2 rfl) ?_
  refine lv_iconst (v := 1) hX_ hB_ dX8_addStore_6 (by decide) ?_
  refine lv_sipush (v := 999) hX_ hB_ dX8_addStore_7 (by decide) ?_
  refine ze_Sv (As := [.int y, .int 1, .int 999]) (rest := []) S (zp_checkRange l D c (ze_wC c a n A B E) y 1 999 (by assumption)) (va_cwS 3 hts gX8_addStore_X8_checkRange rfl rfl rfl (by decide +kernel) ⟨Nat.le_of_ble_eq_true rfl, Nat.le_of_ble_eq_true rfl⟩) hK hW hA rfl hl.1 rfl (lv_room (Nat.le_of_ble_eq_true rfl)) dX8_addStore_10 ⟨Nat.le_of_ble_eq_true rfl, Nat.le_of_ble_eq_true rfl⟩ (fun H locs hW => ?_)
  refine lv_iload_n hX_ hB_ dX8_addStore_13 rfl (lv_at hl 3 rfl) ?_
  refine lv_iconst (v := 1) hX_ hB_ dX8_addStore_14 (by decide) ?_
  refine lv_bipush (v := 99) hX_ hB_ dX8_addStore_15 (by decide) ?_
  refine ze_Sv (As := [.int z, .int 1, .int 99]) (rest := []) S (zp_checkRange l D c (ze_wC c a n A B E) z 1 99 (by assumption)) (va_cwS 3 hts gX8_addStore_X8_checkRange rfl rfl rfl (by decide +kernel) ⟨Nat.le_of_ble_eq_true rfl, Nat.le_of_ble_eq_true rfl⟩) hK hW hA rfl hl.1 rfl (lv_room (Nat.le_of_ble_eq_true rfl)) dX8_addStore_17 ⟨Nat.le_of_ble_eq_true rfl, Nat.le_of_ble_eq_true rfl⟩ (fun H locs hW => ?_)
  refine lv_aload_n hX_ hB_ dX8_addStore_20 rfl (lv_at hl 0 rfl) ?_
  refine ze_get (ci := 8) (C := RX8) (T := TX8) (N := 8) (v := .ref (a 13)) S hiX8 hK hW 0 (ze_at0 0 rfl) rfl 2 (by decide) rfl w0 dX8_addStore_21 ?_
  refine ze_get (ci := 6) (C := RX6) (T := TX6) (N := 3) (v := .int (nI (n 3))) S hiX6 hK hW 13 (ze_at0 13 rfl) rfl 2 (by decide) rfl w1 dX8_addStore_24 ?_
  refine lv_iconst (v := 4) hX_ hB_ dX8_addStore_27 (by decide) ?_
  refine lv_icmp_lt (tgt := 41) hX_ hB_ dX8_addStore_28 (by decide) (fun c28 => ?_) (fun c28 => ?_)
  · have c28 : (n 3) < 4 := (nI_ltI (a := (n 3)) (b := 4) (by omega) (by omega)).mp c28
    exact absurd c28 h3
  · have c28 : ¬ (n 3) < 4 := fun h9 => c28 ((nI_ltI (a := (n 3)) (b := 4) (by omega) (by omega)).mpr h9)
    exact zx_throw (is := 210) (tx := "there are 4 stores") hst S hlocks hF hK hW hXB htab hl.1 (by decide +kernel) w2 w3 (by decide +kernel) zx_g57 zx_o57 (fun _ h => (List.mem_cons_of_mem _ (List.mem_append_left _ (List.mem_append_left _ (List.mem_append_right _ h))))) ⟨rfl, rfl⟩ dX8_addStore_31 dX8_addStore_34 dX8_addStore_35 dX8_addStore_37 dX8_addStore_40 ⟨(Nat.le_of_ble_eq_true rfl), (Nat.le_of_ble_eq_true rfl), (Nat.le_of_ble_eq_true rfl), (Nat.le_of_ble_eq_true rfl)⟩ (Nat.le_of_ble_eq_true rfl) (Nat.le_of_ble_eq_true rfl)
set_option maxHeartbeats 4000000 in
set_option maxRecDepth 100000 in
theorem zt_addLoad_t2a (l : Launch) (D : va_G) (hst : l.stackTraces = false) (c : Nat → ClassId) (a n : Nat → Nat) (A : Nat → Nat → Int32) (B : Nat → Int64) (E : Nat → Nat → Int32) (j : Nat) (hN : zf_N n) (hj : j < n 0) (y z : Int32) (h1 : ¬ zf_isIn y 1 200) : ze_T l yX8_addLoad wsX8_addLoad 7 104 D c (ze_wC c a n A B E) [.ref (a 0), .int (nI j), .int y, .int z] "java/lang/IllegalArgumentException" := by
  intro sz
  refine zx_start (cc := cX8_addLoad) (maxL := 4) (ret := (some .int)) (own := RX8) (by decide) rfl rfl (Nat.le_of_ble_eq_true rfl) ?_
  obtain ⟨hn0, hn1, hn2, hn3, hn4⟩ := id hN
  intro p e s m_ below meth cd F ls hF hsz E0 hXB htab
  obtain ⟨S, hr, hlocks, hK, hW, hA, hl⟩ := E0
  have hX_ := S.1
  have hB_ := S.2.1
  have hts := S.2.2.2.2
  have hl : lv_has ls 4 [(0, .ref (a 0)), (1, .int (nI j)), (2, .int y), (3, .int z)] := hl
  refine lv_aload_n hX_ hB_ dX8_addLoad_0 rfl (lv_at hl 0 rfl) ?_
  refine lv_iload_n hX_ hB_ dX8_addLoad_1 rfl (lv_at hl 1 rfl) ?_
  refine ze_Vv (As := [.int (nI j)]) (rest := []) (ci := 8) (q0 := 0) (k := (RX8, TX8, 8)) S (zp_checkSite l D c a n A B E j hN (by omega)) (cwV 1 hts gX8_addLoad_X8_checkSite rfl rfl rfl (by decide +kernel) ⟨Nat.le_of_ble_eq_true rfl, Nat.le_of_ble_eq_true rfl⟩) hK hW hA rfl (ze_at0 0 rfl) rfl hl.1 rfl (lv_room (Nat.le_of_ble_eq_true rfl)) dX8_addLoad_2 ⟨Nat.le_of_ble_eq_true rfl, Nat.le_of_ble_eq_true rfl⟩ (fun H locs hW => ?_)
  refine lv_iload_n hX_ hB_ dX8_addLoad_5 rfl (lv_at hl 2 rfl) ?_
  refine lv_iconst (v := 1) hX_ hB_ dX8_addLoad_6 (by decide) ?_
  refine lv_sipush (v := 200) hX_ hB_ dX8_addLoad_7 (by decide) ?_
  exact zx_St (As := [.int y, .int 1, .int 200]) (rest := []) S (zt_checkRange_t l D hst c (ze_wC c a n A B E) y 1 200 h1) (va_cwS 3 hts gX8_addLoad_X8_checkRange rfl rfl rfl (by decide +kernel) ⟨(Nat.le_of_ble_eq_true rfl), (Nat.le_of_ble_eq_true rfl)⟩) hlocks hF hK hW hXB htab hA rfl hl.1 rfl (lv_room (Nat.le_of_ble_eq_true rfl)) dX8_addLoad_10 ⟨(Nat.le_of_ble_eq_true rfl), (Nat.le_of_ble_eq_true rfl)⟩ (Nat.le_of_ble_eq_true rfl) (Nat.le_of_ble_eq_true rfl)
set_option maxHeartbeats 4000000 in
set_option maxRecDepth 100000 in
theorem zt_addLoad_t2b (l : Launch) (D : va_G) (hst : l.stackTraces = false) (c : Nat → ClassId) (a n : Nat → Nat) (A : Nat → Nat → Int32) (B : Nat → Int64) (E : Nat → Nat → Int32) (j : Nat) (hN : zf_N n) (hj : j < n 0) (y z : Int32) (h1 : zf_isIn y 1 200) (h2 : ¬ zf_isIn z 1 9) : ze_T l yX8_addLoad wsX8_addLoad 7 104 D c (ze_wC c a n A B E) [.ref (a 0), .int (nI j), .int y, .int z] "java/lang/IllegalArgumentException" := by
  intro sz
  refine zx_start (cc := cX8_addLoad) (maxL := 4) (ret := (some .int)) (own := RX8) (by decide) rfl rfl (Nat.le_of_ble_eq_true rfl) ?_
  obtain ⟨hn0, hn1, hn2, hn3, hn4⟩ := id hN
  intro p e s m_ below meth cd F ls hF hsz E0 hXB htab
  obtain ⟨S, hr, hlocks, hK, hW, hA, hl⟩ := E0
  have hX_ := S.1
  have hB_ := S.2.1
  have hts := S.2.2.2.2
  have hl : lv_has ls 4 [(0, .ref (a 0)), (1, .int (nI j)), (2, .int y), (3, .int z)] := hl
  refine lv_aload_n hX_ hB_ dX8_addLoad_0 rfl (lv_at hl 0 rfl) ?_
  refine lv_iload_n hX_ hB_ dX8_addLoad_1 rfl (lv_at hl 1 rfl) ?_
  refine ze_Vv (As := [.int (nI j)]) (rest := []) (ci := 8) (q0 := 0) (k := (RX8, TX8, 8)) S (zp_checkSite l D c a n A B E j hN (by omega)) (cwV 1 hts gX8_addLoad_X8_checkSite rfl rfl rfl (by decide +kernel) ⟨Nat.le_of_ble_eq_true rfl, Nat.le_of_ble_eq_true rfl⟩) hK hW hA rfl (ze_at0 0 rfl) rfl hl.1 rfl (lv_room (Nat.le_of_ble_eq_true rfl)) dX8_addLoad_2 ⟨Nat.le_of_ble_eq_true rfl, Nat.le_of_ble_eq_true rfl⟩ (fun H locs hW => ?_)
  refine lv_iload_n hX_ hB_ dX8_addLoad_5 rfl (lv_at hl 2 rfl) ?_
  refine lv_iconst (v := 1) hX_ hB_ dX8_addLoad_6 (by decide) ?_
  refine lv_sipush (v := 200) hX_ hB_ dX8_addLoad_7 (by decide) ?_
  refine ze_Sv (As := [.int y, .int 1, .int 200]) (rest := []) S (zp_checkRange l D c (ze_wC c a n A B E) y 1 200 (by assumption)) (va_cwS 3 hts gX8_addLoad_X8_checkRange rfl rfl rfl (by decide +kernel) ⟨Nat.le_of_ble_eq_true rfl, Nat.le_of_ble_eq_true rfl⟩) hK hW hA rfl hl.1 rfl (lv_room (Nat.le_of_ble_eq_true rfl)) dX8_addLoad_10 ⟨Nat.le_of_ble_eq_true rfl, Nat.le_of_ble_eq_true rfl⟩ (fun H locs hW => ?_)
  refine lv_iload_n hX_ hB_ dX8_addLoad_13 rfl (lv_at hl 3 rfl) ?_
  refine lv_iconst (v := 1) hX_ hB_ dX8_addLoad_14 (by decide) ?_
  refine lv_bipush (v := 9) hX_ hB_ dX8_addLoad_15 (by decide) ?_
  exact zx_St (As := [.int z, .int 1, .int 9]) (rest := []) S (zt_checkRange_t l D hst c (ze_wC c a n A B E) z 1 9 h2) (va_cwS 3 hts gX8_addLoad_X8_checkRange rfl rfl rfl (by decide +kernel) ⟨(Nat.le_of_ble_eq_true rfl), (Nat.le_of_ble_eq_true rfl)⟩) hlocks hF hK hW hXB htab hA rfl hl.1 rfl (lv_room (Nat.le_of_ble_eq_true rfl)) dX8_addLoad_17 ⟨(Nat.le_of_ble_eq_true rfl), (Nat.le_of_ble_eq_true rfl)⟩ (Nat.le_of_ble_eq_true rfl) (Nat.le_of_ble_eq_true rfl)
set_option maxHeartbeats 4000000 in
set_option maxRecDepth 100000 in
theorem zt_addLoad_t3 (l : Launch) (D : va_G) (hst : l.stackTraces = false) (c : Nat → ClassId) (a n : Nat → Nat) (A : Nat → Nat → Int32) (B : Nat → Int64) (E : Nat → Nat → Int32) (j : Nat) (hN : zf_N n) (hj : j < n 0) (y z : Int32) (h1 : zf_isIn y 1 200) (h2 : zf_isIn z 1 9) (h3 : ¬ n 4 < 10) : ze_T l yX8_addLoad wsX8_addLoad 6 82 D c (ze_wC c a n A B E) [.ref (a 0), .int (nI j), .int y, .int z] "java/lang/IllegalStateException" := by
  intro sz
  refine zx_start (cc := cX8_addLoad) (maxL := 4) (ret := (some .int)) (own := RX8) (by decide) rfl rfl (Nat.le_of_ble_eq_true rfl) ?_
  obtain ⟨hn0, hn1, hn2, hn3, hn4⟩ := id hN
  intro p e s m_ below meth cd F ls hF hsz E0 hXB htab
  obtain ⟨S, hr, hlocks, hK, hW, hA, hl⟩ := E0
  have hX_ := S.1
  have hB_ := S.2.1
  have hts := S.2.2.2.2
  have hl : lv_has ls 4 [(0, .ref (a 0)), (1, .int (nI j)), (2, .int y), (3, .int z)] := hl
  have hiX4 : ∀ w ∈ u_ws RX4 TX4 3, w ∈ wsX8_addLoad := fun _ h => (List.mem_cons_of_mem _ (List.mem_append_left _ (List.mem_append_left _ (List.mem_append_left _ (List.mem_append_left _ (List.mem_append_left _ (List.mem_append_right _ h)))))))
  have hiX8 : ∀ w ∈ u_ws RX8 TX8 8, w ∈ wsX8_addLoad := fun _ h => (List.mem_cons_of_mem _ (List.mem_append_left _ (List.mem_append_left _ (List.mem_append_left _ (List.mem_append_left _ (List.mem_append_left _ (List.mem_append_left _ (List.mem_append_right _ h))))))))
  have w0 := hts (.fieldLink RX8 35 "Islandgrid" "loads" "LIslandgrid$Loads;") (List.mem_cons_of_mem _ (List.mem_append_left _ (List.mem_append_left _ (List.mem_append_left _ (List.mem_append_left _ (List.mem_append_left _ (List.mem_append_left _ (List.mem_append_left _ (List.mem_append_left _ (List.mem_of_getElem? (i := 2) rfl))))))))))
  have w1 := hts (.fieldLink RX8 226 "Islandgrid$Loads" "count" "I") (List.mem_cons_of_mem _ (List.mem_append_left _ (List.mem_append_left _ (List.mem_append_left _ (List.mem_append_left _ (List.mem_append_left _ (List.mem_append_left _ (List.mem_append_left _ (List.mem_append_left _ (List.mem_of_getElem? (i := 3) rfl))))))))))
  have w2 := hts (.classLink RX8 53 "java/lang/IllegalStateException") (List.mem_cons_of_mem _ (List.mem_append_left _ (List.mem_append_left _ (List.mem_append_left _ (List.mem_append_left _ (List.mem_append_left _ (List.mem_append_left _ (List.mem_append_left _ (List.mem_append_left _ (List.mem_of_getElem? (i := 0) rfl))))))))))
  have w3 := hts (.initialized "java/lang/IllegalStateException") (List.mem_cons_of_mem _ (List.mem_append_left _ (List.mem_append_left _ (List.mem_append_left _ (List.mem_append_left _ (List.mem_append_left _ (List.mem_append_left _ (List.mem_append_left _ (List.mem_append_left _ (List.mem_of_getElem? (i := 1) rfl))))))))))
  refine lv_aload_n hX_ hB_ dX8_addLoad_0 rfl (lv_at hl 0 rfl) ?_
  refine lv_iload_n hX_ hB_ dX8_addLoad_1 rfl (lv_at hl 1 rfl) ?_
  refine ze_Vv (As := [.int (nI j)]) (rest := []) (ci := 8) (q0 := 0) (k := (RX8, TX8, 8)) S (zp_checkSite l D c a n A B E j hN (by omega)) (cwV 1 hts gX8_addLoad_X8_checkSite rfl rfl rfl (by decide +kernel) ⟨Nat.le_of_ble_eq_true rfl, Nat.le_of_ble_eq_true rfl⟩) hK hW hA rfl (ze_at0 0 rfl) rfl hl.1 rfl (lv_room (Nat.le_of_ble_eq_true rfl)) dX8_addLoad_2 ⟨Nat.le_of_ble_eq_true rfl, Nat.le_of_ble_eq_true rfl⟩ (fun H locs hW => ?_)
  refine lv_iload_n hX_ hB_ dX8_addLoad_5 rfl (lv_at hl 2 rfl) ?_
  refine lv_iconst (v := 1) hX_ hB_ dX8_addLoad_6 (by decide) ?_
  refine lv_sipush (v := 200) hX_ hB_ dX8_addLoad_7 (by decide) ?_
  refine ze_Sv (As := [.int y, .int 1, .int 200]) (rest := []) S (zp_checkRange l D c (ze_wC c a n A B E) y 1 200 (by assumption)) (va_cwS 3 hts gX8_addLoad_X8_checkRange rfl rfl rfl (by decide +kernel) ⟨Nat.le_of_ble_eq_true rfl, Nat.le_of_ble_eq_true rfl⟩) hK hW hA rfl hl.1 rfl (lv_room (Nat.le_of_ble_eq_true rfl)) dX8_addLoad_10 ⟨Nat.le_of_ble_eq_true rfl, Nat.le_of_ble_eq_true rfl⟩ (fun H locs hW => ?_)
  refine lv_iload_n hX_ hB_ dX8_addLoad_13 rfl (lv_at hl 3 rfl) ?_
  refine lv_iconst (v := 1) hX_ hB_ dX8_addLoad_14 (by decide) ?_
  refine lv_bipush (v := 9) hX_ hB_ dX8_addLoad_15 (by decide) ?_
  refine ze_Sv (As := [.int z, .int 1, .int 9]) (rest := []) S (zp_checkRange l D c (ze_wC c a n A B E) z 1 9 (by assumption)) (va_cwS 3 hts gX8_addLoad_X8_checkRange rfl rfl rfl (by decide +kernel) ⟨Nat.le_of_ble_eq_true rfl, Nat.le_of_ble_eq_true rfl⟩) hK hW hA rfl hl.1 rfl (lv_room (Nat.le_of_ble_eq_true rfl)) dX8_addLoad_17 ⟨Nat.le_of_ble_eq_true rfl, Nat.le_of_ble_eq_true rfl⟩ (fun H locs hW => ?_)
  refine lv_aload_n hX_ hB_ dX8_addLoad_20 rfl (lv_at hl 0 rfl) ?_
  refine ze_get (ci := 8) (C := RX8) (T := TX8) (N := 8) (v := .ref (a 15)) S hiX8 hK hW 0 (ze_at0 0 rfl) rfl 3 (by decide) rfl w0 dX8_addLoad_21 ?_
  refine ze_get (ci := 4) (C := RX4) (T := TX4) (N := 3) (v := .int (nI (n 4))) S hiX4 hK hW 15 (ze_at0 15 rfl) rfl 2 (by decide) rfl w1 dX8_addLoad_24 ?_
  refine lv_bipush (v := 10) hX_ hB_ dX8_addLoad_27 (by decide) ?_
  refine lv_icmp_lt (tgt := 42) hX_ hB_ dX8_addLoad_29 (by decide) (fun c29 => ?_) (fun c29 => ?_)
  · have c29 : (n 4) < 10 := (nI_ltI (a := (n 4)) (b := 10) (by omega) (by omega)).mp c29
    exact absurd c29 h3
  · have c29 : ¬ (n 4) < 10 := fun h9 => c29 ((nI_ltI (a := (n 4)) (b := 10) (by omega) (by omega)).mpr h9)
    exact zx_throw (is := 227) (tx := "there are 10 loads") hst S hlocks hF hK hW hXB htab hl.1 (by decide +kernel) w2 w3 (by decide +kernel) zx_g57 zx_o57 (fun _ h => (List.mem_cons_of_mem _ (List.mem_append_left _ (List.mem_append_left _ (List.mem_append_right _ h))))) ⟨rfl, rfl⟩ dX8_addLoad_32 dX8_addLoad_35 dX8_addLoad_36 dX8_addLoad_38 dX8_addLoad_41 ⟨(Nat.le_of_ble_eq_true rfl), (Nat.le_of_ble_eq_true rfl), (Nat.le_of_ble_eq_true rfl), (Nat.le_of_ble_eq_true rfl)⟩ (Nat.le_of_ble_eq_true rfl) (Nat.le_of_ble_eq_true rfl)
set_option maxHeartbeats 4000000 in
set_option maxRecDepth 100000 in
theorem zt_start_t2 (l : Launch) (D : va_G) (hst : l.stackTraces = false) (c : Nat → ClassId) (a n : Nat → Nat) (A : Nat → Nat → Int32) (B : Nat → Int64) (E : Nat → Nat → Int32) (j : Nat) (hN : zf_N n) (hj : j < n 2) (h : ¬ A 13 j = 111) : ze_T l yX8_start wsX8_start 6 82 D c (ze_wC c a n A B E) [.ref (a 0), .int (nI j)] "java/lang/IllegalStateException" := by
  intro sz
  refine zx_start (cc := cX8_start) (maxL := 3) (ret := (some .int)) (own := RX8) (by decide) rfl rfl (Nat.le_of_ble_eq_true rfl) ?_
  obtain ⟨hn0, hn1, hn2, hn3, hn4⟩ := id hN
  intro p e s m_ below meth cd F ls hF hsz E0 hXB htab
  obtain ⟨S, hr, hlocks, hK, hW, hA, hl⟩ := E0
  have hX_ := S.1
  have hB_ := S.2.1
  have hts := S.2.2.2.2
  have hl : lv_has ls 3 [(0, .ref (a 0)), (1, .int (nI j))] := hl
  have hiX1 : ∀ w ∈ u_ws RX1 TX1 8, w ∈ wsX8_start := fun _ h => (List.mem_cons_of_mem _ (List.mem_append_left _ (List.mem_append_left _ (List.mem_append_left _ (List.mem_append_left _ (List.mem_append_left _ (List.mem_append_right _ h)))))))
  have w0 := hts (.fieldLink RX8 169 "Islandgrid$Generator" "mode" "C") (List.mem_cons_of_mem _ (List.mem_append_left _ (List.mem_append_left _ (List.mem_append_left _ (List.mem_append_left _ (List.mem_append_left _ (List.mem_append_left _ (List.mem_append_left _ (List.mem_of_getElem? (i := 4) rfl)))))))))
  have w1 := hts (.classLink RX8 53 "java/lang/IllegalStateException") (List.mem_cons_of_mem _ (List.mem_append_left _ (List.mem_append_left _ (List.mem_append_left _ (List.mem_append_left _ (List.mem_append_left _ (List.mem_append_left _ (List.mem_append_left _ (List.mem_of_getElem? (i := 0) rfl)))))))))
  have w2 := hts (.initialized "java/lang/IllegalStateException") (List.mem_cons_of_mem _ (List.mem_append_left _ (List.mem_append_left _ (List.mem_append_left _ (List.mem_append_left _ (List.mem_append_left _ (List.mem_append_left _ (List.mem_append_left _ (List.mem_of_getElem? (i := 1) rfl)))))))))
  refine lv_aload_n hX_ hB_ dX8_start_0 rfl (lv_at hl 0 rfl) ?_
  refine lv_iload_n hX_ hB_ dX8_start_1 rfl (lv_at hl 1 rfl) ?_
  refine ze_Vr (As := [.int (nI j)]) (rest := []) (ci := 8) (q0 := 0) (k := (RX8, TX8, 8)) S (zp_generatorAt l D c a n A B E j hN (by omega)) (cwV 1 hts gX8_start_X8_generatorAt rfl rfl rfl (by decide +kernel) ⟨Nat.le_of_ble_eq_true rfl, Nat.le_of_ble_eq_true rfl⟩) hK hW hA rfl (ze_at0 0 rfl) rfl hl.1 rfl (lv_room (Nat.le_of_ble_eq_true rfl)) dX8_start_2 ⟨Nat.le_of_ble_eq_true rfl, Nat.le_of_ble_eq_true rfl⟩ (fun H locs hW => ?_)
  refine lv_astore_n (lv' := [(2, .ref (a (20 + j))), (0, .ref (a 0)), (1, .int (nI j))]) hX_ hB_ dX8_start_5 rfl hl (by decide) rfl (fun ls hl => ?_)
  refine lv_aload_n hX_ hB_ dX8_start_6 rfl (lv_at hl 0 rfl) ?_
  refine ze_get (ci := 1) (C := RX1) (T := TX1) (N := 8) (v := .int (A 13 j)) S hiX1 hK hW (18 + j) (ze_atG (g := j) (by omega)) rfl 5 (by decide) rfl w0 dX8_start_7 ?_
  refine lv_bipush (v := 111) hX_ hB_ dX8_start_10 (by decide) ?_
  refine lv_icmp_eq (tgt := 25) hX_ hB_ dX8_start_12 (by decide) (fun c12 => ?_) (fun c12 => ?_)
  · exact absurd c12 h
  · exact zx_throw (is := 173) (tx := "the generator is not off") hst S hlocks hF hK hW hXB htab hl.1 (by decide +kernel) w1 w2 (by decide +kernel) zx_g57 zx_o57 (fun _ h => (List.mem_cons_of_mem _ (List.mem_append_left _ (List.mem_append_left _ (List.mem_append_right _ h))))) ⟨rfl, rfl⟩ dX8_start_15 dX8_start_18 dX8_start_19 dX8_start_21 dX8_start_24 ⟨(Nat.le_of_ble_eq_true rfl), (Nat.le_of_ble_eq_true rfl), (Nat.le_of_ble_eq_true rfl), (Nat.le_of_ble_eq_true rfl)⟩ (Nat.le_of_ble_eq_true rfl) (Nat.le_of_ble_eq_true rfl)
set_option maxHeartbeats 4000000 in
set_option maxRecDepth 100000 in
theorem zt_start_t3 (l : Launch) (D : va_G) (hst : l.stackTraces = false) (c : Nat → ClassId) (a n : Nat → Nat) (A : Nat → Nat → Int32) (B : Nat → Int64) (E : Nat → Nat → Int32) (j : Nat) (hN : zf_N n) (hj : j < n 2) (h : A 13 j = 111) (h2 : zf_short A j) : ze_T l yX8_start wsX8_start 6 82 D c (ze_wC c a n A B E) [.ref (a 0), .int (nI j)] "java/util/NoSuchElementException" := by
  intro sz
  refine zx_start (cc := cX8_start) (maxL := 3) (ret := (some .int)) (own := RX8) (by decide) rfl rfl (Nat.le_of_ble_eq_true rfl) ?_
  obtain ⟨hn0, hn1, hn2, hn3, hn4⟩ := id hN
  intro p e s m_ below meth cd F ls hF hsz E0 hXB htab
  obtain ⟨S, hr, hlocks, hK, hW, hA, hl⟩ := E0
  have hX_ := S.1
  have hB_ := S.2.1
  have hts := S.2.2.2.2
  have hl : lv_has ls 3 [(0, .ref (a 0)), (1, .int (nI j))] := hl
  have hiX1 : ∀ w ∈ u_ws RX1 TX1 8, w ∈ wsX8_start := fun _ h => (List.mem_cons_of_mem _ (List.mem_append_left _ (List.mem_append_left _ (List.mem_append_left _ (List.mem_append_left _ (List.mem_append_left _ (List.mem_append_right _ h)))))))
  have w0 := hts (.fieldLink RX8 169 "Islandgrid$Generator" "mode" "C") (List.mem_cons_of_mem _ (List.mem_append_left _ (List.mem_append_left _ (List.mem_append_left _ (List.mem_append_left _ (List.mem_append_left _ (List.mem_append_left _ (List.mem_append_left _ (List.mem_of_getElem? (i := 4) rfl)))))))))
  have w1 := hts (.classLink RX8 118 "java/util/NoSuchElementException") (List.mem_cons_of_mem _ (List.mem_append_left _ (List.mem_append_left _ (List.mem_append_left _ (List.mem_append_left _ (List.mem_append_left _ (List.mem_append_left _ (List.mem_append_left _ (List.mem_of_getElem? (i := 2) rfl)))))))))
  have w2 := hts (.initialized "java/util/NoSuchElementException") (List.mem_cons_of_mem _ (List.mem_append_left _ (List.mem_append_left _ (List.mem_append_left _ (List.mem_append_left _ (List.mem_append_left _ (List.mem_append_left _ (List.mem_append_left _ (List.mem_of_getElem? (i := 3) rfl)))))))))
  refine lv_aload_n hX_ hB_ dX8_start_0 rfl (lv_at hl 0 rfl) ?_
  refine lv_iload_n hX_ hB_ dX8_start_1 rfl (lv_at hl 1 rfl) ?_
  refine ze_Vr (As := [.int (nI j)]) (rest := []) (ci := 8) (q0 := 0) (k := (RX8, TX8, 8)) S (zp_generatorAt l D c a n A B E j hN (by omega)) (cwV 1 hts gX8_start_X8_generatorAt rfl rfl rfl (by decide +kernel) ⟨Nat.le_of_ble_eq_true rfl, Nat.le_of_ble_eq_true rfl⟩) hK hW hA rfl (ze_at0 0 rfl) rfl hl.1 rfl (lv_room (Nat.le_of_ble_eq_true rfl)) dX8_start_2 ⟨Nat.le_of_ble_eq_true rfl, Nat.le_of_ble_eq_true rfl⟩ (fun H locs hW => ?_)
  refine lv_astore_n (lv' := [(2, .ref (a (20 + j))), (0, .ref (a 0)), (1, .int (nI j))]) hX_ hB_ dX8_start_5 rfl hl (by decide) rfl (fun ls hl => ?_)
  refine lv_aload_n hX_ hB_ dX8_start_6 rfl (lv_at hl 0 rfl) ?_
  refine ze_get (ci := 1) (C := RX1) (T := TX1) (N := 8) (v := .int (A 13 j)) S hiX1 hK hW (18 + j) (ze_atG (g := j) (by omega)) rfl 5 (by decide) rfl w0 dX8_start_7 ?_
  refine lv_bipush (v := 111) hX_ hB_ dX8_start_10 (by decide) ?_
  refine lv_icmp_eq (tgt := 25) hX_ hB_ dX8_start_12 (by decide) (fun c12 => ?_) (fun c12 => ?_)
  · refine lv_aload_n hX_ hB_ dX8_start_25 rfl (lv_at hl 0 rfl) ?_
    refine ze_Vi (As := []) (rest := []) (ci := 1) (q0 := (18 + j)) (k := (RX1, TX1, 8)) S (zc_1_isShort l D c a n A B E j hN (by omega)) (cwV 0 hts gX8_start_X1_isShort rfl rfl rfl (by decide +kernel) ⟨Nat.le_of_ble_eq_true rfl, Nat.le_of_ble_eq_true rfl⟩) hK hW hA rfl (ze_atG (g := j) (by omega)) rfl hl.1 rfl (lv_room (Nat.le_of_ble_eq_true rfl)) dX8_start_26 ⟨Nat.le_of_ble_eq_true rfl, Nat.le_of_ble_eq_true rfl⟩ (fun H locs hW => ?_)
    refine lv_if_eq (tgt := 42) hX_ hB_ dX8_start_29 (by decide) (fun c29 => ?_) (fun c29 => ?_)
    · have c29 : ¬ (zf_short A j) := ze_bf c29
      exact absurd h2 c29
    · have c29 : zf_short A j := ze_bt c29
      exact zm_thr (is := 179) (tx := "the fuel is less than the least power") hst S hlocks hF hK hW hXB htab hl.1 (by decide +kernel) w1 w2 (by decide +kernel) zm_g122 zm_o122 (fun _ h => (List.mem_cons_of_mem _ (List.mem_append_left _ (List.mem_append_right _ h)))) ⟨rfl, rfl⟩ dX8_start_32 dX8_start_35 dX8_start_36 dX8_start_38 dX8_start_41 ⟨(Nat.le_of_ble_eq_true rfl), (Nat.le_of_ble_eq_true rfl), (Nat.le_of_ble_eq_true rfl), (Nat.le_of_ble_eq_true rfl)⟩ (Nat.le_of_ble_eq_true rfl) (Nat.le_of_ble_eq_true rfl)
  · exact absurd h c12
set_option maxHeartbeats 4000000 in
set_option maxRecDepth 100000 in
theorem zt_stop_t2 (l : Launch) (D : va_G) (hst : l.stackTraces = false) (c : Nat → ClassId) (a n : Nat → Nat) (A : Nat → Nat → Int32) (B : Nat → Int64) (E : Nat → Nat → Int32) (j : Nat) (hN : zf_N n) (hj : j < n 2) (h : A 13 j = 111) : ze_T l yX8_stop wsX8_stop 6 82 D c (ze_wC c a n A B E) [.ref (a 0), .int (nI j)] "java/lang/IllegalStateException" := by
  intro sz
  refine zx_start (cc := cX8_stop) (maxL := 3) (ret := (some .int)) (own := RX8) (by decide) rfl rfl (Nat.le_of_ble_eq_true rfl) ?_
  obtain ⟨hn0, hn1, hn2, hn3, hn4⟩ := id hN
  intro p e s m_ below meth cd F ls hF hsz E0 hXB htab
  obtain ⟨S, hr, hlocks, hK, hW, hA, hl⟩ := E0
  have hX_ := S.1
  have hB_ := S.2.1
  have hts := S.2.2.2.2
  have hl : lv_has ls 3 [(0, .ref (a 0)), (1, .int (nI j))] := hl
  have hiX1 : ∀ w ∈ u_ws RX1 TX1 8, w ∈ wsX8_stop := fun _ h => (List.mem_cons_of_mem _ (List.mem_append_left _ (List.mem_append_left _ (List.mem_append_left _ (List.mem_append_left _ (List.mem_append_right _ h))))))
  have w0 := hts (.fieldLink RX8 169 "Islandgrid$Generator" "mode" "C") (List.mem_cons_of_mem _ (List.mem_append_left _ (List.mem_append_left _ (List.mem_append_left _ (List.mem_append_left _ (List.mem_append_left _ (List.mem_of_getElem? (i := 2) rfl)))))))
  have w1 := hts (.classLink RX8 53 "java/lang/IllegalStateException") (List.mem_cons_of_mem _ (List.mem_append_left _ (List.mem_append_left _ (List.mem_append_left _ (List.mem_append_left _ (List.mem_append_left _ (List.mem_of_getElem? (i := 0) rfl)))))))
  have w2 := hts (.initialized "java/lang/IllegalStateException") (List.mem_cons_of_mem _ (List.mem_append_left _ (List.mem_append_left _ (List.mem_append_left _ (List.mem_append_left _ (List.mem_append_left _ (List.mem_of_getElem? (i := 1) rfl)))))))
  refine lv_aload_n hX_ hB_ dX8_stop_0 rfl (lv_at hl 0 rfl) ?_
  refine lv_iload_n hX_ hB_ dX8_stop_1 rfl (lv_at hl 1 rfl) ?_
  refine ze_Vr (As := [.int (nI j)]) (rest := []) (ci := 8) (q0 := 0) (k := (RX8, TX8, 8)) S (zp_generatorAt l D c a n A B E j hN (by omega)) (cwV 1 hts gX8_stop_X8_generatorAt rfl rfl rfl (by decide +kernel) ⟨Nat.le_of_ble_eq_true rfl, Nat.le_of_ble_eq_true rfl⟩) hK hW hA rfl (ze_at0 0 rfl) rfl hl.1 rfl (lv_room (Nat.le_of_ble_eq_true rfl)) dX8_stop_2 ⟨Nat.le_of_ble_eq_true rfl, Nat.le_of_ble_eq_true rfl⟩ (fun H locs hW => ?_)
  refine lv_astore_n (lv' := [(2, .ref (a (20 + j))), (0, .ref (a 0)), (1, .int (nI j))]) hX_ hB_ dX8_stop_5 rfl hl (by decide) rfl (fun ls hl => ?_)
  refine lv_aload_n hX_ hB_ dX8_stop_6 rfl (lv_at hl 0 rfl) ?_
  refine ze_get (ci := 1) (C := RX1) (T := TX1) (N := 8) (v := .int (A 13 j)) S hiX1 hK hW (18 + j) (ze_atG (g := j) (by omega)) rfl 5 (by decide) rfl w0 dX8_stop_7 ?_
  refine lv_bipush (v := 111) hX_ hB_ dX8_stop_10 (by decide) ?_
  refine lv_icmp_ne (tgt := 25) hX_ hB_ dX8_stop_12 (by decide) (fun c12 => ?_) (fun c12 => ?_)
  · exact absurd h c12
  · exact zx_throw (is := 187) (tx := "the generator is off") hst S hlocks hF hK hW hXB htab hl.1 (by decide +kernel) w1 w2 (by decide +kernel) zx_g57 zx_o57 (fun _ h => (List.mem_cons_of_mem _ (List.mem_append_left _ (List.mem_append_right _ h)))) ⟨rfl, rfl⟩ dX8_stop_15 dX8_stop_18 dX8_stop_19 dX8_stop_21 dX8_stop_24 ⟨(Nat.le_of_ble_eq_true rfl), (Nat.le_of_ble_eq_true rfl), (Nat.le_of_ble_eq_true rfl), (Nat.le_of_ble_eq_true rfl)⟩ (Nat.le_of_ble_eq_true rfl) (Nat.le_of_ble_eq_true rfl)
set_option maxHeartbeats 4000000 in
set_option maxRecDepth 100000 in
theorem zt_startNext_t2 (l : Launch) (D : va_G) (hst : l.stackTraces = false) (c : Nat → ClassId) (a n : Nat → Nat) (A : Nat → Nat → Int32) (B : Nat → Int64) (E : Nat → Nat → Int32) (j : Nat) (hN : zf_N n) (hj : j < n 0) (hS : zf_S n A) (hpick : zf_nx A (E 0) (E 0 j) (n 2) = none) : ze_T l yX8_startNext wsX8_startNext 6 82 D c (ze_wC c a n A B E) [.ref (a 0), .int (nI j)] "java/util/NoSuchElementException" := by
  intro sz
  refine zx_start (cc := cX8_startNext) (maxL := 3) (ret := (some .int)) (own := RX8) (by decide) rfl rfl (Nat.le_of_ble_eq_true rfl) ?_
  obtain ⟨hn0, hn1, hn2, hn3, hn4⟩ := id hN
  intro p e s m_ below meth cd F ls hF hsz E0 hXB htab
  obtain ⟨S, hr, hlocks, hK, hW, hA, hl⟩ := E0
  have hX_ := S.1
  have hB_ := S.2.1
  have hts := S.2.2.2.2
  have hl : lv_has ls 3 [(0, .ref (a 0)), (1, .int (nI j))] := hl
  have hiX5 : ∀ w ∈ u_ws RX5 TX5 10, w ∈ wsX8_startNext := fun _ h => (List.mem_cons_of_mem _ (List.mem_append_left _ (List.mem_append_left _ (List.mem_append_left _ (List.mem_append_left _ (List.mem_append_right _ h))))))
  have hiX8 : ∀ w ∈ u_ws RX8 TX8 8, w ∈ wsX8_startNext := fun _ h => (List.mem_cons_of_mem _ (List.mem_append_left _ (List.mem_append_left _ (List.mem_append_left _ (List.mem_append_left _ (List.mem_append_left _ (List.mem_append_right _ h)))))))
  have w0 := hts (.fieldLink RX8 21 "Islandgrid" "fleet" "LIslandgrid$Fleet;") (List.mem_cons_of_mem _ (List.mem_append_left _ (List.mem_append_left _ (List.mem_append_left _ (List.mem_append_left _ (List.mem_append_left _ (List.mem_append_left _ (List.mem_append_left _ (List.mem_of_getElem? (i := 2) rfl)))))))))
  have w1 := hts (.fieldLink RX8 10 "Islandgrid" "network" "LIslandgrid$Network;") (List.mem_cons_of_mem _ (List.mem_append_left _ (List.mem_append_left _ (List.mem_append_left _ (List.mem_append_left _ (List.mem_append_left _ (List.mem_append_left _ (List.mem_append_left _ (List.mem_of_getElem? (i := 3) rfl)))))))))
  have w2 := hts (.fieldLink RX8 140 "Islandgrid$Network" "islandOf" "[I") (List.mem_cons_of_mem _ (List.mem_append_left _ (List.mem_append_left _ (List.mem_append_left _ (List.mem_append_left _ (List.mem_append_left _ (List.mem_append_left _ (List.mem_append_left _ (List.mem_of_getElem? (i := 4) rfl)))))))))
  have w3 := hts (.classLink RX8 118 "java/util/NoSuchElementException") (List.mem_cons_of_mem _ (List.mem_append_left _ (List.mem_append_left _ (List.mem_append_left _ (List.mem_append_left _ (List.mem_append_left _ (List.mem_append_left _ (List.mem_append_left _ (List.mem_of_getElem? (i := 0) rfl)))))))))
  have w4 := hts (.initialized "java/util/NoSuchElementException") (List.mem_cons_of_mem _ (List.mem_append_left _ (List.mem_append_left _ (List.mem_append_left _ (List.mem_append_left _ (List.mem_append_left _ (List.mem_append_left _ (List.mem_append_left _ (List.mem_of_getElem? (i := 1) rfl)))))))))
  refine lv_aload_n hX_ hB_ dX8_startNext_0 rfl (lv_at hl 0 rfl) ?_
  refine lv_iload_n hX_ hB_ dX8_startNext_1 rfl (lv_at hl 1 rfl) ?_
  refine ze_Vv (As := [.int (nI j)]) (rest := []) (ci := 8) (q0 := 0) (k := (RX8, TX8, 8)) S (zp_checkSite l D c a n A B E j hN (by omega)) (cwV 1 hts gX8_startNext_X8_checkSite rfl rfl rfl (by decide +kernel) ⟨Nat.le_of_ble_eq_true rfl, Nat.le_of_ble_eq_true rfl⟩) hK hW hA rfl (ze_at0 0 rfl) rfl hl.1 rfl (lv_room (Nat.le_of_ble_eq_true rfl)) dX8_startNext_2 ⟨Nat.le_of_ble_eq_true rfl, Nat.le_of_ble_eq_true rfl⟩ (fun H locs hW => ?_)
  refine lv_aload_n hX_ hB_ dX8_startNext_5 rfl (lv_at hl 0 rfl) ?_
  refine ze_get (ci := 8) (C := RX8) (T := TX8) (N := 8) (v := .ref (a 9)) S hiX8 hK hW 0 (ze_at0 0 rfl) rfl 1 (by decide) rfl w0 dX8_startNext_6 ?_
  refine lv_aload_n hX_ hB_ dX8_startNext_9 rfl (lv_at hl 0 rfl) ?_
  refine ze_get (ci := 8) (C := RX8) (T := TX8) (N := 8) (v := .ref (a 1)) S hiX8 hK hW 0 (ze_at0 0 rfl) rfl 0 (by decide) rfl w1 dX8_startNext_10 ?_
  refine ze_get (ci := 5) (C := RX5) (T := TX5) (N := 10) (v := .ref (a 3)) S hiX5 hK hW 1 (ze_at0 1 rfl) rfl 4 (by decide) rfl w2 dX8_startNext_13 ?_
  refine lv_iload_n hX_ hB_ dX8_startNext_16 rfl (lv_at hl 1 rfl) ?_
  refine ze_ialdN hX_ hB_ hK hW 3 (f := E 0) (ze_at0 3 rfl) (i := j) (by omega) (by decide) dX8_startNext_17 ?_
  refine ze_Vi (As := [.int (E 0 j)]) (rest := []) (ci := 0) (q0 := 9) (k := (RX0, TX0, 5)) S (zc_0_nextToStart l D c a n A B E (E 0 j) hN hS) (cwV 1 hts gX8_startNext_X0_nextToStart rfl rfl rfl (by decide +kernel) ⟨Nat.le_of_ble_eq_true rfl, Nat.le_of_ble_eq_true rfl⟩) hK hW hA rfl (ze_at0 9 rfl) rfl hl.1 rfl (lv_room (Nat.le_of_ble_eq_true rfl)) dX8_startNext_18 ⟨Nat.le_of_ble_eq_true rfl, Nat.le_of_ble_eq_true rfl⟩ (fun H locs hW => ?_)
  refine ze_top (y := -1) (by rw [hpick]; rfl) ?_
  refine lv_istore_n (lv' := [(2, .int (-1)), (0, .ref (a 0)), (1, .int (nI j))]) hX_ hB_ dX8_startNext_21 rfl hl (by decide) rfl (fun ls hl => ?_)
  refine lv_iload_n hX_ hB_ dX8_startNext_22 rfl (lv_at hl 0 rfl) ?_
  refine lv_iconst (v := (-1)) hX_ hB_ dX8_startNext_23 (by decide) ?_
  refine lv_icmp_ne (tgt := 37) hX_ hB_ dX8_startNext_24 (by decide) (fun c24 => ?_) (fun c24 => ?_)
  · exact absurd c24 (by decide)
  · exact zm_thr (is := 198) (tx := "there is no generator to start") hst S hlocks hF hK hW hXB htab hl.1 (by decide +kernel) w3 w4 (by decide +kernel) zm_g122 zm_o122 (fun _ h => (List.mem_cons_of_mem _ (List.mem_append_left _ (List.mem_append_right _ h)))) ⟨rfl, rfl⟩ dX8_startNext_27 dX8_startNext_30 dX8_startNext_31 dX8_startNext_33 dX8_startNext_36 ⟨(Nat.le_of_ble_eq_true rfl), (Nat.le_of_ble_eq_true rfl), (Nat.le_of_ble_eq_true rfl), (Nat.le_of_ble_eq_true rfl)⟩ (Nat.le_of_ble_eq_true rfl) (Nat.le_of_ble_eq_true rfl)
set_option maxHeartbeats 4000000 in
set_option maxRecDepth 100000 in
theorem zt_refuel_t2 (l : Launch) (D : va_G) (hst : l.stackTraces = false) (c : Nat → ClassId) (a n : Nat → Nat) (A : Nat → Nat → Int32) (B : Nat → Int64) (E : Nat → Nat → Int32) (j : Nat) (hN : zf_N n) (hj : j < n 2) (y : Int32) (h : ¬ zf_isIn y 1 9999) : ze_T l yX8_refuel wsX8_refuel 7 104 D c (ze_wC c a n A B E) [.ref (a 0), .int (nI j), .int y] "java/lang/IllegalArgumentException" := by
  intro sz
  refine zx_start (cc := cX8_refuel) (maxL := 4) (ret := (some .int)) (own := RX8) (by decide) rfl rfl (Nat.le_of_ble_eq_true rfl) ?_
  obtain ⟨hn0, hn1, hn2, hn3, hn4⟩ := id hN
  intro p e s m_ below meth cd F ls hF hsz E0 hXB htab
  obtain ⟨S, hr, hlocks, hK, hW, hA, hl⟩ := E0
  have hX_ := S.1
  have hB_ := S.2.1
  have hts := S.2.2.2.2
  have hl : lv_has ls 4 [(0, .ref (a 0)), (1, .int (nI j)), (2, .int y)] := hl
  refine lv_aload_n hX_ hB_ dX8_refuel_0 rfl (lv_at hl 0 rfl) ?_
  refine lv_iload_n hX_ hB_ dX8_refuel_1 rfl (lv_at hl 1 rfl) ?_
  refine ze_Vr (As := [.int (nI j)]) (rest := []) (ci := 8) (q0 := 0) (k := (RX8, TX8, 8)) S (zp_generatorAt l D c a n A B E j hN (by omega)) (cwV 1 hts gX8_refuel_X8_generatorAt rfl rfl rfl (by decide +kernel) ⟨Nat.le_of_ble_eq_true rfl, Nat.le_of_ble_eq_true rfl⟩) hK hW hA rfl (ze_at0 0 rfl) rfl hl.1 rfl (lv_room (Nat.le_of_ble_eq_true rfl)) dX8_refuel_2 ⟨Nat.le_of_ble_eq_true rfl, Nat.le_of_ble_eq_true rfl⟩ (fun H locs hW => ?_)
  refine lv_astore_n (lv' := [(3, .ref (a (20 + j))), (0, .ref (a 0)), (1, .int (nI j)), (2, .int y)]) hX_ hB_ dX8_refuel_5 rfl hl (by decide) rfl (fun ls hl => ?_)
  refine lv_iload_n hX_ hB_ dX8_refuel_6 rfl (lv_at hl 3 rfl) ?_
  refine lv_iconst (v := 1) hX_ hB_ dX8_refuel_7 (by decide) ?_
  refine lv_sipush (v := 9999) hX_ hB_ dX8_refuel_8 (by decide) ?_
  exact zx_St (As := [.int y, .int 1, .int 9999]) (rest := []) S (zt_checkRange_t l D hst c (ze_wC c a n A B E) y 1 9999 h) (va_cwS 3 hts gX8_refuel_X8_checkRange rfl rfl rfl (by decide +kernel) ⟨(Nat.le_of_ble_eq_true rfl), (Nat.le_of_ble_eq_true rfl)⟩) hlocks hF hK hW hXB htab hA rfl hl.1 rfl (lv_room (Nat.le_of_ble_eq_true rfl)) dX8_refuel_11 ⟨(Nat.le_of_ble_eq_true rfl), (Nat.le_of_ble_eq_true rfl)⟩ (Nat.le_of_ble_eq_true rfl) (Nat.le_of_ble_eq_true rfl)
set_option maxHeartbeats 4000000 in
set_option maxRecDepth 100000 in
theorem zt_refuel_t3 (l : Launch) (D : va_G) (hst : l.stackTraces = false) (c : Nat → ClassId) (a n : Nat → Nat) (A : Nat → Nat → Int32) (B : Nat → Int64) (E : Nat → Nat → Int32) (j : Nat) (hN : zf_N n) (hj : j < n 2) (y : Int32) (h : zf_isIn y 1 9999) (h2 : ¬ A 10 j + y ≤ 99999) : ze_T l yX8_refuel wsX8_refuel 6 82 D c (ze_wC c a n A B E) [.ref (a 0), .int (nI j), .int y] "java/lang/IllegalStateException" := by
  intro sz
  refine zx_start (cc := cX8_refuel) (maxL := 4) (ret := (some .int)) (own := RX8) (by decide) rfl rfl (Nat.le_of_ble_eq_true rfl) ?_
  obtain ⟨hn0, hn1, hn2, hn3, hn4⟩ := id hN
  intro p e s m_ below meth cd F ls hF hsz E0 hXB htab
  obtain ⟨S, hr, hlocks, hK, hW, hA, hl⟩ := E0
  have hX_ := S.1
  have hB_ := S.2.1
  have hts := S.2.2.2.2
  have hl : lv_has ls 4 [(0, .ref (a 0)), (1, .int (nI j)), (2, .int y)] := hl
  have hiX1 : ∀ w ∈ u_ws RX1 TX1 8, w ∈ wsX8_refuel := fun _ h => (List.mem_cons_of_mem _ (List.mem_append_left _ (List.mem_append_left _ (List.mem_append_left _ (List.mem_append_left _ (List.mem_append_left _ (List.mem_append_right _ h)))))))
  have w0 := hts (.fieldLink RX8 192 "Islandgrid$Generator" "tank" "I") (List.mem_cons_of_mem _ (List.mem_append_left _ (List.mem_append_left _ (List.mem_append_left _ (List.mem_append_left _ (List.mem_append_left _ (List.mem_append_left _ (List.mem_of_getElem? (i := 2) rfl))))))))
  have w1 := hts (.constant RX8 204 (99999)) (List.mem_cons_of_mem _ (List.mem_append_left _ (List.mem_append_left _ (List.mem_append_left _ (List.mem_append_left _ (List.mem_append_left _ (List.mem_append_left _ (List.mem_of_getElem? (i := 3) rfl))))))))
  have w2 := hts (.classLink RX8 53 "java/lang/IllegalStateException") (List.mem_cons_of_mem _ (List.mem_append_left _ (List.mem_append_left _ (List.mem_append_left _ (List.mem_append_left _ (List.mem_append_left _ (List.mem_append_left _ (List.mem_of_getElem? (i := 0) rfl))))))))
  have w3 := hts (.initialized "java/lang/IllegalStateException") (List.mem_cons_of_mem _ (List.mem_append_left _ (List.mem_append_left _ (List.mem_append_left _ (List.mem_append_left _ (List.mem_append_left _ (List.mem_append_left _ (List.mem_of_getElem? (i := 1) rfl))))))))
  refine lv_aload_n hX_ hB_ dX8_refuel_0 rfl (lv_at hl 0 rfl) ?_
  refine lv_iload_n hX_ hB_ dX8_refuel_1 rfl (lv_at hl 1 rfl) ?_
  refine ze_Vr (As := [.int (nI j)]) (rest := []) (ci := 8) (q0 := 0) (k := (RX8, TX8, 8)) S (zp_generatorAt l D c a n A B E j hN (by omega)) (cwV 1 hts gX8_refuel_X8_generatorAt rfl rfl rfl (by decide +kernel) ⟨Nat.le_of_ble_eq_true rfl, Nat.le_of_ble_eq_true rfl⟩) hK hW hA rfl (ze_at0 0 rfl) rfl hl.1 rfl (lv_room (Nat.le_of_ble_eq_true rfl)) dX8_refuel_2 ⟨Nat.le_of_ble_eq_true rfl, Nat.le_of_ble_eq_true rfl⟩ (fun H locs hW => ?_)
  refine lv_astore_n (lv' := [(3, .ref (a (20 + j))), (0, .ref (a 0)), (1, .int (nI j)), (2, .int y)]) hX_ hB_ dX8_refuel_5 rfl hl (by decide) rfl (fun ls hl => ?_)
  refine lv_iload_n hX_ hB_ dX8_refuel_6 rfl (lv_at hl 3 rfl) ?_
  refine lv_iconst (v := 1) hX_ hB_ dX8_refuel_7 (by decide) ?_
  refine lv_sipush (v := 9999) hX_ hB_ dX8_refuel_8 (by decide) ?_
  refine ze_Sv (As := [.int y, .int 1, .int 9999]) (rest := []) S (zp_checkRange l D c (ze_wC c a n A B E) y 1 9999 (by assumption)) (va_cwS 3 hts gX8_refuel_X8_checkRange rfl rfl rfl (by decide +kernel) ⟨Nat.le_of_ble_eq_true rfl, Nat.le_of_ble_eq_true rfl⟩) hK hW hA rfl hl.1 rfl (lv_room (Nat.le_of_ble_eq_true rfl)) dX8_refuel_11 ⟨Nat.le_of_ble_eq_true rfl, Nat.le_of_ble_eq_true rfl⟩ (fun H locs hW => ?_)
  refine lv_aload_n hX_ hB_ dX8_refuel_14 rfl (lv_at hl 0 rfl) ?_
  refine ze_get (ci := 1) (C := RX1) (T := TX1) (N := 8) (v := .int (A 10 j)) S hiX1 hK hW (18 + j) (ze_atG (g := j) (by omega)) rfl 4 (by decide) rfl w0 dX8_refuel_15 ?_
  refine lv_iload_n hX_ hB_ dX8_refuel_18 rfl (lv_at hl 3 rfl) ?_
  refine lv_iadd hX_ hB_ dX8_refuel_19 ?_
  refine lv_ldc (own := RX8) (v := 99999) hX_ hB_ S.2.2.2.1 w1 dX8_refuel_20 ?_
  refine lv_icmp_le (tgt := 35) hX_ hB_ dX8_refuel_22 (by decide) (fun c22 => ?_) (fun c22 => ?_)
  · exact absurd c22 h2
  · exact zx_throw (is := 205) (tx := "the generator would have more than 99999") hst S hlocks hF hK hW hXB htab hl.1 (by decide +kernel) w2 w3 (by decide +kernel) zx_g57 zx_o57 (fun _ h => (List.mem_cons_of_mem _ (List.mem_append_left _ (List.mem_append_left _ (List.mem_append_right _ h))))) ⟨rfl, rfl⟩ dX8_refuel_25 dX8_refuel_28 dX8_refuel_29 dX8_refuel_31 dX8_refuel_34 ⟨(Nat.le_of_ble_eq_true rfl), (Nat.le_of_ble_eq_true rfl), (Nat.le_of_ble_eq_true rfl), (Nat.le_of_ble_eq_true rfl)⟩ (Nat.le_of_ble_eq_true rfl) (Nat.le_of_ble_eq_true rfl)
set_option maxHeartbeats 4000000 in
set_option maxRecDepth 100000 in
theorem zt_toGo_t2 (l : Launch) (D : va_G) (hst : l.stackTraces = false) (c : Nat → ClassId) (a n : Nat → Nat) (A : Nat → Nat → Int32) (B : Nat → Int64) (E : Nat → Nat → Int32) (j : Nat) (hN : zf_N n) (hj : j < n 2) (h : ¬ A 13 j = 119) : ze_T l yX8_toGo wsX8_toGo 6 82 D c (ze_wC c a n A B E) [.ref (a 0), .int (nI j)] "java/util/NoSuchElementException" := by
  intro sz
  refine zx_start (cc := cX8_toGo) (maxL := 3) (ret := (some .int)) (own := RX8) (by decide) rfl rfl (Nat.le_of_ble_eq_true rfl) ?_
  obtain ⟨hn0, hn1, hn2, hn3, hn4⟩ := id hN
  intro p e s m_ below meth cd F ls hF hsz E0 hXB htab
  obtain ⟨S, hr, hlocks, hK, hW, hA, hl⟩ := E0
  have hX_ := S.1
  have hB_ := S.2.1
  have hts := S.2.2.2.2
  have hl : lv_has ls 3 [(0, .ref (a 0)), (1, .int (nI j))] := hl
  have hiX1 : ∀ w ∈ u_ws RX1 TX1 8, w ∈ wsX8_toGo := fun _ h => (List.mem_cons_of_mem _ (List.mem_append_left _ (List.mem_append_left _ (List.mem_append_left _ (List.mem_append_left _ (List.mem_append_right _ h))))))
  have w0 := hts (.fieldLink RX8 169 "Islandgrid$Generator" "mode" "C") (List.mem_cons_of_mem _ (List.mem_append_left _ (List.mem_append_left _ (List.mem_append_left _ (List.mem_append_left _ (List.mem_append_left _ (List.mem_of_getElem? (i := 2) rfl)))))))
  have w1 := hts (.classLink RX8 118 "java/util/NoSuchElementException") (List.mem_cons_of_mem _ (List.mem_append_left _ (List.mem_append_left _ (List.mem_append_left _ (List.mem_append_left _ (List.mem_append_left _ (List.mem_of_getElem? (i := 0) rfl)))))))
  have w2 := hts (.initialized "java/util/NoSuchElementException") (List.mem_cons_of_mem _ (List.mem_append_left _ (List.mem_append_left _ (List.mem_append_left _ (List.mem_append_left _ (List.mem_append_left _ (List.mem_of_getElem? (i := 1) rfl)))))))
  refine lv_aload_n hX_ hB_ dX8_toGo_0 rfl (lv_at hl 0 rfl) ?_
  refine lv_iload_n hX_ hB_ dX8_toGo_1 rfl (lv_at hl 1 rfl) ?_
  refine ze_Vr (As := [.int (nI j)]) (rest := []) (ci := 8) (q0 := 0) (k := (RX8, TX8, 8)) S (zp_generatorAt l D c a n A B E j hN (by omega)) (cwV 1 hts gX8_toGo_X8_generatorAt rfl rfl rfl (by decide +kernel) ⟨Nat.le_of_ble_eq_true rfl, Nat.le_of_ble_eq_true rfl⟩) hK hW hA rfl (ze_at0 0 rfl) rfl hl.1 rfl (lv_room (Nat.le_of_ble_eq_true rfl)) dX8_toGo_2 ⟨Nat.le_of_ble_eq_true rfl, Nat.le_of_ble_eq_true rfl⟩ (fun H locs hW => ?_)
  refine lv_astore_n (lv' := [(2, .ref (a (20 + j))), (0, .ref (a 0)), (1, .int (nI j))]) hX_ hB_ dX8_toGo_5 rfl hl (by decide) rfl (fun ls hl => ?_)
  refine lv_aload_n hX_ hB_ dX8_toGo_6 rfl (lv_at hl 0 rfl) ?_
  refine ze_get (ci := 1) (C := RX1) (T := TX1) (N := 8) (v := .int (A 13 j)) S hiX1 hK hW (18 + j) (ze_atG (g := j) (by omega)) rfl 5 (by decide) rfl w0 dX8_toGo_7 ?_
  refine lv_bipush (v := 119) hX_ hB_ dX8_toGo_10 (by decide) ?_
  refine lv_icmp_eq (tgt := 25) hX_ hB_ dX8_toGo_12 (by decide) (fun c12 => ?_) (fun c12 => ?_)
  · exact absurd c12 h
  · exact zm_thr (is := 207) (tx := "the generator does not warm up") hst S hlocks hF hK hW hXB htab hl.1 (by decide +kernel) w1 w2 (by decide +kernel) zm_g122 zm_o122 (fun _ h => (List.mem_cons_of_mem _ (List.mem_append_left _ (List.mem_append_right _ h)))) ⟨rfl, rfl⟩ dX8_toGo_15 dX8_toGo_18 dX8_toGo_19 dX8_toGo_21 dX8_toGo_24 ⟨(Nat.le_of_ble_eq_true rfl), (Nat.le_of_ble_eq_true rfl), (Nat.le_of_ble_eq_true rfl), (Nat.le_of_ble_eq_true rfl)⟩ (Nat.le_of_ble_eq_true rfl) (Nat.le_of_ble_eq_true rfl)
set_option maxHeartbeats 4000000 in
set_option maxRecDepth 100000 in
theorem zt_setRank_t2 (l : Launch) (D : va_G) (hst : l.stackTraces = false) (c : Nat → ClassId) (a n : Nat → Nat) (A : Nat → Nat → Int32) (B : Nat → Int64) (E : Nat → Nat → Int32) (j : Nat) (hN : zf_N n) (hj : j < n 4) (y : Int32) (h : ¬ zf_isIn y 1 9) : ze_T l yX8_setRank wsX8_setRank 7 104 D c (ze_wC c a n A B E) [.ref (a 0), .int (nI j), .int y] "java/lang/IllegalArgumentException" := by
  intro sz
  refine zx_start (cc := cX8_setRank) (maxL := 5) (ret := (some .int)) (own := RX8) (by decide) rfl rfl (Nat.le_of_ble_eq_true rfl) ?_
  obtain ⟨hn0, hn1, hn2, hn3, hn4⟩ := id hN
  intro p e s m_ below meth cd F ls hF hsz E0 hXB htab
  obtain ⟨S, hr, hlocks, hK, hW, hA, hl⟩ := E0
  have hX_ := S.1
  have hB_ := S.2.1
  have hts := S.2.2.2.2
  have hl : lv_has ls 5 [(0, .ref (a 0)), (1, .int (nI j)), (2, .int y)] := hl
  refine lv_aload_n hX_ hB_ dX8_setRank_0 rfl (lv_at hl 0 rfl) ?_
  refine lv_iload_n hX_ hB_ dX8_setRank_1 rfl (lv_at hl 1 rfl) ?_
  refine ze_Vr (As := [.int (nI j)]) (rest := []) (ci := 8) (q0 := 0) (k := (RX8, TX8, 8)) S (zp_loadAt l D c a n A B E j hN (by omega)) (cwV 1 hts gX8_setRank_X8_loadAt rfl rfl rfl (by decide +kernel) ⟨Nat.le_of_ble_eq_true rfl, Nat.le_of_ble_eq_true rfl⟩) hK hW hA rfl (ze_at0 0 rfl) rfl hl.1 rfl (lv_room (Nat.le_of_ble_eq_true rfl)) dX8_setRank_2 ⟨Nat.le_of_ble_eq_true rfl, Nat.le_of_ble_eq_true rfl⟩ (fun H locs hW => ?_)
  refine lv_astore_n (lv' := [(3, .ref (a (40 + j))), (0, .ref (a 0)), (1, .int (nI j)), (2, .int y)]) hX_ hB_ dX8_setRank_5 rfl hl (by decide) rfl (fun ls hl => ?_)
  refine lv_iload_n hX_ hB_ dX8_setRank_6 rfl (lv_at hl 3 rfl) ?_
  refine lv_iconst (v := 1) hX_ hB_ dX8_setRank_7 (by decide) ?_
  refine lv_bipush (v := 9) hX_ hB_ dX8_setRank_8 (by decide) ?_
  exact zx_St (As := [.int y, .int 1, .int 9]) (rest := []) S (zt_checkRange_t l D hst c (ze_wC c a n A B E) y 1 9 h) (va_cwS 3 hts gX8_setRank_X8_checkRange rfl rfl rfl (by decide +kernel) ⟨(Nat.le_of_ble_eq_true rfl), (Nat.le_of_ble_eq_true rfl)⟩) hlocks hF hK hW hXB htab hA rfl hl.1 rfl (lv_room (Nat.le_of_ble_eq_true rfl)) dX8_setRank_10 ⟨(Nat.le_of_ble_eq_true rfl), (Nat.le_of_ble_eq_true rfl)⟩ (Nat.le_of_ble_eq_true rfl) (Nat.le_of_ble_eq_true rfl)
set_option maxHeartbeats 4000000 in
set_option maxRecDepth 100000 in
theorem zt_waits_t2 (l : Launch) (D : va_G) (hst : l.stackTraces = false) (c : Nat → ClassId) (a n : Nat → Nat) (A : Nat → Nat → Int32) (B : Nat → Int64) (E : Nat → Nat → Int32) (j : Nat) (hN : zf_N n) (hj : j < n 4) (h : A 5 j = 0) : ze_T l yX8_waits wsX8_waits 6 82 D c (ze_wC c a n A B E) [.ref (a 0), .int (nI j)] "java/util/NoSuchElementException" := by
  intro sz
  refine zx_start (cc := cX8_waits) (maxL := 3) (ret := (some .int)) (own := RX8) (by decide) rfl rfl (Nat.le_of_ble_eq_true rfl) ?_
  obtain ⟨hn0, hn1, hn2, hn3, hn4⟩ := id hN
  intro p e s m_ below meth cd F ls hF hsz E0 hXB htab
  obtain ⟨S, hr, hlocks, hK, hW, hA, hl⟩ := E0
  have hX_ := S.1
  have hB_ := S.2.1
  have hts := S.2.2.2.2
  have hl : lv_has ls 3 [(0, .ref (a 0)), (1, .int (nI j))] := hl
  have hiX3 : ∀ w ∈ u_ws RX3 TX3 6, w ∈ wsX8_waits := fun _ h => (List.mem_cons_of_mem _ (List.mem_append_left _ (List.mem_append_left _ (List.mem_append_left _ (List.mem_append_left _ (List.mem_append_right _ h))))))
  have w0 := hts (.fieldLink RX8 241 "Islandgrid$Load" "lit" "Z") (List.mem_cons_of_mem _ (List.mem_append_left _ (List.mem_append_left _ (List.mem_append_left _ (List.mem_append_left _ (List.mem_append_left _ (List.mem_of_getElem? (i := 2) rfl)))))))
  have w1 := hts (.classLink RX8 118 "java/util/NoSuchElementException") (List.mem_cons_of_mem _ (List.mem_append_left _ (List.mem_append_left _ (List.mem_append_left _ (List.mem_append_left _ (List.mem_append_left _ (List.mem_of_getElem? (i := 0) rfl)))))))
  have w2 := hts (.initialized "java/util/NoSuchElementException") (List.mem_cons_of_mem _ (List.mem_append_left _ (List.mem_append_left _ (List.mem_append_left _ (List.mem_append_left _ (List.mem_append_left _ (List.mem_of_getElem? (i := 1) rfl)))))))
  refine lv_aload_n hX_ hB_ dX8_waits_0 rfl (lv_at hl 0 rfl) ?_
  refine lv_iload_n hX_ hB_ dX8_waits_1 rfl (lv_at hl 1 rfl) ?_
  refine ze_Vr (As := [.int (nI j)]) (rest := []) (ci := 8) (q0 := 0) (k := (RX8, TX8, 8)) S (zp_loadAt l D c a n A B E j hN (by omega)) (cwV 1 hts gX8_waits_X8_loadAt rfl rfl rfl (by decide +kernel) ⟨Nat.le_of_ble_eq_true rfl, Nat.le_of_ble_eq_true rfl⟩) hK hW hA rfl (ze_at0 0 rfl) rfl hl.1 rfl (lv_room (Nat.le_of_ble_eq_true rfl)) dX8_waits_2 ⟨Nat.le_of_ble_eq_true rfl, Nat.le_of_ble_eq_true rfl⟩ (fun H locs hW => ?_)
  refine lv_astore_n (lv' := [(2, .ref (a (40 + j))), (0, .ref (a 0)), (1, .int (nI j))]) hX_ hB_ dX8_waits_5 rfl hl (by decide) rfl (fun ls hl => ?_)
  refine lv_aload_n hX_ hB_ dX8_waits_6 rfl (lv_at hl 0 rfl) ?_
  refine ze_get (ci := 3) (C := RX3) (T := TX3) (N := 6) (v := .int (ze_nt (A 5 j))) S hiX3 hK hW (18 + (n 2 + (n 3 + j))) (ze_atL (g := j) (by omega)) rfl 4 (by decide) rfl w0 dX8_waits_7 ?_
  refine lv_if_eq (tgt := 23) hX_ hB_ dX8_waits_10 (by decide) (fun c10 => ?_) (fun c10 => ?_)
  · have c10 : ¬ A 5 j = 0 := ze_ntf c10
    exact absurd h c10
  · have c10 : A 5 j = 0 := ze_ntt c10
    exact zm_thr (is := 244) (tx := "the load is lit") hst S hlocks hF hK hW hXB htab hl.1 (by decide +kernel) w1 w2 (by decide +kernel) zm_g122 zm_o122 (fun _ h => (List.mem_cons_of_mem _ (List.mem_append_left _ (List.mem_append_right _ h)))) ⟨rfl, rfl⟩ dX8_waits_13 dX8_waits_16 dX8_waits_17 dX8_waits_19 dX8_waits_22 ⟨(Nat.le_of_ble_eq_true rfl), (Nat.le_of_ble_eq_true rfl), (Nat.le_of_ble_eq_true rfl), (Nat.le_of_ble_eq_true rfl)⟩ (Nat.le_of_ble_eq_true rfl) (Nat.le_of_ble_eq_true rfl)
set_option maxHeartbeats 4000000 in
set_option maxRecDepth 100000 in
theorem zt_setReserve_t1 (l : Launch) (D : va_G) (hst : l.stackTraces = false) (c : Nat → ClassId) (a n : Nat → Nat) (A : Nat → Nat → Int32) (B : Nat → Int64) (E : Nat → Nat → Int32) (y : Int32) (h : ¬ zf_isIn y 0 999) : ze_T l yX8_setReserve wsX8_setReserve 7 104 D c (ze_wC c a n A B E) [.ref (a 0), .int y] "java/lang/IllegalArgumentException" := by
  intro sz
  refine zx_start (cc := cX8_setReserve) (maxL := 3) (ret := (some .int)) (own := RX8) (by decide) rfl rfl (Nat.le_of_ble_eq_true rfl) ?_
  intro p e s m_ below meth cd F ls hF hsz E0 hXB htab
  obtain ⟨S, hr, hlocks, hK, hW, hA, hl⟩ := E0
  have hX_ := S.1
  have hB_ := S.2.1
  have hts := S.2.2.2.2
  have hl : lv_has ls 3 [(0, .ref (a 0)), (1, .int y)] := hl
  refine lv_iload_n hX_ hB_ dX8_setReserve_0 rfl (lv_at hl 1 rfl) ?_
  refine lv_iconst (v := 0) hX_ hB_ dX8_setReserve_1 (by decide) ?_
  refine lv_sipush (v := 999) hX_ hB_ dX8_setReserve_2 (by decide) ?_
  exact zx_St (As := [.int y, .int 0, .int 999]) (rest := []) S (zt_checkRange_t l D hst c (ze_wC c a n A B E) y 0 999 h) (va_cwS 3 hts gX8_setReserve_X8_checkRange rfl rfl rfl (by decide +kernel) ⟨(Nat.le_of_ble_eq_true rfl), (Nat.le_of_ble_eq_true rfl)⟩) hlocks hF hK hW hXB htab hA rfl hl.1 rfl (lv_room (Nat.le_of_ble_eq_true rfl)) dX8_setReserve_5 ⟨(Nat.le_of_ble_eq_true rfl), (Nat.le_of_ble_eq_true rfl)⟩ (Nat.le_of_ble_eq_true rfl) (Nat.le_of_ble_eq_true rfl)
set_option maxHeartbeats 4000000 in
set_option maxRecDepth 100000 in
theorem zt_setDelay_t1 (l : Launch) (D : va_G) (hst : l.stackTraces = false) (c : Nat → ClassId) (a n : Nat → Nat) (A : Nat → Nat → Int32) (B : Nat → Int64) (E : Nat → Nat → Int32) (y : Int32) (h : ¬ zf_isIn y 0 9) : ze_T l yX8_setDelay wsX8_setDelay 7 104 D c (ze_wC c a n A B E) [.ref (a 0), .int y] "java/lang/IllegalArgumentException" := by
  intro sz
  refine zx_start (cc := cX8_setDelay) (maxL := 3) (ret := (some .int)) (own := RX8) (by decide) rfl rfl (Nat.le_of_ble_eq_true rfl) ?_
  intro p e s m_ below meth cd F ls hF hsz E0 hXB htab
  obtain ⟨S, hr, hlocks, hK, hW, hA, hl⟩ := E0
  have hX_ := S.1
  have hB_ := S.2.1
  have hts := S.2.2.2.2
  have hl : lv_has ls 3 [(0, .ref (a 0)), (1, .int y)] := hl
  refine lv_iload_n hX_ hB_ dX8_setDelay_0 rfl (lv_at hl 1 rfl) ?_
  refine lv_iconst (v := 0) hX_ hB_ dX8_setDelay_1 (by decide) ?_
  refine lv_bipush (v := 9) hX_ hB_ dX8_setDelay_2 (by decide) ?_
  exact zx_St (As := [.int y, .int 0, .int 9]) (rest := []) S (zt_checkRange_t l D hst c (ze_wC c a n A B E) y 0 9 h) (va_cwS 3 hts gX8_setDelay_X8_checkRange rfl rfl rfl (by decide +kernel) ⟨(Nat.le_of_ble_eq_true rfl), (Nat.le_of_ble_eq_true rfl)⟩) hlocks hF hK hW hXB htab hA rfl hl.1 rfl (lv_room (Nat.le_of_ble_eq_true rfl)) dX8_setDelay_4 ⟨(Nat.le_of_ble_eq_true rfl), (Nat.le_of_ble_eq_true rfl)⟩ (Nat.le_of_ble_eq_true rfl) (Nat.le_of_ble_eq_true rfl)
set_option maxHeartbeats 4000000 in
set_option maxRecDepth 100000 in
theorem zt_pass_t1 (l : Launch) (D : va_G) (hst : l.stackTraces = false) (c : Nat → ClassId) (a n : Nat → Nat) (A : Nat → Nat → Int32) (B : Nat → Int64) (E : Nat → Nat → Int32) (x : Int32) (h : ¬ zf_isIn x 1 12) : ze_T l yX8_pass wsX8_pass 7 104 D c (ze_wC c a n A B E) [.ref (a 0), .int x] "java/lang/IllegalArgumentException" := by
  intro sz
  refine zx_start (cc := cX8_pass) (maxL := 3) (ret := (some .int)) (own := RX8) (by decide) rfl rfl (Nat.le_of_ble_eq_true rfl) ?_
  intro p e s m_ below meth cd F ls hF hsz E0 hXB htab
  obtain ⟨S, hr, hlocks, hK, hW, hA, hl⟩ := E0
  have hX_ := S.1
  have hB_ := S.2.1
  have hts := S.2.2.2.2
  have hl : lv_has ls 3 [(0, .ref (a 0)), (1, .int x)] := hl
  refine lv_iload_n hX_ hB_ dX8_pass_0 rfl (lv_at hl 1 rfl) ?_
  refine lv_iconst (v := 1) hX_ hB_ dX8_pass_1 (by decide) ?_
  refine lv_bipush (v := 12) hX_ hB_ dX8_pass_2 (by decide) ?_
  exact zx_St (As := [.int x, .int 1, .int 12]) (rest := []) S (zt_checkRange_t l D hst c (ze_wC c a n A B E) x 1 12 h) (va_cwS 3 hts gX8_pass_X8_checkRange rfl rfl rfl (by decide +kernel) ⟨(Nat.le_of_ble_eq_true rfl), (Nat.le_of_ble_eq_true rfl)⟩) hlocks hF hK hW hXB htab hA rfl hl.1 rfl (lv_room (Nat.le_of_ble_eq_true rfl)) dX8_pass_4 ⟨(Nat.le_of_ble_eq_true rfl), (Nat.le_of_ble_eq_true rfl)⟩ (Nat.le_of_ble_eq_true rfl) (Nat.le_of_ble_eq_true rfl)
set_option maxHeartbeats 4000000 in
set_option maxRecDepth 100000 in
theorem zt_litShare_t1 (l : Launch) (D : va_G) (hst : l.stackTraces = false) (c : Nat → ClassId) (a n : Nat → Nat) (A : Nat → Nat → Int32) (B : Nat → Int64) (E : Nat → Nat → Int32) (hN : zf_N n) (h : n 4 = 0) : ze_T l yX8_litShare wsX8_litShare 6 82 D c (ze_wC c a n A B E) [.ref (a 0)] "java/util/NoSuchElementException" := by
  intro sz
  refine zx_start (cc := cX8_litShare) (maxL := 1) (ret := (some .float)) (own := RX8) (by decide) rfl rfl (Nat.le_of_ble_eq_true rfl) ?_
  obtain ⟨hn0, hn1, hn2, hn3, hn4⟩ := id hN
  intro p e s m_ below meth cd F ls hF hsz E0 hXB htab
  obtain ⟨S, hr, hlocks, hK, hW, hA, hl⟩ := E0
  have hX_ := S.1
  have hB_ := S.2.1
  have hts := S.2.2.2.2
  have hl : lv_has ls 1 [(0, .ref (a 0))] := hl
  have hiX4 : ∀ w ∈ u_ws RX4 TX4 3, w ∈ wsX8_litShare := fun _ h => (List.mem_cons_of_mem _ (List.mem_append_left _ (List.mem_append_left _ (List.mem_append_right _ h))))
  have hiX8 : ∀ w ∈ u_ws RX8 TX8 8, w ∈ wsX8_litShare := fun _ h => (List.mem_cons_of_mem _ (List.mem_append_left _ (List.mem_append_left _ (List.mem_append_left _ (List.mem_append_right _ h)))))
  have w0 := hts (.fieldLink RX8 35 "Islandgrid" "loads" "LIslandgrid$Loads;") (List.mem_cons_of_mem _ (List.mem_append_left _ (List.mem_append_left _ (List.mem_append_left _ (List.mem_append_left _ (List.mem_of_getElem? (i := 2) rfl))))))
  have w1 := hts (.fieldLink RX8 226 "Islandgrid$Loads" "count" "I") (List.mem_cons_of_mem _ (List.mem_append_left _ (List.mem_append_left _ (List.mem_append_left _ (List.mem_append_left _ (List.mem_of_getElem? (i := 3) rfl))))))
  have w2 := hts (.classLink RX8 118 "java/util/NoSuchElementException") (List.mem_cons_of_mem _ (List.mem_append_left _ (List.mem_append_left _ (List.mem_append_left _ (List.mem_append_left _ (List.mem_of_getElem? (i := 0) rfl))))))
  have w3 := hts (.initialized "java/util/NoSuchElementException") (List.mem_cons_of_mem _ (List.mem_append_left _ (List.mem_append_left _ (List.mem_append_left _ (List.mem_append_left _ (List.mem_of_getElem? (i := 1) rfl))))))
  refine lv_aload_n hX_ hB_ dX8_litShare_0 rfl (lv_at hl 0 rfl) ?_
  refine ze_get (ci := 8) (C := RX8) (T := TX8) (N := 8) (v := .ref (a 15)) S hiX8 hK hW 0 (ze_at0 0 rfl) rfl 3 (by decide) rfl w0 dX8_litShare_1 ?_
  refine ze_get (ci := 4) (C := RX4) (T := TX4) (N := 3) (v := .int (nI (n 4))) S hiX4 hK hW 15 (ze_at0 15 rfl) rfl 2 (by decide) rfl w1 dX8_litShare_4 ?_
  refine lv_if_ne (tgt := 21) hX_ hB_ dX8_litShare_7 (by decide) (fun c7 => ?_) (fun c7 => ?_)
  · have c7 : ¬ (n 4) = 0 := fun h9 => c7 ((nI_eq (a := (n 4)) (b := 0) (by omega) (by omega)).mpr h9)
    exact absurd h c7
  · have c7 : (n 4) = 0 := (nI_eq (a := (n 4)) (b := 0) (by omega) (by omega)).mp c7
    exact zm_thrW (is := 323) (tx := "there is no load") hst S hlocks hF hK hW hXB htab hl.1 (by decide +kernel) w2 w3 (by decide +kernel) zm_g122 zm_o122 (fun _ h => (List.mem_cons_of_mem _ (List.mem_append_right _ h))) ⟨rfl, rfl⟩ dX8_litShare_10 dX8_litShare_13 dX8_litShare_14 dX8_litShare_17 dX8_litShare_20 ⟨(Nat.le_of_ble_eq_true rfl), (Nat.le_of_ble_eq_true rfl), (Nat.le_of_ble_eq_true rfl), (Nat.le_of_ble_eq_true rfl)⟩ (Nat.le_of_ble_eq_true rfl) (Nat.le_of_ble_eq_true rfl)
