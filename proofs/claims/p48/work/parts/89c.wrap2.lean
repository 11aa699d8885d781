/-! ===== the law's wrappers, the second half ===== -/
set_option maxHeartbeats 4000000 in
set_option maxRecDepth 100000 in
theorem xw_demand_t1 (l : Launch) (D : va_G) (hst : l.stackTraces = false) (c : Nat → ClassId) (a n : Nat → Nat) (A : Nat → Nat → Int32) (B : Nat → Int64) (E : Nat → Nat → Int32) (x : Int32) (hN : zf_N n) (hx : ¬ zf_isIn x 0 (nI (n 0) - 1)) : ze_Q l yL_demand wsL_demand 9 145 1 6 D c (ze_wC c a n A B E) [.ref (a 0), .int x] (-900001) (ze_wC c a n A B E) := by
  intro sz
  refine zq_start (cc := cL_demand) (maxL := 3) (ret := (some .int)) (own := RL) (by decide) rfl rfl (Nat.le_of_ble_eq_true rfl) ?_
  intro p e s m_ below meth cd F ls hF hsz E0 hXB hNc htab
  obtain ⟨S, hr, hlocks, hK, hW, hA, hl⟩ := E0
  have hX_ := S.1
  have hB_ := S.2.1
  have hts := S.2.2.2.2
  have hl : lv_has ls 3 [(0, .ref (a 0)), (1, .int x)] := hl
  have w0 := hts (.classLink RL 22 "java/lang/IndexOutOfBoundsException") (List.mem_cons_of_mem _ (List.mem_append_left _ (List.mem_append_left _ (List.mem_append_left _ (List.mem_append_left _ (List.mem_append_left _ (List.mem_append_left _ (List.mem_of_getElem? (i := 0) rfl))))))))
  have w1 := hts (.constant RL 17 (-900001)) (List.mem_cons_of_mem _ (List.mem_append_left _ (List.mem_append_left _ (List.mem_append_left _ (List.mem_append_left _ (List.mem_append_left _ (List.mem_append_left _ (List.mem_of_getElem? (i := 1) rfl))))))))
  have hW := ze_W0 hW
  refine lv_aload_n hX_ hB_ dL_demand_0 rfl (lv_at hl 0 rfl) ?_
  refine lv_iload_n hX_ hB_ dL_demand_1 rfl (lv_at hl 1 rfl) ?_
  refine zx_FVc (As := [.int x]) (rest := []) (ci := 8) (q0 := 0) (k := (RX8, TX8, 8)) S (zt_demand_t1 l D hst c a n A B E x hN hx) (cwV 1 hts gL_demand_X8_demand rfl rfl rfl (by decide +kernel) ⟨(Nat.le_of_ble_eq_true rfl), (Nat.le_of_ble_eq_true rfl)⟩) hK hW hXB hA rfl (ze_at0 0 rfl) rfl hl.1 rfl (lv_room (Nat.le_of_ble_eq_true rfl)) dL_demand_2 ⟨(Nat.le_of_ble_eq_true rfl), (Nat.le_of_ble_eq_true rfl)⟩ [] ⟨0, 5, 6, 22⟩ [] htab (by intro z hz; cases hz) (by decide) (by decide) w0 (va_Nw.use rfl (hXB.2.2.2 _ (List.mem_of_getElem? (i := 7) rfl))) (fun q9 H locs hW => ?_)
  have hW := ze_W0' hW
  refine lv_astore_n (lv' := [(2, .ref q9), (0, .ref (a 0)), (1, .int x)]) hX_ hB_ dL_demand_6 rfl hl (by decide) rfl (fun ls hl => ?_)
  refine lv_ldc (own := RL) (v := -900001) hX_ hB_ S.2.2.2.1 w1 dL_demand_7 ?_
  exact ze_iret S hr hlocks hF hK hW rfl dL_demand_9 (Nat.le_of_ble_eq_true rfl) (Nat.le_of_ble_eq_true rfl) rfl rfl
set_option maxHeartbeats 4000000 in
set_option maxRecDepth 100000 in
theorem xw_start_t1 (l : Launch) (D : va_G) (hst : l.stackTraces = false) (c : Nat → ClassId) (a n : Nat → Nat) (A : Nat → Nat → Int32) (B : Nat → Int64) (E : Nat → Nat → Int32) (x : Int32) (hN : zf_N n) (hx : ¬ zf_isIn x 0 (nI (n 2) - 1)) : ze_Q l yL_start wsL_start 9 146 1 6 D c (ze_wC c a n A B E) [.ref (a 0), .int x] (-900001) (ze_wC c a n A B E) := by
  intro sz
  refine zq_start (cc := cL_start) (maxL := 3) (ret := (some .int)) (own := RL) (by decide) rfl rfl (Nat.le_of_ble_eq_true rfl) ?_
  intro p e s m_ below meth cd F ls hF hsz E0 hXB hNc htab
  obtain ⟨S, hr, hlocks, hK, hW, hA, hl⟩ := E0
  have hX_ := S.1
  have hB_ := S.2.1
  have hts := S.2.2.2.2
  have hl : lv_has ls 3 [(0, .ref (a 0)), (1, .int x)] := hl
  have w0 := hts (.classLink RL 22 "java/lang/IndexOutOfBoundsException") (List.mem_cons_of_mem _ (List.mem_append_left _ (List.mem_append_left _ (List.mem_append_left _ (List.mem_append_left _ (List.mem_append_left _ (List.mem_append_left _ (List.mem_append_left _ (List.mem_of_getElem? (i := 0) rfl)))))))))
  have w1 := hts (.constant RL 17 (-900001)) (List.mem_cons_of_mem _ (List.mem_append_left _ (List.mem_append_left _ (List.mem_append_left _ (List.mem_append_left _ (List.mem_append_left _ (List.mem_append_left _ (List.mem_append_left _ (List.mem_of_getElem? (i := 3) rfl)))))))))
  have hW := ze_W0 hW
  refine lv_aload_n hX_ hB_ dL_start_0 rfl (lv_at hl 0 rfl) ?_
  refine lv_iload_n hX_ hB_ dL_start_1 rfl (lv_at hl 1 rfl) ?_
  refine zx_FVc (As := [.int x]) (rest := []) (ci := 8) (q0 := 0) (k := (RX8, TX8, 8)) S (zt_start_t1 l D hst c a n A B E x hN hx) (cwV 1 hts gL_start_X8_start rfl rfl rfl (by decide +kernel) ⟨(Nat.le_of_ble_eq_true rfl), (Nat.le_of_ble_eq_true rfl)⟩) hK hW hXB hA rfl (ze_at0 0 rfl) rfl hl.1 rfl (lv_room (Nat.le_of_ble_eq_true rfl)) dL_start_2 ⟨(Nat.le_of_ble_eq_true rfl), (Nat.le_of_ble_eq_true rfl)⟩ [] ⟨0, 5, 6, 22⟩ [⟨0, 5, 10, 15⟩, ⟨0, 5, 14, 43⟩] htab (by intro z hz; cases hz) (by decide) (by decide) w0 (va_Nw.use rfl (hXB.2.2.2 _ (List.mem_of_getElem? (i := 7) rfl))) (fun q9 H locs hW => ?_)
  have hW := ze_W0' hW
  refine lv_astore_n (lv' := [(2, .ref q9), (0, .ref (a 0)), (1, .int x)]) hX_ hB_ dL_start_6 rfl hl (by decide) rfl (fun ls hl => ?_)
  refine lv_ldc (own := RL) (v := -900001) hX_ hB_ S.2.2.2.1 w1 dL_start_7 ?_
  exact ze_iret S hr hlocks hF hK hW rfl dL_start_9 (Nat.le_of_ble_eq_true rfl) (Nat.le_of_ble_eq_true rfl) rfl rfl
set_option maxHeartbeats 4000000 in
set_option maxRecDepth 100000 in
theorem xw_stop_t1 (l : Launch) (D : va_G) (hst : l.stackTraces = false) (c : Nat → ClassId) (a n : Nat → Nat) (A : Nat → Nat → Int32) (B : Nat → Int64) (E : Nat → Nat → Int32) (x : Int32) (hN : zf_N n) (hx : ¬ zf_isIn x 0 (nI (n 2) - 1)) : ze_Q l yL_stop wsL_stop 9 146 1 6 D c (ze_wC c a n A B E) [.ref (a 0), .int x] (-900001) (ze_wC c a n A B E) := by
  intro sz
  refine zq_start (cc := cL_stop) (maxL := 3) (ret := (some .int)) (own := RL) (by decide) rfl rfl (Nat.le_of_ble_eq_true rfl) ?_
  intro p e s m_ below meth cd F ls hF hsz E0 hXB hNc htab
  obtain ⟨S, hr, hlocks, hK, hW, hA, hl⟩ := E0
  have hX_ := S.1
  have hB_ := S.2.1
  have hts := S.2.2.2.2
  have hl : lv_has ls 3 [(0, .ref (a 0)), (1, .int x)] := hl
  have w0 := hts (.classLink RL 22 "java/lang/IndexOutOfBoundsException") (List.mem_cons_of_mem _ (List.mem_append_left _ (List.mem_append_left _ (List.mem_append_left _ (List.mem_append_left _ (List.mem_append_left _ (List.mem_append_left _ (List.mem_of_getElem? (i := 0) rfl))))))))
  have w1 := hts (.constant RL 17 (-900001)) (List.mem_cons_of_mem _ (List.mem_append_left _ (List.mem_append_left _ (List.mem_append_left _ (List.mem_append_left _ (List.mem_append_left _ (List.mem_append_left _ (List.mem_of_getElem? (i := 2) rfl))))))))
  have hW := ze_W0 hW
  refine lv_aload_n hX_ hB_ dL_stop_0 rfl (lv_at hl 0 rfl) ?_
  refine lv_iload_n hX_ hB_ dL_stop_1 rfl (lv_at hl 1 rfl) ?_
  refine zx_FVc (As := [.int x]) (rest := []) (ci := 8) (q0 := 0) (k := (RX8, TX8, 8)) S (zt_stop_t1 l D hst c a n A B E x hN hx) (cwV 1 hts gL_stop_X8_stop rfl rfl rfl (by decide +kernel) ⟨(Nat.le_of_ble_eq_true rfl), (Nat.le_of_ble_eq_true rfl)⟩) hK hW hXB hA rfl (ze_at0 0 rfl) rfl hl.1 rfl (lv_room (Nat.le_of_ble_eq_true rfl)) dL_stop_2 ⟨(Nat.le_of_ble_eq_true rfl), (Nat.le_of_ble_eq_true rfl)⟩ [] ⟨0, 5, 6, 22⟩ [⟨0, 5, 10, 15⟩] htab (by intro z hz; cases hz) (by decide) (by decide) w0 (va_Nw.use rfl (hXB.2.2.2 _ (List.mem_of_getElem? (i := 7) rfl))) (fun q9 H locs hW => ?_)
  have hW := ze_W0' hW
  refine lv_astore_n (lv' := [(2, .ref q9), (0, .ref (a 0)), (1, .int x)]) hX_ hB_ dL_stop_6 rfl hl (by decide) rfl (fun ls hl => ?_)
  refine lv_ldc (own := RL) (v := -900001) hX_ hB_ S.2.2.2.1 w1 dL_stop_7 ?_
  exact ze_iret S hr hlocks hF hK hW rfl dL_stop_9 (Nat.le_of_ble_eq_true rfl) (Nat.le_of_ble_eq_true rfl) rfl rfl
set_option maxHeartbeats 4000000 in
set_option maxRecDepth 100000 in
theorem xw_state_t1 (l : Launch) (D : va_G) (hst : l.stackTraces = false) (c : Nat → ClassId) (a n : Nat → Nat) (A : Nat → Nat → Int32) (B : Nat → Int64) (E : Nat → Nat → Int32) (x : Int32) (hN : zf_N n) (hx : ¬ zf_isIn x 0 (nI (n 2) - 1)) : ze_Q l yL_state wsL_state 9 145 1 6 D c (ze_wC c a n A B E) [.ref (a 0), .int x] (-900001) (ze_wC c a n A B E) := by
  intro sz
  refine zq_start (cc := cL_state) (maxL := 3) (ret := (some .int)) (own := RL) (by decide) rfl rfl (Nat.le_of_ble_eq_true rfl) ?_
  intro p e s m_ below meth cd F ls hF hsz E0 hXB hNc htab
  obtain ⟨S, hr, hlocks, hK, hW, hA, hl⟩ := E0
  have hX_ := S.1
  have hB_ := S.2.1
  have hts := S.2.2.2.2
  have hl : lv_has ls 3 [(0, .ref (a 0)), (1, .int x)] := hl
  have w0 := hts (.classLink RL 22 "java/lang/IndexOutOfBoundsException") (List.mem_cons_of_mem _ (List.mem_append_left _ (List.mem_append_left _ (List.mem_append_left _ (List.mem_append_left _ (List.mem_of_getElem? (i := 0) rfl))))))
  have w1 := hts (.constant RL 17 (-900001)) (List.mem_cons_of_mem _ (List.mem_append_left _ (List.mem_append_left _ (List.mem_append_left _ (List.mem_append_left _ (List.mem_of_getElem? (i := 1) rfl))))))
  have hW := ze_W0 hW
  refine lv_aload_n hX_ hB_ dL_state_0 rfl (lv_at hl 0 rfl) ?_
  refine lv_iload_n hX_ hB_ dL_state_1 rfl (lv_at hl 1 rfl) ?_
  refine zx_FVc (As := [.int x]) (rest := []) (ci := 8) (q0 := 0) (k := (RX8, TX8, 8)) S (zt_state_t1 l D hst c a n A B E x hN hx) (cwV 1 hts gL_state_X8_state rfl rfl rfl (by decide +kernel) ⟨(Nat.le_of_ble_eq_true rfl), (Nat.le_of_ble_eq_true rfl)⟩) hK hW hXB hA rfl (ze_at0 0 rfl) rfl hl.1 rfl (lv_room (Nat.le_of_ble_eq_true rfl)) dL_state_2 ⟨(Nat.le_of_ble_eq_true rfl), (Nat.le_of_ble_eq_true rfl)⟩ [] ⟨0, 5, 6, 22⟩ [] htab (by intro z hz; cases hz) (by decide) (by decide) w0 (va_Nw.use rfl (hXB.2.2.2 _ (List.mem_of_getElem? (i := 7) rfl))) (fun q9 H locs hW => ?_)
  have hW := ze_W0' hW
  refine lv_astore_n (lv' := [(2, .ref q9), (0, .ref (a 0)), (1, .int x)]) hX_ hB_ dL_state_6 rfl hl (by decide) rfl (fun ls hl => ?_)
  refine lv_ldc (own := RL) (v := -900001) hX_ hB_ S.2.2.2.1 w1 dL_state_7 ?_
  exact ze_iret S hr hlocks hF hK hW rfl dL_state_9 (Nat.le_of_ble_eq_true rfl) (Nat.le_of_ble_eq_true rfl) rfl rfl
set_option maxHeartbeats 4000000 in
set_option maxRecDepth 100000 in
theorem xw_fuel_t1 (l : Launch) (D : va_G) (hst : l.stackTraces = false) (c : Nat → ClassId) (a n : Nat → Nat) (A : Nat → Nat → Int32) (B : Nat → Int64) (E : Nat → Nat → Int32) (x : Int32) (hN : zf_N n) (hx : ¬ zf_isIn x 0 (nI (n 2) - 1)) : ze_Q l yL_fuel wsL_fuel 9 145 1 6 D c (ze_wC c a n A B E) [.ref (a 0), .int x] (-900001) (ze_wC c a n A B E) := by
  intro sz
  refine zq_start (cc := cL_fuel) (maxL := 3) (ret := (some .int)) (own := RL) (by decide) rfl rfl (Nat.le_of_ble_eq_true rfl) ?_
  intro p e s m_ below meth cd F ls hF hsz E0 hXB hNc htab
  obtain ⟨S, hr, hlocks, hK, hW, hA, hl⟩ := E0
  have hX_ := S.1
  have hB_ := S.2.1
  have hts := S.2.2.2.2
  have hl : lv_has ls 3 [(0, .ref (a 0)), (1, .int x)] := hl
  have w0 := hts (.classLink RL 22 "java/lang/IndexOutOfBoundsException") (List.mem_cons_of_mem _ (List.mem_append_left _ (List.mem_append_left _ (List.mem_append_left _ (List.mem_append_left _ (List.mem_of_getElem? (i := 0) rfl))))))
  have w1 := hts (.constant RL 17 (-900001)) (List.mem_cons_of_mem _ (List.mem_append_left _ (List.mem_append_left _ (List.mem_append_left _ (List.mem_append_left _ (List.mem_of_getElem? (i := 1) rfl))))))
  have hW := ze_W0 hW
  refine lv_aload_n hX_ hB_ dL_fuel_0 rfl (lv_at hl 0 rfl) ?_
  refine lv_iload_n hX_ hB_ dL_fuel_1 rfl (lv_at hl 1 rfl) ?_
  refine zx_FVc (As := [.int x]) (rest := []) (ci := 8) (q0 := 0) (k := (RX8, TX8, 8)) S (zt_fuel_t1 l D hst c a n A B E x hN hx) (cwV 1 hts gL_fuel_X8_fuel rfl rfl rfl (by decide +kernel) ⟨(Nat.le_of_ble_eq_true rfl), (Nat.le_of_ble_eq_true rfl)⟩) hK hW hXB hA rfl (ze_at0 0 rfl) rfl hl.1 rfl (lv_room (Nat.le_of_ble_eq_true rfl)) dL_fuel_2 ⟨(Nat.le_of_ble_eq_true rfl), (Nat.le_of_ble_eq_true rfl)⟩ [] ⟨0, 5, 6, 22⟩ [] htab (by intro z hz; cases hz) (by decide) (by decide) w0 (va_Nw.use rfl (hXB.2.2.2 _ (List.mem_of_getElem? (i := 7) rfl))) (fun q9 H locs hW => ?_)
  have hW := ze_W0' hW
  refine lv_astore_n (lv' := [(2, .ref q9), (0, .ref (a 0)), (1, .int x)]) hX_ hB_ dL_fuel_6 rfl hl (by decide) rfl (fun ls hl => ?_)
  refine lv_ldc (own := RL) (v := -900001) hX_ hB_ S.2.2.2.1 w1 dL_fuel_7 ?_
  exact ze_iret S hr hlocks hF hK hW rfl dL_fuel_9 (Nat.le_of_ble_eq_true rfl) (Nat.le_of_ble_eq_true rfl) rfl rfl
set_option maxHeartbeats 4000000 in
set_option maxRecDepth 100000 in
theorem xw_toGo_t1 (l : Launch) (D : va_G) (hst : l.stackTraces = false) (c : Nat → ClassId) (a n : Nat → Nat) (A : Nat → Nat → Int32) (B : Nat → Int64) (E : Nat → Nat → Int32) (x : Int32) (hN : zf_N n) (hx : ¬ zf_isIn x 0 (nI (n 2) - 1)) : ze_Q l yL_toGo wsL_toGo 9 146 1 6 D c (ze_wC c a n A B E) [.ref (a 0), .int x] (-900001) (ze_wC c a n A B E) := by
  intro sz
  refine zq_start (cc := cL_toGo) (maxL := 3) (ret := (some .int)) (own := RL) (by decide) rfl rfl (Nat.le_of_ble_eq_true rfl) ?_
  intro p e s m_ below meth cd F ls hF hsz E0 hXB hNc htab
  obtain ⟨S, hr, hlocks, hK, hW, hA, hl⟩ := E0
  have hX_ := S.1
  have hB_ := S.2.1
  have hts := S.2.2.2.2
  have hl : lv_has ls 3 [(0, .ref (a 0)), (1, .int x)] := hl
  have w0 := hts (.classLink RL 22 "java/lang/IndexOutOfBoundsException") (List.mem_cons_of_mem _ (List.mem_append_left _ (List.mem_append_left _ (List.mem_append_left _ (List.mem_append_left _ (List.mem_append_left _ (List.mem_append_left _ (List.mem_of_getElem? (i := 0) rfl))))))))
  have w1 := hts (.constant RL 17 (-900001)) (List.mem_cons_of_mem _ (List.mem_append_left _ (List.mem_append_left _ (List.mem_append_left _ (List.mem_append_left _ (List.mem_append_left _ (List.mem_append_left _ (List.mem_of_getElem? (i := 2) rfl))))))))
  have hW := ze_W0 hW
  refine lv_aload_n hX_ hB_ dL_toGo_0 rfl (lv_at hl 0 rfl) ?_
  refine lv_iload_n hX_ hB_ dL_toGo_1 rfl (lv_at hl 1 rfl) ?_
  refine zx_FVc (As := [.int x]) (rest := []) (ci := 8) (q0 := 0) (k := (RX8, TX8, 8)) S (zt_toGo_t1 l D hst c a n A B E x hN hx) (cwV 1 hts gL_toGo_X8_toGo rfl rfl rfl (by decide +kernel) ⟨(Nat.le_of_ble_eq_true rfl), (Nat.le_of_ble_eq_true rfl)⟩) hK hW hXB hA rfl (ze_at0 0 rfl) rfl hl.1 rfl (lv_room (Nat.le_of_ble_eq_true rfl)) dL_toGo_2 ⟨(Nat.le_of_ble_eq_true rfl), (Nat.le_of_ble_eq_true rfl)⟩ [] ⟨0, 5, 6, 22⟩ [⟨0, 5, 10, 43⟩] htab (by intro z hz; cases hz) (by decide) (by decide) w0 (va_Nw.use rfl (hXB.2.2.2 _ (List.mem_of_getElem? (i := 7) rfl))) (fun q9 H locs hW => ?_)
  have hW := ze_W0' hW
  refine lv_astore_n (lv' := [(2, .ref q9), (0, .ref (a 0)), (1, .int x)]) hX_ hB_ dL_toGo_6 rfl hl (by decide) rfl (fun ls hl => ?_)
  refine lv_ldc (own := RL) (v := -900001) hX_ hB_ S.2.2.2.1 w1 dL_toGo_7 ?_
  exact ze_iret S hr hlocks hF hK hW rfl dL_toGo_9 (Nat.le_of_ble_eq_true rfl) (Nat.le_of_ble_eq_true rfl) rfl rfl
set_option maxHeartbeats 4000000 in
set_option maxRecDepth 100000 in
theorem xw_given_t1 (l : Launch) (D : va_G) (hst : l.stackTraces = false) (c : Nat → ClassId) (a n : Nat → Nat) (A : Nat → Nat → Int32) (B : Nat → Int64) (E : Nat → Nat → Int32) (x : Int32) (hN : zf_N n) (hx : ¬ zf_isIn x 0 (nI (n 2) - 1)) : ze_Q l yL_given wsL_given 9 145 1 6 D c (ze_wC c a n A B E) [.ref (a 0), .int x] (-900001) (ze_wC c a n A B E) := by
  intro sz
  refine zq_start (cc := cL_given) (maxL := 3) (ret := (some .int)) (own := RL) (by decide) rfl rfl (Nat.le_of_ble_eq_true rfl) ?_
  intro p e s m_ below meth cd F ls hF hsz E0 hXB hNc htab
  obtain ⟨S, hr, hlocks, hK, hW, hA, hl⟩ := E0
  have hX_ := S.1
  have hB_ := S.2.1
  have hts := S.2.2.2.2
  have hl : lv_has ls 3 [(0, .ref (a 0)), (1, .int x)] := hl
  have w0 := hts (.classLink RL 22 "java/lang/IndexOutOfBoundsException") (List.mem_cons_of_mem _ (List.mem_append_left _ (List.mem_append_left _ (List.mem_append_left _ (List.mem_append_left _ (List.mem_of_getElem? (i := 0) rfl))))))
  have w1 := hts (.constant RL 17 (-900001)) (List.mem_cons_of_mem _ (List.mem_append_left _ (List.mem_append_left _ (List.mem_append_left _ (List.mem_append_left _ (List.mem_of_getElem? (i := 1) rfl))))))
  have hW := ze_W0 hW
  refine lv_aload_n hX_ hB_ dL_given_0 rfl (lv_at hl 0 rfl) ?_
  refine lv_iload_n hX_ hB_ dL_given_1 rfl (lv_at hl 1 rfl) ?_
  refine zx_FVc (As := [.int x]) (rest := []) (ci := 8) (q0 := 0) (k := (RX8, TX8, 8)) S (zt_given_t1 l D hst c a n A B E x hN hx) (cwV 1 hts gL_given_X8_given rfl rfl rfl (by decide +kernel) ⟨(Nat.le_of_ble_eq_true rfl), (Nat.le_of_ble_eq_true rfl)⟩) hK hW hXB hA rfl (ze_at0 0 rfl) rfl hl.1 rfl (lv_room (Nat.le_of_ble_eq_true rfl)) dL_given_2 ⟨(Nat.le_of_ble_eq_true rfl), (Nat.le_of_ble_eq_true rfl)⟩ [] ⟨0, 5, 6, 22⟩ [] htab (by intro z hz; cases hz) (by decide) (by decide) w0 (va_Nw.use rfl (hXB.2.2.2 _ (List.mem_of_getElem? (i := 7) rfl))) (fun q9 H locs hW => ?_)
  have hW := ze_W0' hW
  refine lv_astore_n (lv' := [(2, .ref q9), (0, .ref (a 0)), (1, .int x)]) hX_ hB_ dL_given_6 rfl hl (by decide) rfl (fun ls hl => ?_)
  refine lv_ldc (own := RL) (v := -900001) hX_ hB_ S.2.2.2.1 w1 dL_given_7 ?_
  exact ze_iret S hr hlocks hF hK hW rfl dL_given_9 (Nat.le_of_ble_eq_true rfl) (Nat.le_of_ble_eq_true rfl) rfl rfl
set_option maxHeartbeats 4000000 in
set_option maxRecDepth 100000 in
theorem xw_charge_t1 (l : Launch) (D : va_G) (hst : l.stackTraces = false) (c : Nat → ClassId) (a n : Nat → Nat) (A : Nat → Nat → Int32) (B : Nat → Int64) (E : Nat → Nat → Int32) (x : Int32) (hN : zf_N n) (hx : ¬ zf_isIn x 0 (nI (n 3) - 1)) : ze_Q l yL_charge wsL_charge 9 145 1 6 D c (ze_wC c a n A B E) [.ref (a 0), .int x] (-900001) (ze_wC c a n A B E) := by
  intro sz
  refine zq_start (cc := cL_charge) (maxL := 3) (ret := (some .int)) (own := RL) (by decide) rfl rfl (Nat.le_of_ble_eq_true rfl) ?_
  intro p e s m_ below meth cd F ls hF hsz E0 hXB hNc htab
  obtain ⟨S, hr, hlocks, hK, hW, hA, hl⟩ := E0
  have hX_ := S.1
  have hB_ := S.2.1
  have hts := S.2.2.2.2
  have hl : lv_has ls 3 [(0, .ref (a 0)), (1, .int x)] := hl
  have w0 := hts (.classLink RL 22 "java/lang/IndexOutOfBoundsException") (List.mem_cons_of_mem _ (List.mem_append_left _ (List.mem_append_left _ (List.mem_append_left _ (List.mem_append_left _ (List.mem_of_getElem? (i := 0) rfl))))))
  have w1 := hts (.constant RL 17 (-900001)) (List.mem_cons_of_mem _ (List.mem_append_left _ (List.mem_append_left _ (List.mem_append_left _ (List.mem_append_left _ (List.mem_of_getElem? (i := 1) rfl))))))
  have hW := ze_W0 hW
  refine lv_aload_n hX_ hB_ dL_charge_0 rfl (lv_at hl 0 rfl) ?_
  refine lv_iload_n hX_ hB_ dL_charge_1 rfl (lv_at hl 1 rfl) ?_
  refine zx_FVc (As := [.int x]) (rest := []) (ci := 8) (q0 := 0) (k := (RX8, TX8, 8)) S (zt_charge_t1 l D hst c a n A B E x hN hx) (cwV 1 hts gL_charge_X8_charge rfl rfl rfl (by decide +kernel) ⟨(Nat.le_of_ble_eq_true rfl), (Nat.le_of_ble_eq_true rfl)⟩) hK hW hXB hA rfl (ze_at0 0 rfl) rfl hl.1 rfl (lv_room (Nat.le_of_ble_eq_true rfl)) dL_charge_2 ⟨(Nat.le_of_ble_eq_true rfl), (Nat.le_of_ble_eq_true rfl)⟩ [] ⟨0, 5, 6, 22⟩ [] htab (by intro z hz; cases hz) (by decide) (by decide) w0 (va_Nw.use rfl (hXB.2.2.2 _ (List.mem_of_getElem? (i := 7) rfl))) (fun q9 H locs hW => ?_)
  have hW := ze_W0' hW
  refine lv_astore_n (lv' := [(2, .ref q9), (0, .ref (a 0)), (1, .int x)]) hX_ hB_ dL_charge_6 rfl hl (by decide) rfl (fun ls hl => ?_)
  refine lv_ldc (own := RL) (v := -900001) hX_ hB_ S.2.2.2.1 w1 dL_charge_7 ?_
  exact ze_iret S hr hlocks hF hK hW rfl dL_charge_9 (Nat.le_of_ble_eq_true rfl) (Nat.le_of_ble_eq_true rfl) rfl rfl
set_option maxHeartbeats 4000000 in
set_option maxRecDepth 100000 in
theorem xw_flow_t1 (l : Launch) (D : va_G) (hst : l.stackTraces = false) (c : Nat → ClassId) (a n : Nat → Nat) (A : Nat → Nat → Int32) (B : Nat → Int64) (E : Nat → Nat → Int32) (x : Int32) (hN : zf_N n) (hx : ¬ zf_isIn x 0 (nI (n 3) - 1)) : ze_Q l yL_flow wsL_flow 9 145 1 6 D c (ze_wC c a n A B E) [.ref (a 0), .int x] (-900001) (ze_wC c a n A B E) := by
  intro sz
  refine zq_start (cc := cL_flow) (maxL := 3) (ret := (some .int)) (own := RL) (by decide) rfl rfl (Nat.le_of_ble_eq_true rfl) ?_
  intro p e s m_ below meth cd F ls hF hsz E0 hXB hNc htab
  obtain ⟨S, hr, hlocks, hK, hW, hA, hl⟩ := E0
  have hX_ := S.1
  have hB_ := S.2.1
  have hts := S.2.2.2.2
  have hl : lv_has ls 3 [(0, .ref (a 0)), (1, .int x)] := hl
  have w0 := hts (.classLink RL 22 "java/lang/IndexOutOfBoundsException") (List.mem_cons_of_mem _ (List.mem_append_left _ (List.mem_append_left _ (List.mem_append_left _ (List.mem_append_left _ (List.mem_of_getElem? (i := 0) rfl))))))
  have w1 := hts (.constant RL 17 (-900001)) (List.mem_cons_of_mem _ (List.mem_append_left _ (List.mem_append_left _ (List.mem_append_left _ (List.mem_append_left _ (List.mem_of_getElem? (i := 1) rfl))))))
  have hW := ze_W0 hW
  refine lv_aload_n hX_ hB_ dL_flow_0 rfl (lv_at hl 0 rfl) ?_
  refine lv_iload_n hX_ hB_ dL_flow_1 rfl (lv_at hl 1 rfl) ?_
  refine zx_FVc (As := [.int x]) (rest := []) (ci := 8) (q0 := 0) (k := (RX8, TX8, 8)) S (zt_flow_t1 l D hst c a n A B E x hN hx) (cwV 1 hts gL_flow_X8_flow rfl rfl rfl (by decide +kernel) ⟨(Nat.le_of_ble_eq_true rfl), (Nat.le_of_ble_eq_true rfl)⟩) hK hW hXB hA rfl (ze_at0 0 rfl) rfl hl.1 rfl (lv_room (Nat.le_of_ble_eq_true rfl)) dL_flow_2 ⟨(Nat.le_of_ble_eq_true rfl), (Nat.le_of_ble_eq_true rfl)⟩ [] ⟨0, 5, 6, 22⟩ [] htab (by intro z hz; cases hz) (by decide) (by decide) w0 (va_Nw.use rfl (hXB.2.2.2 _ (List.mem_of_getElem? (i := 7) rfl))) (fun q9 H locs hW => ?_)
  have hW := ze_W0' hW
  refine lv_astore_n (lv' := [(2, .ref q9), (0, .ref (a 0)), (1, .int x)]) hX_ hB_ dL_flow_6 rfl hl (by decide) rfl (fun ls hl => ?_)
  refine lv_ldc (own := RL) (v := -900001) hX_ hB_ S.2.2.2.1 w1 dL_flow_7 ?_
  exact ze_iret S hr hlocks hF hK hW rfl dL_flow_9 (Nat.le_of_ble_eq_true rfl) (Nat.le_of_ble_eq_true rfl) rfl rfl
set_option maxHeartbeats 4000000 in
set_option maxRecDepth 100000 in
theorem xw_isLit_t1 (l : Launch) (D : va_G) (hst : l.stackTraces = false) (c : Nat → ClassId) (a n : Nat → Nat) (A : Nat → Nat → Int32) (B : Nat → Int64) (E : Nat → Nat → Int32) (x : Int32) (hN : zf_N n) (hx : ¬ zf_isIn x 0 (nI (n 4) - 1)) : ze_Q l yL_isLit wsL_isLit 9 145 1 6 D c (ze_wC c a n A B E) [.ref (a 0), .int x] (-900001) (ze_wC c a n A B E) := by
  intro sz
  refine zq_start (cc := cL_isLit) (maxL := 3) (ret := (some .int)) (own := RL) (by decide) rfl rfl (Nat.le_of_ble_eq_true rfl) ?_
  intro p e s m_ below meth cd F ls hF hsz E0 hXB hNc htab
  obtain ⟨S, hr, hlocks, hK, hW, hA, hl⟩ := E0
  have hX_ := S.1
  have hB_ := S.2.1
  have hts := S.2.2.2.2
  have hl : lv_has ls 3 [(0, .ref (a 0)), (1, .int x)] := hl
  have w0 := hts (.classLink RL 22 "java/lang/IndexOutOfBoundsException") (List.mem_cons_of_mem _ (List.mem_append_left _ (List.mem_append_left _ (List.mem_append_left _ (List.mem_append_left _ (List.mem_of_getElem? (i := 0) rfl))))))
  have w1 := hts (.constant RL 17 (-900001)) (List.mem_cons_of_mem _ (List.mem_append_left _ (List.mem_append_left _ (List.mem_append_left _ (List.mem_append_left _ (List.mem_of_getElem? (i := 1) rfl))))))
  have hW := ze_W0 hW
  refine lv_aload_n hX_ hB_ dL_isLit_0 rfl (lv_at hl 0 rfl) ?_
  refine lv_iload_n hX_ hB_ dL_isLit_1 rfl (lv_at hl 1 rfl) ?_
  refine zx_FVc (As := [.int x]) (rest := []) (ci := 8) (q0 := 0) (k := (RX8, TX8, 8)) S (zt_isLit_t1 l D hst c a n A B E x hN hx) (cwV 1 hts gL_isLit_X8_isLit rfl rfl rfl (by decide +kernel) ⟨(Nat.le_of_ble_eq_true rfl), (Nat.le_of_ble_eq_true rfl)⟩) hK hW hXB hA rfl (ze_at0 0 rfl) rfl hl.1 rfl (lv_room (Nat.le_of_ble_eq_true rfl)) dL_isLit_2 ⟨(Nat.le_of_ble_eq_true rfl), (Nat.le_of_ble_eq_true rfl)⟩ [] ⟨0, 13, 14, 22⟩ [] htab (by intro z hz; cases hz) (by decide) (by decide) w0 (va_Nw.use rfl (hXB.2.2.2 _ (List.mem_of_getElem? (i := 7) rfl))) (fun q9 H locs hW => ?_)
  have hW := ze_W0' hW
  refine lv_astore_n (lv' := [(2, .ref q9), (0, .ref (a 0)), (1, .int x)]) hX_ hB_ dL_isLit_14 rfl hl (by decide) rfl (fun ls hl => ?_)
  refine lv_ldc (own := RL) (v := -900001) hX_ hB_ S.2.2.2.1 w1 dL_isLit_15 ?_
  exact ze_iret S hr hlocks hF hK hW rfl dL_isLit_17 (Nat.le_of_ble_eq_true rfl) (Nat.le_of_ble_eq_true rfl) rfl rfl
set_option maxHeartbeats 4000000 in
set_option maxRecDepth 100000 in
theorem xw_waits_t1 (l : Launch) (D : va_G) (hst : l.stackTraces = false) (c : Nat → ClassId) (a n : Nat → Nat) (A : Nat → Nat → Int32) (B : Nat → Int64) (E : Nat → Nat → Int32) (x : Int32) (hN : zf_N n) (hx : ¬ zf_isIn x 0 (nI (n 4) - 1)) : ze_Q l yL_waits wsL_waits 9 146 1 6 D c (ze_wC c a n A B E) [.ref (a 0), .int x] (-900001) (ze_wC c a n A B E) := by
  intro sz
  refine zq_start (cc := cL_waits) (maxL := 3) (ret := (some .int)) (own := RL) (by decide) rfl rfl (Nat.le_of_ble_eq_true rfl) ?_
  intro p e s m_ below meth cd F ls hF hsz E0 hXB hNc htab
  obtain ⟨S, hr, hlocks, hK, hW, hA, hl⟩ := E0
  have hX_ := S.1
  have hB_ := S.2.1
  have hts := S.2.2.2.2
  have hl : lv_has ls 3 [(0, .ref (a 0)), (1, .int x)] := hl
  have w0 := hts (.classLink RL 22 "java/lang/IndexOutOfBoundsException") (List.mem_cons_of_mem _ (List.mem_append_left _ (List.mem_append_left _ (List.mem_append_left _ (List.mem_append_left _ (List.mem_append_left _ (List.mem_append_left _ (List.mem_of_getElem? (i := 0) rfl))))))))
  have w1 := hts (.constant RL 17 (-900001)) (List.mem_cons_of_mem _ (List.mem_append_left _ (List.mem_append_left _ (List.mem_append_left _ (List.mem_append_left _ (List.mem_append_left _ (List.mem_append_left _ (List.mem_of_getElem? (i := 2) rfl))))))))
  have hW := ze_W0 hW
  refine lv_aload_n hX_ hB_ dL_waits_0 rfl (lv_at hl 0 rfl) ?_
  refine lv_iload_n hX_ hB_ dL_waits_1 rfl (lv_at hl 1 rfl) ?_
  refine zx_FVc (As := [.int x]) (rest := []) (ci := 8) (q0 := 0) (k := (RX8, TX8, 8)) S (zt_waits_t1 l D hst c a n A B E x hN hx) (cwV 1 hts gL_waits_X8_waits rfl rfl rfl (by decide +kernel) ⟨(Nat.le_of_ble_eq_true rfl), (Nat.le_of_ble_eq_true rfl)⟩) hK hW hXB hA rfl (ze_at0 0 rfl) rfl hl.1 rfl (lv_room (Nat.le_of_ble_eq_true rfl)) dL_waits_2 ⟨(Nat.le_of_ble_eq_true rfl), (Nat.le_of_ble_eq_true rfl)⟩ [] ⟨0, 5, 6, 22⟩ [⟨0, 5, 10, 43⟩] htab (by intro z hz; cases hz) (by decide) (by decide) w0 (va_Nw.use rfl (hXB.2.2.2 _ (List.mem_of_getElem? (i := 7) rfl))) (fun q9 H locs hW => ?_)
  have hW := ze_W0' hW
  refine lv_astore_n (lv' := [(2, .ref q9), (0, .ref (a 0)), (1, .int x)]) hX_ hB_ dL_waits_6 rfl hl (by decide) rfl (fun ls hl => ?_)
  refine lv_ldc (own := RL) (v := -900001) hX_ hB_ S.2.2.2.1 w1 dL_waits_7 ?_
  exact ze_iret S hr hlocks hF hK hW rfl dL_waits_9 (Nat.le_of_ble_eq_true rfl) (Nat.le_of_ble_eq_true rfl) rfl rfl
set_option maxHeartbeats 4000000 in
set_option maxRecDepth 100000 in
theorem xw_refuel_t1 (l : Launch) (D : va_G) (hst : l.stackTraces = false) (c : Nat → ClassId) (a n : Nat → Nat) (A : Nat → Nat → Int32) (B : Nat → Int64) (E : Nat → Nat → Int32) (x : Int32) (hN : zf_N n) (hx : ¬ zf_isIn x 0 (nI (n 2) - 1)) (y : Int32) : ze_Q l yL_refuel wsL_refuel 9 147 1 6 D c (ze_wC c a n A B E) [.ref (a 0), .int x, .int y] (-900001) (ze_wC c a n A B E) := by
  intro sz
  refine zq_start (cc := cL_refuel) (maxL := 4) (ret := (some .int)) (own := RL) (by decide) rfl rfl (Nat.le_of_ble_eq_true rfl) ?_
  intro p e s m_ below meth cd F ls hF hsz E0 hXB hNc htab
  obtain ⟨S, hr, hlocks, hK, hW, hA, hl⟩ := E0
  have hX_ := S.1
  have hB_ := S.2.1
  have hts := S.2.2.2.2
  have hl : lv_has ls 4 [(0, .ref (a 0)), (1, .int x), (2, .int y)] := hl
  have w0 := hts (.classLink RL 22 "java/lang/IndexOutOfBoundsException") (List.mem_cons_of_mem _ (List.mem_append_left _ (List.mem_append_left _ (List.mem_append_left _ (List.mem_append_left _ (List.mem_append_left _ (List.mem_append_left _ (List.mem_append_left _ (List.mem_of_getElem? (i := 0) rfl)))))))))
  have w1 := hts (.constant RL 17 (-900001)) (List.mem_cons_of_mem _ (List.mem_append_left _ (List.mem_append_left _ (List.mem_append_left _ (List.mem_append_left _ (List.mem_append_left _ (List.mem_append_left _ (List.mem_append_left _ (List.mem_of_getElem? (i := 3) rfl)))))))))
  have hW := ze_W0 hW
  refine lv_aload_n hX_ hB_ dL_refuel_0 rfl (lv_at hl 0 rfl) ?_
  refine lv_iload_n hX_ hB_ dL_refuel_1 rfl (lv_at hl 1 rfl) ?_
  refine lv_iload_n hX_ hB_ dL_refuel_2 rfl (lv_at hl 2 rfl) ?_
  refine zx_FVc (As := [.int x, .int y]) (rest := []) (ci := 8) (q0 := 0) (k := (RX8, TX8, 8)) S (zt_refuel_t1 l D hst c a n A B E x hN hx y) (cwV 2 hts gL_refuel_X8_refuel rfl rfl rfl (by decide +kernel) ⟨(Nat.le_of_ble_eq_true rfl), (Nat.le_of_ble_eq_true rfl)⟩) hK hW hXB hA rfl (ze_at0 0 rfl) rfl hl.1 rfl (lv_room (Nat.le_of_ble_eq_true rfl)) dL_refuel_3 ⟨(Nat.le_of_ble_eq_true rfl), (Nat.le_of_ble_eq_true rfl)⟩ [] ⟨0, 6, 7, 22⟩ [⟨0, 6, 11, 24⟩, ⟨0, 6, 15, 15⟩] htab (by intro z hz; cases hz) (by decide) (by decide) w0 (va_Nw.use rfl (hXB.2.2.2 _ (List.mem_of_getElem? (i := 7) rfl))) (fun q9 H locs hW => ?_)
  have hW := ze_W0' hW
  refine lv_astore_n (lv' := [(3, .ref q9), (0, .ref (a 0)), (1, .int x), (2, .int y)]) hX_ hB_ dL_refuel_7 rfl hl (by decide) rfl (fun ls hl => ?_)
  refine lv_ldc (own := RL) (v := -900001) hX_ hB_ S.2.2.2.1 w1 dL_refuel_8 ?_
  exact ze_iret S hr hlocks hF hK hW rfl dL_refuel_10 (Nat.le_of_ble_eq_true rfl) (Nat.le_of_ble_eq_true rfl) rfl rfl
set_option maxHeartbeats 4000000 in
set_option maxRecDepth 100000 in
theorem xw_setRank_t1 (l : Launch) (D : va_G) (hst : l.stackTraces = false) (c : Nat → ClassId) (a n : Nat → Nat) (A : Nat → Nat → Int32) (B : Nat → Int64) (E : Nat → Nat → Int32) (x : Int32) (hN : zf_N n) (hx : ¬ zf_isIn x 0 (nI (n 4) - 1)) (y : Int32) : ze_Q l yL_setRank wsL_setRank 9 148 1 6 D c (ze_wC c a n A B E) [.ref (a 0), .int x, .int y] (-900001) (ze_wC c a n A B E) := by
  intro sz
  refine zq_start (cc := cL_setRank) (maxL := 4) (ret := (some .int)) (own := RL) (by decide) rfl rfl (Nat.le_of_ble_eq_true rfl) ?_
  intro p e s m_ below meth cd F ls hF hsz E0 hXB hNc htab
  obtain ⟨S, hr, hlocks, hK, hW, hA, hl⟩ := E0
  have hX_ := S.1
  have hB_ := S.2.1
  have hts := S.2.2.2.2
  have hl : lv_has ls 4 [(0, .ref (a 0)), (1, .int x), (2, .int y)] := hl
  have w0 := hts (.classLink RL 22 "java/lang/IndexOutOfBoundsException") (List.mem_cons_of_mem _ (List.mem_append_left _ (List.mem_append_left _ (List.mem_append_left _ (List.mem_append_left _ (List.mem_append_left _ (List.mem_append_left _ (List.mem_of_getElem? (i := 0) rfl))))))))
  have w1 := hts (.constant RL 17 (-900001)) (List.mem_cons_of_mem _ (List.mem_append_left _ (List.mem_append_left _ (List.mem_append_left _ (List.mem_append_left _ (List.mem_append_left _ (List.mem_append_left _ (List.mem_of_getElem? (i := 2) rfl))))))))
  have hW := ze_W0 hW
  refine lv_aload_n hX_ hB_ dL_setRank_0 rfl (lv_at hl 0 rfl) ?_
  refine lv_iload_n hX_ hB_ dL_setRank_1 rfl (lv_at hl 1 rfl) ?_
  refine lv_iload_n hX_ hB_ dL_setRank_2 rfl (lv_at hl 2 rfl) ?_
  refine zx_FVc (As := [.int x, .int y]) (rest := []) (ci := 8) (q0 := 0) (k := (RX8, TX8, 8)) S (zt_setRank_t1 l D hst c a n A B E x hN hx y) (cwV 2 hts gL_setRank_X8_setRank rfl rfl rfl (by decide +kernel) ⟨(Nat.le_of_ble_eq_true rfl), (Nat.le_of_ble_eq_true rfl)⟩) hK hW hXB hA rfl (ze_at0 0 rfl) rfl hl.1 rfl (lv_room (Nat.le_of_ble_eq_true rfl)) dL_setRank_3 ⟨(Nat.le_of_ble_eq_true rfl), (Nat.le_of_ble_eq_true rfl)⟩ [] ⟨0, 6, 7, 22⟩ [⟨0, 6, 11, 24⟩] htab (by intro z hz; cases hz) (by decide) (by decide) w0 (va_Nw.use rfl (hXB.2.2.2 _ (List.mem_of_getElem? (i := 7) rfl))) (fun q9 H locs hW => ?_)
  have hW := ze_W0' hW
  refine lv_astore_n (lv' := [(3, .ref q9), (0, .ref (a 0)), (1, .int x), (2, .int y)]) hX_ hB_ dL_setRank_7 rfl hl (by decide) rfl (fun ls hl => ?_)
  refine lv_ldc (own := RL) (v := -900001) hX_ hB_ S.2.2.2.1 w1 dL_setRank_8 ?_
  exact ze_iret S hr hlocks hF hK hW rfl dL_setRank_10 (Nat.le_of_ble_eq_true rfl) (Nat.le_of_ble_eq_true rfl) rfl rfl
set_option maxHeartbeats 4000000 in
set_option maxRecDepth 100000 in
theorem xw_addGenerator_t1 (l : Launch) (D : va_G) (hst : l.stackTraces = false) (c : Nat → ClassId) (a n : Nat → Nat) (A : Nat → Nat → Int32) (B : Nat → Int64) (E : Nat → Nat → Int32) (x : Int32) (hN : zf_N n) (hx : ¬ zf_isIn x 0 (nI (n 0) - 1)) (le gr wu fu : Int32) : ze_Q l yL_addGenerator wsL_addGenerator 9 149 1 6 D c (ze_wC c a n A B E) [.ref (a 0), .int x, .int le, .int gr, .int wu, .int fu] (-900001) (ze_wC c a n A B E) := by
  intro sz
  refine zq_start (cc := cL_addGenerator) (maxL := 7) (ret := (some .int)) (own := RL) (by decide) rfl rfl (Nat.le_of_ble_eq_true rfl) ?_
  intro p e s m_ below meth cd F ls hF hsz E0 hXB hNc htab
  obtain ⟨S, hr, hlocks, hK, hW, hA, hl⟩ := E0
  have hX_ := S.1
  have hB_ := S.2.1
  have hts := S.2.2.2.2
  have hl : lv_has ls 7 [(0, .ref (a 0)), (1, .int x), (2, .int le), (3, .int gr), (4, .int wu), (5, .int fu)] := hl
  have w0 := hts (.classLink RL 22 "java/lang/IndexOutOfBoundsException") (List.mem_cons_of_mem _ (List.mem_append_left _ (List.mem_append_left _ (List.mem_append_left _ (List.mem_append_left _ (List.mem_append_left _ (List.mem_append_left _ (List.mem_append_left _ (List.mem_append_left _ (List.mem_of_getElem? (i := 0) rfl))))))))))
  have w1 := hts (.constant RL 17 (-900001)) (List.mem_cons_of_mem _ (List.mem_append_left _ (List.mem_append_left _ (List.mem_append_left _ (List.mem_append_left _ (List.mem_append_left _ (List.mem_append_left _ (List.mem_append_left _ (List.mem_append_left _ (List.mem_of_getElem? (i := 3) rfl))))))))))
  have hW := ze_W0 hW
  refine lv_aload_n hX_ hB_ dL_addGenerator_0 rfl (lv_at hl 0 rfl) ?_
  refine lv_iload_n hX_ hB_ dL_addGenerator_1 rfl (lv_at hl 1 rfl) ?_
  refine lv_iload_n hX_ hB_ dL_addGenerator_2 rfl (lv_at hl 2 rfl) ?_
  refine lv_iload_n hX_ hB_ dL_addGenerator_3 rfl (lv_at hl 3 rfl) ?_
  refine lv_iload hX_ hB_ dL_addGenerator_4 (lv_at hl 4 rfl) ?_
  refine lv_iload hX_ hB_ dL_addGenerator_6 (lv_at hl 5 rfl) ?_
  refine zx_FVc (As := [.int x, .int le, .int gr, .int wu, .int fu]) (rest := []) (ci := 8) (q0 := 0) (k := (RX8, TX8, 8)) S (zt_addGenerator_t1 l D hst c a n A B E x hN hx le gr wu fu) (cwV 5 hts gL_addGenerator_X8_addGenerator rfl rfl rfl (by decide +kernel) ⟨(Nat.le_of_ble_eq_true rfl), (Nat.le_of_ble_eq_true rfl)⟩) hK hW hXB hA rfl (ze_at0 0 rfl) rfl hl.1 rfl (lv_room (Nat.le_of_ble_eq_true rfl)) dL_addGenerator_8 ⟨(Nat.le_of_ble_eq_true rfl), (Nat.le_of_ble_eq_true rfl)⟩ [] ⟨0, 11, 12, 22⟩ [⟨0, 11, 17, 24⟩, ⟨0, 11, 22, 15⟩] htab (by intro z hz; cases hz) (by decide) (by decide) w0 (va_Nw.use rfl (hXB.2.2.2 _ (List.mem_of_getElem? (i := 7) rfl))) (fun q9 H locs hW => ?_)
  have hW := ze_W0' hW
  refine lv_astore (lv' := [(6, .ref q9), (0, .ref (a 0)), (1, .int x), (2, .int le), (3, .int gr), (4, .int wu), (5, .int fu)]) hX_ hB_ dL_addGenerator_12 hl (by decide) rfl (fun ls hl => ?_)
  refine lv_ldc (own := RL) (v := -900001) hX_ hB_ S.2.2.2.1 w1 dL_addGenerator_14 ?_
  exact ze_iret S hr hlocks hF hK hW rfl dL_addGenerator_16 (Nat.le_of_ble_eq_true rfl) (Nat.le_of_ble_eq_true rfl) rfl rfl
set_option maxHeartbeats 4000000 in
set_option maxRecDepth 100000 in
theorem xw_addStore_t1 (l : Launch) (D : va_G) (hst : l.stackTraces = false) (c : Nat → ClassId) (a n : Nat → Nat) (A : Nat → Nat → Int32) (B : Nat → Int64) (E : Nat → Nat → Int32) (x : Int32) (hN : zf_N n) (hx : ¬ zf_isIn x 0 (nI (n 0) - 1)) (y z : Int32) : ze_Q l yL_addStore wsL_addStore 9 147 1 6 D c (ze_wC c a n A B E) [.ref (a 0), .int x, .int y, .int z] (-900001) (ze_wC c a n A B E) := by
  intro sz
  refine zq_start (cc := cL_addStore) (maxL := 5) (ret := (some .int)) (own := RL) (by decide) rfl rfl (Nat.le_of_ble_eq_true rfl) ?_
  intro p e s m_ below meth cd F ls hF hsz E0 hXB hNc htab
  obtain ⟨S, hr, hlocks, hK, hW, hA, hl⟩ := E0
  have hX_ := S.1
  have hB_ := S.2.1
  have hts := S.2.2.2.2
  have hl : lv_has ls 5 [(0, .ref (a 0)), (1, .int x), (2, .int y), (3, .int z)] := hl
  have w0 := hts (.classLink RL 22 "java/lang/IndexOutOfBoundsException") (List.mem_cons_of_mem _ (List.mem_append_left _ (List.mem_append_left _ (List.mem_append_left _ (List.mem_append_left _ (List.mem_append_left _ (List.mem_append_left _ (List.mem_append_left _ (List.mem_append_left _ (List.mem_of_getElem? (i := 0) rfl))))))))))
  have w1 := hts (.constant RL 17 (-900001)) (List.mem_cons_of_mem _ (List.mem_append_left _ (List.mem_append_left _ (List.mem_append_left _ (List.mem_append_left _ (List.mem_append_left _ (List.mem_append_left _ (List.mem_append_left _ (List.mem_append_left _ (List.mem_of_getElem? (i := 3) rfl))))))))))
  have hW := ze_W0 hW
  refine lv_aload_n hX_ hB_ dL_addStore_0 rfl (lv_at hl 0 rfl) ?_
  refine lv_iload_n hX_ hB_ dL_addStore_1 rfl (lv_at hl 1 rfl) ?_
  refine lv_iload_n hX_ hB_ dL_addStore_2 rfl (lv_at hl 2 rfl) ?_
  refine lv_iload_n hX_ hB_ dL_addStore_3 rfl (lv_at hl 3 rfl) ?_
  refine zx_FVc (As := [.int x, .int y, .int z]) (rest := []) (ci := 8) (q0 := 0) (k := (RX8, TX8, 8)) S (zt_addStore_t1 l D hst c a n A B E x hN hx y z) (cwV 3 hts gL_addStore_X8_addStore rfl rfl rfl (by decide +kernel) ⟨(Nat.le_of_ble_eq_true rfl), (Nat.le_of_ble_eq_true rfl)⟩) hK hW hXB hA rfl (ze_at0 0 rfl) rfl hl.1 rfl (lv_room (Nat.le_of_ble_eq_true rfl)) dL_addStore_4 ⟨(Nat.le_of_ble_eq_true rfl), (Nat.le_of_ble_eq_true rfl)⟩ [] ⟨0, 7, 8, 22⟩ [⟨0, 7, 13, 24⟩, ⟨0, 7, 18, 15⟩] htab (by intro z hz; cases hz) (by decide) (by decide) w0 (va_Nw.use rfl (hXB.2.2.2 _ (List.mem_of_getElem? (i := 7) rfl))) (fun q9 H locs hW => ?_)
  have hW := ze_W0' hW
  refine lv_astore (lv' := [(4, .ref q9), (0, .ref (a 0)), (1, .int x), (2, .int y), (3, .int z)]) hX_ hB_ dL_addStore_8 hl (by decide) rfl (fun ls hl => ?_)
  refine lv_ldc (own := RL) (v := -900001) hX_ hB_ S.2.2.2.1 w1 dL_addStore_10 ?_
  exact ze_iret S hr hlocks hF hK hW rfl dL_addStore_12 (Nat.le_of_ble_eq_true rfl) (Nat.le_of_ble_eq_true rfl) rfl rfl
set_option maxHeartbeats 4000000 in
set_option maxRecDepth 100000 in
theorem xw_addLoad_t1 (l : Launch) (D : va_G) (hst : l.stackTraces = false) (c : Nat → ClassId) (a n : Nat → Nat) (A : Nat → Nat → Int32) (B : Nat → Int64) (E : Nat → Nat → Int32) (x : Int32) (hN : zf_N n) (hx : ¬ zf_isIn x 0 (nI (n 0) - 1)) (y z : Int32) : ze_Q l yL_addLoad wsL_addLoad 9 147 1 6 D c (ze_wC c a n A B E) [.ref (a 0), .int x, .int y, .int z] (-900001) (ze_wC c a n A B E) := by
  intro sz
  refine zq_start (cc := cL_addLoad) (maxL := 5) (ret := (some .int)) (own := RL) (by decide) rfl rfl (Nat.le_of_ble_eq_true rfl) ?_
  intro p e s m_ below meth cd F ls hF hsz E0 hXB hNc htab
  obtain ⟨S, hr, hlocks, hK, hW, hA, hl⟩ := E0
  have hX_ := S.1
  have hB_ := S.2.1
  have hts := S.2.2.2.2
  have hl : lv_has ls 5 [(0, .ref (a 0)), (1, .int x), (2, .int y), (3, .int z)] := hl
  have w0 := hts (.classLink RL 22 "java/lang/IndexOutOfBoundsException") (List.mem_cons_of_mem _ (List.mem_append_left _ (List.mem_append_left _ (List.mem_append_left _ (List.mem_append_left _ (List.mem_append_left _ (List.mem_append_left _ (List.mem_append_left _ (List.mem_append_left _ (List.mem_of_getElem? (i := 0) rfl))))))))))
  have w1 := hts (.constant RL 17 (-900001)) (List.mem_cons_of_mem _ (List.mem_append_left _ (List.mem_append_left _ (List.mem_append_left _ (List.mem_append_left _ (List.mem_append_left _ (List.mem_append_left _ (List.mem_append_left _ (List.mem_append_left _ (List.mem_of_getElem? (i := 3) rfl))))))))))
  have hW := ze_W0 hW
  refine lv_aload_n hX_ hB_ dL_addLoad_0 rfl (lv_at hl 0 rfl) ?_
  refine lv_iload_n hX_ hB_ dL_addLoad_1 rfl (lv_at hl 1 rfl) ?_
  refine lv_iload_n hX_ hB_ dL_addLoad_2 rfl (lv_at hl 2 rfl) ?_
  refine lv_iload_n hX_ hB_ dL_addLoad_3 rfl (lv_at hl 3 rfl) ?_
  refine zx_FVc (As := [.int x, .int y, .int z]) (rest := []) (ci := 8) (q0 := 0) (k := (RX8, TX8, 8)) S (zt_addLoad_t1 l D hst c a n A B E x hN hx y z) (cwV 3 hts gL_addLoad_X8_addLoad rfl rfl rfl (by decide +kernel) ⟨(Nat.le_of_ble_eq_true rfl), (Nat.le_of_ble_eq_true rfl)⟩) hK hW hXB hA rfl (ze_at0 0 rfl) rfl hl.1 rfl (lv_room (Nat.le_of_ble_eq_true rfl)) dL_addLoad_4 ⟨(Nat.le_of_ble_eq_true rfl), (Nat.le_of_ble_eq_true rfl)⟩ [] ⟨0, 7, 8, 22⟩ [⟨0, 7, 13, 24⟩, ⟨0, 7, 18, 15⟩] htab (by intro z hz; cases hz) (by decide) (by decide) w0 (va_Nw.use rfl (hXB.2.2.2 _ (List.mem_of_getElem? (i := 7) rfl))) (fun q9 H locs hW => ?_)
  have hW := ze_W0' hW
  refine lv_astore (lv' := [(4, .ref q9), (0, .ref (a 0)), (1, .int x), (2, .int y), (3, .int z)]) hX_ hB_ dL_addLoad_8 hl (by decide) rfl (fun ls hl => ?_)
  refine lv_ldc (own := RL) (v := -900001) hX_ hB_ S.2.2.2.1 w1 dL_addLoad_10 ?_
  exact ze_iret S hr hlocks hF hK hW rfl dL_addLoad_12 (Nat.le_of_ble_eq_true rfl) (Nat.le_of_ble_eq_true rfl) rfl rfl
set_option maxHeartbeats 4000000 in
set_option maxRecDepth 100000 in
theorem xw_addGenerator_t2a (l : Launch) (D : va_G) (hst : l.stackTraces = false) (c : Nat → ClassId) (a n : Nat → Nat) (A : Nat → Nat → Int32) (B : Nat → Int64) (E : Nat → Nat → Int32) (j : Nat) (hN : zf_N n) (hj : j < n 0) (le gr wu fu : Int32) (h1 : ¬ zf_isIn le 0 100) : ze_Q l yL_addGenerator wsL_addGenerator 8 129 1 6 D c (ze_wC c a n A B E) [.ref (a 0), .int (nI j), .int le, .int gr, .int wu, .int fu] (-900002) (ze_wC c a n A B E) := by
  intro sz
  refine zq_start (cc := cL_addGenerator) (maxL := 7) (ret := (some .int)) (own := RL) (by decide) rfl rfl (Nat.le_of_ble_eq_true rfl) ?_
  intro p e s m_ below meth cd F ls hF hsz E0 hXB hNc htab
  obtain ⟨S, hr, hlocks, hK, hW, hA, hl⟩ := E0
  have hX_ := S.1
  have hB_ := S.2.1
  have hts := S.2.2.2.2
  have hl : lv_has ls 7 [(0, .ref (a 0)), (1, .int (nI j)), (2, .int le), (3, .int gr), (4, .int wu), (5, .int fu)] := hl
  have w0 := hts (.classLink RL 22 "java/lang/IndexOutOfBoundsException") (List.mem_cons_of_mem _ (List.mem_append_left _ (List.mem_append_left _ (List.mem_append_left _ (List.mem_append_left _ (List.mem_append_left _ (List.mem_append_left _ (List.mem_append_left _ (List.mem_append_left _ (List.mem_of_getElem? (i := 0) rfl))))))))))
  have w1 := hts (.classLink RL 24 "java/lang/IllegalArgumentException") (List.mem_cons_of_mem _ (List.mem_append_left _ (List.mem_append_left _ (List.mem_append_left _ (List.mem_append_left _ (List.mem_append_left _ (List.mem_append_left _ (List.mem_append_left _ (List.mem_append_left _ (List.mem_of_getElem? (i := 1) rfl))))))))))
  have w2 := hts (.constant RL 26 (-900002)) (List.mem_cons_of_mem _ (List.mem_append_left _ (List.mem_append_left _ (List.mem_append_left _ (List.mem_append_left _ (List.mem_append_left _ (List.mem_append_left _ (List.mem_append_left _ (List.mem_append_left _ (List.mem_of_getElem? (i := 4) rfl))))))))))
  have hW := ze_W0 hW
  refine lv_aload_n hX_ hB_ dL_addGenerator_0 rfl (lv_at hl 0 rfl) ?_
  refine lv_iload_n hX_ hB_ dL_addGenerator_1 rfl (lv_at hl 1 rfl) ?_
  refine lv_iload_n hX_ hB_ dL_addGenerator_2 rfl (lv_at hl 2 rfl) ?_
  refine lv_iload_n hX_ hB_ dL_addGenerator_3 rfl (lv_at hl 3 rfl) ?_
  refine lv_iload hX_ hB_ dL_addGenerator_4 (lv_at hl 4 rfl) ?_
  refine lv_iload hX_ hB_ dL_addGenerator_6 (lv_at hl 5 rfl) ?_
  refine zx_FVc (As := [.int (nI j), .int le, .int gr, .int wu, .int fu]) (rest := []) (ci := 8) (q0 := 0) (k := (RX8, TX8, 8)) S (zt_addGenerator_t2a l D hst c a n A B E j hN hj le gr wu fu h1) (cwV 5 hts gL_addGenerator_X8_addGenerator rfl rfl rfl (by decide +kernel) ⟨(Nat.le_of_ble_eq_true rfl), (Nat.le_of_ble_eq_true rfl)⟩) hK hW hXB hA rfl (ze_at0 0 rfl) rfl hl.1 rfl (lv_room (Nat.le_of_ble_eq_true rfl)) dL_addGenerator_8 ⟨(Nat.le_of_ble_eq_true rfl), (Nat.le_of_ble_eq_true rfl)⟩ [⟨0, 11, 12, 22⟩] ⟨0, 11, 17, 24⟩ [⟨0, 11, 22, 15⟩] htab (by
      intro z hz
      simp only [List.mem_cons, List.not_mem_nil, or_false] at hz
      rcases hz with rfl
      exact Or.inr ⟨by decide, "java/lang/IndexOutOfBoundsException", w0, hNc ("java/lang/IllegalArgumentException", "java/lang/IndexOutOfBoundsException") (by decide +kernel)⟩) (by decide) (by decide) w1 (va_Nw.use rfl (hXB.2.2.2 _ (List.mem_of_getElem? (i := 4) rfl))) (fun q9 H locs hW => ?_)
  have hW := ze_W0' hW
  refine lv_astore (lv' := [(6, .ref q9), (0, .ref (a 0)), (1, .int (nI j)), (2, .int le), (3, .int gr), (4, .int wu), (5, .int fu)]) hX_ hB_ dL_addGenerator_17 hl (by decide) rfl (fun ls hl => ?_)
  refine lv_ldc (own := RL) (v := -900002) hX_ hB_ S.2.2.2.1 w2 dL_addGenerator_19 ?_
  exact ze_iret S hr hlocks hF hK hW rfl dL_addGenerator_21 (Nat.le_of_ble_eq_true rfl) (Nat.le_of_ble_eq_true rfl) rfl rfl
set_option maxHeartbeats 4000000 in
set_option maxRecDepth 100000 in
theorem xw_addGenerator_t2b (l : Launch) (D : va_G) (hst : l.stackTraces = false) (c : Nat → ClassId) (a n : Nat → Nat) (A : Nat → Nat → Int32) (B : Nat → Int64) (E : Nat → Nat → Int32) (j : Nat) (hN : zf_N n) (hj : j < n 0) (le gr wu fu : Int32) (h1 : zf_isIn le 0 100) (h2 : ¬ zf_isIn gr (ze_mx 1 le) 200) : ze_Q l yL_addGenerator wsL_addGenerator 8 129 1 6 D c (ze_wC c a n A B E) [.ref (a 0), .int (nI j), .int le, .int gr, .int wu, .int fu] (-900002) (ze_wC c a n A B E) := by
  intro sz
  refine zq_start (cc := cL_addGenerator) (maxL := 7) (ret := (some .int)) (own := RL) (by decide) rfl rfl (Nat.le_of_ble_eq_true rfl) ?_
  intro p e s m_ below meth cd F ls hF hsz E0 hXB hNc htab
  obtain ⟨S, hr, hlocks, hK, hW, hA, hl⟩ := E0
  have hX_ := S.1
  have hB_ := S.2.1
  have hts := S.2.2.2.2
  have hl : lv_has ls 7 [(0, .ref (a 0)), (1, .int (nI j)), (2, .int le), (3, .int gr), (4, .int wu), (5, .int fu)] := hl
  have w0 := hts (.classLink RL 22 "java/lang/IndexOutOfBoundsException") (List.mem_cons_of_mem _ (List.mem_append_left _ (List.mem_append_left _ (List.mem_append_left _ (List.mem_append_left _ (List.mem_append_left _ (List.mem_append_left _ (List.mem_append_left _ (List.mem_append_left _ (List.mem_of_getElem? (i := 0) rfl))))))))))
  have w1 := hts (.classLink RL 24 "java/lang/IllegalArgumentException") (List.mem_cons_of_mem _ (List.mem_append_left _ (List.mem_append_left _ (List.mem_append_left _ (List.mem_append_left _ (List.mem_append_left _ (List.mem_append_left _ (List.mem_append_left _ (List.mem_append_left _ (List.mem_of_getElem? (i := 1) rfl))))))))))
  have w2 := hts (.constant RL 26 (-900002)) (List.mem_cons_of_mem _ (List.mem_append_left _ (List.mem_append_left _ (List.mem_append_left _ (List.mem_append_left _ (List.mem_append_left _ (List.mem_append_left _ (List.mem_append_left _ (List.mem_append_left _ (List.mem_of_getElem? (i := 4) rfl))))))))))
  have hW := ze_W0 hW
  refine lv_aload_n hX_ hB_ dL_addGenerator_0 rfl (lv_at hl 0 rfl) ?_
  refine lv_iload_n hX_ hB_ dL_addGenerator_1 rfl (lv_at hl 1 rfl) ?_
  refine lv_iload_n hX_ hB_ dL_addGenerator_2 rfl (lv_at hl 2 rfl) ?_
  refine lv_iload_n hX_ hB_ dL_addGenerator_3 rfl (lv_at hl 3 rfl) ?_
  refine lv_iload hX_ hB_ dL_addGenerator_4 (lv_at hl 4 rfl) ?_
  refine lv_iload hX_ hB_ dL_addGenerator_6 (lv_at hl 5 rfl) ?_
  refine zx_FVc (As := [.int (nI j), .int le, .int gr, .int wu, .int fu]) (rest := []) (ci := 8) (q0 := 0) (k := (RX8, TX8, 8)) S (zt_addGenerator_t2b l D hst c a n A B E j hN hj le gr wu fu h1 h2) (cwV 5 hts gL_addGenerator_X8_addGenerator rfl rfl rfl (by decide +kernel) ⟨(Nat.le_of_ble_eq_true rfl), (Nat.le_of_ble_eq_true rfl)⟩) hK hW hXB hA rfl (ze_at0 0 rfl) rfl hl.1 rfl (lv_room (Nat.le_of_ble_eq_true rfl)) dL_addGenerator_8 ⟨(Nat.le_of_ble_eq_true rfl), (Nat.le_of_ble_eq_true rfl)⟩ [⟨0, 11, 12, 22⟩] ⟨0, 11, 17, 24⟩ [⟨0, 11, 22, 15⟩] htab (by
      intro z hz
      simp only [List.mem_cons, List.not_mem_nil, or_false] at hz
      rcases hz with rfl
      exact Or.inr ⟨by decide, "java/lang/IndexOutOfBoundsException", w0, hNc ("java/lang/IllegalArgumentException", "java/lang/IndexOutOfBoundsException") (by decide +kernel)⟩) (by decide) (by decide) w1 (va_Nw.use rfl (hXB.2.2.2 _ (List.mem_of_getElem? (i := 4) rfl))) (fun q9 H locs hW => ?_)
  have hW := ze_W0' hW
  refine lv_astore (lv' := [(6, .ref q9), (0, .ref (a 0)), (1, .int (nI j)), (2, .int le), (3, .int gr), (4, .int wu), (5, .int fu)]) hX_ hB_ dL_addGenerator_17 hl (by decide) rfl (fun ls hl => ?_)
  refine lv_ldc (own := RL) (v := -900002) hX_ hB_ S.2.2.2.1 w2 dL_addGenerator_19 ?_
  exact ze_iret S hr hlocks hF hK hW rfl dL_addGenerator_21 (Nat.le_of_ble_eq_true rfl) (Nat.le_of_ble_eq_true rfl) rfl rfl
set_option maxHeartbeats 4000000 in
set_option maxRecDepth 100000 in
theorem xw_addGenerator_t2c (l : Launch) (D : va_G) (hst : l.stackTraces = false) (c : Nat → ClassId) (a n : Nat → Nat) (A : Nat → Nat → Int32) (B : Nat → Int64) (E : Nat → Nat → Int32) (j : Nat) (hN : zf_N n) (hj : j < n 0) (le gr wu fu : Int32) (h1 : zf_isIn le 0 100) (h2 : zf_isIn gr (ze_mx 1 le) 200) (h3 : ¬ zf_isIn wu 0 9) : ze_Q l yL_addGenerator wsL_addGenerator 8 129 1 6 D c (ze_wC c a n A B E) [.ref (a 0), .int (nI j), .int le, .int gr, .int wu, .int fu] (-900002) (ze_wC c a n A B E) := by
  intro sz
  refine zq_start (cc := cL_addGenerator) (maxL := 7) (ret := (some .int)) (own := RL) (by decide) rfl rfl (Nat.le_of_ble_eq_true rfl) ?_
  intro p e s m_ below meth cd F ls hF hsz E0 hXB hNc htab
  obtain ⟨S, hr, hlocks, hK, hW, hA, hl⟩ := E0
  have hX_ := S.1
  have hB_ := S.2.1
  have hts := S.2.2.2.2
  have hl : lv_has ls 7 [(0, .ref (a 0)), (1, .int (nI j)), (2, .int le), (3, .int gr), (4, .int wu), (5, .int fu)] := hl
  have w0 := hts (.classLink RL 22 "java/lang/IndexOutOfBoundsException") (List.mem_cons_of_mem _ (List.mem_append_left _ (List.mem_append_left _ (List.mem_append_left _ (List.mem_append_left _ (List.mem_append_left _ (List.mem_append_left _ (List.mem_append_left _ (List.mem_append_left _ (List.mem_of_getElem? (i := 0) rfl))))))))))
  have w1 := hts (.classLink RL 24 "java/lang/IllegalArgumentException") (List.mem_cons_of_mem _ (List.mem_append_left _ (List.mem_append_left _ (List.mem_append_left _ (List.mem_append_left _ (List.mem_append_left _ (List.mem_append_left _ (List.mem_append_left _ (List.mem_append_left _ (List.mem_of_getElem? (i := 1) rfl))))))))))
  have w2 := hts (.constant RL 26 (-900002)) (List.mem_cons_of_mem _ (List.mem_append_left _ (List.mem_append_left _ (List.mem_append_left _ (List.mem_append_left _ (List.mem_append_left _ (List.mem_append_left _ (List.mem_append_left _ (List.mem_append_left _ (List.mem_of_getElem? (i := 4) rfl))))))))))
  have hW := ze_W0 hW
  refine lv_aload_n hX_ hB_ dL_addGenerator_0 rfl (lv_at hl 0 rfl) ?_
  refine lv_iload_n hX_ hB_ dL_addGenerator_1 rfl (lv_at hl 1 rfl) ?_
  refine lv_iload_n hX_ hB_ dL_addGenerator_2 rfl (lv_at hl 2 rfl) ?_
  refine lv_iload_n hX_ hB_ dL_addGenerator_3 rfl (lv_at hl 3 rfl) ?_
  refine lv_iload hX_ hB_ dL_addGenerator_4 (lv_at hl 4 rfl) ?_
  refine lv_iload hX_ hB_ dL_addGenerator_6 (lv_at hl 5 rfl) ?_
  refine zx_FVc (As := [.int (nI j), .int le, .int gr, .int wu, .int fu]) (rest := []) (ci := 8) (q0 := 0) (k := (RX8, TX8, 8)) S (zt_addGenerator_t2c l D hst c a n A B E j hN hj le gr wu fu h1 h2 h3) (cwV 5 hts gL_addGenerator_X8_addGenerator rfl rfl rfl (by decide +kernel) ⟨(Nat.le_of_ble_eq_true rfl), (Nat.le_of_ble_eq_true rfl)⟩) hK hW hXB hA rfl (ze_at0 0 rfl) rfl hl.1 rfl (lv_room (Nat.le_of_ble_eq_true rfl)) dL_addGenerator_8 ⟨(Nat.le_of_ble_eq_true rfl), (Nat.le_of_ble_eq_true rfl)⟩ [⟨0, 11, 12, 22⟩] ⟨0, 11, 17, 24⟩ [⟨0, 11, 22, 15⟩] htab (by
      intro z hz
      simp only [List.mem_cons, List.not_mem_nil, or_false] at hz
      rcases hz with rfl
      exact Or.inr ⟨by decide, "java/lang/IndexOutOfBoundsException", w0, hNc ("java/lang/IllegalArgumentException", "java/lang/IndexOutOfBoundsException") (by decide +kernel)⟩) (by decide) (by decide) w1 (va_Nw.use rfl (hXB.2.2.2 _ (List.mem_of_getElem? (i := 4) rfl))) (fun q9 H locs hW => ?_)
  have hW := ze_W0' hW
  refine lv_astore (lv' := [(6, .ref q9), (0, .ref (a 0)), (1, .int (nI j)), (2, .int le), (3, .int gr), (4, .int wu), (5, .int fu)]) hX_ hB_ dL_addGenerator_17 hl (by decide) rfl (fun ls hl => ?_)
  refine lv_ldc (own := RL) (v := -900002) hX_ hB_ S.2.2.2.1 w2 dL_addGenerator_19 ?_
  exact ze_iret S hr hlocks hF hK hW rfl dL_addGenerator_21 (Nat.le_of_ble_eq_true rfl) (Nat.le_of_ble_eq_true rfl) rfl rfl
set_option maxHeartbeats 4000000 in
set_option maxRecDepth 100000 in
theorem xw_addGenerator_t2d (l : Launch) (D : va_G) (hst : l.stackTraces = false) (c : Nat → ClassId) (a n : Nat → Nat) (A : Nat → Nat → Int32) (B : Nat → Int64) (E : Nat → Nat → Int32) (j : Nat) (hN : zf_N n) (hj : j < n 0) (le gr wu fu : Int32) (h1 : zf_isIn le 0 100) (h2 : zf_isIn gr (ze_mx 1 le) 200) (h3 : zf_isIn wu 0 9) (h4 : ¬ zf_isIn fu 0 9999) : ze_Q l yL_addGenerator wsL_addGenerator 8 129 1 6 D c (ze_wC c a n A B E) [.ref (a 0), .int (nI j), .int le, .int gr, .int wu, .int fu] (-900002) (ze_wC c a n A B E) := by
  intro sz
  refine zq_start (cc := cL_addGenerator) (maxL := 7) (ret := (some .int)) (own := RL) (by decide) rfl rfl (Nat.le_of_ble_eq_true rfl) ?_
  intro p e s m_ below meth cd F ls hF hsz E0 hXB hNc htab
  obtain ⟨S, hr, hlocks, hK, hW, hA, hl⟩ := E0
  have hX_ := S.1
  have hB_ := S.2.1
  have hts := S.2.2.2.2
  have hl : lv_has ls 7 [(0, .ref (a 0)), (1, .int (nI j)), (2, .int le), (3, .int gr), (4, .int wu), (5, .int fu)] := hl
  have w0 := hts (.classLink RL 22 "java/lang/IndexOutOfBoundsException") (List.mem_cons_of_mem _ (List.mem_append_left _ (List.mem_append_left _ (List.mem_append_left _ (List.mem_append_left _ (List.mem_append_left _ (List.mem_append_left _ (List.mem_append_left _ (List.mem_append_left _ (List.mem_of_getElem? (i := 0) rfl))))))))))
  have w1 := hts (.classLink RL 24 "java/lang/IllegalArgumentException") (List.mem_cons_of_mem _ (List.mem_append_left _ (List.mem_append_left _ (List.mem_append_left _ (List.mem_append_left _ (List.mem_append_left _ (List.mem_append_left _ (List.mem_append_left _ (List.mem_append_left _ (List.mem_of_getElem? (i := 1) rfl))))))))))
  have w2 := hts (.constant RL 26 (-900002)) (List.mem_cons_of_mem _ (List.mem_append_left _ (List.mem_append_left _ (List.mem_append_left _ (List.mem_append_left _ (List.mem_append_left _ (List.mem_append_left _ (List.mem_append_left _ (List.mem_append_left _ (List.mem_of_getElem? (i := 4) rfl))))))))))
  have hW := ze_W0 hW
  refine lv_aload_n hX_ hB_ dL_addGenerator_0 rfl (lv_at hl 0 rfl) ?_
  refine lv_iload_n hX_ hB_ dL_addGenerator_1 rfl (lv_at hl 1 rfl) ?_
  refine lv_iload_n hX_ hB_ dL_addGenerator_2 rfl (lv_at hl 2 rfl) ?_
  refine lv_iload_n hX_ hB_ dL_addGenerator_3 rfl (lv_at hl 3 rfl) ?_
  refine lv_iload hX_ hB_ dL_addGenerator_4 (lv_at hl 4 rfl) ?_
  refine lv_iload hX_ hB_ dL_addGenerator_6 (lv_at hl 5 rfl) ?_
  refine zx_FVc (As := [.int (nI j), .int le, .int gr, .int wu, .int fu]) (rest := []) (ci := 8) (q0 := 0) (k := (RX8, TX8, 8)) S (zt_addGenerator_t2d l D hst c a n A B E j hN hj le gr wu fu h1 h2 h3 h4) (cwV 5 hts gL_addGenerator_X8_addGenerator rfl rfl rfl (by decide +kernel) ⟨(Nat.le_of_ble_eq_true rfl), (Nat.le_of_ble_eq_true rfl)⟩) hK hW hXB hA rfl (ze_at0 0 rfl) rfl hl.1 rfl (lv_room (Nat.le_of_ble_eq_true rfl)) dL_addGenerator_8 ⟨(Nat.le_of_ble_eq_true rfl), (Nat.le_of_ble_eq_true rfl)⟩ [⟨0, 11, 12, 22⟩] ⟨0, 11, 17, 24⟩ [⟨0, 11, 22, 15⟩] htab (by
      intro z hz
      simp only [List.mem_cons, List.not_mem_nil, or_false] at hz
      rcases hz with rfl
      exact Or.inr ⟨by decide, "java/lang/IndexOutOfBoundsException", w0, hNc ("java/lang/IllegalArgumentException", "java/lang/IndexOutOfBoundsException") (by decide +kernel)⟩) (by decide) (by decide) w1 (va_Nw.use rfl (hXB.2.2.2 _ (List.mem_of_getElem? (i := 4) rfl))) (fun q9 H locs hW => ?_)
  have hW := ze_W0' hW
  refine lv_astore (lv' := [(6, .ref q9), (0, .ref (a 0)), (1, .int (nI j)), (2, .int le), (3, .int gr), (4, .int wu), (5, .int fu)]) hX_ hB_ dL_addGenerator_17 hl (by decide) rfl (fun ls hl => ?_)
  refine lv_ldc (own := RL) (v := -900002) hX_ hB_ S.2.2.2.1 w2 dL_addGenerator_19 ?_
  exact ze_iret S hr hlocks hF hK hW rfl dL_addGenerator_21 (Nat.le_of_ble_eq_true rfl) (Nat.le_of_ble_eq_true rfl) rfl rfl
set_option maxHeartbeats 4000000 in
set_option maxRecDepth 100000 in
theorem xw_addGenerator_t3 (l : Launch) (D : va_G) (hst : l.stackTraces = false) (c : Nat → ClassId) (a n : Nat → Nat) (A : Nat → Nat → Int32) (B : Nat → Int64) (E : Nat → Nat → Int32) (j : Nat) (hN : zf_N n) (hj : j < n 0) (le gr wu fu : Int32) (h1 : zf_isIn le 0 100) (h2 : zf_isIn gr (ze_mx 1 le) 200) (h3 : zf_isIn wu 0 9) (h4 : zf_isIn fu 0 9999) (h5 : ¬ n 2 < 6) : ze_Q l yL_addGenerator wsL_addGenerator 7 107 1 6 D c (ze_wC c a n A B E) [.ref (a 0), .int (nI j), .int le, .int gr, .int wu, .int fu] (-900003) (ze_wC c a n A B E) := by
  intro sz
  refine zq_start (cc := cL_addGenerator) (maxL := 7) (ret := (some .int)) (own := RL) (by decide) rfl rfl (Nat.le_of_ble_eq_true rfl) ?_
  intro p e s m_ below meth cd F ls hF hsz E0 hXB hNc htab
  obtain ⟨S, hr, hlocks, hK, hW, hA, hl⟩ := E0
  have hX_ := S.1
  have hB_ := S.2.1
  have hts := S.2.2.2.2
  have hl : lv_has ls 7 [(0, .ref (a 0)), (1, .int (nI j)), (2, .int le), (3, .int gr), (4, .int wu), (5, .int fu)] := hl
  have w0 := hts (.classLink RL 22 "java/lang/IndexOutOfBoundsException") (List.mem_cons_of_mem _ (List.mem_append_left _ (List.mem_append_left _ (List.mem_append_left _ (List.mem_append_left _ (List.mem_append_left _ (List.mem_append_left _ (List.mem_append_left _ (List.mem_append_left _ (List.mem_of_getElem? (i := 0) rfl))))))))))
  have w1 := hts (.classLink RL 24 "java/lang/IllegalArgumentException") (List.mem_cons_of_mem _ (List.mem_append_left _ (List.mem_append_left _ (List.mem_append_left _ (List.mem_append_left _ (List.mem_append_left _ (List.mem_append_left _ (List.mem_append_left _ (List.mem_append_left _ (List.mem_of_getElem? (i := 1) rfl))))))))))
  have w2 := hts (.classLink RL 15 "java/lang/IllegalStateException") (List.mem_cons_of_mem _ (List.mem_append_left _ (List.mem_append_left _ (List.mem_append_left _ (List.mem_append_left _ (List.mem_append_left _ (List.mem_append_left _ (List.mem_append_left _ (List.mem_append_left _ (List.mem_of_getElem? (i := 2) rfl))))))))))
  have w3 := hts (.constant RL 30 (-900003)) (List.mem_cons_of_mem _ (List.mem_append_left _ (List.mem_append_left _ (List.mem_append_left _ (List.mem_append_left _ (List.mem_append_left _ (List.mem_append_left _ (List.mem_append_left _ (List.mem_append_left _ (List.mem_of_getElem? (i := 5) rfl))))))))))
  have hW := ze_W0 hW
  refine lv_aload_n hX_ hB_ dL_addGenerator_0 rfl (lv_at hl 0 rfl) ?_
  refine lv_iload_n hX_ hB_ dL_addGenerator_1 rfl (lv_at hl 1 rfl) ?_
  refine lv_iload_n hX_ hB_ dL_addGenerator_2 rfl (lv_at hl 2 rfl) ?_
  refine lv_iload_n hX_ hB_ dL_addGenerator_3 rfl (lv_at hl 3 rfl) ?_
  refine lv_iload hX_ hB_ dL_addGenerator_4 (lv_at hl 4 rfl) ?_
  refine lv_iload hX_ hB_ dL_addGenerator_6 (lv_at hl 5 rfl) ?_
  refine zx_FVc (As := [.int (nI j), .int le, .int gr, .int wu, .int fu]) (rest := []) (ci := 8) (q0 := 0) (k := (RX8, TX8, 8)) S (zt_addGenerator_t3 l D hst c a n A B E j hN hj le gr wu fu h1 h2 h3 h4 h5) (cwV 5 hts gL_addGenerator_X8_addGenerator rfl rfl rfl (by decide +kernel) ⟨(Nat.le_of_ble_eq_true rfl), (Nat.le_of_ble_eq_true rfl)⟩) hK hW hXB hA rfl (ze_at0 0 rfl) rfl hl.1 rfl (lv_room (Nat.le_of_ble_eq_true rfl)) dL_addGenerator_8 ⟨(Nat.le_of_ble_eq_true rfl), (Nat.le_of_ble_eq_true rfl)⟩ [⟨0, 11, 12, 22⟩, ⟨0, 11, 17, 24⟩] ⟨0, 11, 22, 15⟩ [] htab (by
      intro z hz
      simp only [List.mem_cons, List.not_mem_nil, or_false] at hz
      rcases hz with rfl | rfl
      · exact Or.inr ⟨by decide, "java/lang/IndexOutOfBoundsException", w0, hNc ("java/lang/IllegalStateException", "java/lang/IndexOutOfBoundsException") (by decide +kernel)⟩
      · exact Or.inr ⟨by decide, "java/lang/IllegalArgumentException", w1, hNc ("java/lang/IllegalStateException", "java/lang/IllegalArgumentException") (by decide +kernel)⟩) (by decide) (by decide) w2 (va_Nw.use rfl (hXB.2.2.2 _ (List.mem_of_getElem? (i := 3) rfl))) (fun q9 H locs hW => ?_)
  have hW := ze_W0' hW
  refine lv_astore (lv' := [(6, .ref q9), (0, .ref (a 0)), (1, .int (nI j)), (2, .int le), (3, .int gr), (4, .int wu), (5, .int fu)]) hX_ hB_ dL_addGenerator_22 hl (by decide) rfl (fun ls hl => ?_)
  refine lv_ldc (own := RL) (v := -900003) hX_ hB_ S.2.2.2.1 w3 dL_addGenerator_24 ?_
  exact ze_iret S hr hlocks hF hK hW rfl dL_addGenerator_26 (Nat.le_of_ble_eq_true rfl) (Nat.le_of_ble_eq_true rfl) rfl rfl
set_option maxHeartbeats 4000000 in
set_option maxRecDepth 100000 in
theorem xw_addStore_t2a (l : Launch) (D : va_G) (hst : l.stackTraces = false) (c : Nat → ClassId) (a n : Nat → Nat) (A : Nat → Nat → Int32) (B : Nat → Int64) (E : Nat → Nat → Int32) (j : Nat) (hN : zf_N n) (hj : j < n 0) (y z : Int32) (h1 : ¬ zf_isIn y 1 999) : ze_Q l yL_addStore wsL_addStore 8 127 1 6 D c (ze_wC c a n A B E) [.ref (a 0), .int (nI j), .int y, .int z] (-900002) (ze_wC c a n A B E) := by
  intro sz
  refine zq_start (cc := cL_addStore) (maxL := 5) (ret := (some .int)) (own := RL) (by decide) rfl rfl (Nat.le_of_ble_eq_true rfl) ?_
  intro p e s m_ below meth cd F ls hF hsz E0 hXB hNc htab
  obtain ⟨S, hr, hlocks, hK, hW, hA, hl⟩ := E0
  have hX_ := S.1
  have hB_ := S.2.1
  have hts := S.2.2.2.2
  have hl : lv_has ls 5 [(0, .ref (a 0)), (1, .int (nI j)), (2, .int y), (3, .int z)] := hl
  have w0 := hts (.classLink RL 22 "java/lang/IndexOutOfBoundsException") (List.mem_cons_of_mem _ (List.mem_append_left _ (List.mem_append_left _ (List.mem_append_left _ (List.mem_append_left _ (List.mem_append_left _ (List.mem_append_left _ (List.mem_append_left _ (List.mem_append_left _ (List.mem_of_getElem? (i := 0) rfl))))))))))
  have w1 := hts (.classLink RL 24 "java/lang/IllegalArgumentException") (List.mem_cons_of_mem _ (List.mem_append_left _ (List.mem_append_left _ (List.mem_append_left _ (List.mem_append_left _ (List.mem_append_left _ (List.mem_append_left _ (List.mem_append_left _ (List.mem_append_left _ (List.mem_of_getElem? (i := 1) rfl))))))))))
  have w2 := hts (.constant RL 26 (-900002)) (List.mem_cons_of_mem _ (List.mem_append_left _ (List.mem_append_left _ (List.mem_append_left _ (List.mem_append_left _ (List.mem_append_left _ (List.mem_append_left _ (List.mem_append_left _ (List.mem_append_left _ (List.mem_of_getElem? (i := 4) rfl))))))))))
  have hW := ze_W0 hW
  refine lv_aload_n hX_ hB_ dL_addStore_0 rfl (lv_at hl 0 rfl) ?_
  refine lv_iload_n hX_ hB_ dL_addStore_1 rfl (lv_at hl 1 rfl) ?_
  refine lv_iload_n hX_ hB_ dL_addStore_2 rfl (lv_at hl 2 rfl) ?_
  refine lv_iload_n hX_ hB_ dL_addStore_3 rfl (lv_at hl 3 rfl) ?_
  refine zx_FVc (As := [.int (nI j), .int y, .int z]) (rest := []) (ci := 8) (q0 := 0) (k := (RX8, TX8, 8)) S (zt_addStore_t2a l D hst c a n A B E j hN hj y z h1) (cwV 3 hts gL_addStore_X8_addStore rfl rfl rfl (by decide +kernel) ⟨(Nat.le_of_ble_eq_true rfl), (Nat.le_of_ble_eq_true rfl)⟩) hK hW hXB hA rfl (ze_at0 0 rfl) rfl hl.1 rfl (lv_room (Nat.le_of_ble_eq_true rfl)) dL_addStore_4 ⟨(Nat.le_of_ble_eq_true rfl), (Nat.le_of_ble_eq_true rfl)⟩ [⟨0, 7, 8, 22⟩] ⟨0, 7, 13, 24⟩ [⟨0, 7, 18, 15⟩] htab (by
      intro z hz
      simp only [List.mem_cons, List.not_mem_nil, or_false] at hz
      rcases hz with rfl
      exact Or.inr ⟨by decide, "java/lang/IndexOutOfBoundsException", w0, hNc ("java/lang/IllegalArgumentException", "java/lang/IndexOutOfBoundsException") (by decide +kernel)⟩) (by decide) (by decide) w1 (va_Nw.use rfl (hXB.2.2.2 _ (List.mem_of_getElem? (i := 4) rfl))) (fun q9 H locs hW => ?_)
  have hW := ze_W0' hW
  refine lv_astore (lv' := [(4, .ref q9), (0, .ref (a 0)), (1, .int (nI j)), (2, .int y), (3, .int z)]) hX_ hB_ dL_addStore_13 hl (by decide) rfl (fun ls hl => ?_)
  refine lv_ldc (own := RL) (v := -900002) hX_ hB_ S.2.2.2.1 w2 dL_addStore_15 ?_
  exact ze_iret S hr hlocks hF hK hW rfl dL_addStore_17 (Nat.le_of_ble_eq_true rfl) (Nat.le_of_ble_eq_true rfl) rfl rfl
set_option maxHeartbeats 4000000 in
set_option maxRecDepth 100000 in
theorem xw_addStore_t2b (l : Launch) (D : va_G) (hst : l.stackTraces = false) (c : Nat → ClassId) (a n : Nat → Nat) (A : Nat → Nat → Int32) (B : Nat → Int64) (E : Nat → Nat → Int32) (j : Nat) (hN : zf_N n) (hj : j < n 0) (y z : Int32) (h1 : zf_isIn y 1 999) (h2 : ¬ zf_isIn z 1 99) : ze_Q l yL_addStore wsL_addStore 8 127 1 6 D c (ze_wC c a n A B E) [.ref (a 0), .int (nI j), .int y, .int z] (-900002) (ze_wC c a n A B E) := by
  intro sz
  refine zq_start (cc := cL_addStore) (maxL := 5) (ret := (some .int)) (own := RL) (by decide) rfl rfl (Nat.le_of_ble_eq_true rfl) ?_
  intro p e s m_ below meth cd F ls hF hsz E0 hXB hNc htab
  obtain ⟨S, hr, hlocks, hK, hW, hA, hl⟩ := E0
  have hX_ := S.1
  have hB_ := S.2.1
  have hts := S.2.2.2.2
  have hl : lv_has ls 5 [(0, .ref (a 0)), (1, .int (nI j)), (2, .int y), (3, .int z)] := hl
  have w0 := hts (.classLink RL 22 "java/lang/IndexOutOfBoundsException") (List.mem_cons_of_mem _ (List.mem_append_left _ (List.mem_append_left _ (List.mem_append_left _ (List.mem_append_left _ (List.mem_append_left _ (List.mem_append_left _ (List.mem_append_left _ (List.mem_append_left _ (List.mem_of_getElem? (i := 0) rfl))))))))))
  have w1 := hts (.classLink RL 24 "java/lang/IllegalArgumentException") (List.mem_cons_of_mem _ (List.mem_append_left _ (List.mem_append_left _ (List.mem_append_left _ (List.mem_append_left _ (List.mem_append_left _ (List.mem_append_left _ (List.mem_append_left _ (List.mem_append_left _ (List.mem_of_getElem? (i := 1) rfl))))))))))
  have w2 := hts (.constant RL 26 (-900002)) (List.mem_cons_of_mem _ (List.mem_append_left _ (List.mem_append_left _ (List.mem_append_left _ (List.mem_append_left _ (List.mem_append_left _ (List.mem_append_left _ (List.mem_append_left _ (List.mem_append_left _ (List.mem_of_getElem? (i := 4) rfl))))))))))
  have hW := ze_W0 hW
  refine lv_aload_n hX_ hB_ dL_addStore_0 rfl (lv_at hl 0 rfl) ?_
  refine lv_iload_n hX_ hB_ dL_addStore_1 rfl (lv_at hl 1 rfl) ?_
  refine lv_iload_n hX_ hB_ dL_addStore_2 rfl (lv_at hl 2 rfl) ?_
  refine lv_iload_n hX_ hB_ dL_addStore_3 rfl (lv_at hl 3 rfl) ?_
  refine zx_FVc (As := [.int (nI j), .int y, .int z]) (rest := []) (ci := 8) (q0 := 0) (k := (RX8, TX8, 8)) S (zt_addStore_t2b l D hst c a n A B E j hN hj y z h1 h2) (cwV 3 hts gL_addStore_X8_addStore rfl rfl rfl (by decide +kernel) ⟨(Nat.le_of_ble_eq_true rfl), (Nat.le_of_ble_eq_true rfl)⟩) hK hW hXB hA rfl (ze_at0 0 rfl) rfl hl.1 rfl (lv_room (Nat.le_of_ble_eq_true rfl)) dL_addStore_4 ⟨(Nat.le_of_ble_eq_true rfl), (Nat.le_of_ble_eq_true rfl)⟩ [⟨0, 7, 8, 22⟩] ⟨0, 7, 13, 24⟩ [⟨0, 7, 18, 15⟩] htab (by
      intro z hz
      simp only [List.mem_cons, List.not_mem_nil, or_false] at hz
      rcases hz with rfl
      exact Or.inr ⟨by decide, "java/lang/IndexOutOfBoundsException", w0, hNc ("java/lang/IllegalArgumentException", "java/lang/IndexOutOfBoundsException") (by decide +kernel)⟩) (by decide) (by decide) w1 (va_Nw.use rfl (hXB.2.2.2 _ (List.mem_of_getElem? (i := 4) rfl))) (fun q9 H locs hW => ?_)
  have hW := ze_W0' hW
  refine lv_astore (lv' := [(4, .ref q9), (0, .ref (a 0)), (1, .int (nI j)), (2, .int y), (3, .int z)]) hX_ hB_ dL_addStore_13 hl (by decide) rfl (fun ls hl => ?_)
  refine lv_ldc (own := RL) (v := -900002) hX_ hB_ S.2.2.2.1 w2 dL_addStore_15 ?_
  exact ze_iret S hr hlocks hF hK hW rfl dL_addStore_17 (Nat.le_of_ble_eq_true rfl) (Nat.le_of_ble_eq_true rfl) rfl rfl
set_option maxHeartbeats 4000000 in
set_option maxRecDepth 100000 in
theorem xw_addStore_t3 (l : Launch) (D : va_G) (hst : l.stackTraces = false) (c : Nat → ClassId) (a n : Nat → Nat) (A : Nat → Nat → Int32) (B : Nat → Int64) (E : Nat → Nat → Int32) (j : Nat) (hN : zf_N n) (hj : j < n 0) (y z : Int32) (h1 : zf_isIn y 1 999) (h2 : zf_isIn z 1 99) (h3 : ¬ n 3 < 4) : ze_Q l yL_addStore wsL_addStore 7 105 1 6 D c (ze_wC c a n A B E) [.ref (a 0), .int (nI j), .int y, .int z] (-900003) (ze_wC c a n A B E) := by
  intro sz
  refine zq_start (cc := cL_addStore) (maxL := 5) (ret := (some .int)) (own := RL) (by decide) rfl rfl (Nat.le_of_ble_eq_true rfl) ?_
  intro p e s m_ below meth cd F ls hF hsz E0 hXB hNc htab
  obtain ⟨S, hr, hlocks, hK, hW, hA, hl⟩ := E0
  have hX_ := S.1
  have hB_ := S.2.1
  have hts := S.2.2.2.2
  have hl : lv_has ls 5 [(0, .ref (a 0)), (1, .int (nI j)), (2, .int y), (3, .int z)] := hl
  have w0 := hts (.classLink RL 22 "java/lang/IndexOutOfBoundsException") (List.mem_cons_of_mem _ (List.mem_append_left _ (List.mem_append_left _ (List.mem_append_left _ (List.mem_append_left _ (List.mem_append_left _ (List.mem_append_left _ (List.mem_append_left _ (List.mem_append_left _ (List.mem_of_getElem? (i := 0) rfl))))))))))
  have w1 := hts (.classLink RL 24 "java/lang/IllegalArgumentException") (List.mem_cons_of_mem _ (List.mem_append_left _ (List.mem_append_left _ (List.mem_append_left _ (List.mem_append_left _ (List.mem_append_left _ (List.mem_append_left _ (List.mem_append_left _ (List.mem_append_left _ (List.mem_of_getElem? (i := 1) rfl))))))))))
  have w2 := hts (.classLink RL 15 "java/lang/IllegalStateException") (List.mem_cons_of_mem _ (List.mem_append_left _ (List.mem_append_left _ (List.mem_append_left _ (List.mem_append_left _ (List.mem_append_left _ (List.mem_append_left _ (List.mem_append_left _ (List.mem_append_left _ (List.mem_of_getElem? (i := 2) rfl))))))))))
  have w3 := hts (.constant RL 30 (-900003)) (List.mem_cons_of_mem _ (List.mem_append_left _ (List.mem_append_left _ (List.mem_append_left _ (List.mem_append_left _ (List.mem_append_left _ (List.mem_append_left _ (List.mem_append_left _ (List.mem_append_left _ (List.mem_of_getElem? (i := 5) rfl))))))))))
  have hW := ze_W0 hW
  refine lv_aload_n hX_ hB_ dL_addStore_0 rfl (lv_at hl 0 rfl) ?_
  refine lv_iload_n hX_ hB_ dL_addStore_1 rfl (lv_at hl 1 rfl) ?_
  refine lv_iload_n hX_ hB_ dL_addStore_2 rfl (lv_at hl 2 rfl) ?_
  refine lv_iload_n hX_ hB_ dL_addStore_3 rfl (lv_at hl 3 rfl) ?_
  refine zx_FVc (As := [.int (nI j), .int y, .int z]) (rest := []) (ci := 8) (q0 := 0) (k := (RX8, TX8, 8)) S (zt_addStore_t3 l D hst c a n A B E j hN hj y z h1 h2 h3) (cwV 3 hts gL_addStore_X8_addStore rfl rfl rfl (by decide +kernel) ⟨(Nat.le_of_ble_eq_true rfl), (Nat.le_of_ble_eq_true rfl)⟩) hK hW hXB hA rfl (ze_at0 0 rfl) rfl hl.1 rfl (lv_room (Nat.le_of_ble_eq_true rfl)) dL_addStore_4 ⟨(Nat.le_of_ble_eq_true rfl), (Nat.le_of_ble_eq_true rfl)⟩ [⟨0, 7, 8, 22⟩, ⟨0, 7, 13, 24⟩] ⟨0, 7, 18, 15⟩ [] htab (by
      intro z hz
      simp only [List.mem_cons, List.not_mem_nil, or_false] at hz
      rcases hz with rfl | rfl
      · exact Or.inr ⟨by decide, "java/lang/IndexOutOfBoundsException", w0, hNc ("java/lang/IllegalStateException", "java/lang/IndexOutOfBoundsException") (by decide +kernel)⟩
      · exact Or.inr ⟨by decide, "java/lang/IllegalArgumentException", w1, hNc ("java/lang/IllegalStateException", "java/lang/IllegalArgumentException") (by decide +kernel)⟩) (by decide) (by decide) w2 (va_Nw.use rfl (hXB.2.2.2 _ (List.mem_of_getElem? (i := 3) rfl))) (fun q9 H locs hW => ?_)
  have hW := ze_W0' hW
  refine lv_astore (lv' := [(4, .ref q9), (0, .ref (a 0)), (1, .int (nI j)), (2, .int y), (3, .int z)]) hX_ hB_ dL_addStore_18 hl (by decide) rfl (fun ls hl => ?_)
  refine lv_ldc (own := RL) (v := -900003) hX_ hB_ S.2.2.2.1 w3 dL_addStore_20 ?_
  exact ze_iret S hr hlocks hF hK hW rfl dL_addStore_22 (Nat.le_of_ble_eq_true rfl) (Nat.le_of_ble_eq_true rfl) rfl rfl
set_option maxHeartbeats 4000000 in
set_option maxRecDepth 100000 in
theorem xw_addLoad_t2a (l : Launch) (D : va_G) (hst : l.stackTraces = false) (c : Nat → ClassId) (a n : Nat → Nat) (A : Nat → Nat → Int32) (B : Nat → Int64) (E : Nat → Nat → Int32) (j : Nat) (hN : zf_N n) (hj : j < n 0) (y z : Int32) (h1 : ¬ zf_isIn y 1 200) : ze_Q l yL_addLoad wsL_addLoad 8 127 1 6 D c (ze_wC c a n A B E) [.ref (a 0), .int (nI j), .int y, .int z] (-900002) (ze_wC c a n A B E) := by
  intro sz
  refine zq_start (cc := cL_addLoad) (maxL := 5) (ret := (some .int)) (own := RL) (by decide) rfl rfl (Nat.le_of_ble_eq_true rfl) ?_
  intro p e s m_ below meth cd F ls hF hsz E0 hXB hNc htab
  obtain ⟨S, hr, hlocks, hK, hW, hA, hl⟩ := E0
  have hX_ := S.1
  have hB_ := S.2.1
  have hts := S.2.2.2.2
  have hl : lv_has ls 5 [(0, .ref (a 0)), (1, .int (nI j)), (2, .int y), (3, .int z)] := hl
  have w0 := hts (.classLink RL 22 "java/lang/IndexOutOfBoundsException") (List.mem_cons_of_mem _ (List.mem_append_left _ (List.mem_append_left _ (List.mem_append_left _ (List.mem_append_left _ (List.mem_append_left _ (List.mem_append_left _ (List.mem_append_left _ (List.mem_append_left _ (List.mem_of_getElem? (i := 0) rfl))))))))))
  have w1 := hts (.classLink RL 24 "java/lang/IllegalArgumentException") (List.mem_cons_of_mem _ (List.mem_append_left _ (List.mem_append_left _ (List.mem_append_left _ (List.mem_append_left _ (List.mem_append_left _ (List.mem_append_left _ (List.mem_append_left _ (List.mem_append_left _ (List.mem_of_getElem? (i := 1) rfl))))))))))
  have w2 := hts (.constant RL 26 (-900002)) (List.mem_cons_of_mem _ (List.mem_append_left _ (List.mem_append_left _ (List.mem_append_left _ (List.mem_append_left _ (List.mem_append_left _ (List.mem_append_left _ (List.mem_append_left _ (List.mem_append_left _ (List.mem_of_getElem? (i := 4) rfl))))))))))
  have hW := ze_W0 hW
  refine lv_aload_n hX_ hB_ dL_addLoad_0 rfl (lv_at hl 0 rfl) ?_
  refine lv_iload_n hX_ hB_ dL_addLoad_1 rfl (lv_at hl 1 rfl) ?_
  refine lv_iload_n hX_ hB_ dL_addLoad_2 rfl (lv_at hl 2 rfl) ?_
  refine lv_iload_n hX_ hB_ dL_addLoad_3 rfl (lv_at hl 3 rfl) ?_
  refine zx_FVc (As := [.int (nI j), .int y, .int z]) (rest := []) (ci := 8) (q0 := 0) (k := (RX8, TX8, 8)) S (zt_addLoad_t2a l D hst c a n A B E j hN hj y z h1) (cwV 3 hts gL_addLoad_X8_addLoad rfl rfl rfl (by decide +kernel) ⟨(Nat.le_of_ble_eq_true rfl), (Nat.le_of_ble_eq_true rfl)⟩) hK hW hXB hA rfl (ze_at0 0 rfl) rfl hl.1 rfl (lv_room (Nat.le_of_ble_eq_true rfl)) dL_addLoad_4 ⟨(Nat.le_of_ble_eq_true rfl), (Nat.le_of_ble_eq_true rfl)⟩ [⟨0, 7, 8, 22⟩] ⟨0, 7, 13, 24⟩ [⟨0, 7, 18, 15⟩] htab (by
      intro z hz
      simp only [List.mem_cons, List.not_mem_nil, or_false] at hz
      rcases hz with rfl
      exact Or.inr ⟨by decide, "java/lang/IndexOutOfBoundsException", w0, hNc ("java/lang/IllegalArgumentException", "java/lang/IndexOutOfBoundsException") (by decide +kernel)⟩) (by decide) (by decide) w1 (va_Nw.use rfl (hXB.2.2.2 _ (List.mem_of_getElem? (i := 4) rfl))) (fun q9 H locs hW => ?_)
  have hW := ze_W0' hW
  refine lv_astore (lv' := [(4, .ref q9), (0, .ref (a 0)), (1, .int (nI j)), (2, .int y), (3, .int z)]) hX_ hB_ dL_addLoad_13 hl (by decide) rfl (fun ls hl => ?_)
  refine lv_ldc (own := RL) (v := -900002) hX_ hB_ S.2.2.2.1 w2 dL_addLoad_15 ?_
  exact ze_iret S hr hlocks hF hK hW rfl dL_addLoad_17 (Nat.le_of_ble_eq_true rfl) (Nat.le_of_ble_eq_true rfl) rfl rfl
set_option maxHeartbeats 4000000 in
set_option maxRecDepth 100000 in
theorem xw_addLoad_t2b (l : Launch) (D : va_G) (hst : l.stackTraces = false) (c : Nat → ClassId) (a n : Nat → Nat) (A : Nat → Nat → Int32) (B : Nat → Int64) (E : Nat → Nat → Int32) (j : Nat) (hN : zf_N n) (hj : j < n 0) (y z : Int32) (h1 : zf_isIn y 1 200) (h2 : ¬ zf_isIn z 1 9) : ze_Q l yL_addLoad wsL_addLoad 8 127 1 6 D c (ze_wC c a n A B E) [.ref (a 0), .int (nI j), .int y, .int z] (-900002) (ze_wC c a n A B E) := by
  intro sz
  refine zq_start (cc := cL_addLoad) (maxL := 5) (ret := (some .int)) (own := RL) (by decide) rfl rfl (Nat.le_of_ble_eq_true rfl) ?_
  intro p e s m_ below meth cd F ls hF hsz E0 hXB hNc htab
  obtain ⟨S, hr, hlocks, hK, hW, hA, hl⟩ := E0
  have hX_ := S.1
  have hB_ := S.2.1
  have hts := S.2.2.2.2
  have hl : lv_has ls 5 [(0, .ref (a 0)), (1, .int (nI j)), (2, .int y), (3, .int z)] := hl
  have w0 := hts (.classLink RL 22 "java/lang/IndexOutOfBoundsException") (List.mem_cons_of_mem _ (List.mem_append_left _ (List.mem_append_left _ (List.mem_append_left _ (List.mem_append_left _ (List.mem_append_left _ (List.mem_append_left _ (List.mem_append_left _ (List.mem_append_left _ (List.mem_of_getElem? (i := 0) rfl))))))))))
  have w1 := hts (.classLink RL 24 "java/lang/IllegalArgumentException") (List.mem_cons_of_mem _ (List.mem_append_left _ (List.mem_append_left _ (List.mem_append_left _ (List.mem_append_left _ (List.mem_append_left _ (List.mem_append_left _ (List.mem_append_left _ (List.mem_append_left _ (List.mem_of_getElem? (i := 1) rfl))))))))))
  have w2 := hts (.constant RL 26 (-900002)) (List.mem_cons_of_mem _ (List.mem_append_left _ (List.mem_append_left _ (List.mem_append_left _ (List.mem_append_left _ (List.mem_append_left _ (List.mem_append_left _ (List.mem_append_left _ (List.mem_append_left _ (List.mem_of_getElem? (i := 4) rfl))))))))))
  have hW := ze_W0 hW
  refine lv_aload_n hX_ hB_ dL_addLoad_0 rfl (lv_at hl 0 rfl) ?_
  refine lv_iload_n hX_ hB_ dL_addLoad_1 rfl (lv_at hl 1 rfl) ?_
  refine lv_iload_n hX_ hB_ dL_addLoad_2 rfl (lv_at hl 2 rfl) ?_
  refine lv_iload_n hX_ hB_ dL_addLoad_3 rfl (lv_at hl 3 rfl) ?_
  refine zx_FVc (As := [.int (nI j), .int y, .int z]) (rest := []) (ci := 8) (q0 := 0) (k := (RX8, TX8, 8)) S (zt_addLoad_t2b l D hst c a n A B E j hN hj y z h1 h2) (cwV 3 hts gL_addLoad_X8_addLoad rfl rfl rfl (by decide +kernel) ⟨(Nat.le_of_ble_eq_true rfl), (Nat.le_of_ble_eq_true rfl)⟩) hK hW hXB hA rfl (ze_at0 0 rfl) rfl hl.1 rfl (lv_room (Nat.le_of_ble_eq_true rfl)) dL_addLoad_4 ⟨(Nat.le_of_ble_eq_true rfl), (Nat.le_of_ble_eq_true rfl)⟩ [⟨0, 7, 8, 22⟩] ⟨0, 7, 13, 24⟩ [⟨0, 7, 18, 15⟩] htab (by
      intro z hz
      simp only [List.mem_cons, List.not_mem_nil, or_false] at hz
      rcases hz with rfl
      exact Or.inr ⟨by decide, "java/lang/IndexOutOfBoundsException", w0, hNc ("java/lang/IllegalArgumentException", "java/lang/IndexOutOfBoundsException") (by decide +kernel)⟩) (by decide) (by decide) w1 (va_Nw.use rfl (hXB.2.2.2 _ (List.mem_of_getElem? (i := 4) rfl))) (fun q9 H locs hW => ?_)
  have hW := ze_W0' hW
  refine lv_astore (lv' := [(4, .ref q9), (0, .ref (a 0)), (1, .int (nI j)), (2, .int y), (3, .int z)]) hX_ hB_ dL_addLoad_13 hl (by decide) rfl (fun ls hl => ?_)
  refine lv_ldc (own := RL) (v := -900002) hX_ hB_ S.2.2.2.1 w2 dL_addLoad_15 ?_
  exact ze_iret S hr hlocks hF hK hW rfl dL_addLoad_17 (Nat.le_of_ble_eq_true rfl) (Nat.le_of_ble_eq_true rfl) rfl rfl
set_option maxHeartbeats 4000000 in
set_option maxRecDepth 100000 in
theorem xw_addLoad_t3 (l : Launch) (D : va_G) (hst : l.stackTraces = false) (c : Nat → ClassId) (a n : Nat → Nat) (A : Nat → Nat → Int32) (B : Nat → Int64) (E : Nat → Nat → Int32) (j : Nat) (hN : zf_N n) (hj : j < n 0) (y z : Int32) (h1 : zf_isIn y 1 200) (h2 : zf_isIn z 1 9) (h3 : ¬ n 4 < 10) : ze_Q l yL_addLoad wsL_addLoad 7 105 1 6 D c (ze_wC c a n A B E) [.ref (a 0), .int (nI j), .int y, .int z] (-900003) (ze_wC c a n A B E) := by
  intro sz
  refine zq_start (cc := cL_addLoad) (maxL := 5) (ret := (some .int)) (own := RL) (by decide) rfl rfl (Nat.le_of_ble_eq_true rfl) ?_
  intro p e s m_ below meth cd F ls hF hsz E0 hXB hNc htab
  obtain ⟨S, hr, hlocks, hK, hW, hA, hl⟩ := E0
  have hX_ := S.1
  have hB_ := S.2.1
  have hts := S.2.2.2.2
  have hl : lv_has ls 5 [(0, .ref (a 0)), (1, .int (nI j)), (2, .int y), (3, .int z)] := hl
  have w0 := hts (.classLink RL 22 "java/lang/IndexOutOfBoundsException") (List.mem_cons_of_mem _ (List.mem_append_left _ (List.mem_append_left _ (List.mem_append_left _ (List.mem_append_left _ (List.mem_append_left _ (List.mem_append_left _ (List.mem_append_left _ (List.mem_append_left _ (List.mem_of_getElem? (i := 0) rfl))))))))))
  have w1 := hts (.classLink RL 24 "java/lang/IllegalArgumentException") (List.mem_cons_of_mem _ (List.mem_append_left _ (List.mem_append_left _ (List.mem_append_left _ (List.mem_append_left _ (List.mem_append_left _ (List.mem_append_left _ (List.mem_append_left _ (List.mem_append_left _ (List.mem_of_getElem? (i := 1) rfl))))))))))
  have w2 := hts (.classLink RL 15 "java/lang/IllegalStateException") (List.mem_cons_of_mem _ (List.mem_append_left _ (List.mem_append_left _ (List.mem_append_left _ (List.mem_append_left _ (List.mem_append_left _ (List.mem_append_left _ (List.mem_append_left _ (List.mem_append_left _ (List.mem_of_getElem? (i := 2) rfl))))))))))
  have w3 := hts (.constant RL 30 (-900003)) (List.mem_cons_of_mem _ (List.mem_append_left _ (List.mem_append_left _ (List.mem_append_left _ (List.mem_append_left _ (List.mem_append_left _ (List.mem_append_left _ (List.mem_append_left _ (List.mem_append_left _ (List.mem_of_getElem? (i := 5) rfl))))))))))
  have hW := ze_W0 hW
  refine lv_aload_n hX_ hB_ dL_addLoad_0 rfl (lv_at hl 0 rfl) ?_
  refine lv_iload_n hX_ hB_ dL_addLoad_1 rfl (lv_at hl 1 rfl) ?_
  refine lv_iload_n hX_ hB_ dL_addLoad_2 rfl (lv_at hl 2 rfl) ?_
  refine lv_iload_n hX_ hB_ dL_addLoad_3 rfl (lv_at hl 3 rfl) ?_
  refine zx_FVc (As := [.int (nI j), .int y, .int z]) (rest := []) (ci := 8) (q0 := 0) (k := (RX8, TX8, 8)) S (zt_addLoad_t3 l D hst c a n A B E j hN hj y z h1 h2 h3) (cwV 3 hts gL_addLoad_X8_addLoad rfl rfl rfl (by decide +kernel) ⟨(Nat.le_of_ble_eq_true rfl), (Nat.le_of_ble_eq_true rfl)⟩) hK hW hXB hA rfl (ze_at0 0 rfl) rfl hl.1 rfl (lv_room (Nat.le_of_ble_eq_true rfl)) dL_addLoad_4 ⟨(Nat.le_of_ble_eq_true rfl), (Nat.le_of_ble_eq_true rfl)⟩ [⟨0, 7, 8, 22⟩, ⟨0, 7, 13, 24⟩] ⟨0, 7, 18, 15⟩ [] htab (by
      intro z hz
      simp only [List.mem_cons, List.not_mem_nil, or_false] at hz
      rcases hz with rfl | rfl
      · exact Or.inr ⟨by decide, "java/lang/IndexOutOfBoundsException", w0, hNc ("java/lang/IllegalStateException", "java/lang/IndexOutOfBoundsException") (by decide +kernel)⟩
      · exact Or.inr ⟨by decide, "java/lang/IllegalArgumentException", w1, hNc ("java/lang/IllegalStateException", "java/lang/IllegalArgumentException") (by decide +kernel)⟩) (by decide) (by decide) w2 (va_Nw.use rfl (hXB.2.2.2 _ (List.mem_of_getElem? (i := 3) rfl))) (fun q9 H locs hW => ?_)
  have hW := ze_W0' hW
  refine lv_astore (lv' := [(4, .ref q9), (0, .ref (a 0)), (1, .int (nI j)), (2, .int y), (3, .int z)]) hX_ hB_ dL_addLoad_18 hl (by decide) rfl (fun ls hl => ?_)
  refine lv_ldc (own := RL) (v := -900003) hX_ hB_ S.2.2.2.1 w3 dL_addLoad_20 ?_
  exact ze_iret S hr hlocks hF hK hW rfl dL_addLoad_22 (Nat.le_of_ble_eq_true rfl) (Nat.le_of_ble_eq_true rfl) rfl rfl
set_option maxHeartbeats 4000000 in
set_option maxRecDepth 100000 in
theorem xw_start_t2 (l : Launch) (D : va_G) (hst : l.stackTraces = false) (c : Nat → ClassId) (a n : Nat → Nat) (A : Nat → Nat → Int32) (B : Nat → Int64) (E : Nat → Nat → Int32) (j : Nat) (hN : zf_N n) (hj : j < n 2) (h : ¬ A 13 j = 111) : ze_Q l yL_start wsL_start 7 104 1 6 D c (ze_wC c a n A B E) [.ref (a 0), .int (nI j)] (-900002) (ze_wC c a n A B E) := by
  intro sz
  refine zq_start (cc := cL_start) (maxL := 3) (ret := (some .int)) (own := RL) (by decide) rfl rfl (Nat.le_of_ble_eq_true rfl) ?_
  intro p e s m_ below meth cd F ls hF hsz E0 hXB hNc htab
  obtain ⟨S, hr, hlocks, hK, hW, hA, hl⟩ := E0
  have hX_ := S.1
  have hB_ := S.2.1
  have hts := S.2.2.2.2
  have hl : lv_has ls 3 [(0, .ref (a 0)), (1, .int (nI j))] := hl
  have w0 := hts (.classLink RL 22 "java/lang/IndexOutOfBoundsException") (List.mem_cons_of_mem _ (List.mem_append_left _ (List.mem_append_left _ (List.mem_append_left _ (List.mem_append_left _ (List.mem_append_left _ (List.mem_append_left _ (List.mem_append_left _ (List.mem_of_getElem? (i := 0) rfl)))))))))
  have w1 := hts (.classLink RL 15 "java/lang/IllegalStateException") (List.mem_cons_of_mem _ (List.mem_append_left _ (List.mem_append_left _ (List.mem_append_left _ (List.mem_append_left _ (List.mem_append_left _ (List.mem_append_left _ (List.mem_append_left _ (List.mem_of_getElem? (i := 1) rfl)))))))))
  have w2 := hts (.constant RL 26 (-900002)) (List.mem_cons_of_mem _ (List.mem_append_left _ (List.mem_append_left _ (List.mem_append_left _ (List.mem_append_left _ (List.mem_append_left _ (List.mem_append_left _ (List.mem_append_left _ (List.mem_of_getElem? (i := 4) rfl)))))))))
  have hW := ze_W0 hW
  refine lv_aload_n hX_ hB_ dL_start_0 rfl (lv_at hl 0 rfl) ?_
  refine lv_iload_n hX_ hB_ dL_start_1 rfl (lv_at hl 1 rfl) ?_
  refine zx_FVc (As := [.int (nI j)]) (rest := []) (ci := 8) (q0 := 0) (k := (RX8, TX8, 8)) S (zt_start_t2 l D hst c a n A B E j hN hj h) (cwV 1 hts gL_start_X8_start rfl rfl rfl (by decide +kernel) ⟨(Nat.le_of_ble_eq_true rfl), (Nat.le_of_ble_eq_true rfl)⟩) hK hW hXB hA rfl (ze_at0 0 rfl) rfl hl.1 rfl (lv_room (Nat.le_of_ble_eq_true rfl)) dL_start_2 ⟨(Nat.le_of_ble_eq_true rfl), (Nat.le_of_ble_eq_true rfl)⟩ [⟨0, 5, 6, 22⟩] ⟨0, 5, 10, 15⟩ [⟨0, 5, 14, 43⟩] htab (by
      intro z hz
      simp only [List.mem_cons, List.not_mem_nil, or_false] at hz
      rcases hz with rfl
      exact Or.inr ⟨by decide, "java/lang/IndexOutOfBoundsException", w0, hNc ("java/lang/IllegalStateException", "java/lang/IndexOutOfBoundsException") (by decide +kernel)⟩) (by decide) (by decide) w1 (va_Nw.use rfl (hXB.2.2.2 _ (List.mem_of_getElem? (i := 3) rfl))) (fun q9 H locs hW => ?_)
  have hW := ze_W0' hW
  refine lv_astore_n (lv' := [(2, .ref q9), (0, .ref (a 0)), (1, .int (nI j))]) hX_ hB_ dL_start_10 rfl hl (by decide) rfl (fun ls hl => ?_)
  refine lv_ldc (own := RL) (v := -900002) hX_ hB_ S.2.2.2.1 w2 dL_start_11 ?_
  exact ze_iret S hr hlocks hF hK hW rfl dL_start_13 (Nat.le_of_ble_eq_true rfl) (Nat.le_of_ble_eq_true rfl) rfl rfl
set_option maxHeartbeats 4000000 in
set_option maxRecDepth 100000 in
theorem xw_start_t3 (l : Launch) (D : va_G) (hst : l.stackTraces = false) (c : Nat → ClassId) (a n : Nat → Nat) (A : Nat → Nat → Int32) (B : Nat → Int64) (E : Nat → Nat → Int32) (j : Nat) (hN : zf_N n) (hj : j < n 2) (h : A 13 j = 111) (h2 : zf_short A j) : ze_Q l yL_start wsL_start 7 104 1 6 D c (ze_wC c a n A B E) [.ref (a 0), .int (nI j)] (-900003) (ze_wC c a n A B E) := by
  intro sz
  refine zq_start (cc := cL_start) (maxL := 3) (ret := (some .int)) (own := RL) (by decide) rfl rfl (Nat.le_of_ble_eq_true rfl) ?_
  intro p e s m_ below meth cd F ls hF hsz E0 hXB hNc htab
  obtain ⟨S, hr, hlocks, hK, hW, hA, hl⟩ := E0
  have hX_ := S.1
  have hB_ := S.2.1
  have hts := S.2.2.2.2
  have hl : lv_has ls 3 [(0, .ref (a 0)), (1, .int (nI j))] := hl
  have w0 := hts (.classLink RL 22 "java/lang/IndexOutOfBoundsException") (List.mem_cons_of_mem _ (List.mem_append_left _ (List.mem_append_left _ (List.mem_append_left _ (List.mem_append_left _ (List.mem_append_left _ (List.mem_append_left _ (List.mem_append_left _ (List.mem_of_getElem? (i := 0) rfl)))))))))
  have w1 := hts (.classLink RL 15 "java/lang/IllegalStateException") (List.mem_cons_of_mem _ (List.mem_append_left _ (List.mem_append_left _ (List.mem_append_left _ (List.mem_append_left _ (List.mem_append_left _ (List.mem_append_left _ (List.mem_append_left _ (List.mem_of_getElem? (i := 1) rfl)))))))))
  have w2 := hts (.classLink RL 43 "java/util/NoSuchElementException") (List.mem_cons_of_mem _ (List.mem_append_left _ (List.mem_append_left _ (List.mem_append_left _ (List.mem_append_left _ (List.mem_append_left _ (List.mem_append_left _ (List.mem_append_left _ (List.mem_of_getElem? (i := 2) rfl)))))))))
  have w3 := hts (.constant RL 30 (-900003)) (List.mem_cons_of_mem _ (List.mem_append_left _ (List.mem_append_left _ (List.mem_append_left _ (List.mem_append_left _ (List.mem_append_left _ (List.mem_append_left _ (List.mem_append_left _ (List.mem_of_getElem? (i := 5) rfl)))))))))
  have hW := ze_W0 hW
  refine lv_aload_n hX_ hB_ dL_start_0 rfl (lv_at hl 0 rfl) ?_
  refine lv_iload_n hX_ hB_ dL_start_1 rfl (lv_at hl 1 rfl) ?_
  refine zx_FVc (As := [.int (nI j)]) (rest := []) (ci := 8) (q0 := 0) (k := (RX8, TX8, 8)) S (zt_start_t3 l D hst c a n A B E j hN hj h h2) (cwV 1 hts gL_start_X8_start rfl rfl rfl (by decide +kernel) ⟨(Nat.le_of_ble_eq_true rfl), (Nat.le_of_ble_eq_true rfl)⟩) hK hW hXB hA rfl (ze_at0 0 rfl) rfl hl.1 rfl (lv_room (Nat.le_of_ble_eq_true rfl)) dL_start_2 ⟨(Nat.le_of_ble_eq_true rfl), (Nat.le_of_ble_eq_true rfl)⟩ [⟨0, 5, 6, 22⟩, ⟨0, 5, 10, 15⟩] ⟨0, 5, 14, 43⟩ [] htab (by
      intro z hz
      simp only [List.mem_cons, List.not_mem_nil, or_false] at hz
      rcases hz with rfl | rfl
      · exact Or.inr ⟨by decide, "java/lang/IndexOutOfBoundsException", w0, hNc ("java/util/NoSuchElementException", "java/lang/IndexOutOfBoundsException") (by decide +kernel)⟩
      · exact Or.inr ⟨by decide, "java/lang/IllegalStateException", w1, hNc ("java/util/NoSuchElementException", "java/lang/IllegalStateException") (by decide +kernel)⟩) (by decide) (by decide) w2 (va_Nw.use rfl (hXB.2.2.2 _ (List.mem_of_getElem? (i := 6) rfl))) (fun q9 H locs hW => ?_)
  have hW := ze_W0' hW
  refine lv_astore_n (lv' := [(2, .ref q9), (0, .ref (a 0)), (1, .int (nI j))]) hX_ hB_ dL_start_14 rfl hl (by decide) rfl (fun ls hl => ?_)
  refine lv_ldc (own := RL) (v := -900003) hX_ hB_ S.2.2.2.1 w3 dL_start_15 ?_
  exact ze_iret S hr hlocks hF hK hW rfl dL_start_17 (Nat.le_of_ble_eq_true rfl) (Nat.le_of_ble_eq_true rfl) rfl rfl
set_option maxHeartbeats 4000000 in
set_option maxRecDepth 100000 in
theorem xw_stop_t2 (l : Launch) (D : va_G) (hst : l.stackTraces = false) (c : Nat → ClassId) (a n : Nat → Nat) (A : Nat → Nat → Int32) (B : Nat → Int64) (E : Nat → Nat → Int32) (j : Nat) (hN : zf_N n) (hj : j < n 2) (h : A 13 j = 111) : ze_Q l yL_stop wsL_stop 7 104 1 6 D c (ze_wC c a n A B E) [.ref (a 0), .int (nI j)] (-900002) (ze_wC c a n A B E) := by
  intro sz
  refine zq_start (cc := cL_stop) (maxL := 3) (ret := (some .int)) (own := RL) (by decide) rfl rfl (Nat.le_of_ble_eq_true rfl) ?_
  intro p e s m_ below meth cd F ls hF hsz E0 hXB hNc htab
  obtain ⟨S, hr, hlocks, hK, hW, hA, hl⟩ := E0
  have hX_ := S.1
  have hB_ := S.2.1
  have hts := S.2.2.2.2
  have hl : lv_has ls 3 [(0, .ref (a 0)), (1, .int (nI j))] := hl
  have w0 := hts (.classLink RL 22 "java/lang/IndexOutOfBoundsException") (List.mem_cons_of_mem _ (List.mem_append_left _ (List.mem_append_left _ (List.mem_append_left _ (List.mem_append_left _ (List.mem_append_left _ (List.mem_append_left _ (List.mem_of_getElem? (i := 0) rfl))))))))
  have w1 := hts (.classLink RL 15 "java/lang/IllegalStateException") (List.mem_cons_of_mem _ (List.mem_append_left _ (List.mem_append_left _ (List.mem_append_left _ (List.mem_append_left _ (List.mem_append_left _ (List.mem_append_left _ (List.mem_of_getElem? (i := 1) rfl))))))))
  have w2 := hts (.constant RL 26 (-900002)) (List.mem_cons_of_mem _ (List.mem_append_left _ (List.mem_append_left _ (List.mem_append_left _ (List.mem_append_left _ (List.mem_append_left _ (List.mem_append_left _ (List.mem_of_getElem? (i := 3) rfl))))))))
  have hW := ze_W0 hW
  refine lv_aload_n hX_ hB_ dL_stop_0 rfl (lv_at hl 0 rfl) ?_
  refine lv_iload_n hX_ hB_ dL_stop_1 rfl (lv_at hl 1 rfl) ?_
  refine zx_FVc (As := [.int (nI j)]) (rest := []) (ci := 8) (q0 := 0) (k := (RX8, TX8, 8)) S (zt_stop_t2 l D hst c a n A B E j hN hj h) (cwV 1 hts gL_stop_X8_stop rfl rfl rfl (by decide +kernel) ⟨(Nat.le_of_ble_eq_true rfl), (Nat.le_of_ble_eq_true rfl)⟩) hK hW hXB hA rfl (ze_at0 0 rfl) rfl hl.1 rfl (lv_room (Nat.le_of_ble_eq_true rfl)) dL_stop_2 ⟨(Nat.le_of_ble_eq_true rfl), (Nat.le_of_ble_eq_true rfl)⟩ [⟨0, 5, 6, 22⟩] ⟨0, 5, 10, 15⟩ [] htab (by
      intro z hz
      simp only [List.mem_cons, List.not_mem_nil, or_false] at hz
      rcases hz with rfl
      exact Or.inr ⟨by decide, "java/lang/IndexOutOfBoundsException", w0, hNc ("java/lang/IllegalStateException", "java/lang/IndexOutOfBoundsException") (by decide +kernel)⟩) (by decide) (by decide) w1 (va_Nw.use rfl (hXB.2.2.2 _ (List.mem_of_getElem? (i := 3) rfl))) (fun q9 H locs hW => ?_)
  have hW := ze_W0' hW
  refine lv_astore_n (lv' := [(2, .ref q9), (0, .ref (a 0)), (1, .int (nI j))]) hX_ hB_ dL_stop_10 rfl hl (by decide) rfl (fun ls hl => ?_)
  refine lv_ldc (own := RL) (v := -900002) hX_ hB_ S.2.2.2.1 w2 dL_stop_11 ?_
  exact ze_iret S hr hlocks hF hK hW rfl dL_stop_13 (Nat.le_of_ble_eq_true rfl) (Nat.le_of_ble_eq_true rfl) rfl rfl
set_option maxHeartbeats 4000000 in
set_option maxRecDepth 100000 in
theorem xw_startNext_t2 (l : Launch) (D : va_G) (hst : l.stackTraces = false) (c : Nat → ClassId) (a n : Nat → Nat) (A : Nat → Nat → Int32) (B : Nat → Int64) (E : Nat → Nat → Int32) (j : Nat) (hN : zf_N n) (hj : j < n 0) (hS : zf_S n A) (hpick : zf_nx A (E 0) (E 0 j) (n 2) = none) : ze_Q l yL_startNext wsL_startNext 7 104 1 6 D c (ze_wC c a n A B E) [.ref (a 0), .int (nI j)] (-900002) (ze_wC c a n A B E) := by
  intro sz
  refine zq_start (cc := cL_startNext) (maxL := 3) (ret := (some .int)) (own := RL) (by decide) rfl rfl (Nat.le_of_ble_eq_true rfl) ?_
  intro p e s m_ below meth cd F ls hF hsz E0 hXB hNc htab
  obtain ⟨S, hr, hlocks, hK, hW, hA, hl⟩ := E0
  have hX_ := S.1
  have hB_ := S.2.1
  have hts := S.2.2.2.2
  have hl : lv_has ls 3 [(0, .ref (a 0)), (1, .int (nI j))] := hl
  have w0 := hts (.classLink RL 22 "java/lang/IndexOutOfBoundsException") (List.mem_cons_of_mem _ (List.mem_append_left _ (List.mem_append_left _ (List.mem_append_left _ (List.mem_append_left _ (List.mem_append_left _ (List.mem_append_left _ (List.mem_append_left _ (List.mem_of_getElem? (i := 0) rfl)))))))))
  have w1 := hts (.classLink RL 43 "java/util/NoSuchElementException") (List.mem_cons_of_mem _ (List.mem_append_left _ (List.mem_append_left _ (List.mem_append_left _ (List.mem_append_left _ (List.mem_append_left _ (List.mem_append_left _ (List.mem_append_left _ (List.mem_of_getElem? (i := 1) rfl)))))))))
  have w2 := hts (.constant RL 26 (-900002)) (List.mem_cons_of_mem _ (List.mem_append_left _ (List.mem_append_left _ (List.mem_append_left _ (List.mem_append_left _ (List.mem_append_left _ (List.mem_append_left _ (List.mem_append_left _ (List.mem_of_getElem? (i := 3) rfl)))))))))
  have hW := ze_W0 hW
  refine lv_aload_n hX_ hB_ dL_startNext_0 rfl (lv_at hl 0 rfl) ?_
  refine lv_iload_n hX_ hB_ dL_startNext_1 rfl (lv_at hl 1 rfl) ?_
  refine zx_FVc (As := [.int (nI j)]) (rest := []) (ci := 8) (q0 := 0) (k := (RX8, TX8, 8)) S (zt_startNext_t2 l D hst c a n A B E j hN hj hS hpick) (cwV 1 hts gL_startNext_X8_startNext rfl rfl rfl (by decide +kernel) ⟨(Nat.le_of_ble_eq_true rfl), (Nat.le_of_ble_eq_true rfl)⟩) hK hW hXB hA rfl (ze_at0 0 rfl) rfl hl.1 rfl (lv_room (Nat.le_of_ble_eq_true rfl)) dL_startNext_2 ⟨(Nat.le_of_ble_eq_true rfl), (Nat.le_of_ble_eq_true rfl)⟩ [⟨0, 5, 6, 22⟩] ⟨0, 5, 10, 43⟩ [] htab (by
      intro z hz
      simp only [List.mem_cons, List.not_mem_nil, or_false] at hz
      rcases hz with rfl
      exact Or.inr ⟨by decide, "java/lang/IndexOutOfBoundsException", w0, hNc ("java/util/NoSuchElementException", "java/lang/IndexOutOfBoundsException") (by decide +kernel)⟩) (by decide) (by decide) w1 (va_Nw.use rfl (hXB.2.2.2 _ (List.mem_of_getElem? (i := 6) rfl))) (fun q9 H locs hW => ?_)
  have hW := ze_W0' hW
  refine lv_astore_n (lv' := [(2, .ref q9), (0, .ref (a 0)), (1, .int (nI j))]) hX_ hB_ dL_startNext_10 rfl hl (by decide) rfl (fun ls hl => ?_)
  refine lv_ldc (own := RL) (v := -900002) hX_ hB_ S.2.2.2.1 w2 dL_startNext_11 ?_
  exact ze_iret S hr hlocks hF hK hW rfl dL_startNext_13 (Nat.le_of_ble_eq_true rfl) (Nat.le_of_ble_eq_true rfl) rfl rfl
set_option maxHeartbeats 4000000 in
set_option maxRecDepth 100000 in
theorem xw_refuel_t2 (l : Launch) (D : va_G) (hst : l.stackTraces = false) (c : Nat → ClassId) (a n : Nat → Nat) (A : Nat → Nat → Int32) (B : Nat → Int64) (E : Nat → Nat → Int32) (j : Nat) (hN : zf_N n) (hj : j < n 2) (y : Int32) (h : ¬ zf_isIn y 1 9999) : ze_Q l yL_refuel wsL_refuel 8 127 1 6 D c (ze_wC c a n A B E) [.ref (a 0), .int (nI j), .int y] (-900002) (ze_wC c a n A B E) := by
  intro sz
  refine zq_start (cc := cL_refuel) (maxL := 4) (ret := (some .int)) (own := RL) (by decide) rfl rfl (Nat.le_of_ble_eq_true rfl) ?_
  intro p e s m_ below meth cd F ls hF hsz E0 hXB hNc htab
  obtain ⟨S, hr, hlocks, hK, hW, hA, hl⟩ := E0
  have hX_ := S.1
  have hB_ := S.2.1
  have hts := S.2.2.2.2
  have hl : lv_has ls 4 [(0, .ref (a 0)), (1, .int (nI j)), (2, .int y)] := hl
  have w0 := hts (.classLink RL 22 "java/lang/IndexOutOfBoundsException") (List.mem_cons_of_mem _ (List.mem_append_left _ (List.mem_append_left _ (List.mem_append_left _ (List.mem_append_left _ (List.mem_append_left _ (List.mem_append_left _ (List.mem_append_left _ (List.mem_of_getElem? (i := 0) rfl)))))))))
  have w1 := hts (.classLink RL 24 "java/lang/IllegalArgumentException") (List.mem_cons_of_mem _ (List.mem_append_left _ (List.mem_append_left _ (List.mem_append_left _ (List.mem_append_left _ (List.mem_append_left _ (List.mem_append_left _ (List.mem_append_left _ (List.mem_of_getElem? (i := 1) rfl)))))))))
  have w2 := hts (.constant RL 26 (-900002)) (List.mem_cons_of_mem _ (List.mem_append_left _ (List.mem_append_left _ (List.mem_append_left _ (List.mem_append_left _ (List.mem_append_left _ (List.mem_append_left _ (List.mem_append_left _ (List.mem_of_getElem? (i := 4) rfl)))))))))
  have hW := ze_W0 hW
  refine lv_aload_n hX_ hB_ dL_refuel_0 rfl (lv_at hl 0 rfl) ?_
  refine lv_iload_n hX_ hB_ dL_refuel_1 rfl (lv_at hl 1 rfl) ?_
  refine lv_iload_n hX_ hB_ dL_refuel_2 rfl (lv_at hl 2 rfl) ?_
  refine zx_FVc (As := [.int (nI j), .int y]) (rest := []) (ci := 8) (q0 := 0) (k := (RX8, TX8, 8)) S (zt_refuel_t2 l D hst c a n A B E j hN hj y h) (cwV 2 hts gL_refuel_X8_refuel rfl rfl rfl (by decide +kernel) ⟨(Nat.le_of_ble_eq_true rfl), (Nat.le_of_ble_eq_true rfl)⟩) hK hW hXB hA rfl (ze_at0 0 rfl) rfl hl.1 rfl (lv_room (Nat.le_of_ble_eq_true rfl)) dL_refuel_3 ⟨(Nat.le_of_ble_eq_true rfl), (Nat.le_of_ble_eq_true rfl)⟩ [⟨0, 6, 7, 22⟩] ⟨0, 6, 11, 24⟩ [⟨0, 6, 15, 15⟩] htab (by
      intro z hz
      simp only [List.mem_cons, List.not_mem_nil, or_false] at hz
      rcases hz with rfl
      exact Or.inr ⟨by decide, "java/lang/IndexOutOfBoundsException", w0, hNc ("java/lang/IllegalArgumentException", "java/lang/IndexOutOfBoundsException") (by decide +kernel)⟩) (by decide) (by decide) w1 (va_Nw.use rfl (hXB.2.2.2 _ (List.mem_of_getElem? (i := 4) rfl))) (fun q9 H locs hW => ?_)
  have hW := ze_W0' hW
  refine lv_astore_n (lv' := [(3, .ref q9), (0, .ref (a 0)), (1, .int (nI j)), (2, .int y)]) hX_ hB_ dL_refuel_11 rfl hl (by decide) rfl (fun ls hl => ?_)
  refine lv_ldc (own := RL) (v := -900002) hX_ hB_ S.2.2.2.1 w2 dL_refuel_12 ?_
  exact ze_iret S hr hlocks hF hK hW rfl dL_refuel_14 (Nat.le_of_ble_eq_true rfl) (Nat.le_of_ble_eq_true rfl) rfl rfl
set_option maxHeartbeats 4000000 in
set_option maxRecDepth 100000 in
theorem xw_refuel_t3 (l : Launch) (D : va_G) (hst : l.stackTraces = false) (c : Nat → ClassId) (a n : Nat → Nat) (A : Nat → Nat → Int32) (B : Nat → Int64) (E : Nat → Nat → Int32) (j : Nat) (hN : zf_N n) (hj : j < n 2) (y : Int32) (h : zf_isIn y 1 9999) (h2 : ¬ A 10 j + y ≤ 99999) : ze_Q l yL_refuel wsL_refuel 7 105 1 6 D c (ze_wC c a n A B E) [.ref (a 0), .int (nI j), .int y] (-900003) (ze_wC c a n A B E) := by
  intro sz
  refine zq_start (cc := cL_refuel) (maxL := 4) (ret := (some .int)) (own := RL) (by decide) rfl rfl (Nat.le_of_ble_eq_true rfl) ?_
  intro p e s m_ below meth cd F ls hF hsz E0 hXB hNc htab
  obtain ⟨S, hr, hlocks, hK, hW, hA, hl⟩ := E0
  have hX_ := S.1
  have hB_ := S.2.1
  have hts := S.2.2.2.2
  have hl : lv_has ls 4 [(0, .ref (a 0)), (1, .int (nI j)), (2, .int y)] := hl
  have w0 := hts (.classLink RL 22 "java/lang/IndexOutOfBoundsException") (List.mem_cons_of_mem _ (List.mem_append_left _ (List.mem_append_left _ (List.mem_append_left _ (List.mem_append_left _ (List.mem_append_left _ (List.mem_append_left _ (List.mem_append_left _ (List.mem_of_getElem? (i := 0) rfl)))))))))
  have w1 := hts (.classLink RL 24 "java/lang/IllegalArgumentException") (List.mem_cons_of_mem _ (List.mem_append_left _ (List.mem_append_left _ (List.mem_append_left _ (List.mem_append_left _ (List.mem_append_left _ (List.mem_append_left _ (List.mem_append_left _ (List.mem_of_getElem? (i := 1) rfl)))))))))
  have w2 := hts (.classLink RL 15 "java/lang/IllegalStateException") (List.mem_cons_of_mem _ (List.mem_append_left _ (List.mem_append_left _ (List.mem_append_left _ (List.mem_append_left _ (List.mem_append_left _ (List.mem_append_left _ (List.mem_append_left _ (List.mem_of_getElem? (i := 2) rfl)))))))))
  have w3 := hts (.constant RL 30 (-900003)) (List.mem_cons_of_mem _ (List.mem_append_left _ (List.mem_append_left _ (List.mem_append_left _ (List.mem_append_left _ (List.mem_append_left _ (List.mem_append_left _ (List.mem_append_left _ (List.mem_of_getElem? (i := 5) rfl)))))))))
  have hW := ze_W0 hW
  refine lv_aload_n hX_ hB_ dL_refuel_0 rfl (lv_at hl 0 rfl) ?_
  refine lv_iload_n hX_ hB_ dL_refuel_1 rfl (lv_at hl 1 rfl) ?_
  refine lv_iload_n hX_ hB_ dL_refuel_2 rfl (lv_at hl 2 rfl) ?_
  refine zx_FVc (As := [.int (nI j), .int y]) (rest := []) (ci := 8) (q0 := 0) (k := (RX8, TX8, 8)) S (zt_refuel_t3 l D hst c a n A B E j hN hj y h h2) (cwV 2 hts gL_refuel_X8_refuel rfl rfl rfl (by decide +kernel) ⟨(Nat.le_of_ble_eq_true rfl), (Nat.le_of_ble_eq_true rfl)⟩) hK hW hXB hA rfl (ze_at0 0 rfl) rfl hl.1 rfl (lv_room (Nat.le_of_ble_eq_true rfl)) dL_refuel_3 ⟨(Nat.le_of_ble_eq_true rfl), (Nat.le_of_ble_eq_true rfl)⟩ [⟨0, 6, 7, 22⟩, ⟨0, 6, 11, 24⟩] ⟨0, 6, 15, 15⟩ [] htab (by
      intro z hz
      simp only [List.mem_cons, List.not_mem_nil, or_false] at hz
      rcases hz with rfl | rfl
      · exact Or.inr ⟨by decide, "java/lang/IndexOutOfBoundsException", w0, hNc ("java/lang/IllegalStateException", "java/lang/IndexOutOfBoundsException") (by decide +kernel)⟩
      · exact Or.inr ⟨by decide, "java/lang/IllegalArgumentException", w1, hNc ("java/lang/IllegalStateException", "java/lang/IllegalArgumentException") (by decide +kernel)⟩) (by decide) (by decide) w2 (va_Nw.use rfl (hXB.2.2.2 _ (List.mem_of_getElem? (i := 3) rfl))) (fun q9 H locs hW => ?_)
  have hW := ze_W0' hW
  refine lv_astore_n (lv' := [(3, .ref q9), (0, .ref (a 0)), (1, .int (nI j)), (2, .int y)]) hX_ hB_ dL_refuel_15 rfl hl (by decide) rfl (fun ls hl => ?_)
  refine lv_ldc (own := RL) (v := -900003) hX_ hB_ S.2.2.2.1 w3 dL_refuel_16 ?_
  exact ze_iret S hr hlocks hF hK hW rfl dL_refuel_18 (Nat.le_of_ble_eq_true rfl) (Nat.le_of_ble_eq_true rfl) rfl rfl
set_option maxHeartbeats 4000000 in
set_option maxRecDepth 100000 in
theorem xw_toGo_t2 (l : Launch) (D : va_G) (hst : l.stackTraces = false) (c : Nat → ClassId) (a n : Nat → Nat) (A : Nat → Nat → Int32) (B : Nat → Int64) (E : Nat → Nat → Int32) (j : Nat) (hN : zf_N n) (hj : j < n 2) (h : ¬ A 13 j = 119) : ze_Q l yL_toGo wsL_toGo 7 104 1 6 D c (ze_wC c a n A B E) [.ref (a 0), .int (nI j)] (-900002) (ze_wC c a n A B E) := by
  intro sz
  refine zq_start (cc := cL_toGo) (maxL := 3) (ret := (some .int)) (own := RL) (by decide) rfl rfl (Nat.le_of_ble_eq_true rfl) ?_
  intro p e s m_ below meth cd F ls hF hsz E0 hXB hNc htab
  obtain ⟨S, hr, hlocks, hK, hW, hA, hl⟩ := E0
  have hX_ := S.1
  have hB_ := S.2.1
  have hts := S.2.2.2.2
  have hl : lv_has ls 3 [(0, .ref (a 0)), (1, .int (nI j))] := hl
  have w0 := hts (.classLink RL 22 "java/lang/IndexOutOfBoundsException") (List.mem_cons_of_mem _ (List.mem_append_left _ (List.mem_append_left _ (List.mem_append_left _ (List.mem_append_left _ (List.mem_append_left _ (List.mem_append_left _ (List.mem_of_getElem? (i := 0) rfl))))))))
  have w1 := hts (.classLink RL 43 "java/util/NoSuchElementException") (List.mem_cons_of_mem _ (List.mem_append_left _ (List.mem_append_left _ (List.mem_append_left _ (List.mem_append_left _ (List.mem_append_left _ (List.mem_append_left _ (List.mem_of_getElem? (i := 1) rfl))))))))
  have w2 := hts (.constant RL 26 (-900002)) (List.mem_cons_of_mem _ (List.mem_append_left _ (List.mem_append_left _ (List.mem_append_left _ (List.mem_append_left _ (List.mem_append_left _ (List.mem_append_left _ (List.mem_of_getElem? (i := 3) rfl))))))))
  have hW := ze_W0 hW
  refine lv_aload_n hX_ hB_ dL_toGo_0 rfl (lv_at hl 0 rfl) ?_
  refine lv_iload_n hX_ hB_ dL_toGo_1 rfl (lv_at hl 1 rfl) ?_
  refine zx_FVc (As := [.int (nI j)]) (rest := []) (ci := 8) (q0 := 0) (k := (RX8, TX8, 8)) S (zt_toGo_t2 l D hst c a n A B E j hN hj h) (cwV 1 hts gL_toGo_X8_toGo rfl rfl rfl (by decide +kernel) ⟨(Nat.le_of_ble_eq_true rfl), (Nat.le_of_ble_eq_true rfl)⟩) hK hW hXB hA rfl (ze_at0 0 rfl) rfl hl.1 rfl (lv_room (Nat.le_of_ble_eq_true rfl)) dL_toGo_2 ⟨(Nat.le_of_ble_eq_true rfl), (Nat.le_of_ble_eq_true rfl)⟩ [⟨0, 5, 6, 22⟩] ⟨0, 5, 10, 43⟩ [] htab (by
      intro z hz
      simp only [List.mem_cons, List.not_mem_nil, or_false] at hz
      rcases hz with rfl
      exact Or.inr ⟨by decide, "java/lang/IndexOutOfBoundsException", w0, hNc ("java/util/NoSuchElementException", "java/lang/IndexOutOfBoundsException") (by decide +kernel)⟩) (by decide) (by decide) w1 (va_Nw.use rfl (hXB.2.2.2 _ (List.mem_of_getElem? (i := 6) rfl))) (fun q9 H locs hW => ?_)
  have hW := ze_W0' hW
  refine lv_astore_n (lv' := [(2, .ref q9), (0, .ref (a 0)), (1, .int (nI j))]) hX_ hB_ dL_toGo_10 rfl hl (by decide) rfl (fun ls hl => ?_)
  refine lv_ldc (own := RL) (v := -900002) hX_ hB_ S.2.2.2.1 w2 dL_toGo_11 ?_
  exact ze_iret S hr hlocks hF hK hW rfl dL_toGo_13 (Nat.le_of_ble_eq_true rfl) (Nat.le_of_ble_eq_true rfl) rfl rfl
set_option maxHeartbeats 4000000 in
set_option maxRecDepth 100000 in
theorem xw_setRank_t2 (l : Launch) (D : va_G) (hst : l.stackTraces = false) (c : Nat → ClassId) (a n : Nat → Nat) (A : Nat → Nat → Int32) (B : Nat → Int64) (E : Nat → Nat → Int32) (j : Nat) (hN : zf_N n) (hj : j < n 4) (y : Int32) (h : ¬ zf_isIn y 1 9) : ze_Q l yL_setRank wsL_setRank 8 128 1 6 D c (ze_wC c a n A B E) [.ref (a 0), .int (nI j), .int y] (-900002) (ze_wC c a n A B E) := by
  intro sz
  refine zq_start (cc := cL_setRank) (maxL := 4) (ret := (some .int)) (own := RL) (by decide) rfl rfl (Nat.le_of_ble_eq_true rfl) ?_
  intro p e s m_ below meth cd F ls hF hsz E0 hXB hNc htab
  obtain ⟨S, hr, hlocks, hK, hW, hA, hl⟩ := E0
  have hX_ := S.1
  have hB_ := S.2.1
  have hts := S.2.2.2.2
  have hl : lv_has ls 4 [(0, .ref (a 0)), (1, .int (nI j)), (2, .int y)] := hl
  have w0 := hts (.classLink RL 22 "java/lang/IndexOutOfBoundsException") (List.mem_cons_of_mem _ (List.mem_append_left _ (List.mem_append_left _ (List.mem_append_left _ (List.mem_append_left _ (List.mem_append_left _ (List.mem_append_left _ (List.mem_of_getElem? (i := 0) rfl))))))))
  have w1 := hts (.classLink RL 24 "java/lang/IllegalArgumentException") (List.mem_cons_of_mem _ (List.mem_append_left _ (List.mem_append_left _ (List.mem_append_left _ (List.mem_append_left _ (List.mem_append_left _ (List.mem_append_left _ (List.mem_of_getElem? (i := 1) rfl))))))))
  have w2 := hts (.constant RL 26 (-900002)) (List.mem_cons_of_mem _ (List.mem_append_left _ (List.mem_append_left _ (List.mem_append_left _ (List.mem_append_left _ (List.mem_append_left _ (List.mem_append_left _ (List.mem_of_getElem? (i := 3) rfl))))))))
  have hW := ze_W0 hW
  refine lv_aload_n hX_ hB_ dL_setRank_0 rfl (lv_at hl 0 rfl) ?_
  refine lv_iload_n hX_ hB_ dL_setRank_1 rfl (lv_at hl 1 rfl) ?_
  refine lv_iload_n hX_ hB_ dL_setRank_2 rfl (lv_at hl 2 rfl) ?_
  refine zx_FVc (As := [.int (nI j), .int y]) (rest := []) (ci := 8) (q0 := 0) (k := (RX8, TX8, 8)) S (zt_setRank_t2 l D hst c a n A B E j hN hj y h) (cwV 2 hts gL_setRank_X8_setRank rfl rfl rfl (by decide +kernel) ⟨(Nat.le_of_ble_eq_true rfl), (Nat.le_of_ble_eq_true rfl)⟩) hK hW hXB hA rfl (ze_at0 0 rfl) rfl hl.1 rfl (lv_room (Nat.le_of_ble_eq_true rfl)) dL_setRank_3 ⟨(Nat.le_of_ble_eq_true rfl), (Nat.le_of_ble_eq_true rfl)⟩ [⟨0, 6, 7, 22⟩] ⟨0, 6, 11, 24⟩ [] htab (by
      intro z hz
      simp only [List.mem_cons, List.not_mem_nil, or_false] at hz
      rcases hz with rfl
      exact Or.inr ⟨by decide, "java/lang/IndexOutOfBoundsException", w0, hNc ("java/lang/IllegalArgumentException", "java/lang/IndexOutOfBoundsException") (by decide +kernel)⟩) (by decide) (by decide) w1 (va_Nw.use rfl (hXB.2.2.2 _ (List.mem_of_getElem? (i := 4) rfl))) (fun q9 H locs hW => ?_)
  have hW := ze_W0' hW
  refine lv_astore_n (lv' := [(3, .ref q9), (0, .ref (a 0)), (1, .int (nI j)), (2, .int y)]) hX_ hB_ dL_setRank_11 rfl hl (by decide) rfl (fun ls hl => ?_)
  refine lv_ldc (own := RL) (v := -900002) hX_ hB_ S.2.2.2.1 w2 dL_setRank_12 ?_
  exact ze_iret S hr hlocks hF hK hW rfl dL_setRank_14 (Nat.le_of_ble_eq_true rfl) (Nat.le_of_ble_eq_true rfl) rfl rfl
set_option maxHeartbeats 4000000 in
set_option maxRecDepth 100000 in
theorem xw_waits_t2 (l : Launch) (D : va_G) (hst : l.stackTraces = false) (c : Nat → ClassId) (a n : Nat → Nat) (A : Nat → Nat → Int32) (B : Nat → Int64) (E : Nat → Nat → Int32) (j : Nat) (hN : zf_N n) (hj : j < n 4) (h : A 5 j = 0) : ze_Q l yL_waits wsL_waits 7 104 1 6 D c (ze_wC c a n A B E) [.ref (a 0), .int (nI j)] (-900002) (ze_wC c a n A B E) := by
  intro sz
  refine zq_start (cc := cL_waits) (maxL := 3) (ret := (some .int)) (own := RL) (by decide) rfl rfl (Nat.le_of_ble_eq_true rfl) ?_
  intro p e s m_ below meth cd F ls hF hsz E0 hXB hNc htab
  obtain ⟨S, hr, hlocks, hK, hW, hA, hl⟩ := E0
  have hX_ := S.1
  have hB_ := S.2.1
  have hts := S.2.2.2.2
  have hl : lv_has ls 3 [(0, .ref (a 0)), (1, .int (nI j))] := hl
  have w0 := hts (.classLink RL 22 "java/lang/IndexOutOfBoundsException") (List.mem_cons_of_mem _ (List.mem_append_left _ (List.mem_append_left _ (List.mem_append_left _ (List.mem_append_left _ (List.mem_append_left _ (List.mem_append_left _ (List.mem_of_getElem? (i := 0) rfl))))))))
  have w1 := hts (.classLink RL 43 "java/util/NoSuchElementException") (List.mem_cons_of_mem _ (List.mem_append_left _ (List.mem_append_left _ (List.mem_append_left _ (List.mem_append_left _ (List.mem_append_left _ (List.mem_append_left _ (List.mem_of_getElem? (i := 1) rfl))))))))
  have w2 := hts (.constant RL 26 (-900002)) (List.mem_cons_of_mem _ (List.mem_append_left _ (List.mem_append_left _ (List.mem_append_left _ (List.mem_append_left _ (List.mem_append_left _ (List.mem_append_left _ (List.mem_of_getElem? (i := 3) rfl))))))))
  have hW := ze_W0 hW
  refine lv_aload_n hX_ hB_ dL_waits_0 rfl (lv_at hl 0 rfl) ?_
  refine lv_iload_n hX_ hB_ dL_waits_1 rfl (lv_at hl 1 rfl) ?_
  refine zx_FVc (As := [.int (nI j)]) (rest := []) (ci := 8) (q0 := 0) (k := (RX8, TX8, 8)) S (zt_waits_t2 l D hst c a n A B E j hN hj h) (cwV 1 hts gL_waits_X8_waits rfl rfl rfl (by decide +kernel) ⟨(Nat.le_of_ble_eq_true rfl), (Nat.le_of_ble_eq_true rfl)⟩) hK hW hXB hA rfl (ze_at0 0 rfl) rfl hl.1 rfl (lv_room (Nat.le_of_ble_eq_true rfl)) dL_waits_2 ⟨(Nat.le_of_ble_eq_true rfl), (Nat.le_of_ble_eq_true rfl)⟩ [⟨0, 5, 6, 22⟩] ⟨0, 5, 10, 43⟩ [] htab (by
      intro z hz
      simp only [List.mem_cons, List.not_mem_nil, or_false] at hz
      rcases hz with rfl
      exact Or.inr ⟨by decide, "java/lang/IndexOutOfBoundsException", w0, hNc ("java/util/NoSuchElementException", "java/lang/IndexOutOfBoundsException") (by decide +kernel)⟩) (by decide) (by decide) w1 (va_Nw.use rfl (hXB.2.2.2 _ (List.mem_of_getElem? (i := 6) rfl))) (fun q9 H locs hW => ?_)
  have hW := ze_W0' hW
  refine lv_astore_n (lv' := [(2, .ref q9), (0, .ref (a 0)), (1, .int (nI j))]) hX_ hB_ dL_waits_10 rfl hl (by decide) rfl (fun ls hl => ?_)
  refine lv_ldc (own := RL) (v := -900002) hX_ hB_ S.2.2.2.1 w2 dL_waits_11 ?_
  exact ze_iret S hr hlocks hF hK hW rfl dL_waits_13 (Nat.le_of_ble_eq_true rfl) (Nat.le_of_ble_eq_true rfl) rfl rfl
set_option maxHeartbeats 4000000 in
set_option maxRecDepth 100000 in
theorem xw_setReserve_t1 (l : Launch) (D : va_G) (hst : l.stackTraces = false) (c : Nat → ClassId) (a n : Nat → Nat) (A : Nat → Nat → Int32) (B : Nat → Int64) (E : Nat → Nat → Int32) (y : Int32) (h : ¬ zf_isIn y 0 999) : ze_Q l yL_setReserve wsL_setReserve 8 126 1 6 D c (ze_wC c a n A B E) [.ref (a 0), .int y] (-900001) (ze_wC c a n A B E) := by
  intro sz
  refine zq_start (cc := cL_setReserve) (maxL := 3) (ret := (some .int)) (own := RL) (by decide) rfl rfl (Nat.le_of_ble_eq_true rfl) ?_
  intro p e s m_ below meth cd F ls hF hsz E0 hXB hNc htab
  obtain ⟨S, hr, hlocks, hK, hW, hA, hl⟩ := E0
  have hX_ := S.1
  have hB_ := S.2.1
  have hts := S.2.2.2.2
  have hl : lv_has ls 3 [(0, .ref (a 0)), (1, .int y)] := hl
  have w0 := hts (.classLink RL 24 "java/lang/IllegalArgumentException") (List.mem_cons_of_mem _ (List.mem_append_left _ (List.mem_append_left _ (List.mem_of_getElem? (i := 0) rfl))))
  have w1 := hts (.constant RL 17 (-900001)) (List.mem_cons_of_mem _ (List.mem_append_left _ (List.mem_append_left _ (List.mem_of_getElem? (i := 1) rfl))))
  have hW := ze_W0 hW
  refine lv_aload_n hX_ hB_ dL_setReserve_0 rfl (lv_at hl 0 rfl) ?_
  refine lv_iload_n hX_ hB_ dL_setReserve_1 rfl (lv_at hl 1 rfl) ?_
  refine zx_FVc (As := [.int y]) (rest := []) (ci := 8) (q0 := 0) (k := (RX8, TX8, 8)) S (zt_setReserve_t1 l D hst c a n A B E y h) (cwV 1 hts gL_setReserve_X8_setReserve rfl rfl rfl (by decide +kernel) ⟨(Nat.le_of_ble_eq_true rfl), (Nat.le_of_ble_eq_true rfl)⟩) hK hW hXB hA rfl (ze_at0 0 rfl) rfl hl.1 rfl (lv_room (Nat.le_of_ble_eq_true rfl)) dL_setReserve_2 ⟨(Nat.le_of_ble_eq_true rfl), (Nat.le_of_ble_eq_true rfl)⟩ [] ⟨0, 5, 6, 24⟩ [] htab (by intro z hz; cases hz) (by decide) (by decide) w0 (va_Nw.use rfl (hXB.2.2.2 _ (List.mem_of_getElem? (i := 4) rfl))) (fun q9 H locs hW => ?_)
  have hW := ze_W0' hW
  refine lv_astore_n (lv' := [(2, .ref q9), (0, .ref (a 0)), (1, .int y)]) hX_ hB_ dL_setReserve_6 rfl hl (by decide) rfl (fun ls hl => ?_)
  refine lv_ldc (own := RL) (v := -900001) hX_ hB_ S.2.2.2.1 w1 dL_setReserve_7 ?_
  exact ze_iret S hr hlocks hF hK hW rfl dL_setReserve_9 (Nat.le_of_ble_eq_true rfl) (Nat.le_of_ble_eq_true rfl) rfl rfl
set_option maxHeartbeats 4000000 in
set_option maxRecDepth 100000 in
theorem xw_setDelay_t1 (l : Launch) (D : va_G) (hst : l.stackTraces = false) (c : Nat → ClassId) (a n : Nat → Nat) (A : Nat → Nat → Int32) (B : Nat → Int64) (E : Nat → Nat → Int32) (y : Int32) (h : ¬ zf_isIn y 0 9) : ze_Q l yL_setDelay wsL_setDelay 8 126 1 6 D c (ze_wC c a n A B E) [.ref (a 0), .int y] (-900001) (ze_wC c a n A B E) := by
  intro sz
  refine zq_start (cc := cL_setDelay) (maxL := 3) (ret := (some .int)) (own := RL) (by decide) rfl rfl (Nat.le_of_ble_eq_true rfl) ?_
  intro p e s m_ below meth cd F ls hF hsz E0 hXB hNc htab
  obtain ⟨S, hr, hlocks, hK, hW, hA, hl⟩ := E0
  have hX_ := S.1
  have hB_ := S.2.1
  have hts := S.2.2.2.2
  have hl : lv_has ls 3 [(0, .ref (a 0)), (1, .int y)] := hl
  have w0 := hts (.classLink RL 24 "java/lang/IllegalArgumentException") (List.mem_cons_of_mem _ (List.mem_append_left _ (List.mem_append_left _ (List.mem_of_getElem? (i := 0) rfl))))
  have w1 := hts (.constant RL 17 (-900001)) (List.mem_cons_of_mem _ (List.mem_append_left _ (List.mem_append_left _ (List.mem_of_getElem? (i := 1) rfl))))
  have hW := ze_W0 hW
  refine lv_aload_n hX_ hB_ dL_setDelay_0 rfl (lv_at hl 0 rfl) ?_
  refine lv_iload_n hX_ hB_ dL_setDelay_1 rfl (lv_at hl 1 rfl) ?_
  refine zx_FVc (As := [.int y]) (rest := []) (ci := 8) (q0 := 0) (k := (RX8, TX8, 8)) S (zt_setDelay_t1 l D hst c a n A B E y h) (cwV 1 hts gL_setDelay_X8_setDelay rfl rfl rfl (by decide +kernel) ⟨(Nat.le_of_ble_eq_true rfl), (Nat.le_of_ble_eq_true rfl)⟩) hK hW hXB hA rfl (ze_at0 0 rfl) rfl hl.1 rfl (lv_room (Nat.le_of_ble_eq_true rfl)) dL_setDelay_2 ⟨(Nat.le_of_ble_eq_true rfl), (Nat.le_of_ble_eq_true rfl)⟩ [] ⟨0, 5, 6, 24⟩ [] htab (by intro z hz; cases hz) (by decide) (by decide) w0 (va_Nw.use rfl (hXB.2.2.2 _ (List.mem_of_getElem? (i := 4) rfl))) (fun q9 H locs hW => ?_)
  have hW := ze_W0' hW
  refine lv_astore_n (lv' := [(2, .ref q9), (0, .ref (a 0)), (1, .int y)]) hX_ hB_ dL_setDelay_6 rfl hl (by decide) rfl (fun ls hl => ?_)
  refine lv_ldc (own := RL) (v := -900001) hX_ hB_ S.2.2.2.1 w1 dL_setDelay_7 ?_
  exact ze_iret S hr hlocks hF hK hW rfl dL_setDelay_9 (Nat.le_of_ble_eq_true rfl) (Nat.le_of_ble_eq_true rfl) rfl rfl
set_option maxHeartbeats 4000000 in
set_option maxRecDepth 100000 in
theorem xw_pass_t1 (l : Launch) (D : va_G) (hst : l.stackTraces = false) (c : Nat → ClassId) (a n : Nat → Nat) (A : Nat → Nat → Int32) (B : Nat → Int64) (E : Nat → Nat → Int32) (x : Int32) (h : ¬ zf_isIn x 1 12) : ze_Q l yL_pass wsL_pass 8 126 1 6 D c (ze_wC c a n A B E) [.ref (a 0), .int x] (-900001) (ze_wC c a n A B E) := by
  intro sz
  refine zq_start (cc := cL_pass) (maxL := 3) (ret := (some .int)) (own := RL) (by decide) rfl rfl (Nat.le_of_ble_eq_true rfl) ?_
  intro p e s m_ below meth cd F ls hF hsz E0 hXB hNc htab
  obtain ⟨S, hr, hlocks, hK, hW, hA, hl⟩ := E0
  have hX_ := S.1
  have hB_ := S.2.1
  have hts := S.2.2.2.2
  have hl : lv_has ls 3 [(0, .ref (a 0)), (1, .int x)] := hl
  have w0 := hts (.classLink RL 24 "java/lang/IllegalArgumentException") (List.mem_cons_of_mem _ (List.mem_append_left _ (List.mem_append_left _ (List.mem_append_left _ (List.mem_append_left _ (List.mem_append_left _ (List.mem_append_left _ (List.mem_append_left _ (List.mem_append_left _ (List.mem_append_left _ (List.mem_append_left _ (List.mem_append_left _ (List.mem_of_getElem? (i := 0) rfl)))))))))))))
  have w1 := hts (.constant RL 17 (-900001)) (List.mem_cons_of_mem _ (List.mem_append_left _ (List.mem_append_left _ (List.mem_append_left _ (List.mem_append_left _ (List.mem_append_left _ (List.mem_append_left _ (List.mem_append_left _ (List.mem_append_left _ (List.mem_append_left _ (List.mem_append_left _ (List.mem_append_left _ (List.mem_of_getElem? (i := 1) rfl)))))))))))))
  have hW := ze_W0 hW
  refine lv_aload_n hX_ hB_ dL_pass_0 rfl (lv_at hl 0 rfl) ?_
  refine lv_iload_n hX_ hB_ dL_pass_1 rfl (lv_at hl 1 rfl) ?_
  refine zx_FVc (As := [.int x]) (rest := []) (ci := 8) (q0 := 0) (k := (RX8, TX8, 8)) S (zt_pass_t1 l D hst c a n A B E x h) (cwV 1 hts gL_pass_X8_pass rfl rfl rfl (by decide +kernel) ⟨(Nat.le_of_ble_eq_true rfl), (Nat.le_of_ble_eq_true rfl)⟩) hK hW hXB hA rfl (ze_at0 0 rfl) rfl hl.1 rfl (lv_room (Nat.le_of_ble_eq_true rfl)) dL_pass_2 ⟨(Nat.le_of_ble_eq_true rfl), (Nat.le_of_ble_eq_true rfl)⟩ [] ⟨0, 5, 6, 24⟩ [] htab (by intro z hz; cases hz) (by decide) (by decide) w0 (va_Nw.use rfl (hXB.2.2.2 _ (List.mem_of_getElem? (i := 4) rfl))) (fun q9 H locs hW => ?_)
  have hW := ze_W0' hW
  refine lv_astore_n (lv' := [(2, .ref q9), (0, .ref (a 0)), (1, .int x)]) hX_ hB_ dL_pass_6 rfl hl (by decide) rfl (fun ls hl => ?_)
  refine lv_ldc (own := RL) (v := -900001) hX_ hB_ S.2.2.2.1 w1 dL_pass_7 ?_
  exact ze_iret S hr hlocks hF hK hW rfl dL_pass_9 (Nat.le_of_ble_eq_true rfl) (Nat.le_of_ble_eq_true rfl) rfl rfl
set_option maxHeartbeats 4000000 in
set_option maxRecDepth 100000 in
theorem xw_litShare_t1 (l : Launch) (D : va_G) (hst : l.stackTraces = false) (c : Nat → ClassId) (a n : Nat → Nat) (A : Nat → Nat → Int32) (B : Nat → Int64) (E : Nat → Nat → Int32) (hN : zf_N n) (h : n 4 = 0) : xb_F l yL_litShare wsL_litShare 7 102 1 6 D c (ze_wC c a n A B E) [.ref (a 0)] (3378231824) (ze_wC c a n A B E) := by
  intro sz
  refine zq_start (cc := cL_litShare) (maxL := 2) (ret := (some .float)) (own := RL) (by decide) rfl rfl (Nat.le_of_ble_eq_true rfl) ?_
  intro p e s m_ below meth cd F ls hF hsz E0 hXB hNc htab
  obtain ⟨S, hr, hlocks, hK, hW, hA, hl⟩ := E0
  have hX_ := S.1
  have hB_ := S.2.1
  have hts := S.2.2.2.2
  have hl : lv_has ls 2 [(0, .ref (a 0))] := hl
  have w0 := hts (.classLink RL 43 "java/util/NoSuchElementException") (List.mem_cons_of_mem _ (List.mem_append_left _ (List.mem_append_left _ (List.mem_append_left _ (List.mem_append_left _ (List.mem_of_getElem? (i := 0) rfl))))))
  have w1 := hts (.constantFloat RL 121 (3378231824)) (List.mem_cons_of_mem _ (List.mem_append_left _ (List.mem_append_left _ (List.mem_append_left _ (List.mem_append_left _ (List.mem_of_getElem? (i := 1) rfl))))))
  have hW := ze_W0 hW
  refine lv_aload_n hX_ hB_ dL_litShare_0 rfl (lv_at hl 0 rfl) ?_
  refine zx_FVc (As := []) (rest := []) (ci := 8) (q0 := 0) (k := (RX8, TX8, 8)) S (zt_litShare_t1 l D hst c a n A B E hN h) (cwV 0 hts gL_litShare_X8_litShare rfl rfl rfl (by decide +kernel) ⟨(Nat.le_of_ble_eq_true rfl), (Nat.le_of_ble_eq_true rfl)⟩) hK hW hXB hA rfl (ze_at0 0 rfl) rfl hl.1 rfl (lv_room (Nat.le_of_ble_eq_true rfl)) dL_litShare_1 ⟨(Nat.le_of_ble_eq_true rfl), (Nat.le_of_ble_eq_true rfl)⟩ [] ⟨0, 4, 5, 43⟩ [] htab (by intro z hz; cases hz) (by decide) (by decide) w0 (va_Nw.use rfl (hXB.2.2.2 _ (List.mem_of_getElem? (i := 6) rfl))) (fun q9 H locs hW => ?_)
  have hW := ze_W0' hW
  refine lv_astore_n (lv' := [(1, .ref q9), (0, .ref (a 0))]) hX_ hB_ dL_litShare_5 rfl hl (by decide) rfl (fun ls hl => ?_)
  refine lv_ldcf (own := RL) (v := (3378231824)) hX_ hB_ S.2.2.2.1 w1 dL_litShare_6 ?_
  exact ze_fret S hr hlocks hF hK hW dL_litShare_8 (Nat.le_of_ble_eq_true rfl) (Nat.le_of_ble_eq_true rfl) rfl rfl
set_option maxHeartbeats 4000000 in
set_option maxRecDepth 100000 in
theorem xw_addGenerator_f (l : Launch) (D : va_G) (c : Nat → ClassId) (a n : Nat → Nat) (A : Nat → Nat → Int32) (B : Nat → Int64) (E : Nat → Nat → Int32) (j : Nat) (hN : zf_N n) (hj : j < n 0) (le gr wu fu : Int32) (h1 : zf_isIn le 0 100) (h2 : zf_isIn gr (ze_mx 1 le) 200) (h3 : zf_isIn wu 0 9) (h4 : zf_isIn fu 0 9999) (h5 : n 2 < 6) (ho11 : A 11 (n 2) = 0) (ho12 : A 12 (n 2) = 0) : ze_QE l yL_addGenerator wsL_addGenerator 3 67 1 8 D c (ze_wC c a n A B E) [.ref (a 0), .int (nI j), .int le, .int gr, .int wu, .int fu] (nI (n 2)) (fun qn => (ze_wC c (va_up a (20 + n 2) qn) (ze_sn n 2 (n 2 + 1)) (ze_sE (ze_sE (ze_sE (ze_sE (ze_sE (ze_sE A 6 (n 2) (nI j)) 7 (n 2) le) 8 (n 2) gr) 9 (n 2) wu) 10 (n 2) fu) 13 (n 2) 111) B E)) := by
  intro sz
  refine zq_start (cc := cL_addGenerator) (maxL := 7) (ret := (some .int)) (own := RL) (by decide) rfl rfl (Nat.le_of_ble_eq_true rfl) ?_
  intro p e s m_ below meth cd F ls hF hsz E0 hXB hNc htab
  obtain ⟨S, hr, hlocks, hK, hW, hA, hl⟩ := E0
  have hX_ := S.1
  have hB_ := S.2.1
  have hts := S.2.2.2.2
  have hl : lv_has ls 7 [(0, .ref (a 0)), (1, .int (nI j)), (2, .int le), (3, .int gr), (4, .int wu), (5, .int fu)] := hl
  have hW := ze_W0 hW
  refine lv_aload_n hX_ hB_ dL_addGenerator_0 rfl (lv_at hl 0 rfl) ?_
  refine lv_iload_n hX_ hB_ dL_addGenerator_1 rfl (lv_at hl 1 rfl) ?_
  refine lv_iload_n hX_ hB_ dL_addGenerator_2 rfl (lv_at hl 2 rfl) ?_
  refine lv_iload_n hX_ hB_ dL_addGenerator_3 rfl (lv_at hl 3 rfl) ?_
  refine lv_iload hX_ hB_ dL_addGenerator_4 (lv_at hl 4 rfl) ?_
  refine lv_iload hX_ hB_ dL_addGenerator_6 (lv_at hl 5 rfl) ?_
  refine ze_FVe (As := [.int (nI j), .int le, .int gr, .int wu, .int fu]) (rest := []) (ci := 8) (q0 := 0) (k := (RX8, TX8, 8)) S (zp_addGenerator_f l D c a n A B E j hN hj le gr wu fu h1 h2 h3 h4 h5 ho11 ho12) (cwV 5 hts gL_addGenerator_X8_addGenerator rfl rfl rfl (by decide +kernel) ⟨(Nat.le_of_ble_eq_true rfl), (Nat.le_of_ble_eq_true rfl)⟩) hK hW hA rfl (ze_at0 0 rfl) rfl hl.1 rfl (lv_room (Nat.le_of_ble_eq_true rfl)) dL_addGenerator_8 ⟨(Nat.le_of_ble_eq_true rfl), (Nat.le_of_ble_eq_true rfl)⟩ (fun qn H locs hW => ?_)
  have hW := ze_W0' hW
  exact ze_eret (q := qn) S hr hlocks hF hK hW rfl dL_addGenerator_11 (Nat.le_of_ble_eq_true rfl) (Nat.le_of_ble_eq_true rfl) rfl rfl
set_option maxHeartbeats 4000000 in
set_option maxRecDepth 100000 in
theorem xw_addStore_f (l : Launch) (D : va_G) (c : Nat → ClassId) (a n : Nat → Nat) (A : Nat → Nat → Int32) (B : Nat → Int64) (E : Nat → Nat → Int32) (j : Nat) (hN : zf_N n) (hj : j < n 0) (y z : Int32) (h1 : zf_isIn y 1 999) (h2 : zf_isIn z 1 99) (h5 : n 3 < 4) (ho17 : A 17 (n 3) = 0) (ho18 : A 18 (n 3) = 0) : ze_QE l yL_addStore wsL_addStore 3 65 1 5 D c (ze_wC c a n A B E) [.ref (a 0), .int (nI j), .int y, .int z] (nI (n 3)) (fun qn => (ze_wC c (va_up a (30 + n 3) qn) (ze_sn n 3 (n 3 + 1)) (ze_sE (ze_sE (ze_sE A 14 (n 3) (nI j)) 15 (n 3) y) 16 (n 3) z) B E)) := by
  intro sz
  refine zq_start (cc := cL_addStore) (maxL := 5) (ret := (some .int)) (own := RL) (by decide) rfl rfl (Nat.le_of_ble_eq_true rfl) ?_
  intro p e s m_ below meth cd F ls hF hsz E0 hXB hNc htab
  obtain ⟨S, hr, hlocks, hK, hW, hA, hl⟩ := E0
  have hX_ := S.1
  have hB_ := S.2.1
  have hts := S.2.2.2.2
  have hl : lv_has ls 5 [(0, .ref (a 0)), (1, .int (nI j)), (2, .int y), (3, .int z)] := hl
  have hW := ze_W0 hW
  refine lv_aload_n hX_ hB_ dL_addStore_0 rfl (lv_at hl 0 rfl) ?_
  refine lv_iload_n hX_ hB_ dL_addStore_1 rfl (lv_at hl 1 rfl) ?_
  refine lv_iload_n hX_ hB_ dL_addStore_2 rfl (lv_at hl 2 rfl) ?_
  refine lv_iload_n hX_ hB_ dL_addStore_3 rfl (lv_at hl 3 rfl) ?_
  refine ze_FVe (As := [.int (nI j), .int y, .int z]) (rest := []) (ci := 8) (q0 := 0) (k := (RX8, TX8, 8)) S (zp_addStore_f l D c a n A B E j hN hj y z h1 h2 h5 ho17 ho18) (cwV 3 hts gL_addStore_X8_addStore rfl rfl rfl (by decide +kernel) ⟨(Nat.le_of_ble_eq_true rfl), (Nat.le_of_ble_eq_true rfl)⟩) hK hW hA rfl (ze_at0 0 rfl) rfl hl.1 rfl (lv_room (Nat.le_of_ble_eq_true rfl)) dL_addStore_4 ⟨(Nat.le_of_ble_eq_true rfl), (Nat.le_of_ble_eq_true rfl)⟩ (fun qn H locs hW => ?_)
  have hW := ze_W0' hW
  exact ze_eret (q := qn) S hr hlocks hF hK hW rfl dL_addStore_7 (Nat.le_of_ble_eq_true rfl) (Nat.le_of_ble_eq_true rfl) rfl rfl
set_option maxHeartbeats 4000000 in
set_option maxRecDepth 100000 in
theorem xw_addLoad_f (l : Launch) (D : va_G) (c : Nat → ClassId) (a n : Nat → Nat) (A : Nat → Nat → Int32) (B : Nat → Int64) (E : Nat → Nat → Int32) (j : Nat) (hN : zf_N n) (hj : j < n 0) (y z : Int32) (h1 : zf_isIn y 1 200) (h2 : zf_isIn z 1 9) (h5 : n 4 < 10) (ho5 : A 5 (n 4) = 0) (ho22 : A 22 (n 4) = 0) : ze_QE l yL_addLoad wsL_addLoad 4 83 1 6 D c (ze_wC c a n A B E) [.ref (a 0), .int (nI j), .int y, .int z] (nI (n 4)) (fun qn => (ze_wC c (va_up a (40 + n 4) qn) (ze_sn n 4 (n 4 + 1)) (ze_sE (ze_sE (ze_sE A 19 (n 4) (nI j)) 20 (n 4) y) 21 (n 4) z) B E)) := by
  intro sz
  refine zq_start (cc := cL_addLoad) (maxL := 5) (ret := (some .int)) (own := RL) (by decide) rfl rfl (Nat.le_of_ble_eq_true rfl) ?_
  intro p e s m_ below meth cd F ls hF hsz E0 hXB hNc htab
  obtain ⟨S, hr, hlocks, hK, hW, hA, hl⟩ := E0
  have hX_ := S.1
  have hB_ := S.2.1
  have hts := S.2.2.2.2
  have hl : lv_has ls 5 [(0, .ref (a 0)), (1, .int (nI j)), (2, .int y), (3, .int z)] := hl
  have hW := ze_W0 hW
  refine lv_aload_n hX_ hB_ dL_addLoad_0 rfl (lv_at hl 0 rfl) ?_
  refine lv_iload_n hX_ hB_ dL_addLoad_1 rfl (lv_at hl 1 rfl) ?_
  refine lv_iload_n hX_ hB_ dL_addLoad_2 rfl (lv_at hl 2 rfl) ?_
  refine lv_iload_n hX_ hB_ dL_addLoad_3 rfl (lv_at hl 3 rfl) ?_
  refine ze_FVe (As := [.int (nI j), .int y, .int z]) (rest := []) (ci := 8) (q0 := 0) (k := (RX8, TX8, 8)) S (zp_addLoad_f l D c a n A B E j hN hj y z h1 h2 h5 ho5 ho22) (cwV 3 hts gL_addLoad_X8_addLoad rfl rfl rfl (by decide +kernel) ⟨(Nat.le_of_ble_eq_true rfl), (Nat.le_of_ble_eq_true rfl)⟩) hK hW hA rfl (ze_at0 0 rfl) rfl hl.1 rfl (lv_room (Nat.le_of_ble_eq_true rfl)) dL_addLoad_4 ⟨(Nat.le_of_ble_eq_true rfl), (Nat.le_of_ble_eq_true rfl)⟩ (fun qn H locs hW => ?_)
  have hW := ze_W0' hW
  exact ze_eret (q := qn) S hr hlocks hF hK hW rfl dL_addLoad_7 (Nat.le_of_ble_eq_true rfl) (Nat.le_of_ble_eq_true rfl) rfl rfl
