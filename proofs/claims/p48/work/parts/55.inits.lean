set_option maxHeartbeats 4000000 in
set_option maxRecDepth 100000 in
theorem zi_X5 (l : Launch) (D : va_G) (c : Nat → ClassId) (q : Nat) : ze_VG l yX5_init wsX5_init 1 12 7 48 D c ([(q, .inr (5, [.int 0, .int 0, .int 0, .null, .null, .null, .null, .null, .null, .null]))] : va_W) [.ref q] (fun an => ([(q, .inr (5, [.int 0, .int 0, .int 0, .ref (an 2), .ref (an 3), .ref (an 4), .ref (an 5), .ref (an 6), .ref (an 7), .ref (an 8)])), (an 2, .inl (c 0, 6, .inl (fun _ => 0))), (an 3, .inl (c 0, 6, .inl (fun _ => 0))), (an 4, .inl (c 0, 8, .inl (fun _ => 0))), (an 5, .inl (c 0, 8, .inl (fun _ => 0))), (an 6, .inl (c 1, 8, .inl (fun _ => 0))), (an 7, .inl (c 0, 6, .inl (fun _ => 0))), (an 8, .inl (c 0, 6, .inl (fun _ => 0)))] : va_W)) := by
  intro sz
  refine zk_start rfl (cc := cX5_init) (maxL := 1) (ret := none) (own := RX5) (by decide) rfl rfl (Nat.le_of_ble_eq_true rfl) ?_
  intro p e s m_ below meth cd F ls hF hsz E0 hin2 hZ
  obtain ⟨S, hr, hlocks, hK, hW, hA, hl⟩ := E0
  have hX_ := S.1
  have hB_ := S.2.1
  have hts := S.2.2.2.2
  have hl : lv_has ls 1 [(0, .ref q)] := hl
  have hiX5 : ∀ w ∈ u_ws RX5 TX5 10, w ∈ wsX5_init := fun _ h => (List.mem_cons_of_mem _ (List.mem_append_right _ h))
  have w0 := hts (.methodLink RX5 3 objectInit) (List.mem_cons_of_mem _ (List.mem_append_left _ (List.mem_of_getElem? (i := 0) rfl)))
  have w1 := hts (.instanceMethod objectInit) (List.mem_cons_of_mem _ (List.mem_append_left _ (List.mem_of_getElem? (i := 1) rfl)))
  have w2 := hts (.code objectInit ⟨#[0xb1]⟩ 1 none) (List.mem_cons_of_mem _ (List.mem_append_left _ (List.mem_of_getElem? (i := 2) rfl)))
  have w3 := hts (.arrayClass .int) (List.mem_cons_of_mem _ (List.mem_append_left _ (List.mem_of_getElem? (i := 3) rfl)))
  have w4 := hts (.fieldLink RX5 9 "Islandgrid$Network" "phases" "[I") (List.mem_cons_of_mem _ (List.mem_append_left _ (List.mem_of_getElem? (i := 4) rfl)))
  have w5 := hts (.fieldLink RX5 15 "Islandgrid$Network" "islandOf" "[I") (List.mem_cons_of_mem _ (List.mem_append_left _ (List.mem_of_getElem? (i := 5) rfl)))
  have w6 := hts (.fieldLink RX5 18 "Islandgrid$Network" "oneEnd" "[I") (List.mem_cons_of_mem _ (List.mem_append_left _ (List.mem_of_getElem? (i := 6) rfl)))
  have w7 := hts (.fieldLink RX5 21 "Islandgrid$Network" "otherEnd" "[I") (List.mem_cons_of_mem _ (List.mem_append_left _ (List.mem_of_getElem? (i := 7) rfl)))
  have w8 := hts (.arrayClass .boolean) (List.mem_cons_of_mem _ (List.mem_append_left _ (List.mem_of_getElem? (i := 8) rfl)))
  have w9 := hts (.fieldLink RX5 24 "Islandgrid$Network" "closed" "[Z") (List.mem_cons_of_mem _ (List.mem_append_left _ (List.mem_of_getElem? (i := 9) rfl)))
  have w10 := hts (.fieldLink RX5 28 "Islandgrid$Network" "toVisit" "[I") (List.mem_cons_of_mem _ (List.mem_append_left _ (List.mem_of_getElem? (i := 10) rfl)))
  have w11 := hts (.fieldLink RX5 31 "Islandgrid$Network" "lowest" "[I") (List.mem_cons_of_mem _ (List.mem_append_left _ (List.mem_of_getElem? (i := 11) rfl)))
  refine lv_aload_n hX_ hB_ dX5_init_0 rfl (lv_at hl 0 rfl) ?_
  refine ze_obj S hl.1 w0 w1 w2 dX5_init_1 ⟨Nat.le_of_ble_eq_true rfl, Nat.le_of_ble_eq_true rfl⟩ ?_
  refine lv_aload_n hX_ hB_ dX5_init_4 rfl (lv_at hl 0 rfl) ?_
  refine lv_bipush (v := 6) hX_ hB_ dX5_init_5 (by decide) ?_
  refine ze_newi (N := 6) S w3 hK hW hA (by decide) (Nat.le_of_ble_eq_true rfl) (Nat.le_of_ble_eq_true rfl) dX5_init_7 (fun r0 H hW => ?_)
  have hW : ze_W D ([(q, .inr (5, [.int 0, .int 0, .int 0, .null, .null, .null, .null, .null, .null, .null])), (r0, .inl (c 0, 6, .inl (fun _ => 0)))] : va_W) F s.heap _ _ := hW
  refine ze_putF (ci := 5) (C := RX5) (T := TX5) (N := 10) (v := .ref r0) S hiX5 tyX5 tyX5_ok nmX5 hin2 hK hW 0 rfl rfl 3 (by decide) (Nat.le_of_ble_eq_true rfl) rfl rfl rfl rfl w4 dX5_init_9 rfl (fun H locs hW => ?_)
  have hW : ze_W D ([(q, .inr (5, [.int 0, .int 0, .int 0, .ref r0, .null, .null, .null, .null, .null, .null])), (r0, .inl (c 0, 6, .inl (fun _ => 0)))] : va_W) F s.heap _ _ := hW
  refine lv_aload_n hX_ hB_ dX5_init_12 rfl (lv_at hl 0 rfl) ?_
  refine lv_bipush (v := 6) hX_ hB_ dX5_init_13 (by decide) ?_
  refine ze_newi (N := 6) S w3 hK hW hA (by decide) (Nat.le_of_ble_eq_true rfl) (Nat.le_of_ble_eq_true rfl) dX5_init_15 (fun r1 H hW => ?_)
  have hW : ze_W D ([(q, .inr (5, [.int 0, .int 0, .int 0, .ref r0, .null, .null, .null, .null, .null, .null])), (r0, .inl (c 0, 6, .inl (fun _ => 0))), (r1, .inl (c 0, 6, .inl (fun _ => 0)))] : va_W) F s.heap _ _ := hW
  refine ze_putF (ci := 5) (C := RX5) (T := TX5) (N := 10) (v := .ref r1) S hiX5 tyX5 tyX5_ok nmX5 hin2 hK hW 0 rfl rfl 4 (by decide) (Nat.le_of_ble_eq_true rfl) rfl rfl rfl rfl w5 dX5_init_17 rfl (fun H locs hW => ?_)
  have hW : ze_W D ([(q, .inr (5, [.int 0, .int 0, .int 0, .ref r0, .ref r1, .null, .null, .null, .null, .null])), (r0, .inl (c 0, 6, .inl (fun _ => 0))), (r1, .inl (c 0, 6, .inl (fun _ => 0)))] : va_W) F s.heap _ _ := hW
  refine lv_aload_n hX_ hB_ dX5_init_20 rfl (lv_at hl 0 rfl) ?_
  refine lv_bipush (v := 8) hX_ hB_ dX5_init_21 (by decide) ?_
  refine ze_newi (N := 8) S w3 hK hW hA (by decide) (Nat.le_of_ble_eq_true rfl) (Nat.le_of_ble_eq_true rfl) dX5_init_23 (fun r2 H hW => ?_)
  have hW : ze_W D ([(q, .inr (5, [.int 0, .int 0, .int 0, .ref r0, .ref r1, .null, .null, .null, .null, .null])), (r0, .inl (c 0, 6, .inl (fun _ => 0))), (r1, .inl (c 0, 6, .inl (fun _ => 0))), (r2, .inl (c 0, 8, .inl (fun _ => 0)))] : va_W) F s.heap _ _ := hW
  refine ze_putF (ci := 5) (C := RX5) (T := TX5) (N := 10) (v := .ref r2) S hiX5 tyX5 tyX5_ok nmX5 hin2 hK hW 0 rfl rfl 5 (by decide) (Nat.le_of_ble_eq_true rfl) rfl rfl rfl rfl w6 dX5_init_25 rfl (fun H locs hW => ?_)
  have hW : ze_W D ([(q, .inr (5, [.int 0, .int 0, .int 0, .ref r0, .ref r1, .ref r2, .null, .null, .null, .null])), (r0, .inl (c 0, 6, .inl (fun _ => 0))), (r1, .inl (c 0, 6, .inl (fun _ => 0))), (r2, .inl (c 0, 8, .inl (fun _ => 0)))] : va_W) F s.heap _ _ := hW
  refine lv_aload_n hX_ hB_ dX5_init_28 rfl (lv_at hl 0 rfl) ?_
  refine lv_bipush (v := 8) hX_ hB_ dX5_init_29 (by decide) ?_
  refine ze_newi (N := 8) S w3 hK hW hA (by decide) (Nat.le_of_ble_eq_true rfl) (Nat.le_of_ble_eq_true rfl) dX5_init_31 (fun r3 H hW => ?_)
  have hW : ze_W D ([(q, .inr (5, [.int 0, .int 0, .int 0, .ref r0, .ref r1, .ref r2, .null, .null, .null, .null])), (r0, .inl (c 0, 6, .inl (fun _ => 0))), (r1, .inl (c 0, 6, .inl (fun _ => 0))), (r2, .inl (c 0, 8, .inl (fun _ => 0))), (r3, .inl (c 0, 8, .inl (fun _ => 0)))] : va_W) F s.heap _ _ := hW
  refine ze_putF (ci := 5) (C := RX5) (T := TX5) (N := 10) (v := .ref r3) S hiX5 tyX5 tyX5_ok nmX5 hin2 hK hW 0 rfl rfl 6 (by decide) (Nat.le_of_ble_eq_true rfl) rfl rfl rfl rfl w7 dX5_init_33 rfl (fun H locs hW => ?_)
  have hW : ze_W D ([(q, .inr (5, [.int 0, .int 0, .int 0, .ref r0, .ref r1, .ref r2, .ref r3, .null, .null, .null])), (r0, .inl (c 0, 6, .inl (fun _ => 0))), (r1, .inl (c 0, 6, .inl (fun _ => 0))), (r2, .inl (c 0, 8, .inl (fun _ => 0))), (r3, .inl (c 0, 8, .inl (fun _ => 0)))] : va_W) F s.heap _ _ := hW
  refine lv_aload_n hX_ hB_ dX5_init_36 rfl (lv_at hl 0 rfl) ?_
  refine lv_bipush (v := 8) hX_ hB_ dX5_init_37 (by decide) ?_
  refine ze_newz (N := 8) S w8 hK hW hA (by decide) (Nat.le_of_ble_eq_true rfl) (Nat.le_of_ble_eq_true rfl) dX5_init_39 (fun r4 H hW => ?_)
  have hW : ze_W D ([(q, .inr (5, [.int 0, .int 0, .int 0, .ref r0, .ref r1, .ref r2, .ref r3, .null, .null, .null])), (r0, .inl (c 0, 6, .inl (fun _ => 0))), (r1, .inl (c 0, 6, .inl (fun _ => 0))), (r2, .inl (c 0, 8, .inl (fun _ => 0))), (r3, .inl (c 0, 8, .inl (fun _ => 0))), (r4, .inl (c 1, 8, .inl (fun _ => 0)))] : va_W) F s.heap _ _ := hW
  refine ze_putF (ci := 5) (C := RX5) (T := TX5) (N := 10) (v := .ref r4) S hiX5 tyX5 tyX5_ok nmX5 hin2 hK hW 0 rfl rfl 7 (by decide) (Nat.le_of_ble_eq_true rfl) rfl rfl rfl rfl w9 dX5_init_41 rfl (fun H locs hW => ?_)
  have hW : ze_W D ([(q, .inr (5, [.int 0, .int 0, .int 0, .ref r0, .ref r1, .ref r2, .ref r3, .ref r4, .null, .null])), (r0, .inl (c 0, 6, .inl (fun _ => 0))), (r1, .inl (c 0, 6, .inl (fun _ => 0))), (r2, .inl (c 0, 8, .inl (fun _ => 0))), (r3, .inl (c 0, 8, .inl (fun _ => 0))), (r4, .inl (c 1, 8, .inl (fun _ => 0)))] : va_W) F s.heap _ _ := hW
  refine lv_aload_n hX_ hB_ dX5_init_44 rfl (lv_at hl 0 rfl) ?_
  refine lv_bipush (v := 6) hX_ hB_ dX5_init_45 (by decide) ?_
  refine ze_newi (N := 6) S w3 hK hW hA (by decide) (Nat.le_of_ble_eq_true rfl) (Nat.le_of_ble_eq_true rfl) dX5_init_47 (fun r5 H hW => ?_)
  have hW : ze_W D ([(q, .inr (5, [.int 0, .int 0, .int 0, .ref r0, .ref r1, .ref r2, .ref r3, .ref r4, .null, .null])), (r0, .inl (c 0, 6, .inl (fun _ => 0))), (r1, .inl (c 0, 6, .inl (fun _ => 0))), (r2, .inl (c 0, 8, .inl (fun _ => 0))), (r3, .inl (c 0, 8, .inl (fun _ => 0))), (r4, .inl (c 1, 8, .inl (fun _ => 0))), (r5, .inl (c 0, 6, .inl (fun _ => 0)))] : va_W) F s.heap _ _ := hW
  refine ze_putF (ci := 5) (C := RX5) (T := TX5) (N := 10) (v := .ref r5) S hiX5 tyX5 tyX5_ok nmX5 hin2 hK hW 0 rfl rfl 8 (by decide) (Nat.le_of_ble_eq_true rfl) rfl rfl rfl rfl w10 dX5_init_49 rfl (fun H locs hW => ?_)
  have hW : ze_W D ([(q, .inr (5, [.int 0, .int 0, .int 0, .ref r0, .ref r1, .ref r2, .ref r3, .ref r4, .ref r5, .null])), (r0, .inl (c 0, 6, .inl (fun _ => 0))), (r1, .inl (c 0, 6, .inl (fun _ => 0))), (r2, .inl (c 0, 8, .inl (fun _ => 0))), (r3, .inl (c 0, 8, .inl (fun _ => 0))), (r4, .inl (c 1, 8, .inl (fun _ => 0))), (r5, .inl (c 0, 6, .inl (fun _ => 0)))] : va_W) F s.heap _ _ := hW
  refine lv_aload_n hX_ hB_ dX5_init_52 rfl (lv_at hl 0 rfl) ?_
  refine lv_bipush (v := 6) hX_ hB_ dX5_init_53 (by decide) ?_
  refine ze_newi (N := 6) S w3 hK hW hA (by decide) (Nat.le_of_ble_eq_true rfl) (Nat.le_of_ble_eq_true rfl) dX5_init_55 (fun r6 H hW => ?_)
  have hW : ze_W D ([(q, .inr (5, [.int 0, .int 0, .int 0, .ref r0, .ref r1, .ref r2, .ref r3, .ref r4, .ref r5, .null])), (r0, .inl (c 0, 6, .inl (fun _ => 0))), (r1, .inl (c 0, 6, .inl (fun _ => 0))), (r2, .inl (c 0, 8, .inl (fun _ => 0))), (r3, .inl (c 0, 8, .inl (fun _ => 0))), (r4, .inl (c 1, 8, .inl (fun _ => 0))), (r5, .inl (c 0, 6, .inl (fun _ => 0))), (r6, .inl (c 0, 6, .inl (fun _ => 0)))] : va_W) F s.heap _ _ := hW
  refine ze_putF (ci := 5) (C := RX5) (T := TX5) (N := 10) (v := .ref r6) S hiX5 tyX5 tyX5_ok nmX5 hin2 hK hW 0 rfl rfl 9 (by decide) (Nat.le_of_ble_eq_true rfl) rfl rfl rfl rfl w11 dX5_init_57 rfl (fun H locs hW => ?_)
  have hW : ze_W D ([(q, .inr (5, [.int 0, .int 0, .int 0, .ref r0, .ref r1, .ref r2, .ref r3, .ref r4, .ref r5, .ref r6])), (r0, .inl (c 0, 6, .inl (fun _ => 0))), (r1, .inl (c 0, 6, .inl (fun _ => 0))), (r2, .inl (c 0, 8, .inl (fun _ => 0))), (r3, .inl (c 0, 8, .inl (fun _ => 0))), (r4, .inl (c 1, 8, .inl (fun _ => 0))), (r5, .inl (c 0, 6, .inl (fun _ => 0))), (r6, .inl (c 0, 6, .inl (fun _ => 0)))] : va_W) F s.heap _ _ := hW
  exact ze_gret (a2 := (fun i => ([0, 0, r0, r1, r2, r3, r4, r5, r6] : List Nat).getD i 0)) S hr hlocks hF hK hW dX5_init_60 (Nat.le_of_ble_eq_true rfl) (Nat.le_of_ble_eq_true rfl) rfl
set_option maxHeartbeats 4000000 in
set_option maxRecDepth 100000 in
theorem zi_X0 (l : Launch) (D : va_G) (c : Nat → ClassId) (q nw : Nat) : ze_VG l yX0_init wsX0_init 1 12 3 18 D c ([(q, .inr (0, [.null, .null, .int 0, .null, .null]))] : va_W) [.ref q, .ref nw] (fun an => ([(q, .inr (0, [.ref nw, .ref (an 10), .int 0, .ref (an 11), .ref (an 12)])), (an 10, .inl (c 3, 6, .inr (.inr (.inr (.inr (fun _ => none)))))), (an 11, .inl (c 0, 6, .inl (fun _ => 0))), (an 12, .inl (c 0, 6, .inl (fun _ => 0)))] : va_W)) := by
  intro sz
  refine zk_start rfl (cc := cX0_init) (maxL := 2) (ret := none) (own := RX0) (by decide) rfl rfl (Nat.le_of_ble_eq_true rfl) ?_
  intro p e s m_ below meth cd F ls hF hsz E0 hin2 hZ
  obtain ⟨S, hr, hlocks, hK, hW, hA, hl⟩ := E0
  have hX_ := S.1
  have hB_ := S.2.1
  have hts := S.2.2.2.2
  have hl : lv_has ls 2 [(0, .ref q), (1, .ref nw)] := hl
  have hiX0 : ∀ w ∈ u_ws RX0 TX0 5, w ∈ wsX0_init := fun _ h => (List.mem_cons_of_mem _ (List.mem_append_right _ h))
  have w0 := hts (.methodLink RX0 3 objectInit) (List.mem_cons_of_mem _ (List.mem_append_left _ (List.mem_of_getElem? (i := 0) rfl)))
  have w1 := hts (.instanceMethod objectInit) (List.mem_cons_of_mem _ (List.mem_append_left _ (List.mem_of_getElem? (i := 1) rfl)))
  have w2 := hts (.code objectInit ⟨#[0xb1]⟩ 1 none) (List.mem_cons_of_mem _ (List.mem_append_left _ (List.mem_of_getElem? (i := 2) rfl)))
  have w3 := hts (.classLink RX0 9 RX1) (List.mem_cons_of_mem _ (List.mem_append_left _ (List.mem_of_getElem? (i := 3) rfl)))
  have w4 := hts (.fieldLink RX0 11 "Islandgrid$Fleet" "all" "[LIslandgrid$Generator;") (List.mem_cons_of_mem _ (List.mem_append_left _ (List.mem_of_getElem? (i := 4) rfl)))
  have w5 := hts (.arrayClass .int) (List.mem_cons_of_mem _ (List.mem_append_left _ (List.mem_of_getElem? (i := 5) rfl)))
  have w6 := hts (.fieldLink RX0 17 "Islandgrid$Fleet" "steps" "[I") (List.mem_cons_of_mem _ (List.mem_append_left _ (List.mem_of_getElem? (i := 6) rfl)))
  have w7 := hts (.fieldLink RX0 21 "Islandgrid$Fleet" "taken" "[I") (List.mem_cons_of_mem _ (List.mem_append_left _ (List.mem_of_getElem? (i := 7) rfl)))
  have w8 := hts (.fieldLink RX0 24 "Islandgrid$Fleet" "network" "LIslandgrid$Network;") (List.mem_cons_of_mem _ (List.mem_append_left _ (List.mem_of_getElem? (i := 8) rfl)))
  refine lv_aload_n hX_ hB_ dX0_init_0 rfl (lv_at hl 0 rfl) ?_
  refine ze_obj S hl.1 w0 w1 w2 dX0_init_1 ⟨Nat.le_of_ble_eq_true rfl, Nat.le_of_ble_eq_true rfl⟩ ?_
  refine lv_aload_n hX_ hB_ dX0_init_4 rfl (lv_at hl 0 rfl) ?_
  refine lv_bipush (v := 6) hX_ hB_ dX0_init_5 (by decide) ?_
  refine ze_newG (N := 6) S w3 hZ hK hW hA (by decide) (Nat.le_of_ble_eq_true rfl) (Nat.le_of_ble_eq_true rfl) dX0_init_7 (fun r0 H hW => ?_)
  have hW : ze_W D ([(q, .inr (0, [.null, .null, .int 0, .null, .null])), (r0, .inl (c 3, 6, .inr (.inr (.inr (.inr (fun _ => none))))))] : va_W) F s.heap _ _ := hW
  refine ze_putF (ci := 0) (C := RX0) (T := TX0) (N := 5) (v := .ref r0) S hiX0 tyX0 tyX0_ok nmX0 hin2 hK hW 0 rfl rfl 1 (by decide) (Nat.le_of_ble_eq_true rfl) rfl rfl rfl rfl w4 dX0_init_10 rfl (fun H locs hW => ?_)
  have hW : ze_W D ([(q, .inr (0, [.null, .ref r0, .int 0, .null, .null])), (r0, .inl (c 3, 6, .inr (.inr (.inr (.inr (fun _ => none))))))] : va_W) F s.heap _ _ := hW
  refine lv_aload_n hX_ hB_ dX0_init_13 rfl (lv_at hl 0 rfl) ?_
  refine lv_bipush (v := 6) hX_ hB_ dX0_init_14 (by decide) ?_
  refine ze_newi (N := 6) S w5 hK hW hA (by decide) (Nat.le_of_ble_eq_true rfl) (Nat.le_of_ble_eq_true rfl) dX0_init_16 (fun r1 H hW => ?_)
  have hW : ze_W D ([(q, .inr (0, [.null, .ref r0, .int 0, .null, .null])), (r0, .inl (c 3, 6, .inr (.inr (.inr (.inr (fun _ => none)))))), (r1, .inl (c 0, 6, .inl (fun _ => 0)))] : va_W) F s.heap _ _ := hW
  refine ze_putF (ci := 0) (C := RX0) (T := TX0) (N := 5) (v := .ref r1) S hiX0 tyX0 tyX0_ok nmX0 hin2 hK hW 0 rfl rfl 3 (by decide) (Nat.le_of_ble_eq_true rfl) rfl rfl rfl rfl w6 dX0_init_18 rfl (fun H locs hW => ?_)
  have hW : ze_W D ([(q, .inr (0, [.null, .ref r0, .int 0, .ref r1, .null])), (r0, .inl (c 3, 6, .inr (.inr (.inr (.inr (fun _ => none)))))), (r1, .inl (c 0, 6, .inl (fun _ => 0)))] : va_W) F s.heap _ _ := hW
  refine lv_aload_n hX_ hB_ dX0_init_21 rfl (lv_at hl 0 rfl) ?_
  refine lv_bipush (v := 6) hX_ hB_ dX0_init_22 (by decide) ?_
  refine ze_newi (N := 6) S w5 hK hW hA (by decide) (Nat.le_of_ble_eq_true rfl) (Nat.le_of_ble_eq_true rfl) dX0_init_24 (fun r2 H hW => ?_)
  have hW : ze_W D ([(q, .inr (0, [.null, .ref r0, .int 0, .ref r1, .null])), (r0, .inl (c 3, 6, .inr (.inr (.inr (.inr (fun _ => none)))))), (r1, .inl (c 0, 6, .inl (fun _ => 0))), (r2, .inl (c 0, 6, .inl (fun _ => 0)))] : va_W) F s.heap _ _ := hW
  refine ze_putF (ci := 0) (C := RX0) (T := TX0) (N := 5) (v := .ref r2) S hiX0 tyX0 tyX0_ok nmX0 hin2 hK hW 0 rfl rfl 4 (by decide) (Nat.le_of_ble_eq_true rfl) rfl rfl rfl rfl w7 dX0_init_26 rfl (fun H locs hW => ?_)
  have hW : ze_W D ([(q, .inr (0, [.null, .ref r0, .int 0, .ref r1, .ref r2])), (r0, .inl (c 3, 6, .inr (.inr (.inr (.inr (fun _ => none)))))), (r1, .inl (c 0, 6, .inl (fun _ => 0))), (r2, .inl (c 0, 6, .inl (fun _ => 0)))] : va_W) F s.heap _ _ := hW
  refine lv_aload_n hX_ hB_ dX0_init_29 rfl (lv_at hl 0 rfl) ?_
  refine lv_aload_n hX_ hB_ dX0_init_30 rfl (lv_at hl 1 rfl) ?_
  refine ze_putF (ci := 0) (C := RX0) (T := TX0) (N := 5) (v := .ref nw) S hiX0 tyX0 tyX0_ok nmX0 hin2 hK hW 0 rfl rfl 0 (by decide) (Nat.le_of_ble_eq_true rfl) rfl rfl rfl rfl w8 dX0_init_31 rfl (fun H locs hW => ?_)
  have hW : ze_W D ([(q, .inr (0, [.ref nw, .ref r0, .int 0, .ref r1, .ref r2])), (r0, .inl (c 3, 6, .inr (.inr (.inr (.inr (fun _ => none)))))), (r1, .inl (c 0, 6, .inl (fun _ => 0))), (r2, .inl (c 0, 6, .inl (fun _ => 0)))] : va_W) F s.heap _ _ := hW
  exact ze_gret (a2 := (fun i => ([0, 0, 0, 0, 0, 0, 0, 0, 0, 0, r0, r1, r2] : List Nat).getD i 0)) S hr hlocks hF hK hW dX0_init_34 (Nat.le_of_ble_eq_true rfl) (Nat.le_of_ble_eq_true rfl) rfl
set_option maxHeartbeats 4000000 in
set_option maxRecDepth 100000 in
theorem zi_X6 (l : Launch) (D : va_G) (c : Nat → ClassId) (q nw : Nat) : ze_VG l yX6_init wsX6_init 1 12 1 4 D c ([(q, .inr (6, [.null, .null, .int 0]))] : va_W) [.ref q, .ref nw] (fun an => ([(q, .inr (6, [.ref nw, .ref (an 14), .int 0])), (an 14, .inl (c 4, 4, .inr (.inr (.inr (.inr (fun _ => none))))))] : va_W)) := by
  intro sz
  refine zk_start rfl (cc := cX6_init) (maxL := 2) (ret := none) (own := RX6) (by decide) rfl rfl (Nat.le_of_ble_eq_true rfl) ?_
  intro p e s m_ below meth cd F ls hF hsz E0 hin2 hZ
  obtain ⟨S, hr, hlocks, hK, hW, hA, hl⟩ := E0
  have hX_ := S.1
  have hB_ := S.2.1
  have hts := S.2.2.2.2
  have hl : lv_has ls 2 [(0, .ref q), (1, .ref nw)] := hl
  have hiX6 : ∀ w ∈ u_ws RX6 TX6 3, w ∈ wsX6_init := fun _ h => (List.mem_cons_of_mem _ (List.mem_append_right _ h))
  have w0 := hts (.methodLink RX6 3 objectInit) (List.mem_cons_of_mem _ (List.mem_append_left _ (List.mem_of_getElem? (i := 0) rfl)))
  have w1 := hts (.instanceMethod objectInit) (List.mem_cons_of_mem _ (List.mem_append_left _ (List.mem_of_getElem? (i := 1) rfl)))
  have w2 := hts (.code objectInit ⟨#[0xb1]⟩ 1 none) (List.mem_cons_of_mem _ (List.mem_append_left _ (List.mem_of_getElem? (i := 2) rfl)))
  have w3 := hts (.classLink RX6 9 RX7) (List.mem_cons_of_mem _ (List.mem_append_left _ (List.mem_of_getElem? (i := 3) rfl)))
  have w4 := hts (.fieldLink RX6 11 "Islandgrid$Storage" "all" "[LIslandgrid$Store;") (List.mem_cons_of_mem _ (List.mem_append_left _ (List.mem_of_getElem? (i := 4) rfl)))
  have w5 := hts (.fieldLink RX6 17 "Islandgrid$Storage" "network" "LIslandgrid$Network;") (List.mem_cons_of_mem _ (List.mem_append_left _ (List.mem_of_getElem? (i := 5) rfl)))
  refine lv_aload_n hX_ hB_ dX6_init_0 rfl (lv_at hl 0 rfl) ?_
  refine ze_obj S hl.1 w0 w1 w2 dX6_init_1 ⟨Nat.le_of_ble_eq_true rfl, Nat.le_of_ble_eq_true rfl⟩ ?_
  refine lv_aload_n hX_ hB_ dX6_init_4 rfl (lv_at hl 0 rfl) ?_
  refine lv_iconst (v := 4) hX_ hB_ dX6_init_5 (by decide) ?_
  refine ze_newT (N := 4) S w3 hZ hK hW hA (by decide) (Nat.le_of_ble_eq_true rfl) (Nat.le_of_ble_eq_true rfl) dX6_init_6 (fun r0 H hW => ?_)
  have hW : ze_W D ([(q, .inr (6, [.null, .null, .int 0])), (r0, .inl (c 4, 4, .inr (.inr (.inr (.inr (fun _ => none))))))] : va_W) F s.heap _ _ := hW
  refine ze_putF (ci := 6) (C := RX6) (T := TX6) (N := 3) (v := .ref r0) S hiX6 tyX6 tyX6_ok nmX6 hin2 hK hW 0 rfl rfl 1 (by decide) (Nat.le_of_ble_eq_true rfl) rfl rfl rfl rfl w4 dX6_init_9 rfl (fun H locs hW => ?_)
  have hW : ze_W D ([(q, .inr (6, [.null, .ref r0, .int 0])), (r0, .inl (c 4, 4, .inr (.inr (.inr (.inr (fun _ => none))))))] : va_W) F s.heap _ _ := hW
  refine lv_aload_n hX_ hB_ dX6_init_12 rfl (lv_at hl 0 rfl) ?_
  refine lv_aload_n hX_ hB_ dX6_init_13 rfl (lv_at hl 1 rfl) ?_
  refine ze_putF (ci := 6) (C := RX6) (T := TX6) (N := 3) (v := .ref nw) S hiX6 tyX6 tyX6_ok nmX6 hin2 hK hW 0 rfl rfl 0 (by decide) (Nat.le_of_ble_eq_true rfl) rfl rfl rfl rfl w5 dX6_init_14 rfl (fun H locs hW => ?_)
  have hW : ze_W D ([(q, .inr (6, [.ref nw, .ref r0, .int 0])), (r0, .inl (c 4, 4, .inr (.inr (.inr (.inr (fun _ => none))))))] : va_W) F s.heap _ _ := hW
  exact ze_gret (a2 := (fun i => ([0, 0, 0, 0, 0, 0, 0, 0, 0, 0, 0, 0, 0, 0, r0] : List Nat).getD i 0)) S hr hlocks hF hK hW dX6_init_17 (Nat.le_of_ble_eq_true rfl) (Nat.le_of_ble_eq_true rfl) rfl
set_option maxHeartbeats 4000000 in
set_option maxRecDepth 100000 in
theorem zi_X4 (l : Launch) (D : va_G) (c : Nat → ClassId) (q nw : Nat) : ze_VG l yX4_init wsX4_init 1 12 1 10 D c ([(q, .inr (4, [.null, .null, .int 0]))] : va_W) [.ref q, .ref nw] (fun an => ([(q, .inr (4, [.ref nw, .ref (an 16), .int 0])), (an 16, .inl (c 5, 10, .inr (.inr (.inr (.inr (fun _ => none))))))] : va_W)) := by
  intro sz
  refine zk_start rfl (cc := cX4_init) (maxL := 2) (ret := none) (own := RX4) (by decide) rfl rfl (Nat.le_of_ble_eq_true rfl) ?_
  intro p e s m_ below meth cd F ls hF hsz E0 hin2 hZ
  obtain ⟨S, hr, hlocks, hK, hW, hA, hl⟩ := E0
  have hX_ := S.1
  have hB_ := S.2.1
  have hts := S.2.2.2.2
  have hl : lv_has ls 2 [(0, .ref q), (1, .ref nw)] := hl
  have hiX4 : ∀ w ∈ u_ws RX4 TX4 3, w ∈ wsX4_init := fun _ h => (List.mem_cons_of_mem _ (List.mem_append_right _ h))
  have w0 := hts (.methodLink RX4 3 objectInit) (List.mem_cons_of_mem _ (List.mem_append_left _ (List.mem_of_getElem? (i := 0) rfl)))
  have w1 := hts (.instanceMethod objectInit) (List.mem_cons_of_mem _ (List.mem_append_left _ (List.mem_of_getElem? (i := 1) rfl)))
  have w2 := hts (.code objectInit ⟨#[0xb1]⟩ 1 none) (List.mem_cons_of_mem _ (List.mem_append_left _ (List.mem_of_getElem? (i := 2) rfl)))
  have w3 := hts (.classLink RX4 9 RX3) (List.mem_cons_of_mem _ (List.mem_append_left _ (List.mem_of_getElem? (i := 3) rfl)))
  have w4 := hts (.fieldLink RX4 11 "Islandgrid$Loads" "all" "[LIslandgrid$Load;") (List.mem_cons_of_mem _ (List.mem_append_left _ (List.mem_of_getElem? (i := 4) rfl)))
  have w5 := hts (.fieldLink RX4 17 "Islandgrid$Loads" "network" "LIslandgrid$Network;") (List.mem_cons_of_mem _ (List.mem_append_left _ (List.mem_of_getElem? (i := 5) rfl)))
  refine lv_aload_n hX_ hB_ dX4_init_0 rfl (lv_at hl 0 rfl) ?_
  refine ze_obj S hl.1 w0 w1 w2 dX4_init_1 ⟨Nat.le_of_ble_eq_true rfl, Nat.le_of_ble_eq_true rfl⟩ ?_
  refine lv_aload_n hX_ hB_ dX4_init_4 rfl (lv_at hl 0 rfl) ?_
  refine lv_bipush (v := 10) hX_ hB_ dX4_init_5 (by decide) ?_
  refine ze_newL (N := 10) S w3 hZ hK hW hA (by decide) (Nat.le_of_ble_eq_true rfl) (Nat.le_of_ble_eq_true rfl) dX4_init_7 (fun r0 H hW => ?_)
  have hW : ze_W D ([(q, .inr (4, [.null, .null, .int 0])), (r0, .inl (c 5, 10, .inr (.inr (.inr (.inr (fun _ => none))))))] : va_W) F s.heap _ _ := hW
  refine ze_putF (ci := 4) (C := RX4) (T := TX4) (N := 3) (v := .ref r0) S hiX4 tyX4 tyX4_ok nmX4 hin2 hK hW 0 rfl rfl 1 (by decide) (Nat.le_of_ble_eq_true rfl) rfl rfl rfl rfl w4 dX4_init_10 rfl (fun H locs hW => ?_)
  have hW : ze_W D ([(q, .inr (4, [.null, .ref r0, .int 0])), (r0, .inl (c 5, 10, .inr (.inr (.inr (.inr (fun _ => none))))))] : va_W) F s.heap _ _ := hW
  refine lv_aload_n hX_ hB_ dX4_init_13 rfl (lv_at hl 0 rfl) ?_
  refine lv_aload_n hX_ hB_ dX4_init_14 rfl (lv_at hl 1 rfl) ?_
  refine ze_putF (ci := 4) (C := RX4) (T := TX4) (N := 3) (v := .ref nw) S hiX4 tyX4 tyX4_ok nmX4 hin2 hK hW 0 rfl rfl 0 (by decide) (Nat.le_of_ble_eq_true rfl) rfl rfl rfl rfl w5 dX4_init_15 rfl (fun H locs hW => ?_)
  have hW : ze_W D ([(q, .inr (4, [.ref nw, .ref r0, .int 0])), (r0, .inl (c 5, 10, .inr (.inr (.inr (.inr (fun _ => none))))))] : va_W) F s.heap _ _ := hW
  exact ze_gret (a2 := (fun i => ([0, 0, 0, 0, 0, 0, 0, 0, 0, 0, 0, 0, 0, 0, 0, 0, r0] : List Nat).getD i 0)) S hr hlocks hF hK hW dX4_init_18 (Nat.le_of_ble_eq_true rfl) (Nat.le_of_ble_eq_true rfl) rfl
set_option maxHeartbeats 4000000 in
set_option maxRecDepth 100000 in
theorem zi_X2 (l : Launch) (D : va_G) (c : Nat → ClassId) (q : Nat) : ze_VG l yX2_init wsX2_init 1 12 0 0 D c ([(q, .inr (2, [.int 0, .long 0, .long 0, .long 0, .long 0, .long 0]))] : va_W) [.ref q] (fun an => ([(q, .inr (2, [.int 0, .long 0, .long 0, .long 0, .long 0, .long 0]))] : va_W)) := by
  intro sz
  refine zk_start rfl (cc := cX2_init) (maxL := 1) (ret := none) (own := RX2) (by decide) rfl rfl (Nat.le_of_ble_eq_true rfl) ?_
  intro p e s m_ below meth cd F ls hF hsz E0 hin2 hZ
  obtain ⟨S, hr, hlocks, hK, hW, hA, hl⟩ := E0
  have hX_ := S.1
  have hB_ := S.2.1
  have hts := S.2.2.2.2
  have hl : lv_has ls 1 [(0, .ref q)] := hl
  have w0 := hts (.methodLink RX2 1 objectInit) (List.mem_cons_of_mem _ (List.mem_of_getElem? (i := 0) rfl))
  have w1 := hts (.instanceMethod objectInit) (List.mem_cons_of_mem _ (List.mem_of_getElem? (i := 1) rfl))
  have w2 := hts (.code objectInit ⟨#[0xb1]⟩ 1 none) (List.mem_cons_of_mem _ (List.mem_of_getElem? (i := 2) rfl))
  refine lv_aload_n hX_ hB_ dX2_init_0 rfl (lv_at hl 0 rfl) ?_
  refine ze_obj S hl.1 w0 w1 w2 dX2_init_1 ⟨Nat.le_of_ble_eq_true rfl, Nat.le_of_ble_eq_true rfl⟩ ?_
  exact ze_gret (a2 := (fun _ => 0)) S hr hlocks hF hK hW dX2_init_4 (Nat.le_of_ble_eq_true rfl) (Nat.le_of_ble_eq_true rfl) rfl
set_option maxHeartbeats 4000000 in
set_option maxRecDepth 100000 in
theorem zi_X8 (l : Launch) (D : va_G) (c : Nat → ClassId) (q : Nat) : ze_VG l yX8_init wsX8_init 2 33 17 107 D c ([(q, .inr (8, [.null, .null, .null, .null, .null, .int 0, .int 0, .int 0]))] : va_W) [.ref q] (fun an => ([(q, .inr (8, [.ref (an 1), .ref (an 9), .ref (an 13), .ref (an 15), .ref (an 17), .int 0, .int 2, .int 0])), (an 1, .inr (5, [.int 0, .int 0, .int 0, .ref (an 2), .ref (an 3), .ref (an 4), .ref (an 5), .ref (an 6), .ref (an 7), .ref (an 8)])), (an 2, .inl (c 0, 6, .inl (fun _ => 0))), (an 3, .inl (c 0, 6, .inl (fun _ => 0))), (an 4, .inl (c 0, 8, .inl (fun _ => 0))), (an 5, .inl (c 0, 8, .inl (fun _ => 0))), (an 6, .inl (c 1, 8, .inl (fun _ => 0))), (an 7, .inl (c 0, 6, .inl (fun _ => 0))), (an 8, .inl (c 0, 6, .inl (fun _ => 0))), (an 9, .inr (0, [.ref (an 1), .ref (an 10), .int 0, .ref (an 11), .ref (an 12)])), (an 10, .inl (c 3, 6, .inr (.inr (.inr (.inr (fun _ => none)))))), (an 11, .inl (c 0, 6, .inl (fun _ => 0))), (an 12, .inl (c 0, 6, .inl (fun _ => 0))), (an 13, .inr (6, [.ref (an 1), .ref (an 14), .int 0])), (an 14, .inl (c 4, 4, .inr (.inr (.inr (.inr (fun _ => none)))))), (an 15, .inr (4, [.ref (an 1), .ref (an 16), .int 0])), (an 16, .inl (c 5, 10, .inr (.inr (.inr (.inr (fun _ => none)))))), (an 17, .inr (2, [.int 0, .long 0, .long 0, .long 0, .long 0, .long 0]))] : va_W)) := by
  intro sz
  refine zk_start rfl (cc := cX8_init) (maxL := 1) (ret := none) (own := RX8) (by decide) rfl rfl (Nat.le_of_ble_eq_true rfl) ?_
  intro p e s m_ below meth cd F ls hF hsz E0 hin2 hZ
  obtain ⟨S, hr, hlocks, hK, hW, hA, hl⟩ := E0
  have hX_ := S.1
  have hB_ := S.2.1
  have hts := S.2.2.2.2
  have hl : lv_has ls 1 [(0, .ref q)] := hl
  have hiX0 : ∀ w ∈ u_ws RX0 TX0 5, w ∈ wsX8_init := fun _ h => (List.mem_cons_of_mem _ (List.mem_append_left _ (List.mem_append_left _ (List.mem_append_left _ (List.mem_append_right _ h)))))
  have hiX2 : ∀ w ∈ u_ws RX2 TX2 6, w ∈ wsX8_init := fun _ h => (List.mem_cons_of_mem _ (List.mem_append_right _ h))
  have hiX4 : ∀ w ∈ u_ws RX4 TX4 3, w ∈ wsX8_init := fun _ h => (List.mem_cons_of_mem _ (List.mem_append_left _ (List.mem_append_right _ h)))
  have hiX5 : ∀ w ∈ u_ws RX5 TX5 10, w ∈ wsX8_init := fun _ h => (List.mem_cons_of_mem _ (List.mem_append_left _ (List.mem_append_left _ (List.mem_append_left _ (List.mem_append_left _ (List.mem_append_left _ (List.mem_append_right _ h)))))))
  have hiX6 : ∀ w ∈ u_ws RX6 TX6 3, w ∈ wsX8_init := fun _ h => (List.mem_cons_of_mem _ (List.mem_append_left _ (List.mem_append_left _ (List.mem_append_right _ h))))
  have hiX8 : ∀ w ∈ u_ws RX8 TX8 8, w ∈ wsX8_init := fun _ h => (List.mem_cons_of_mem _ (List.mem_append_left _ (List.mem_append_left _ (List.mem_append_left _ (List.mem_append_left _ (List.mem_append_right _ h))))))
  have w0 := hts (.methodLink RX8 1 objectInit) (List.mem_cons_of_mem _ (List.mem_append_left _ (List.mem_append_left _ (List.mem_append_left _ (List.mem_append_left _ (List.mem_append_left _ (List.mem_append_left _ (List.mem_append_left _ (List.mem_of_getElem? (i := 0) rfl)))))))))
  have w1 := hts (.instanceMethod objectInit) (List.mem_cons_of_mem _ (List.mem_append_left _ (List.mem_append_left _ (List.mem_append_left _ (List.mem_append_left _ (List.mem_append_left _ (List.mem_append_left _ (List.mem_append_left _ (List.mem_of_getElem? (i := 1) rfl)))))))))
  have w2 := hts (.code objectInit ⟨#[0xb1]⟩ 1 none) (List.mem_cons_of_mem _ (List.mem_append_left _ (List.mem_append_left _ (List.mem_append_left _ (List.mem_append_left _ (List.mem_append_left _ (List.mem_append_left _ (List.mem_append_left _ (List.mem_of_getElem? (i := 2) rfl)))))))))
  have w3 := hts (.classLink RX8 7 RX5) (List.mem_cons_of_mem _ (List.mem_append_left _ (List.mem_append_left _ (List.mem_append_left _ (List.mem_append_left _ (List.mem_append_left _ (List.mem_append_left _ (List.mem_append_left _ (List.mem_of_getElem? (i := 3) rfl)))))))))
  have w4 := hts (.instantiable RX5 10) (List.mem_cons_of_mem _ (List.mem_append_left _ (List.mem_append_left _ (List.mem_append_left _ (List.mem_append_left _ (List.mem_append_left _ (List.mem_append_left _ (List.mem_append_left _ (List.mem_of_getElem? (i := 4) rfl)))))))))
  have w5 := hts (.initialized RX5) (List.mem_cons_of_mem _ (List.mem_append_left _ (List.mem_append_left _ (List.mem_append_left _ (List.mem_append_left _ (List.mem_append_left _ (List.mem_append_left _ (List.mem_append_left _ (List.mem_of_getElem? (i := 5) rfl)))))))))
  have w6 := hts (.instanceMethod yX5_init) (List.mem_cons_of_mem _ (List.mem_append_left _ (List.mem_append_left _ (List.mem_append_left _ (List.mem_append_left _ (List.mem_append_left _ (List.mem_append_left _ (List.mem_append_right _ (List.mem_append_left _ (List.mem_of_getElem? (i := 0) rfl))))))))))
  have w7 := hts (.fieldLink RX8 10 "Islandgrid" "network" "LIslandgrid$Network;") (List.mem_cons_of_mem _ (List.mem_append_left _ (List.mem_append_left _ (List.mem_append_left _ (List.mem_append_left _ (List.mem_append_left _ (List.mem_append_left _ (List.mem_append_left _ (List.mem_of_getElem? (i := 6) rfl)))))))))
  have w8 := hts (.classLink RX8 16 RX0) (List.mem_cons_of_mem _ (List.mem_append_left _ (List.mem_append_left _ (List.mem_append_left _ (List.mem_append_left _ (List.mem_append_left _ (List.mem_append_left _ (List.mem_append_left _ (List.mem_of_getElem? (i := 7) rfl)))))))))
  have w9 := hts (.instantiable RX0 5) (List.mem_cons_of_mem _ (List.mem_append_left _ (List.mem_append_left _ (List.mem_append_left _ (List.mem_append_left _ (List.mem_append_left _ (List.mem_append_left _ (List.mem_append_left _ (List.mem_of_getElem? (i := 8) rfl)))))))))
  have w10 := hts (.initialized RX0) (List.mem_cons_of_mem _ (List.mem_append_left _ (List.mem_append_left _ (List.mem_append_left _ (List.mem_append_left _ (List.mem_append_left _ (List.mem_append_left _ (List.mem_append_left _ (List.mem_of_getElem? (i := 9) rfl)))))))))
  have w11 := hts (.instanceMethod yX0_init) (List.mem_cons_of_mem _ (List.mem_append_left _ (List.mem_append_left _ (List.mem_append_left _ (List.mem_append_left _ (List.mem_append_left _ (List.mem_append_left _ (List.mem_append_right _ (List.mem_append_left _ (List.mem_of_getElem? (i := 13) rfl))))))))))
  have w12 := hts (.methodLink RX8 18 yX0_init) (List.mem_cons_of_mem _ (List.mem_append_left _ (List.mem_append_left _ (List.mem_append_left _ (List.mem_append_left _ (List.mem_append_left _ (List.mem_append_left _ (List.mem_append_right _ (List.mem_append_left _ (List.mem_of_getElem? (i := 12) rfl))))))))))
  have w13 := hts (.fieldLink RX8 21 "Islandgrid" "fleet" "LIslandgrid$Fleet;") (List.mem_cons_of_mem _ (List.mem_append_left _ (List.mem_append_left _ (List.mem_append_left _ (List.mem_append_left _ (List.mem_append_left _ (List.mem_append_left _ (List.mem_append_left _ (List.mem_of_getElem? (i := 10) rfl)))))))))
  have w14 := hts (.classLink RX8 25 RX6) (List.mem_cons_of_mem _ (List.mem_append_left _ (List.mem_append_left _ (List.mem_append_left _ (List.mem_append_left _ (List.mem_append_left _ (List.mem_append_left _ (List.mem_append_left _ (List.mem_of_getElem? (i := 11) rfl)))))))))
  have w15 := hts (.instantiable RX6 3) (List.mem_cons_of_mem _ (List.mem_append_left _ (List.mem_append_left _ (List.mem_append_left _ (List.mem_append_left _ (List.mem_append_left _ (List.mem_append_left _ (List.mem_append_left _ (List.mem_of_getElem? (i := 12) rfl)))))))))
  have w16 := hts (.initialized RX6) (List.mem_cons_of_mem _ (List.mem_append_left _ (List.mem_append_left _ (List.mem_append_left _ (List.mem_append_left _ (List.mem_append_left _ (List.mem_append_left _ (List.mem_append_left _ (List.mem_of_getElem? (i := 13) rfl)))))))))
  have w17 := hts (.instanceMethod yX6_init) (List.mem_cons_of_mem _ (List.mem_append_left _ (List.mem_append_left _ (List.mem_append_left _ (List.mem_append_left _ (List.mem_append_left _ (List.mem_append_left _ (List.mem_append_right _ (List.mem_append_left _ (List.mem_of_getElem? (i := 22) rfl))))))))))
  have w18 := hts (.methodLink RX8 27 yX6_init) (List.mem_cons_of_mem _ (List.mem_append_left _ (List.mem_append_left _ (List.mem_append_left _ (List.mem_append_left _ (List.mem_append_left _ (List.mem_append_left _ (List.mem_append_right _ (List.mem_append_left _ (List.mem_of_getElem? (i := 21) rfl))))))))))
  have w19 := hts (.fieldLink RX8 28 "Islandgrid" "storage" "LIslandgrid$Storage;") (List.mem_cons_of_mem _ (List.mem_append_left _ (List.mem_append_left _ (List.mem_append_left _ (List.mem_append_left _ (List.mem_append_left _ (List.mem_append_left _ (List.mem_append_left _ (List.mem_of_getElem? (i := 14) rfl)))))))))
  have w20 := hts (.classLink RX8 32 RX4) (List.mem_cons_of_mem _ (List.mem_append_left _ (List.mem_append_left _ (List.mem_append_left _ (List.mem_append_left _ (List.mem_append_left _ (List.mem_append_left _ (List.mem_append_left _ (List.mem_of_getElem? (i := 15) rfl)))))))))
  have w21 := hts (.instantiable RX4 3) (List.mem_cons_of_mem _ (List.mem_append_left _ (List.mem_append_left _ (List.mem_append_left _ (List.mem_append_left _ (List.mem_append_left _ (List.mem_append_left _ (List.mem_append_left _ (List.mem_of_getElem? (i := 16) rfl)))))))))
  have w22 := hts (.initialized RX4) (List.mem_cons_of_mem _ (List.mem_append_left _ (List.mem_append_left _ (List.mem_append_left _ (List.mem_append_left _ (List.mem_append_left _ (List.mem_append_left _ (List.mem_append_left _ (List.mem_of_getElem? (i := 17) rfl)))))))))
  have w23 := hts (.instanceMethod yX4_init) (List.mem_cons_of_mem _ (List.mem_append_left _ (List.mem_append_left _ (List.mem_append_left _ (List.mem_append_left _ (List.mem_append_left _ (List.mem_append_left _ (List.mem_append_right _ (List.mem_append_right _ (List.mem_of_getElem? (i := 5) rfl))))))))))
  have w24 := hts (.methodLink RX8 34 yX4_init) (List.mem_cons_of_mem _ (List.mem_append_left _ (List.mem_append_left _ (List.mem_append_left _ (List.mem_append_left _ (List.mem_append_left _ (List.mem_append_left _ (List.mem_append_right _ (List.mem_append_right _ (List.mem_of_getElem? (i := 4) rfl))))))))))
  have w25 := hts (.fieldLink RX8 35 "Islandgrid" "loads" "LIslandgrid$Loads;") (List.mem_cons_of_mem _ (List.mem_append_left _ (List.mem_append_left _ (List.mem_append_left _ (List.mem_append_left _ (List.mem_append_left _ (List.mem_append_left _ (List.mem_append_left _ (List.mem_of_getElem? (i := 18) rfl)))))))))
  have w26 := hts (.classLink RX8 39 RX2) (List.mem_cons_of_mem _ (List.mem_append_left _ (List.mem_append_left _ (List.mem_append_left _ (List.mem_append_left _ (List.mem_append_left _ (List.mem_append_left _ (List.mem_append_left _ (List.mem_of_getElem? (i := 19) rfl)))))))))
  have w27 := hts (.instantiable RX2 6) (List.mem_cons_of_mem _ (List.mem_append_left _ (List.mem_append_left _ (List.mem_append_left _ (List.mem_append_left _ (List.mem_append_left _ (List.mem_append_left _ (List.mem_append_left _ (List.mem_of_getElem? (i := 20) rfl)))))))))
  have w28 := hts (.initialized RX2) (List.mem_cons_of_mem _ (List.mem_append_left _ (List.mem_append_left _ (List.mem_append_left _ (List.mem_append_left _ (List.mem_append_left _ (List.mem_append_left _ (List.mem_append_left _ (List.mem_of_getElem? (i := 21) rfl)))))))))
  have w29 := hts (.instanceMethod yX2_init) (List.mem_cons_of_mem _ (List.mem_append_left _ (List.mem_append_left _ (List.mem_append_left _ (List.mem_append_left _ (List.mem_append_left _ (List.mem_append_left _ (List.mem_append_right _ (List.mem_append_right _ (List.mem_of_getElem? (i := 11) rfl))))))))))
  have w30 := hts (.fieldLink RX8 42 "Islandgrid" "ledger" "LIslandgrid$Ledger;") (List.mem_cons_of_mem _ (List.mem_append_left _ (List.mem_append_left _ (List.mem_append_left _ (List.mem_append_left _ (List.mem_append_left _ (List.mem_append_left _ (List.mem_append_left _ (List.mem_of_getElem? (i := 22) rfl)))))))))
  have w31 := hts (.fieldLink RX8 46 "Islandgrid" "delay" "I") (List.mem_cons_of_mem _ (List.mem_append_left _ (List.mem_append_left _ (List.mem_append_left _ (List.mem_append_left _ (List.mem_append_left _ (List.mem_append_left _ (List.mem_append_left _ (List.mem_of_getElem? (i := 23) rfl)))))))))
  refine lv_aload_n hX_ hB_ dX8_init_0 rfl (lv_at hl 0 rfl) ?_
  refine ze_obj S hl.1 w0 w1 w2 dX8_init_1 ⟨Nat.le_of_ble_eq_true rfl, Nat.le_of_ble_eq_true rfl⟩ ?_
  refine lv_aload_n hX_ hB_ dX8_init_4 rfl (lv_at hl 0 rfl) ?_
  refine ze_new (ci := 5) (C := RX5) (T := TX5) (N := 10) (fs := [.int 0, .int 0, .int 0, .null, .null, .null, .null, .null, .null, .null]) S hiX5 tyX5 tyX5_ok w3 w4 w5 hK hW hA rfl (by decide) (Nat.le_of_ble_eq_true rfl) (Nat.le_of_ble_eq_true rfl) dX8_init_5 (fun r0 H hW => ?_)
  refine lv_dup hX_ hB_ dX8_init_8 rfl ?_
  have hW := ze_Wc hW
  refine ze_FNg (As := []) (rest := [.ref r0, .ref q]) S (zi_X5 l D c r0) ⟨va_cnB 0 hts gX8_init_X5_init_n9 rfl rfl rfl hZ.2.2.2.1 w5 (by decide +kernel) ⟨Nat.le_of_ble_eq_true rfl, Nat.le_of_ble_eq_true rfl⟩, rfl, w6⟩ hZ hK hW hA rfl hl.1 rfl (lv_room (Nat.le_of_ble_eq_true rfl)) dX8_init_9 ⟨Nat.le_of_ble_eq_true rfl, Nat.le_of_ble_eq_true rfl⟩ (fun an1 H locs hW => ?_)
  have hW := ze_Wc hW
  have hW : ze_W D ([(q, .inr (8, [.null, .null, .null, .null, .null, .int 0, .int 0, .int 0])), (r0, .inr (5, [.int 0, .int 0, .int 0, .ref (an1 2), .ref (an1 3), .ref (an1 4), .ref (an1 5), .ref (an1 6), .ref (an1 7), .ref (an1 8)])), (an1 2, .inl (c 0, 6, .inl (fun _ => 0))), (an1 3, .inl (c 0, 6, .inl (fun _ => 0))), (an1 4, .inl (c 0, 8, .inl (fun _ => 0))), (an1 5, .inl (c 0, 8, .inl (fun _ => 0))), (an1 6, .inl (c 1, 8, .inl (fun _ => 0))), (an1 7, .inl (c 0, 6, .inl (fun _ => 0))), (an1 8, .inl (c 0, 6, .inl (fun _ => 0)))] : va_W) F s.heap _ _ := hW
  refine ze_putF (ci := 8) (C := RX8) (T := TX8) (N := 8) (v := .ref r0) S hiX8 tyX8 tyX8_ok nmX8 hin2 hK hW 0 rfl rfl 0 (by decide) (Nat.le_of_ble_eq_true rfl) rfl rfl rfl rfl w7 dX8_init_12 rfl (fun H locs hW => ?_)
  have hW : ze_W D ([(q, .inr (8, [.ref r0, .null, .null, .null, .null, .int 0, .int 0, .int 0])), (r0, .inr (5, [.int 0, .int 0, .int 0, .ref (an1 2), .ref (an1 3), .ref (an1 4), .ref (an1 5), .ref (an1 6), .ref (an1 7), .ref (an1 8)])), (an1 2, .inl (c 0, 6, .inl (fun _ => 0))), (an1 3, .inl (c 0, 6, .inl (fun _ => 0))), (an1 4, .inl (c 0, 8, .inl (fun _ => 0))), (an1 5, .inl (c 0, 8, .inl (fun _ => 0))), (an1 6, .inl (c 1, 8, .inl (fun _ => 0))), (an1 7, .inl (c 0, 6, .inl (fun _ => 0))), (an1 8, .inl (c 0, 6, .inl (fun _ => 0)))] : va_W) F s.heap _ _ := hW
  refine lv_aload_n hX_ hB_ dX8_init_15 rfl (lv_at hl 0 rfl) ?_
  refine ze_new (ci := 0) (C := RX0) (T := TX0) (N := 5) (fs := [.null, .null, .int 0, .null, .null]) S hiX0 tyX0 tyX0_ok w8 w9 w10 hK hW hA rfl (by decide) (Nat.le_of_ble_eq_true rfl) (Nat.le_of_ble_eq_true rfl) dX8_init_16 (fun r2 H hW => ?_)
  refine lv_dup hX_ hB_ dX8_init_19 rfl ?_
  refine lv_aload_n hX_ hB_ dX8_init_20 rfl (lv_at hl 0 rfl) ?_
  refine ze_get (ci := 8) (C := RX8) (T := TX8) (N := 8) (v := .ref r0) S hiX8 hK hW 0 rfl rfl 0 (by decide) rfl w7 dX8_init_21 ?_
  have hW := ze_Wc hW
  refine ze_FIg (As := [.ref r0]) (rest := [.ref r2, .ref q]) S (zi_X0 l D c r2 r0) (cwI 1 hts gX8_init_X0_init rfl rfl rfl w10 w12 w11 rfl (by decide +kernel) ⟨Nat.le_of_ble_eq_true rfl, Nat.le_of_ble_eq_true rfl⟩) hZ hK hW hA rfl hl.1 rfl (lv_room (Nat.le_of_ble_eq_true rfl)) dX8_init_24 ⟨Nat.le_of_ble_eq_true rfl, Nat.le_of_ble_eq_true rfl⟩ (fun an3 H locs hW => ?_)
  have hW := ze_Wc hW
  have hW : ze_W D ([(q, .inr (8, [.ref r0, .null, .null, .null, .null, .int 0, .int 0, .int 0])), (r0, .inr (5, [.int 0, .int 0, .int 0, .ref (an1 2), .ref (an1 3), .ref (an1 4), .ref (an1 5), .ref (an1 6), .ref (an1 7), .ref (an1 8)])), (an1 2, .inl (c 0, 6, .inl (fun _ => 0))), (an1 3, .inl (c 0, 6, .inl (fun _ => 0))), (an1 4, .inl (c 0, 8, .inl (fun _ => 0))), (an1 5, .inl (c 0, 8, .inl (fun _ => 0))), (an1 6, .inl (c 1, 8, .inl (fun _ => 0))), (an1 7, .inl (c 0, 6, .inl (fun _ => 0))), (an1 8, .inl (c 0, 6, .inl (fun _ => 0))), (r2, .inr (0, [.ref r0, .ref (an3 10), .int 0, .ref (an3 11), .ref (an3 12)])), (an3 10, .inl (c 3, 6, .inr (.inr (.inr (.inr (fun _ => none)))))), (an3 11, .inl (c 0, 6, .inl (fun _ => 0))), (an3 12, .inl (c 0, 6, .inl (fun _ => 0)))] : va_W) F s.heap _ _ := hW
  refine ze_putF (ci := 8) (C := RX8) (T := TX8) (N := 8) (v := .ref r2) S hiX8 tyX8 tyX8_ok nmX8 hin2 hK hW 0 rfl rfl 1 (by decide) (Nat.le_of_ble_eq_true rfl) rfl rfl rfl rfl w13 dX8_init_27 rfl (fun H locs hW => ?_)
  have hW : ze_W D ([(q, .inr (8, [.ref r0, .ref r2, .null, .null, .null, .int 0, .int 0, .int 0])), (r0, .inr (5, [.int 0, .int 0, .int 0, .ref (an1 2), .ref (an1 3), .ref (an1 4), .ref (an1 5), .ref (an1 6), .ref (an1 7), .ref (an1 8)])), (an1 2, .inl (c 0, 6, .inl (fun _ => 0))), (an1 3, .inl (c 0, 6, .inl (fun _ => 0))), (an1 4, .inl (c 0, 8, .inl (fun _ => 0))), (an1 5, .inl (c 0, 8, .inl (fun _ => 0))), (an1 6, .inl (c 1, 8, .inl (fun _ => 0))), (an1 7, .inl (c 0, 6, .inl (fun _ => 0))), (an1 8, .inl (c 0, 6, .inl (fun _ => 0))), (r2, .inr (0, [.ref r0, .ref (an3 10), .int 0, .ref (an3 11), .ref (an3 12)])), (an3 10, .inl (c 3, 6, .inr (.inr (.inr (.inr (fun _ => none)))))), (an3 11, .inl (c 0, 6, .inl (fun _ => 0))), (an3 12, .inl (c 0, 6, .inl (fun _ => 0)))] : va_W) F s.heap _ _ := hW
  refine lv_aload_n hX_ hB_ dX8_init_30 rfl (lv_at hl 0 rfl) ?_
  refine ze_new (ci := 6) (C := RX6) (T := TX6) (N := 3) (fs := [.null, .null, .int 0]) S hiX6 tyX6 tyX6_ok w14 w15 w16 hK hW hA rfl (by decide) (Nat.le_of_ble_eq_true rfl) (Nat.le_of_ble_eq_true rfl) dX8_init_31 (fun r4 H hW => ?_)
  refine lv_dup hX_ hB_ dX8_init_34 rfl ?_
  refine lv_aload_n hX_ hB_ dX8_init_35 rfl (lv_at hl 0 rfl) ?_
  refine ze_get (ci := 8) (C := RX8) (T := TX8) (N := 8) (v := .ref r0) S hiX8 hK hW 0 rfl rfl 0 (by decide) rfl w7 dX8_init_36 ?_
  have hW := ze_Wc hW
  refine ze_FIg (As := [.ref r0]) (rest := [.ref r4, .ref q]) S (zi_X6 l D c r4 r0) (cwI 1 hts gX8_init_X6_init rfl rfl rfl w16 w18 w17 rfl (by decide +kernel) ⟨Nat.le_of_ble_eq_true rfl, Nat.le_of_ble_eq_true rfl⟩) hZ hK hW hA rfl hl.1 rfl (lv_room (Nat.le_of_ble_eq_true rfl)) dX8_init_39 ⟨Nat.le_of_ble_eq_true rfl, Nat.le_of_ble_eq_true rfl⟩ (fun an5 H locs hW => ?_)
  have hW := ze_Wc hW
  have hW : ze_W D ([(q, .inr (8, [.ref r0, .ref r2, .null, .null, .null, .int 0, .int 0, .int 0])), (r0, .inr (5, [.int 0, .int 0, .int 0, .ref (an1 2), .ref (an1 3), .ref (an1 4), .ref (an1 5), .ref (an1 6), .ref (an1 7), .ref (an1 8)])), (an1 2, .inl (c 0, 6, .inl (fun _ => 0))), (an1 3, .inl (c 0, 6, .inl (fun _ => 0))), (an1 4, .inl (c 0, 8, .inl (fun _ => 0))), (an1 5, .inl (c 0, 8, .inl (fun _ => 0))), (an1 6, .inl (c 1, 8, .inl (fun _ => 0))), (an1 7, .inl (c 0, 6, .inl (fun _ => 0))), (an1 8, .inl (c 0, 6, .inl (fun _ => 0))), (r2, .inr (0, [.ref r0, .ref (an3 10), .int 0, .ref (an3 11), .ref (an3 12)])), (an3 10, .inl (c 3, 6, .inr (.inr (.inr (.inr (fun _ => none)))))), (an3 11, .inl (c 0, 6, .inl (fun _ => 0))), (an3 12, .inl (c 0, 6, .inl (fun _ => 0))), (r4, .inr (6, [.ref r0, .ref (an5 14), .int 0])), (an5 14, .inl (c 4, 4, .inr (.inr (.inr (.inr (fun _ => none))))))] : va_W) F s.heap _ _ := hW
  refine ze_putF (ci := 8) (C := RX8) (T := TX8) (N := 8) (v := .ref r4) S hiX8 tyX8 tyX8_ok nmX8 hin2 hK hW 0 rfl rfl 2 (by decide) (Nat.le_of_ble_eq_true rfl) rfl rfl rfl rfl w19 dX8_init_42 rfl (fun H locs hW => ?_)
  have hW : ze_W D ([(q, .inr (8, [.ref r0, .ref r2, .ref r4, .null, .null, .int 0, .int 0, .int 0])), (r0, .inr (5, [.int 0, .int 0, .int 0, .ref (an1 2), .ref (an1 3), .ref (an1 4), .ref (an1 5), .ref (an1 6), .ref (an1 7), .ref (an1 8)])), (an1 2, .inl (c 0, 6, .inl (fun _ => 0))), (an1 3, .inl (c 0, 6, .inl (fun _ => 0))), (an1 4, .inl (c 0, 8, .inl (fun _ => 0))), (an1 5, .inl (c 0, 8, .inl (fun _ => 0))), (an1 6, .inl (c 1, 8, .inl (fun _ => 0))), (an1 7, .inl (c 0, 6, .inl (fun _ => 0))), (an1 8, .inl (c 0, 6, .inl (fun _ => 0))), (r2, .inr (0, [.ref r0, .ref (an3 10), .int 0, .ref (an3 11), .ref (an3 12)])), (an3 10, .inl (c 3, 6, .inr (.inr (.inr (.inr (fun _ => none)))))), (an3 11, .inl (c 0, 6, .inl (fun _ => 0))), (an3 12, .inl (c 0, 6, .inl (fun _ => 0))), (r4, .inr (6, [.ref r0, .ref (an5 14), .int 0])), (an5 14, .inl (c 4, 4, .inr (.inr (.inr (.inr (fun _ => none))))))] : va_W) F s.heap _ _ := hW
  refine lv_aload_n hX_ hB_ dX8_init_45 rfl (lv_at hl 0 rfl) ?_
  refine ze_new (ci := 4) (C := RX4) (T := TX4) (N := 3) (fs := [.null, .null, .int 0]) S hiX4 tyX4 tyX4_ok w20 w21 w22 hK hW hA rfl (by decide) (Nat.le_of_ble_eq_true rfl) (Nat.le_of_ble_eq_true rfl) dX8_init_46 (fun r6 H hW => ?_)
  refine lv_dup hX_ hB_ dX8_init_49 rfl ?_
  refine lv_aload_n hX_ hB_ dX8_init_50 rfl (lv_at hl 0 rfl) ?_
  refine ze_get (ci := 8) (C := RX8) (T := TX8) (N := 8) (v := .ref r0) S hiX8 hK hW 0 rfl rfl 0 (by decide) rfl w7 dX8_init_51 ?_
  have hW := ze_Wc hW
  refine ze_FIg (As := [.ref r0]) (rest := [.ref r6, .ref q]) S (zi_X4 l D c r6 r0) (cwI 1 hts gX8_init_X4_init rfl rfl rfl w22 w24 w23 rfl (by decide +kernel) ⟨Nat.le_of_ble_eq_true rfl, Nat.le_of_ble_eq_true rfl⟩) hZ hK hW hA rfl hl.1 rfl (lv_room (Nat.le_of_ble_eq_true rfl)) dX8_init_54 ⟨Nat.le_of_ble_eq_true rfl, Nat.le_of_ble_eq_true rfl⟩ (fun an7 H locs hW => ?_)
  have hW := ze_Wc hW
  have hW : ze_W D ([(q, .inr (8, [.ref r0, .ref r2, .ref r4, .null, .null, .int 0, .int 0, .int 0])), (r0, .inr (5, [.int 0, .int 0, .int 0, .ref (an1 2), .ref (an1 3), .ref (an1 4), .ref (an1 5), .ref (an1 6), .ref (an1 7), .ref (an1 8)])), (an1 2, .inl (c 0, 6, .inl (fun _ => 0))), (an1 3, .inl (c 0, 6, .inl (fun _ => 0))), (an1 4, .inl (c 0, 8, .inl (fun _ => 0))), (an1 5, .inl (c 0, 8, .inl (fun _ => 0))), (an1 6, .inl (c 1, 8, .inl (fun _ => 0))), (an1 7, .inl (c 0, 6, .inl (fun _ => 0))), (an1 8, .inl (c 0, 6, .inl (fun _ => 0))), (r2, .inr (0, [.ref r0, .ref (an3 10), .int 0, .ref (an3 11), .ref (an3 12)])), (an3 10, .inl (c 3, 6, .inr (.inr (.inr (.inr (fun _ => none)))))), (an3 11, .inl (c 0, 6, .inl (fun _ => 0))), (an3 12, .inl (c 0, 6, .inl (fun _ => 0))), (r4, .inr (6, [.ref r0, .ref (an5 14), .int 0])), (an5 14, .inl (c 4, 4, .inr (.inr (.inr (.inr (fun _ => none)))))), (r6, .inr (4, [.ref r0, .ref (an7 16), .int 0])), (an7 16, .inl (c 5, 10, .inr (.inr (.inr (.inr (fun _ => none))))))] : va_W) F s.heap _ _ := hW
  refine ze_putF (ci := 8) (C := RX8) (T := TX8) (N := 8) (v := .ref r6) S hiX8 tyX8 tyX8_ok nmX8 hin2 hK hW 0 rfl rfl 3 (by decide) (Nat.le_of_ble_eq_true rfl) rfl rfl rfl rfl w25 dX8_init_57 rfl (fun H locs hW => ?_)
  have hW : ze_W D ([(q, .inr (8, [.ref r0, .ref r2, .ref r4, .ref r6, .null, .int 0, .int 0, .int 0])), (r0, .inr (5, [.int 0, .int 0, .int 0, .ref (an1 2), .ref (an1 3), .ref (an1 4), .ref (an1 5), .ref (an1 6), .ref (an1 7), .ref (an1 8)])), (an1 2, .inl (c 0, 6, .inl (fun _ => 0))), (an1 3, .inl (c 0, 6, .inl (fun _ => 0))), (an1 4, .inl (c 0, 8, .inl (fun _ => 0))), (an1 5, .inl (c 0, 8, .inl (fun _ => 0))), (an1 6, .inl (c 1, 8, .inl (fun _ => 0))), (an1 7, .inl (c 0, 6, .inl (fun _ => 0))), (an1 8, .inl (c 0, 6, .inl (fun _ => 0))), (r2, .inr (0, [.ref r0, .ref (an3 10), .int 0, .ref (an3 11), .ref (an3 12)])), (an3 10, .inl (c 3, 6, .inr (.inr (.inr (.inr (fun _ => none)))))), (an3 11, .inl (c 0, 6, .inl (fun _ => 0))), (an3 12, .inl (c 0, 6, .inl (fun _ => 0))), (r4, .inr (6, [.ref r0, .ref (an5 14), .int 0])), (an5 14, .inl (c 4, 4, .inr (.inr (.inr (.inr (fun _ => none)))))), (r6, .inr (4, [.ref r0, .ref (an7 16), .int 0])), (an7 16, .inl (c 5, 10, .inr (.inr (.inr (.inr (fun _ => none))))))] : va_W) F s.heap _ _ := hW
  refine lv_aload_n hX_ hB_ dX8_init_60 rfl (lv_at hl 0 rfl) ?_
  refine ze_new (ci := 2) (C := RX2) (T := TX2) (N := 6) (fs := [.int 0, .long 0, .long 0, .long 0, .long 0, .long 0]) S hiX2 tyX2 tyX2_ok w26 w27 w28 hK hW hA rfl (by decide) (Nat.le_of_ble_eq_true rfl) (Nat.le_of_ble_eq_true rfl) dX8_init_61 (fun r8 H hW => ?_)
  refine lv_dup hX_ hB_ dX8_init_64 rfl ?_
  have hW := ze_Wc hW
  refine ze_FNg (As := []) (rest := [.ref r8, .ref q]) S (zi_X2 l D c r8) ⟨va_cnB 0 hts gX8_init_X2_init_n41 rfl rfl rfl hZ.2.2.2.2 w28 (by decide +kernel) ⟨Nat.le_of_ble_eq_true rfl, Nat.le_of_ble_eq_true rfl⟩, rfl, w29⟩ hZ hK hW hA rfl hl.1 rfl (lv_room (Nat.le_of_ble_eq_true rfl)) dX8_init_65 ⟨Nat.le_of_ble_eq_true rfl, Nat.le_of_ble_eq_true rfl⟩ (fun an9 H locs hW => ?_)
  have hW := ze_Wc hW
  have hW : ze_W D ([(q, .inr (8, [.ref r0, .ref r2, .ref r4, .ref r6, .null, .int 0, .int 0, .int 0])), (r0, .inr (5, [.int 0, .int 0, .int 0, .ref (an1 2), .ref (an1 3), .ref (an1 4), .ref (an1 5), .ref (an1 6), .ref (an1 7), .ref (an1 8)])), (an1 2, .inl (c 0, 6, .inl (fun _ => 0))), (an1 3, .inl (c 0, 6, .inl (fun _ => 0))), (an1 4, .inl (c 0, 8, .inl (fun _ => 0))), (an1 5, .inl (c 0, 8, .inl (fun _ => 0))), (an1 6, .inl (c 1, 8, .inl (fun _ => 0))), (an1 7, .inl (c 0, 6, .inl (fun _ => 0))), (an1 8, .inl (c 0, 6, .inl (fun _ => 0))), (r2, .inr (0, [.ref r0, .ref (an3 10), .int 0, .ref (an3 11), .ref (an3 12)])), (an3 10, .inl (c 3, 6, .inr (.inr (.inr (.inr (fun _ => none)))))), (an3 11, .inl (c 0, 6, .inl (fun _ => 0))), (an3 12, .inl (c 0, 6, .inl (fun _ => 0))), (r4, .inr (6, [.ref r0, .ref (an5 14), .int 0])), (an5 14, .inl (c 4, 4, .inr (.inr (.inr (.inr (fun _ => none)))))), (r6, .inr (4, [.ref r0, .ref (an7 16), .int 0])), (an7 16, .inl (c 5, 10, .inr (.inr (.inr (.inr (fun _ => none)))))), (r8, .inr (2, [.int 0, .long 0, .long 0, .long 0, .long 0, .long 0]))] : va_W) F s.heap _ _ := hW
  refine ze_putF (ci := 8) (C := RX8) (T := TX8) (N := 8) (v := .ref r8) S hiX8 tyX8 tyX8_ok nmX8 hin2 hK hW 0 rfl rfl 4 (by decide) (Nat.le_of_ble_eq_true rfl) rfl rfl rfl rfl w30 dX8_init_68 rfl (fun H locs hW => ?_)
  have hW : ze_W D ([(q, .inr (8, [.ref r0, .ref r2, .ref r4, .ref r6, .ref r8, .int 0, .int 0, .int 0])), (r0, .inr (5, [.int 0, .int 0, .int 0, .ref (an1 2), .ref (an1 3), .ref (an1 4), .ref (an1 5), .ref (an1 6), .ref (an1 7), .ref (an1 8)])), (an1 2, .inl (c 0, 6, .inl (fun _ => 0))), (an1 3, .inl (c 0, 6, .inl (fun _ => 0))), (an1 4, .inl (c 0, 8, .inl (fun _ => 0))), (an1 5, .inl (c 0, 8, .inl (fun _ => 0))), (an1 6, .inl (c 1, 8, .inl (fun _ => 0))), (an1 7, .inl (c 0, 6, .inl (fun _ => 0))), (an1 8, .inl (c 0, 6, .inl (fun _ => 0))), (r2, .inr (0, [.ref r0, .ref (an3 10), .int 0, .ref (an3 11), .ref (an3 12)])), (an3 10, .inl (c 3, 6, .inr (.inr (.inr (.inr (fun _ => none)))))), (an3 11, .inl (c 0, 6, .inl (fun _ => 0))), (an3 12, .inl (c 0, 6, .inl (fun _ => 0))), (r4, .inr (6, [.ref r0, .ref (an5 14), .int 0])), (an5 14, .inl (c 4, 4, .inr (.inr (.inr (.inr (fun _ => none)))))), (r6, .inr (4, [.ref r0, .ref (an7 16), .int 0])), (an7 16, .inl (c 5, 10, .inr (.inr (.inr (.inr (fun _ => none)))))), (r8, .inr (2, [.int 0, .long 0, .long 0, .long 0, .long 0, .long 0]))] : va_W) F s.heap _ _ := hW
  refine lv_aload_n hX_ hB_ dX8_init_71 rfl (lv_at hl 0 rfl) ?_
  refine lv_iconst (v := 2) hX_ hB_ dX8_init_72 (by decide) ?_
  refine ze_put (ci := 8) (C := RX8) (T := TX8) (N := 8) (v := .int 2) S hiX8 tyX8 tyX8_ok nmX8 hK hW 0 rfl rfl 6 (by decide) (Nat.le_of_ble_eq_true rfl) rfl rfl rfl w31 dX8_init_73 rfl (fun H locs hW => ?_)
  have hW : ze_W D ([(q, .inr (8, [.ref r0, .ref r2, .ref r4, .ref r6, .ref r8, .int 0, .int 2, .int 0])), (r0, .inr (5, [.int 0, .int 0, .int 0, .ref (an1 2), .ref (an1 3), .ref (an1 4), .ref (an1 5), .ref (an1 6), .ref (an1 7), .ref (an1 8)])), (an1 2, .inl (c 0, 6, .inl (fun _ => 0))), (an1 3, .inl (c 0, 6, .inl (fun _ => 0))), (an1 4, .inl (c 0, 8, .inl (fun _ => 0))), (an1 5, .inl (c 0, 8, .inl (fun _ => 0))), (an1 6, .inl (c 1, 8, .inl (fun _ => 0))), (an1 7, .inl (c 0, 6, .inl (fun _ => 0))), (an1 8, .inl (c 0, 6, .inl (fun _ => 0))), (r2, .inr (0, [.ref r0, .ref (an3 10), .int 0, .ref (an3 11), .ref (an3 12)])), (an3 10, .inl (c 3, 6, .inr (.inr (.inr (.inr (fun _ => none)))))), (an3 11, .inl (c 0, 6, .inl (fun _ => 0))), (an3 12, .inl (c 0, 6, .inl (fun _ => 0))), (r4, .inr (6, [.ref r0, .ref (an5 14), .int 0])), (an5 14, .inl (c 4, 4, .inr (.inr (.inr (.inr (fun _ => none)))))), (r6, .inr (4, [.ref r0, .ref (an7 16), .int 0])), (an7 16, .inl (c 5, 10, .inr (.inr (.inr (.inr (fun _ => none)))))), (r8, .inr (2, [.int 0, .long 0, .long 0, .long 0, .long 0, .long 0]))] : va_W) F s.heap _ _ := hW
  exact ze_gret (a2 := (fun i => ([0, r0, (an1 2), (an1 3), (an1 4), (an1 5), (an1 6), (an1 7), (an1 8), r2, (an3 10), (an3 11), (an3 12), r4, (an5 14), r6, (an7 16), r8] : List Nat).getD i 0)) S hr hlocks hF hK hW dX8_init_76 (Nat.le_of_ble_eq_true rfl) (Nat.le_of_ble_eq_true rfl) rfl
