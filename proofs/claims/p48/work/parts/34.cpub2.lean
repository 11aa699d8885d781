set_option maxHeartbeats 4000000 in
set_option maxRecDepth 100000 in
theorem zp_addSite_f (l : Launch) (D : va_G) (c : Nat → ClassId) (a n : Nat → Nat) (A : Nat → Nat → Int32) (B : Nat → Int64) (E : Nat → Nat → Int32) (hN : zf_N n) (hS : zf_S n A) (h : n 0 < 6) : ze_I l yX8_addSite wsX8_addSite 4 90 0 0 D c (ze_wC c a n A B E) [.ref (a 0)] (nI (n 0)) (ze_wC c a (ze_sn n 0 (n 0 + 1)) A B (ze_sA (ze_sA E 0 ((zf_fi (ze_sn n 0 (n 0 + 1)) A (E 0) (E 1) (n 0 + 1)).1)) 1 ((zf_fi (ze_sn n 0 (n 0 + 1)) A (E 0) (E 1) (n 0 + 1)).2))) := by
  intro sz
  refine ze_start (cc := cX8_addSite) (maxL := 1) (ret := (some .int)) (own := RX8) (by decide) rfl rfl (Nat.le_of_ble_eq_true rfl) ?_
  obtain ⟨hn0, hn1, hn2, hn3, hn4⟩ := id hN
  intro p e s m_ below meth cd F ls hF hsz E0
  obtain ⟨S, hr, hlocks, hK, hW, hA, hl⟩ := E0
  have hX_ := S.1
  have hB_ := S.2.1
  have hts := S.2.2.2.2
  have hl : lv_has ls 1 [(0, .ref (a 0))] := hl
  have hiX5 : ∀ w ∈ u_ws RX5 TX5 10, w ∈ wsX8_addSite := fun _ h => (List.mem_cons_of_mem _ (List.mem_append_left _ (List.mem_append_right _ h)))
  have hiX8 : ∀ w ∈ u_ws RX8 TX8 8, w ∈ wsX8_addSite := fun _ h => (List.mem_cons_of_mem _ (List.mem_append_left _ (List.mem_append_left _ (List.mem_append_right _ h))))
  have w0 := hts (.fieldLink RX8 10 "Islandgrid" "network" "LIslandgrid$Network;") (List.mem_cons_of_mem _ (List.mem_append_left _ (List.mem_append_left _ (List.mem_append_left _ (List.mem_append_left _ (List.mem_of_getElem? (i := 2) rfl))))))
  have w1 := hts (.fieldLink RX8 50 "Islandgrid$Network" "siteCount" "I") (List.mem_cons_of_mem _ (List.mem_append_left _ (List.mem_append_left _ (List.mem_append_left _ (List.mem_append_left _ (List.mem_of_getElem? (i := 3) rfl))))))
  refine lv_aload_n hX_ hB_ dX8_addSite_0 rfl (lv_at hl 0 rfl) ?_
  refine ze_get (ci := 8) (C := RX8) (T := TX8) (N := 8) (v := .ref (a 1)) S hiX8 hK hW 0 (ze_at0 0 rfl) rfl 0 (by decide) rfl w0 dX8_addSite_1 ?_
  refine ze_get (ci := 5) (C := RX5) (T := TX5) (N := 10) (v := .int (nI (n 0))) S hiX5 hK hW 1 (ze_at0 1 rfl) rfl 0 (by decide) rfl w1 dX8_addSite_4 ?_
  refine lv_bipush (v := 6) hX_ hB_ dX8_addSite_7 (by decide) ?_
  refine lv_icmp_lt (tgt := 22) hX_ hB_ dX8_addSite_9 (by decide) (fun c9 => ?_) (fun c9 => ?_)
  · have c9 : (n 0) < 6 := (nI_ltI (a := (n 0)) (b := 6) (by omega) (by omega)).mp c9
    refine lv_aload_n hX_ hB_ dX8_addSite_22 rfl (lv_at hl 0 rfl) ?_
    refine ze_get (ci := 8) (C := RX8) (T := TX8) (N := 8) (v := .ref (a 1)) S hiX8 hK hW 0 (ze_at0 0 rfl) rfl 0 (by decide) rfl w0 dX8_addSite_23 ?_
    refine ze_Vi (As := []) (rest := []) (ci := 5) (q0 := 1) (k := (RX5, TX5, 10)) S (zc_5_putSite l D c a n A B E  hN hS (by omega)) (cwV 0 hts gX8_addSite_X5_putSite rfl rfl rfl (by decide +kernel) ⟨Nat.le_of_ble_eq_true rfl, Nat.le_of_ble_eq_true rfl⟩) hK hW hA rfl (ze_at0 1 rfl) rfl hl.1 rfl (lv_room (Nat.le_of_ble_eq_true rfl)) dX8_addSite_26 ⟨Nat.le_of_ble_eq_true rfl, Nat.le_of_ble_eq_true rfl⟩ (fun H locs hW => ?_)
    have hW : ze_W D (ze_wC c a (ze_sn n 0 (n 0 + 1)) A B (ze_sA (ze_sA E 0 ((zf_fi (ze_sn n 0 (n 0 + 1)) A (E 0) (E 1) (n 0 + 1)).1)) 1 ((zf_fi (ze_sn n 0 (n 0 + 1)) A (E 0) (E 1) (n 0 + 1)).2))) F s.heap _ _ := hW
    exact ze_iret S hr hlocks hF hK hW rfl dX8_addSite_29 (Nat.le_of_ble_eq_true rfl) (Nat.le_of_ble_eq_true rfl) rfl rfl
  · have c9 : ¬ (n 0) < 6 := fun h9 => c9 ((nI_ltI (a := (n 0)) (b := 6) (by omega) (by omega)).mpr h9)
    exact absurd h c9
set_option maxHeartbeats 4000000 in
set_option maxRecDepth 100000 in
theorem zp_setPhase_f (l : Launch) (D : va_G) (c : Nat → ClassId) (a n : Nat → Nat) (A : Nat → Nat → Int32) (B : Nat → Int64) (E : Nat → Nat → Int32) (j : Nat) (hN : zf_N n) (hj : j < n 0) (y : Int32) (hy : zf_isIn y 0 359) : ze_I l yX8_setPhase wsX8_setPhase 2 42 0 0 D c (ze_wC c a n A B E) [.ref (a 0), .int (nI j), .int y] (A 0 j) (ze_wC c a n (ze_sE A 0 j y) B E) := by
  intro sz
  refine ze_start (cc := cX8_setPhase) (maxL := 4) (ret := (some .int)) (own := RX8) (by decide) rfl rfl (Nat.le_of_ble_eq_true rfl) ?_
  obtain ⟨hn0, hn1, hn2, hn3, hn4⟩ := id hN
  intro p e s m_ below meth cd F ls hF hsz E0
  obtain ⟨S, hr, hlocks, hK, hW, hA, hl⟩ := E0
  have hX_ := S.1
  have hB_ := S.2.1
  have hts := S.2.2.2.2
  have hl : lv_has ls 4 [(0, .ref (a 0)), (1, .int (nI j)), (2, .int y)] := hl
  have hiX5 : ∀ w ∈ u_ws RX5 TX5 10, w ∈ wsX8_setPhase := fun _ h => (List.mem_cons_of_mem _ (List.mem_append_left _ (List.mem_append_left _ (List.mem_append_right _ h))))
  have hiX8 : ∀ w ∈ u_ws RX8 TX8 8, w ∈ wsX8_setPhase := fun _ h => (List.mem_cons_of_mem _ (List.mem_append_left _ (List.mem_append_left _ (List.mem_append_left _ (List.mem_append_right _ h)))))
  have w0 := hts (.fieldLink RX8 10 "Islandgrid" "network" "LIslandgrid$Network;") (List.mem_cons_of_mem _ (List.mem_append_left _ (List.mem_append_left _ (List.mem_append_left _ (List.mem_append_left _ (List.mem_of_getElem? (i := 0) rfl))))))
  have w1 := hts (.fieldLink RX8 72 "Islandgrid$Network" "phases" "[I") (List.mem_cons_of_mem _ (List.mem_append_left _ (List.mem_append_left _ (List.mem_append_left _ (List.mem_append_left _ (List.mem_of_getElem? (i := 1) rfl))))))
  refine lv_aload_n hX_ hB_ dX8_setPhase_0 rfl (lv_at hl 0 rfl) ?_
  refine lv_iload_n hX_ hB_ dX8_setPhase_1 rfl (lv_at hl 1 rfl) ?_
  refine ze_Vv (As := [.int (nI j)]) (rest := []) (ci := 8) (q0 := 0) (k := (RX8, TX8, 8)) S (zp_checkSite l D c a n A B E j hN (by omega)) (cwV 1 hts gX8_setPhase_X8_checkSite rfl rfl rfl (by decide +kernel) ⟨Nat.le_of_ble_eq_true rfl, Nat.le_of_ble_eq_true rfl⟩) hK hW hA rfl (ze_at0 0 rfl) rfl hl.1 rfl (lv_room (Nat.le_of_ble_eq_true rfl)) dX8_setPhase_2 ⟨Nat.le_of_ble_eq_true rfl, Nat.le_of_ble_eq_true rfl⟩ (fun H locs hW => ?_)
  refine lv_iload_n hX_ hB_ dX8_setPhase_5 rfl (lv_at hl 2 rfl) ?_
  refine lv_iconst (v := 0) hX_ hB_ dX8_setPhase_6 (by decide) ?_
  refine lv_sipush (v := 359) hX_ hB_ dX8_setPhase_7 (by decide) ?_
  refine ze_Sv (As := [.int y, .int 0, .int 359]) (rest := []) S (zp_checkRange l D c (ze_wC c a n A B E) y 0 359 (by assumption)) (va_cwS 3 hts gX8_setPhase_X8_checkRange rfl rfl rfl (by decide +kernel) ⟨Nat.le_of_ble_eq_true rfl, Nat.le_of_ble_eq_true rfl⟩) hK hW hA rfl hl.1 rfl (lv_room (Nat.le_of_ble_eq_true rfl)) dX8_setPhase_10 ⟨Nat.le_of_ble_eq_true rfl, Nat.le_of_ble_eq_true rfl⟩ (fun H locs hW => ?_)
  refine lv_aload_n hX_ hB_ dX8_setPhase_13 rfl (lv_at hl 0 rfl) ?_
  refine ze_get (ci := 8) (C := RX8) (T := TX8) (N := 8) (v := .ref (a 1)) S hiX8 hK hW 0 (ze_at0 0 rfl) rfl 0 (by decide) rfl w0 dX8_setPhase_14 ?_
  refine ze_get (ci := 5) (C := RX5) (T := TX5) (N := 10) (v := .ref (a 2)) S hiX5 hK hW 1 (ze_at0 1 rfl) rfl 3 (by decide) rfl w1 dX8_setPhase_17 ?_
  refine lv_iload_n hX_ hB_ dX8_setPhase_20 rfl (lv_at hl 1 rfl) ?_
  refine ze_ialdN hX_ hB_ hK hW 2 (f := A 0) (ze_at0 2 rfl) (i := j) (by omega) (by decide) dX8_setPhase_21 ?_
  refine lv_istore_n (lv' := [(3, .int (A 0 j)), (0, .ref (a 0)), (1, .int (nI j)), (2, .int y)]) hX_ hB_ dX8_setPhase_22 rfl hl (by decide) rfl (fun ls hl => ?_)
  refine lv_aload_n hX_ hB_ dX8_setPhase_23 rfl (lv_at hl 1 rfl) ?_
  refine ze_get (ci := 8) (C := RX8) (T := TX8) (N := 8) (v := .ref (a 1)) S hiX8 hK hW 0 (ze_at0 0 rfl) rfl 0 (by decide) rfl w0 dX8_setPhase_24 ?_
  refine ze_get (ci := 5) (C := RX5) (T := TX5) (N := 10) (v := .ref (a 2)) S hiX5 hK hW 1 (ze_at0 1 rfl) rfl 3 (by decide) rfl w1 dX8_setPhase_27 ?_
  refine lv_iload_n hX_ hB_ dX8_setPhase_30 rfl (lv_at hl 2 rfl) ?_
  refine lv_iload_n hX_ hB_ dX8_setPhase_31 rfl (lv_at hl 3 rfl) ?_
  refine ze_iastN hX_ hB_ hK hW 2 (f := A 0) (ze_at0 2 rfl) (i := j) (by omega) (by decide) dX8_setPhase_32 (ze_qC2 j y _ _ _ _ _ _) (fun H locs hW => ?_)
  have hW : ze_W D (ze_wC c a n (ze_sE A 0 j y) B E) F s.heap _ _ := hW
  refine lv_iload_n hX_ hB_ dX8_setPhase_33 rfl (lv_at hl 0 rfl) ?_
  exact ze_iret S hr hlocks hF hK hW rfl dX8_setPhase_34 (Nat.le_of_ble_eq_true rfl) (Nat.le_of_ble_eq_true rfl) rfl rfl
set_option maxHeartbeats 4000000 in
set_option maxRecDepth 100000 in
theorem zp_addLine_f (l : Launch) (D : va_G) (c : Nat → ClassId) (a n : Nat → Nat) (A : Nat → Nat → Int32) (B : Nat → Int64) (E : Nat → Nat → Int32) (j : Nat) (hN : zf_N n) (hj : j < n 0) (k : Nat) (hk : k < n 0) (h : ¬ j = k) (h8 : n 1 < 8) : ze_I l yX8_addLine wsX8_addLine 2 42 0 0 D c (ze_wC c a n A B E) [.ref (a 0), .int (nI j), .int (nI k)] (nI (n 1)) (ze_wC c a (ze_sn n 1 (n 1 + 1)) (ze_sE (ze_sE A 2 (n 1) (nI j)) 3 (n 1) (nI k)) B E) := by
  intro sz
  refine ze_start (cc := cX8_addLine) (maxL := 3) (ret := (some .int)) (own := RX8) (by decide) rfl rfl (Nat.le_of_ble_eq_true rfl) ?_
  obtain ⟨hn0, hn1, hn2, hn3, hn4⟩ := id hN
  intro p e s m_ below meth cd F ls hF hsz E0
  obtain ⟨S, hr, hlocks, hK, hW, hA, hl⟩ := E0
  have hX_ := S.1
  have hB_ := S.2.1
  have hts := S.2.2.2.2
  have hl : lv_has ls 3 [(0, .ref (a 0)), (1, .int (nI j)), (2, .int (nI k))] := hl
  have hiX5 : ∀ w ∈ u_ws RX5 TX5 10, w ∈ wsX8_addLine := fun _ h => (List.mem_cons_of_mem _ (List.mem_append_left _ (List.mem_append_left _ (List.mem_append_left _ (List.mem_append_right _ h)))))
  have hiX8 : ∀ w ∈ u_ws RX8 TX8 8, w ∈ wsX8_addLine := fun _ h => (List.mem_cons_of_mem _ (List.mem_append_left _ (List.mem_append_left _ (List.mem_append_left _ (List.mem_append_left _ (List.mem_append_right _ h))))))
  have w0 := hts (.fieldLink RX8 10 "Islandgrid" "network" "LIslandgrid$Network;") (List.mem_cons_of_mem _ (List.mem_append_left _ (List.mem_append_left _ (List.mem_append_left _ (List.mem_append_left _ (List.mem_append_left _ (List.mem_append_left _ (List.mem_of_getElem? (i := 4) rfl))))))))
  have w1 := hts (.fieldLink RX8 81 "Islandgrid$Network" "lineCount" "I") (List.mem_cons_of_mem _ (List.mem_append_left _ (List.mem_append_left _ (List.mem_append_left _ (List.mem_append_left _ (List.mem_append_left _ (List.mem_append_left _ (List.mem_of_getElem? (i := 5) rfl))))))))
  refine lv_aload_n hX_ hB_ dX8_addLine_0 rfl (lv_at hl 0 rfl) ?_
  refine lv_iload_n hX_ hB_ dX8_addLine_1 rfl (lv_at hl 1 rfl) ?_
  refine ze_Vv (As := [.int (nI j)]) (rest := []) (ci := 8) (q0 := 0) (k := (RX8, TX8, 8)) S (zp_checkSite l D c a n A B E j hN (by omega)) (cwV 1 hts gX8_addLine_X8_checkSite rfl rfl rfl (by decide +kernel) ⟨Nat.le_of_ble_eq_true rfl, Nat.le_of_ble_eq_true rfl⟩) hK hW hA rfl (ze_at0 0 rfl) rfl hl.1 rfl (lv_room (Nat.le_of_ble_eq_true rfl)) dX8_addLine_2 ⟨Nat.le_of_ble_eq_true rfl, Nat.le_of_ble_eq_true rfl⟩ (fun H locs hW => ?_)
  refine lv_aload_n hX_ hB_ dX8_addLine_5 rfl (lv_at hl 0 rfl) ?_
  refine lv_iload_n hX_ hB_ dX8_addLine_6 rfl (lv_at hl 2 rfl) ?_
  refine ze_Vv (As := [.int (nI k)]) (rest := []) (ci := 8) (q0 := 0) (k := (RX8, TX8, 8)) S (zp_checkSite l D c a n A B E k hN (by omega)) (cwV 1 hts gX8_addLine_X8_checkSite rfl rfl rfl (by decide +kernel) ⟨Nat.le_of_ble_eq_true rfl, Nat.le_of_ble_eq_true rfl⟩) hK hW hA rfl (ze_at0 0 rfl) rfl hl.1 rfl (lv_room (Nat.le_of_ble_eq_true rfl)) dX8_addLine_7 ⟨Nat.le_of_ble_eq_true rfl, Nat.le_of_ble_eq_true rfl⟩ (fun H locs hW => ?_)
  refine lv_iload_n hX_ hB_ dX8_addLine_10 rfl (lv_at hl 1 rfl) ?_
  refine lv_iload_n hX_ hB_ dX8_addLine_11 rfl (lv_at hl 2 rfl) ?_
  refine lv_icmp_ne (tgt := 25) hX_ hB_ dX8_addLine_12 (by decide) (fun c12 => ?_) (fun c12 => ?_)
  · have c12 : ¬ j = k := fun h9 => c12 ((nI_eq (a := j) (b := k) (by omega) (by omega)).mpr h9)
    refine lv_aload_n hX_ hB_ dX8_addLine_25 rfl (lv_at hl 0 rfl) ?_
    refine ze_get (ci := 8) (C := RX8) (T := TX8) (N := 8) (v := .ref (a 1)) S hiX8 hK hW 0 (ze_at0 0 rfl) rfl 0 (by decide) rfl w0 dX8_addLine_26 ?_
    refine ze_get (ci := 5) (C := RX5) (T := TX5) (N := 10) (v := .int (nI (n 1))) S hiX5 hK hW 1 (ze_at0 1 rfl) rfl 1 (by decide) rfl w1 dX8_addLine_29 ?_
    refine lv_bipush (v := 8) hX_ hB_ dX8_addLine_32 (by decide) ?_
    refine lv_icmp_lt (tgt := 47) hX_ hB_ dX8_addLine_34 (by decide) (fun c34 => ?_) (fun c34 => ?_)
    · have c34 : (n 1) < 8 := (nI_ltI (a := (n 1)) (b := 8) (by omega) (by omega)).mp c34
      refine lv_aload_n hX_ hB_ dX8_addLine_47 rfl (lv_at hl 0 rfl) ?_
      refine ze_get (ci := 8) (C := RX8) (T := TX8) (N := 8) (v := .ref (a 1)) S hiX8 hK hW 0 (ze_at0 0 rfl) rfl 0 (by decide) rfl w0 dX8_addLine_48 ?_
      refine lv_iload_n hX_ hB_ dX8_addLine_51 rfl (lv_at hl 1 rfl) ?_
      refine lv_iload_n hX_ hB_ dX8_addLine_52 rfl (lv_at hl 2 rfl) ?_
      refine ze_Vi (As := [.int (nI j), .int (nI k)]) (rest := []) (ci := 5) (q0 := 1) (k := (RX5, TX5, 10)) S (zc_5_putLine l D c a n A B E (nI j) (nI k) hN (by omega)) (cwV 2 hts gX8_addLine_X5_putLine rfl rfl rfl (by decide +kernel) ⟨Nat.le_of_ble_eq_true rfl, Nat.le_of_ble_eq_true rfl⟩) hK hW hA rfl (ze_at0 1 rfl) rfl hl.1 rfl (lv_room (Nat.le_of_ble_eq_true rfl)) dX8_addLine_53 ⟨Nat.le_of_ble_eq_true rfl, Nat.le_of_ble_eq_true rfl⟩ (fun H locs hW => ?_)
      have hW : ze_W D (ze_wC c a (ze_sn n 1 (n 1 + 1)) (ze_sE (ze_sE A 2 (n 1) (nI j)) 3 (n 1) (nI k)) B E) F s.heap _ _ := hW
      exact ze_iret S hr hlocks hF hK hW rfl dX8_addLine_56 (Nat.le_of_ble_eq_true rfl) (Nat.le_of_ble_eq_true rfl) rfl rfl
    · have c34 : ¬ (n 1) < 8 := fun h9 => c34 ((nI_ltI (a := (n 1)) (b := 8) (by omega) (by omega)).mpr h9)
      exact absurd h8 c34
  · have c12 : j = k := (nI_eq (a := j) (b := k) (by omega) (by omega)).mp c12
    exact absurd c12 h
set_option maxHeartbeats 4000000 in
set_option maxRecDepth 100000 in
theorem zp_close_f (l : Launch) (D : va_G) (c : Nat → ClassId) (a n : Nat → Nat) (A : Nat → Nat → Int32) (B : Nat → Int64) (E : Nat → Nat → Int32) (j : Nat) (hN : zf_N n) (hj : j < n 1) (hS : zf_S n A) (hE : ∀ x, zf_site n x → zf_site n (E 0 (ze_ix x))) (h4 : A 4 j = 0) (hg : zf_gapC A (E 0) j ≤ 10) : ze_I l yX8_close wsX8_close 4 91 0 0 D c (ze_wC c a n A B E) [.ref (a 0), .int (nI j)] (zf_many ((zf_fi n (ze_sE A 4 j 1) (E 0) (E 1) (n 0)).1) (n 0)) (ze_wC c a n (ze_sE A 4 j 1) B (ze_sA (ze_sA E 0 ((zf_fi n (ze_sE A 4 j 1) (E 0) (E 1) (n 0)).1)) 1 ((zf_fi n (ze_sE A 4 j 1) (E 0) (E 1) (n 0)).2))) := by
  intro sz
  refine ze_start (cc := cX8_close) (maxL := 2) (ret := (some .int)) (own := RX8) (by decide) rfl rfl (Nat.le_of_ble_eq_true rfl) ?_
  obtain ⟨hn0, hn1, hn2, hn3, hn4⟩ := id hN
  intro p e s m_ below meth cd F ls hF hsz E0
  obtain ⟨S, hr, hlocks, hK, hW, hA, hl⟩ := E0
  have hX_ := S.1
  have hB_ := S.2.1
  have hts := S.2.2.2.2
  have hl : lv_has ls 2 [(0, .ref (a 0)), (1, .int (nI j))] := hl
  have hiX5 : ∀ w ∈ u_ws RX5 TX5 10, w ∈ wsX8_close := fun _ h => (List.mem_cons_of_mem _ (List.mem_append_left _ (List.mem_append_left _ (List.mem_append_left _ (List.mem_append_right _ h)))))
  have hiX8 : ∀ w ∈ u_ws RX8 TX8 8, w ∈ wsX8_close := fun _ h => (List.mem_cons_of_mem _ (List.mem_append_left _ (List.mem_append_left _ (List.mem_append_left _ (List.mem_append_left _ (List.mem_append_right _ h))))))
  have w0 := hts (.fieldLink RX8 10 "Islandgrid" "network" "LIslandgrid$Network;") (List.mem_cons_of_mem _ (List.mem_append_left _ (List.mem_append_left _ (List.mem_append_left _ (List.mem_append_left _ (List.mem_append_left _ (List.mem_append_left _ (List.mem_of_getElem? (i := 4) rfl))))))))
  have w1 := hts (.fieldLink RX8 81 "Islandgrid$Network" "lineCount" "I") (List.mem_cons_of_mem _ (List.mem_append_left _ (List.mem_append_left _ (List.mem_append_left _ (List.mem_append_left _ (List.mem_append_left _ (List.mem_append_left _ (List.mem_of_getElem? (i := 5) rfl))))))))
  have w2 := hts (.fieldLink RX8 94 "Islandgrid$Network" "closed" "[Z") (List.mem_cons_of_mem _ (List.mem_append_left _ (List.mem_append_left _ (List.mem_append_left _ (List.mem_append_left _ (List.mem_append_left _ (List.mem_append_left _ (List.mem_of_getElem? (i := 6) rfl))))))))
  refine lv_iload_n hX_ hB_ dX8_close_0 rfl (lv_at hl 1 rfl) ?_
  refine lv_aload_n hX_ hB_ dX8_close_1 rfl (lv_at hl 0 rfl) ?_
  refine ze_get (ci := 8) (C := RX8) (T := TX8) (N := 8) (v := .ref (a 1)) S hiX8 hK hW 0 (ze_at0 0 rfl) rfl 0 (by decide) rfl w0 dX8_close_2 ?_
  refine ze_get (ci := 5) (C := RX5) (T := TX5) (N := 10) (v := .int (nI (n 1))) S hiX5 hK hW 1 (ze_at0 1 rfl) rfl 1 (by decide) rfl w1 dX8_close_5 ?_
  refine ze_Sv (As := [.int (nI j), .int (nI (n 1))]) (rest := []) S (zp_checkNumber l D c (ze_wC c a n A B E) j (n 1) (by omega) (by omega)) (va_cwS 2 hts gX8_close_X8_checkNumber rfl rfl rfl (by decide +kernel) ⟨Nat.le_of_ble_eq_true rfl, Nat.le_of_ble_eq_true rfl⟩) hK hW hA rfl hl.1 rfl (lv_room (Nat.le_of_ble_eq_true rfl)) dX8_close_8 ⟨Nat.le_of_ble_eq_true rfl, Nat.le_of_ble_eq_true rfl⟩ (fun H locs hW => ?_)
  refine lv_aload_n hX_ hB_ dX8_close_11 rfl (lv_at hl 0 rfl) ?_
  refine ze_get (ci := 8) (C := RX8) (T := TX8) (N := 8) (v := .ref (a 1)) S hiX8 hK hW 0 (ze_at0 0 rfl) rfl 0 (by decide) rfl w0 dX8_close_12 ?_
  refine ze_get (ci := 5) (C := RX5) (T := TX5) (N := 10) (v := .ref (a 6)) S hiX5 hK hW 1 (ze_at0 1 rfl) rfl 7 (by decide) rfl w2 dX8_close_15 ?_
  refine lv_iload_n hX_ hB_ dX8_close_18 rfl (lv_at hl 1 rfl) ?_
  refine ze_zaldN hX_ hB_ hK hW 6 (f := A 4) (ze_at0 6 rfl) (i := j) (by omega) (by decide) dX8_close_19 ?_
  refine lv_if_eq (tgt := 33) hX_ hB_ dX8_close_20 (by decide) (fun c20 => ?_) (fun c20 => ?_)
  · refine lv_aload_n hX_ hB_ dX8_close_33 rfl (lv_at hl 0 rfl) ?_
    refine ze_get (ci := 8) (C := RX8) (T := TX8) (N := 8) (v := .ref (a 1)) S hiX8 hK hW 0 (ze_at0 0 rfl) rfl 0 (by decide) rfl w0 dX8_close_34 ?_
    refine lv_iload_n hX_ hB_ dX8_close_37 rfl (lv_at hl 1 rfl) ?_
    refine ze_Vi (As := [.int (nI j)]) (rest := []) (ci := 5) (q0 := 1) (k := (RX5, TX5, 10)) S (zc_5_gapOf l D c a n A B E j hN hS (by omega) hE) (cwV 1 hts gX8_close_X5_gapOf rfl rfl rfl (by decide +kernel) ⟨Nat.le_of_ble_eq_true rfl, Nat.le_of_ble_eq_true rfl⟩) hK hW hA rfl (ze_at0 1 rfl) rfl hl.1 rfl (lv_room (Nat.le_of_ble_eq_true rfl)) dX8_close_38 ⟨Nat.le_of_ble_eq_true rfl, Nat.le_of_ble_eq_true rfl⟩ (fun H locs hW => ?_)
    refine lv_bipush (v := 10) hX_ hB_ dX8_close_41 (by decide) ?_
    refine lv_icmp_le (tgt := 56) hX_ hB_ dX8_close_43 (by decide) (fun c43 => ?_) (fun c43 => ?_)
    · refine lv_aload_n hX_ hB_ dX8_close_56 rfl (lv_at hl 0 rfl) ?_
      refine ze_get (ci := 8) (C := RX8) (T := TX8) (N := 8) (v := .ref (a 1)) S hiX8 hK hW 0 (ze_at0 0 rfl) rfl 0 (by decide) rfl w0 dX8_close_57 ?_
      refine lv_iload_n hX_ hB_ dX8_close_60 rfl (lv_at hl 1 rfl) ?_
      refine lv_iconst (v := 1) hX_ hB_ dX8_close_61 (by decide) ?_
      refine ze_Vv (As := [.int (nI j), .int 1]) (rest := []) (ci := 5) (q0 := 1) (k := (RX5, TX5, 10)) S (zc_5_setClosed l D c a n A B E j 1 hN hS (by omega) (by decide)) (cwV 2 hts gX8_close_X5_setClosed rfl rfl rfl (by decide +kernel) ⟨Nat.le_of_ble_eq_true rfl, Nat.le_of_ble_eq_true rfl⟩) hK hW hA rfl (ze_at0 1 rfl) rfl hl.1 rfl (lv_room (Nat.le_of_ble_eq_true rfl)) dX8_close_62 ⟨Nat.le_of_ble_eq_true rfl, Nat.le_of_ble_eq_true rfl⟩ (fun H locs hW => ?_)
      have hW : ze_W D (ze_wC c a n (ze_sE A 4 j 1) B (ze_sA (ze_sA E 0 ((zf_fi n (ze_sE A 4 j 1) (E 0) (E 1) (n 0)).1)) 1 ((zf_fi n (ze_sE A 4 j 1) (E 0) (E 1) (n 0)).2))) F s.heap _ _ := hW
      refine lv_aload_n hX_ hB_ dX8_close_65 rfl (lv_at hl 0 rfl) ?_
      refine ze_get (ci := 8) (C := RX8) (T := TX8) (N := 8) (v := .ref (a 1)) S hiX8 hK hW 0 (ze_at0 0 rfl) rfl 0 (by decide) rfl w0 dX8_close_66 ?_
      refine ze_Vi (As := []) (rest := []) (ci := 5) (q0 := 1) (k := (RX5, TX5, 10)) S (zc_5_countIslands l D c a n (ze_sE A 4 j 1) B (ze_sA (ze_sA E 0 ((zf_fi n (ze_sE A 4 j 1) (E 0) (E 1) (n 0)).1)) 1 ((zf_fi n (ze_sE A 4 j 1) (E 0) (E 1) (n 0)).2))  hN) (cwV 0 hts gX8_close_X5_countIslands rfl rfl rfl (by decide +kernel) ⟨Nat.le_of_ble_eq_true rfl, Nat.le_of_ble_eq_true rfl⟩) hK hW hA rfl (ze_at0 1 rfl) rfl hl.1 rfl (lv_room (Nat.le_of_ble_eq_true rfl)) dX8_close_69 ⟨Nat.le_of_ble_eq_true rfl, Nat.le_of_ble_eq_true rfl⟩ (fun H locs hW => ?_)
      exact ze_iret S hr hlocks hF hK hW rfl dX8_close_72 (Nat.le_of_ble_eq_true rfl) (Nat.le_of_ble_eq_true rfl) rfl rfl
    · exact absurd hg c43
  · exact absurd h4 c20
set_option maxHeartbeats 4000000 in
set_option maxRecDepth 100000 in
theorem zp_open_f (l : Launch) (D : va_G) (c : Nat → ClassId) (a n : Nat → Nat) (A : Nat → Nat → Int32) (B : Nat → Int64) (E : Nat → Nat → Int32) (j : Nat) (hN : zf_N n) (hj : j < n 1) (hS : zf_S n A) (h4 : ¬ A 4 j = 0) : ze_I l yX8_open wsX8_open 4 91 0 0 D c (ze_wC c a n A B E) [.ref (a 0), .int (nI j)] (zf_many ((zf_fi n (ze_sE A 4 j 0) (E 0) (E 1) (n 0)).1) (n 0)) (ze_wC c a n (ze_sE A 4 j 0) B (ze_sA (ze_sA E 0 ((zf_fi n (ze_sE A 4 j 0) (E 0) (E 1) (n 0)).1)) 1 ((zf_fi n (ze_sE A 4 j 0) (E 0) (E 1) (n 0)).2))) := by
  intro sz
  refine ze_start (cc := cX8_open) (maxL := 2) (ret := (some .int)) (own := RX8) (by decide) rfl rfl (Nat.le_of_ble_eq_true rfl) ?_
  obtain ⟨hn0, hn1, hn2, hn3, hn4⟩ := id hN
  intro p e s m_ below meth cd F ls hF hsz E0
  obtain ⟨S, hr, hlocks, hK, hW, hA, hl⟩ := E0
  have hX_ := S.1
  have hB_ := S.2.1
  have hts := S.2.2.2.2
  have hl : lv_has ls 2 [(0, .ref (a 0)), (1, .int (nI j))] := hl
  have hiX5 : ∀ w ∈ u_ws RX5 TX5 10, w ∈ wsX8_open := fun _ h => (List.mem_cons_of_mem _ (List.mem_append_left _ (List.mem_append_left _ (List.mem_append_right _ h))))
  have hiX8 : ∀ w ∈ u_ws RX8 TX8 8, w ∈ wsX8_open := fun _ h => (List.mem_cons_of_mem _ (List.mem_append_left _ (List.mem_append_left _ (List.mem_append_left _ (List.mem_append_right _ h)))))
  have w0 := hts (.fieldLink RX8 10 "Islandgrid" "network" "LIslandgrid$Network;") (List.mem_cons_of_mem _ (List.mem_append_left _ (List.mem_append_left _ (List.mem_append_left _ (List.mem_append_left _ (List.mem_append_left _ (List.mem_of_getElem? (i := 2) rfl)))))))
  have w1 := hts (.fieldLink RX8 81 "Islandgrid$Network" "lineCount" "I") (List.mem_cons_of_mem _ (List.mem_append_left _ (List.mem_append_left _ (List.mem_append_left _ (List.mem_append_left _ (List.mem_append_left _ (List.mem_of_getElem? (i := 3) rfl)))))))
  have w2 := hts (.fieldLink RX8 94 "Islandgrid$Network" "closed" "[Z") (List.mem_cons_of_mem _ (List.mem_append_left _ (List.mem_append_left _ (List.mem_append_left _ (List.mem_append_left _ (List.mem_append_left _ (List.mem_of_getElem? (i := 4) rfl)))))))
  refine lv_iload_n hX_ hB_ dX8_open_0 rfl (lv_at hl 1 rfl) ?_
  refine lv_aload_n hX_ hB_ dX8_open_1 rfl (lv_at hl 0 rfl) ?_
  refine ze_get (ci := 8) (C := RX8) (T := TX8) (N := 8) (v := .ref (a 1)) S hiX8 hK hW 0 (ze_at0 0 rfl) rfl 0 (by decide) rfl w0 dX8_open_2 ?_
  refine ze_get (ci := 5) (C := RX5) (T := TX5) (N := 10) (v := .int (nI (n 1))) S hiX5 hK hW 1 (ze_at0 1 rfl) rfl 1 (by decide) rfl w1 dX8_open_5 ?_
  refine ze_Sv (As := [.int (nI j), .int (nI (n 1))]) (rest := []) S (zp_checkNumber l D c (ze_wC c a n A B E) j (n 1) (by omega) (by omega)) (va_cwS 2 hts gX8_open_X8_checkNumber rfl rfl rfl (by decide +kernel) ⟨Nat.le_of_ble_eq_true rfl, Nat.le_of_ble_eq_true rfl⟩) hK hW hA rfl hl.1 rfl (lv_room (Nat.le_of_ble_eq_true rfl)) dX8_open_8 ⟨Nat.le_of_ble_eq_true rfl, Nat.le_of_ble_eq_true rfl⟩ (fun H locs hW => ?_)
  refine lv_aload_n hX_ hB_ dX8_open_11 rfl (lv_at hl 0 rfl) ?_
  refine ze_get (ci := 8) (C := RX8) (T := TX8) (N := 8) (v := .ref (a 1)) S hiX8 hK hW 0 (ze_at0 0 rfl) rfl 0 (by decide) rfl w0 dX8_open_12 ?_
  refine ze_get (ci := 5) (C := RX5) (T := TX5) (N := 10) (v := .ref (a 6)) S hiX5 hK hW 1 (ze_at0 1 rfl) rfl 7 (by decide) rfl w2 dX8_open_15 ?_
  refine lv_iload_n hX_ hB_ dX8_open_18 rfl (lv_at hl 1 rfl) ?_
  refine ze_zaldN hX_ hB_ hK hW 6 (f := A 4) (ze_at0 6 rfl) (i := j) (by omega) (by decide) dX8_open_19 ?_
  refine lv_if_ne (tgt := 33) hX_ hB_ dX8_open_20 (by decide) (fun c20 => ?_) (fun c20 => ?_)
  · refine lv_aload_n hX_ hB_ dX8_open_33 rfl (lv_at hl 0 rfl) ?_
    refine ze_get (ci := 8) (C := RX8) (T := TX8) (N := 8) (v := .ref (a 1)) S hiX8 hK hW 0 (ze_at0 0 rfl) rfl 0 (by decide) rfl w0 dX8_open_34 ?_
    refine lv_iload_n hX_ hB_ dX8_open_37 rfl (lv_at hl 1 rfl) ?_
    refine lv_iconst (v := 0) hX_ hB_ dX8_open_38 (by decide) ?_
    refine ze_Vv (As := [.int (nI j), .int 0]) (rest := []) (ci := 5) (q0 := 1) (k := (RX5, TX5, 10)) S (zc_5_setClosed l D c a n A B E j 0 hN hS (by omega) (by decide)) (cwV 2 hts gX8_open_X5_setClosed rfl rfl rfl (by decide +kernel) ⟨Nat.le_of_ble_eq_true rfl, Nat.le_of_ble_eq_true rfl⟩) hK hW hA rfl (ze_at0 1 rfl) rfl hl.1 rfl (lv_room (Nat.le_of_ble_eq_true rfl)) dX8_open_39 ⟨Nat.le_of_ble_eq_true rfl, Nat.le_of_ble_eq_true rfl⟩ (fun H locs hW => ?_)
    have hW : ze_W D (ze_wC c a n (ze_sE A 4 j 0) B (ze_sA (ze_sA E 0 ((zf_fi n (ze_sE A 4 j 0) (E 0) (E 1) (n 0)).1)) 1 ((zf_fi n (ze_sE A 4 j 0) (E 0) (E 1) (n 0)).2))) F s.heap _ _ := hW
    refine lv_aload_n hX_ hB_ dX8_open_42 rfl (lv_at hl 0 rfl) ?_
    refine ze_get (ci := 8) (C := RX8) (T := TX8) (N := 8) (v := .ref (a 1)) S hiX8 hK hW 0 (ze_at0 0 rfl) rfl 0 (by decide) rfl w0 dX8_open_43 ?_
    refine ze_Vi (As := []) (rest := []) (ci := 5) (q0 := 1) (k := (RX5, TX5, 10)) S (zc_5_countIslands l D c a n (ze_sE A 4 j 0) B (ze_sA (ze_sA E 0 ((zf_fi n (ze_sE A 4 j 0) (E 0) (E 1) (n 0)).1)) 1 ((zf_fi n (ze_sE A 4 j 0) (E 0) (E 1) (n 0)).2))  hN) (cwV 0 hts gX8_open_X5_countIslands rfl rfl rfl (by decide +kernel) ⟨Nat.le_of_ble_eq_true rfl, Nat.le_of_ble_eq_true rfl⟩) hK hW hA rfl (ze_at0 1 rfl) rfl hl.1 rfl (lv_room (Nat.le_of_ble_eq_true rfl)) dX8_open_46 ⟨Nat.le_of_ble_eq_true rfl, Nat.le_of_ble_eq_true rfl⟩ (fun H locs hW => ?_)
    exact ze_iret S hr hlocks hF hK hW rfl dX8_open_49 (Nat.le_of_ble_eq_true rfl) (Nat.le_of_ble_eq_true rfl) rfl rfl
  · exact absurd c20 h4
set_option maxHeartbeats 4000000 in
set_option maxRecDepth 100000 in
theorem zp_tie_f (l : Launch) (D : va_G) (c : Nat → ClassId) (a n : Nat → Nat) (A : Nat → Nat → Int32) (B : Nat → Int64) (E : Nat → Nat → Int32) (hN : zf_N n) (h : ¬ n 0 = 0) (h2 : A 38 0 = 0) (h3 : ze_mn (ze_ab ((if zf_tied A 0 then 0 else A 0 (ze_ix 0)) - 0)) (360 - ze_ab ((if zf_tied A 0 then 0 else A 0 (ze_ix 0)) - 0)) ≤ 10) : ze_I l yX8_tie wsX8_tie 2 42 0 0 D c (ze_wC c a n A B E) [.ref (a 0)] (ze_sum 0 (fun s => if E 0 s = 0 then 1 else 0) (n 0)) (ze_wC c a n (ze_sC A 38 1) B E) := by
  intro sz
  refine ze_start (cc := cX8_tie) (maxL := 1) (ret := (some .int)) (own := RX8) (by decide) rfl rfl (Nat.le_of_ble_eq_true rfl) ?_
  obtain ⟨hn0, hn1, hn2, hn3, hn4⟩ := id hN
  intro p e s m_ below meth cd F ls hF hsz E0
  obtain ⟨S, hr, hlocks, hK, hW, hA, hl⟩ := E0
  have hX_ := S.1
  have hB_ := S.2.1
  have hts := S.2.2.2.2
  have hl : lv_has ls 1 [(0, .ref (a 0))] := hl
  have hiX5 : ∀ w ∈ u_ws RX5 TX5 10, w ∈ wsX8_tie := fun _ h => (List.mem_cons_of_mem _ (List.mem_append_left _ (List.mem_append_left _ (List.mem_append_left _ (List.mem_append_right _ h)))))
  have hiX8 : ∀ w ∈ u_ws RX8 TX8 8, w ∈ wsX8_tie := fun _ h => (List.mem_cons_of_mem _ (List.mem_append_left _ (List.mem_append_left _ (List.mem_append_left _ (List.mem_append_left _ (List.mem_append_right _ h))))))
  have w0 := hts (.fieldLink RX8 10 "Islandgrid" "network" "LIslandgrid$Network;") (List.mem_cons_of_mem _ (List.mem_append_left _ (List.mem_append_left _ (List.mem_append_left _ (List.mem_append_left _ (List.mem_append_left _ (List.mem_append_left _ (List.mem_of_getElem? (i := 6) rfl))))))))
  have w1 := hts (.fieldLink RX8 50 "Islandgrid$Network" "siteCount" "I") (List.mem_cons_of_mem _ (List.mem_append_left _ (List.mem_append_left _ (List.mem_append_left _ (List.mem_append_left _ (List.mem_append_left _ (List.mem_append_left _ (List.mem_of_getElem? (i := 7) rfl))))))))
  have w2 := hts (.fieldLink RX8 123 "Islandgrid$Network" "tied" "Z") (List.mem_cons_of_mem _ (List.mem_append_left _ (List.mem_append_left _ (List.mem_append_left _ (List.mem_append_left _ (List.mem_append_left _ (List.mem_append_left _ (List.mem_of_getElem? (i := 8) rfl))))))))
  refine lv_aload_n hX_ hB_ dX8_tie_0 rfl (lv_at hl 0 rfl) ?_
  refine ze_get (ci := 8) (C := RX8) (T := TX8) (N := 8) (v := .ref (a 1)) S hiX8 hK hW 0 (ze_at0 0 rfl) rfl 0 (by decide) rfl w0 dX8_tie_1 ?_
  refine ze_get (ci := 5) (C := RX5) (T := TX5) (N := 10) (v := .int (nI (n 0))) S hiX5 hK hW 1 (ze_at0 1 rfl) rfl 0 (by decide) rfl w1 dX8_tie_4 ?_
  refine lv_if_ne (tgt := 20) hX_ hB_ dX8_tie_7 (by decide) (fun c7 => ?_) (fun c7 => ?_)
  · have c7 : ¬ (n 0) = 0 := fun h9 => c7 ((nI_eq (a := (n 0)) (b := 0) (by omega) (by omega)).mpr h9)
    refine lv_aload_n hX_ hB_ dX8_tie_20 rfl (lv_at hl 0 rfl) ?_
    refine ze_get (ci := 8) (C := RX8) (T := TX8) (N := 8) (v := .ref (a 1)) S hiX8 hK hW 0 (ze_at0 0 rfl) rfl 0 (by decide) rfl w0 dX8_tie_21 ?_
    refine ze_get (ci := 5) (C := RX5) (T := TX5) (N := 10) (v := .int (A 38 0)) S hiX5 hK hW 1 (ze_at0 1 rfl) rfl 2 (by decide) rfl w2 dX8_tie_24 ?_
    refine lv_if_eq (tgt := 40) hX_ hB_ dX8_tie_27 (by decide) (fun c27 => ?_) (fun c27 => ?_)
    · refine lv_aload_n hX_ hB_ dX8_tie_40 rfl (lv_at hl 0 rfl) ?_
      refine ze_get (ci := 8) (C := RX8) (T := TX8) (N := 8) (v := .ref (a 1)) S hiX8 hK hW 0 (ze_at0 0 rfl) rfl 0 (by decide) rfl w0 dX8_tie_41 ?_
      refine lv_iconst (v := 0) hX_ hB_ dX8_tie_44 (by decide) ?_
      refine ze_Vi (As := [.int 0]) (rest := []) (ci := 5) (q0 := 1) (k := (RX5, TX5, 10)) S (zc_5_phaseOf l D c a n A B E 0 hN ⟨0, (by omega), rfl⟩) (cwV 1 hts gX8_tie_X5_phaseOf rfl rfl rfl (by decide +kernel) ⟨Nat.le_of_ble_eq_true rfl, Nat.le_of_ble_eq_true rfl⟩) hK hW hA rfl (ze_at0 1 rfl) rfl hl.1 rfl (lv_room (Nat.le_of_ble_eq_true rfl)) dX8_tie_45 ⟨Nat.le_of_ble_eq_true rfl, Nat.le_of_ble_eq_true rfl⟩ (fun H locs hW => ?_)
      refine lv_iconst (v := 0) hX_ hB_ dX8_tie_48 (by decide) ?_
      refine ze_Si (As := [.int (if zf_tied A 0 then 0 else A 0 (ze_ix 0)), .int 0]) (rest := []) S (zc_X5_apart l D c (ze_wC c a n A B E) (if zf_tied A 0 then 0 else A 0 (ze_ix 0)) 0) (va_cwS 2 hts gX8_tie_X5_apart rfl rfl rfl (by decide +kernel) ⟨Nat.le_of_ble_eq_true rfl, Nat.le_of_ble_eq_true rfl⟩) hK hW hA rfl hl.1 rfl (lv_room (Nat.le_of_ble_eq_true rfl)) dX8_tie_49 ⟨Nat.le_of_ble_eq_true rfl, Nat.le_of_ble_eq_true rfl⟩ (fun H locs hW => ?_)
      refine lv_bipush (v := 10) hX_ hB_ dX8_tie_52 (by decide) ?_
      refine lv_icmp_le (tgt := 67) hX_ hB_ dX8_tie_54 (by decide) (fun c54 => ?_) (fun c54 => ?_)
      · refine lv_aload_n hX_ hB_ dX8_tie_67 rfl (lv_at hl 0 rfl) ?_
        refine ze_get (ci := 8) (C := RX8) (T := TX8) (N := 8) (v := .ref (a 1)) S hiX8 hK hW 0 (ze_at0 0 rfl) rfl 0 (by decide) rfl w0 dX8_tie_68 ?_
        refine lv_iconst (v := 1) hX_ hB_ dX8_tie_71 (by decide) ?_
        refine ze_put (ci := 5) (C := RX5) (T := TX5) (N := 10) (v := .int 1) S hiX5 tyX5 tyX5_ok nmX5 hK hW 1 (ze_at0 1 rfl) rfl 2 (by decide) (Nat.le_of_ble_eq_true rfl) rfl rfl rfl w2 dX8_tie_72 (ze_pC1_2 1 _ _ _ _ _ _) (fun H locs hW => ?_)
        have hW : ze_W D (ze_wC c a n (ze_sC A 38 1) B E) F s.heap _ _ := hW
        refine lv_aload_n hX_ hB_ dX8_tie_75 rfl (lv_at hl 0 rfl) ?_
        refine ze_get (ci := 8) (C := RX8) (T := TX8) (N := 8) (v := .ref (a 1)) S hiX8 hK hW 0 (ze_at0 0 rfl) rfl 0 (by decide) rfl w0 dX8_tie_76 ?_
        refine lv_iconst (v := 0) hX_ hB_ dX8_tie_79 (by decide) ?_
        refine ze_Vi (As := [.int 0]) (rest := []) (ci := 5) (q0 := 1) (k := (RX5, TX5, 10)) S (zc_5_countSites l D c a n (ze_sC A 38 1) B E 0 hN) (cwV 1 hts gX8_tie_X5_countSites rfl rfl rfl (by decide +kernel) ⟨Nat.le_of_ble_eq_true rfl, Nat.le_of_ble_eq_true rfl⟩) hK hW hA rfl (ze_at0 1 rfl) rfl hl.1 rfl (lv_room (Nat.le_of_ble_eq_true rfl)) dX8_tie_80 ⟨Nat.le_of_ble_eq_true rfl, Nat.le_of_ble_eq_true rfl⟩ (fun H locs hW => ?_)
        exact ze_iret S hr hlocks hF hK hW rfl dX8_tie_83 (Nat.le_of_ble_eq_true rfl) (Nat.le_of_ble_eq_true rfl) rfl rfl
      · exact absurd h3 c54
    · exact absurd h2 c27
  · have c7 : (n 0) = 0 := (nI_eq (a := (n 0)) (b := 0) (by omega) (by omega)).mp c7
    exact absurd c7 h
set_option maxHeartbeats 4000000 in
set_option maxRecDepth 100000 in
theorem zp_untie_f (l : Launch) (D : va_G) (c : Nat → ClassId) (a n : Nat → Nat) (A : Nat → Nat → Int32) (B : Nat → Int64) (E : Nat → Nat → Int32) (hN : zf_N n) (h2 : ¬ A 38 0 = 0) : ze_I l yX8_untie wsX8_untie 1 23 0 0 D c (ze_wC c a n A B E) [.ref (a 0)] (ze_sum 0 (fun s => if E 0 s = 0 then 1 else 0) (n 0)) (ze_wC c a n (ze_sC A 38 0) B E) := by
  intro sz
  refine ze_start (cc := cX8_untie) (maxL := 1) (ret := (some .int)) (own := RX8) (by decide) rfl rfl (Nat.le_of_ble_eq_true rfl) ?_
  obtain ⟨hn0, hn1, hn2, hn3, hn4⟩ := id hN
  intro p e s m_ below meth cd F ls hF hsz E0
  obtain ⟨S, hr, hlocks, hK, hW, hA, hl⟩ := E0
  have hX_ := S.1
  have hB_ := S.2.1
  have hts := S.2.2.2.2
  have hl : lv_has ls 1 [(0, .ref (a 0))] := hl
  have hiX5 : ∀ w ∈ u_ws RX5 TX5 10, w ∈ wsX8_untie := fun _ h => (List.mem_cons_of_mem _ (List.mem_append_left _ (List.mem_append_right _ h)))
  have hiX8 : ∀ w ∈ u_ws RX8 TX8 8, w ∈ wsX8_untie := fun _ h => (List.mem_cons_of_mem _ (List.mem_append_left _ (List.mem_append_left _ (List.mem_append_right _ h))))
  have w0 := hts (.fieldLink RX8 10 "Islandgrid" "network" "LIslandgrid$Network;") (List.mem_cons_of_mem _ (List.mem_append_left _ (List.mem_append_left _ (List.mem_append_left _ (List.mem_of_getElem? (i := 2) rfl)))))
  have w1 := hts (.fieldLink RX8 123 "Islandgrid$Network" "tied" "Z") (List.mem_cons_of_mem _ (List.mem_append_left _ (List.mem_append_left _ (List.mem_append_left _ (List.mem_of_getElem? (i := 3) rfl)))))
  refine lv_aload_n hX_ hB_ dX8_untie_0 rfl (lv_at hl 0 rfl) ?_
  refine ze_get (ci := 8) (C := RX8) (T := TX8) (N := 8) (v := .ref (a 1)) S hiX8 hK hW 0 (ze_at0 0 rfl) rfl 0 (by decide) rfl w0 dX8_untie_1 ?_
  refine ze_get (ci := 5) (C := RX5) (T := TX5) (N := 10) (v := .int (A 38 0)) S hiX5 hK hW 1 (ze_at0 1 rfl) rfl 2 (by decide) rfl w1 dX8_untie_4 ?_
  refine lv_if_ne (tgt := 20) hX_ hB_ dX8_untie_7 (by decide) (fun c7 => ?_) (fun c7 => ?_)
  · refine lv_aload_n hX_ hB_ dX8_untie_20 rfl (lv_at hl 0 rfl) ?_
    refine ze_get (ci := 8) (C := RX8) (T := TX8) (N := 8) (v := .ref (a 1)) S hiX8 hK hW 0 (ze_at0 0 rfl) rfl 0 (by decide) rfl w0 dX8_untie_21 ?_
    refine lv_iconst (v := 0) hX_ hB_ dX8_untie_24 (by decide) ?_
    refine ze_put (ci := 5) (C := RX5) (T := TX5) (N := 10) (v := .int 0) S hiX5 tyX5 tyX5_ok nmX5 hK hW 1 (ze_at0 1 rfl) rfl 2 (by decide) (Nat.le_of_ble_eq_true rfl) rfl rfl rfl w1 dX8_untie_25 (ze_pC1_2 0 _ _ _ _ _ _) (fun H locs hW => ?_)
    have hW : ze_W D (ze_wC c a n (ze_sC A 38 0) B E) F s.heap _ _ := hW
    refine lv_aload_n hX_ hB_ dX8_untie_28 rfl (lv_at hl 0 rfl) ?_
    refine ze_get (ci := 8) (C := RX8) (T := TX8) (N := 8) (v := .ref (a 1)) S hiX8 hK hW 0 (ze_at0 0 rfl) rfl 0 (by decide) rfl w0 dX8_untie_29 ?_
    refine lv_iconst (v := 0) hX_ hB_ dX8_untie_32 (by decide) ?_
    refine ze_Vi (As := [.int 0]) (rest := []) (ci := 5) (q0 := 1) (k := (RX5, TX5, 10)) S (zc_5_countSites l D c a n (ze_sC A 38 0) B E 0 hN) (cwV 1 hts gX8_untie_X5_countSites rfl rfl rfl (by decide +kernel) ⟨Nat.le_of_ble_eq_true rfl, Nat.le_of_ble_eq_true rfl⟩) hK hW hA rfl (ze_at0 1 rfl) rfl hl.1 rfl (lv_room (Nat.le_of_ble_eq_true rfl)) dX8_untie_33 ⟨Nat.le_of_ble_eq_true rfl, Nat.le_of_ble_eq_true rfl⟩ (fun H locs hW => ?_)
    exact ze_iret S hr hlocks hF hK hW rfl dX8_untie_36 (Nat.le_of_ble_eq_true rfl) (Nat.le_of_ble_eq_true rfl) rfl rfl
  · exact absurd c7 h2
set_option maxHeartbeats 4000000 in
set_option maxRecDepth 100000 in
theorem zp_islands_f (l : Launch) (D : va_G) (c : Nat → ClassId) (a n : Nat → Nat) (A : Nat → Nat → Int32) (B : Nat → Int64) (E : Nat → Nat → Int32) (hN : zf_N n) : ze_I l yX8_islands wsX8_islands 1 22 0 0 D c (ze_wC c a n A B E) [.ref (a 0)] (zf_many (E 0) (n 0)) (ze_wC c a n A B E) := by
  intro sz
  refine ze_start (cc := cX8_islands) (maxL := 1) (ret := (some .int)) (own := RX8) (by decide) rfl rfl (Nat.le_of_ble_eq_true rfl) ?_
  obtain ⟨hn0, hn1, hn2, hn3, hn4⟩ := id hN
  intro p e s m_ below meth cd F ls hF hsz E0
  obtain ⟨S, hr, hlocks, hK, hW, hA, hl⟩ := E0
  have hX_ := S.1
  have hB_ := S.2.1
  have hts := S.2.2.2.2
  have hl : lv_has ls 1 [(0, .ref (a 0))] := hl
  have hiX8 : ∀ w ∈ u_ws RX8 TX8 8, w ∈ wsX8_islands := fun _ h => (List.mem_cons_of_mem _ (List.mem_append_left _ (List.mem_append_right _ h)))
  have w0 := hts (.fieldLink RX8 10 "Islandgrid" "network" "LIslandgrid$Network;") (List.mem_cons_of_mem _ (List.mem_append_left _ (List.mem_append_left _ (List.mem_of_getElem? (i := 0) rfl))))
  refine lv_aload_n hX_ hB_ dX8_islands_0 rfl (lv_at hl 0 rfl) ?_
  refine ze_get (ci := 8) (C := RX8) (T := TX8) (N := 8) (v := .ref (a 1)) S hiX8 hK hW 0 (ze_at0 0 rfl) rfl 0 (by decide) rfl w0 dX8_islands_1 ?_
  refine ze_Vi (As := []) (rest := []) (ci := 5) (q0 := 1) (k := (RX5, TX5, 10)) S (zc_5_countIslands l D c a n A B E  hN) (cwV 0 hts gX8_islands_X5_countIslands rfl rfl rfl (by decide +kernel) ⟨Nat.le_of_ble_eq_true rfl, Nat.le_of_ble_eq_true rfl⟩) hK hW hA rfl (ze_at0 1 rfl) rfl hl.1 rfl (lv_room (Nat.le_of_ble_eq_true rfl)) dX8_islands_4 ⟨Nat.le_of_ble_eq_true rfl, Nat.le_of_ble_eq_true rfl⟩ (fun H locs hW => ?_)
  exact ze_iret S hr hlocks hF hK hW rfl dX8_islands_7 (Nat.le_of_ble_eq_true rfl) (Nat.le_of_ble_eq_true rfl) rfl rfl
set_option maxHeartbeats 4000000 in
set_option maxRecDepth 100000 in
theorem zp_start_f (l : Launch) (D : va_G) (c : Nat → ClassId) (a n : Nat → Nat) (A : Nat → Nat → Int32) (B : Nat → Int64) (E : Nat → Nat → Int32) (j : Nat) (hN : zf_N n) (hj : j < n 2) (h : A 13 j = 111) (h2 : ¬ zf_short A j) : ze_I l yX8_start wsX8_start 2 42 0 0 D c (ze_wC c a n A B E) [.ref (a 0), .int (nI j)] (zf_start A j 11 j) (ze_wC c a n (zf_start A j) B E) := by
  intro sz
  refine ze_start (cc := cX8_start) (maxL := 3) (ret := (some .int)) (own := RX8) (by decide) rfl rfl (Nat.le_of_ble_eq_true rfl) ?_
  obtain ⟨hn0, hn1, hn2, hn3, hn4⟩ := id hN
  intro p e s m_ below meth cd F ls hF hsz E0
  obtain ⟨S, hr, hlocks, hK, hW, hA, hl⟩ := E0
  have hX_ := S.1
  have hB_ := S.2.1
  have hts := S.2.2.2.2
  have hl : lv_has ls 3 [(0, .ref (a 0)), (1, .int (nI j))] := hl
  have hiX1 : ∀ w ∈ u_ws RX1 TX1 8, w ∈ wsX8_start := fun _ h => (List.mem_cons_of_mem _ (List.mem_append_left _ (List.mem_append_left _ (List.mem_append_left _ (List.mem_append_left _ (List.mem_append_left _ (List.mem_append_right _ h)))))))
  have w0 := hts (.fieldLink RX8 169 "Islandgrid$Generator" "mode" "C") (List.mem_cons_of_mem _ (List.mem_append_left _ (List.mem_append_left _ (List.mem_append_left _ (List.mem_append_left _ (List.mem_append_left _ (List.mem_append_left _ (List.mem_append_left _ (List.mem_of_getElem? (i := 4) rfl)))))))))
  have w1 := hts (.fieldLink RX8 184 "Islandgrid$Generator" "left" "I") (List.mem_cons_of_mem _ (List.mem_append_left _ (List.mem_append_left _ (List.mem_append_left _ (List.mem_append_left _ (List.mem_append_left _ (List.mem_append_left _ (List.mem_append_left _ (List.mem_of_getElem? (i := 5) rfl)))))))))
  refine lv_aload_n hX_ hB_ dX8_start_0 rfl (lv_at hl 0 rfl) ?_
  refine lv_iload_n hX_ hB_ dX8_start_1 rfl (lv_at hl 1 rfl) ?_
  refine ze_Vr (As := [.int (nI j)]) (rest := []) (ci := 8) (q0 := 0) (k := (RX8, TX8, 8)) S (zp_generatorAt l D c a n A B E j hN (by omega)) (cwV 1 hts gX8_start_X8_generatorAt rfl rfl rfl (by decide +kernel) ⟨Nat.le_of_ble_eq_true rfl, Nat.le_of_ble_eq_true rfl⟩) hK hW hA rfl (ze_at0 0 rfl) rfl hl.1 rfl (lv_room (Nat.le_of_ble_eq_true rfl)) dX8_start_2 ⟨Nat.le_of_ble_eq_true rfl, Nat.le_of_ble_eq_true rfl⟩ (fun H locs hW => ?_)
  refine lv_astore_n (lv' := [(2, .ref (a (20 + j))), (0, .ref (a 0)), (1, .int (nI j))]) hX_ hB_ dX8_start_5 rfl hl (by decide) rfl (fun ls hl => ?_)
  refine lv_aload_n hX_ hB_ dX8_start_6 rfl (lv_at hl 0 rfl) ?_
  refine ze_get (ci := 1) (C := RX1) (T := TX1) (N := 8) (v := .int (A 13 j)) S hiX1 hK hW (18 + j) (ze_atG (g := j) (by omega)) rfl 5 (by decide) rfl w0 dX8_start_7 ?_
  refine lv_bipush (v := 111) hX_ hB_ dX8_start_10 (by decide) ?_
  refine lv_icmp_eq (tgt := 25) hX_ hB_ dX8_start_12 (by decide) (fun c12 => ?_) (fun c12 => ?_)
  · refine lv_aload_n hX_ hB_ dX8_start_25 rfl (lv_at hl 0 rfl) ?_
    refine ze_Vi (As := []) (rest := []) (ci := 1) (q0 := (18 + j)) (k := (RX1, TX1, 8)) S (zc_1_isShort l D c a n A B E j hN (by omega)) (cwV 0 hts gX8_start_X1_isShort rfl rfl rfl (by decide +kernel) ⟨Nat.le_of_ble_eq_true rfl, Nat.le_of_ble_eq_true rfl⟩) hK hW hA rfl (ze_atG (g := j) (by omega)) rfl hl.1 rfl (lv_room (Nat.le_of_ble_eq_true rfl)) dX8_start_26 ⟨Nat.le_of_ble_eq_true rfl, Nat.le_of_ble_eq_true rfl⟩ (fun H locs hW => ?_)
    refine lv_if_eq (tgt := 42) hX_ hB_ dX8_start_29 (by decide) (fun c29 => ?_) (fun c29 => ?_)
    · have c29 : ¬ (zf_short A j) := ze_bf c29
      refine lv_aload_n hX_ hB_ dX8_start_42 rfl (lv_at hl 0 rfl) ?_
      refine ze_Vv (As := []) (rest := []) (ci := 1) (q0 := (18 + j)) (k := (RX1, TX1, 8)) S (zc_1_switchOn l D c a n A B E j hN (by omega)) (cwV 0 hts gX8_start_X1_switchOn rfl rfl rfl (by decide +kernel) ⟨Nat.le_of_ble_eq_true rfl, Nat.le_of_ble_eq_true rfl⟩) hK hW hA rfl (ze_atG (g := j) (by omega)) rfl hl.1 rfl (lv_room (Nat.le_of_ble_eq_true rfl)) dX8_start_43 ⟨Nat.le_of_ble_eq_true rfl, Nat.le_of_ble_eq_true rfl⟩ (fun H locs hW => ?_)
      have hW : ze_W D (ze_wC c a n (zf_start A j) B E) F s.heap _ _ := hW
      refine lv_aload_n hX_ hB_ dX8_start_46 rfl (lv_at hl 0 rfl) ?_
      refine ze_get (ci := 1) (C := RX1) (T := TX1) (N := 8) (v := .int (((zf_start A j) 11) j)) S hiX1 hK hW (18 + j) (ze_atG (g := j) (by omega)) rfl 6 (by decide) rfl w1 dX8_start_47 ?_
      exact ze_iret S hr hlocks hF hK hW rfl dX8_start_50 (Nat.le_of_ble_eq_true rfl) (Nat.le_of_ble_eq_true rfl) (by simp only [ze_b, eq_true h, eq_false h2, eq_true c12, eq_false c29, not_true_eq_false, not_false_eq_true, and_true, true_and, and_false, false_and, or_true, true_or, or_false, false_or, and_self, or_self, Decidable.not_not, if_true, if_false, reduceIte, reduceCtorEq, ne_eq, eq_self, Int32.lt_irrefl, Int32.le_refl, Nat.lt_irrefl]) rfl
    · have c29 : zf_short A j := ze_bt c29
      exact absurd c29 h2
  · exact absurd h c12
set_option maxHeartbeats 4000000 in
set_option maxRecDepth 100000 in
theorem zp_stop_f (l : Launch) (D : va_G) (c : Nat → ClassId) (a n : Nat → Nat) (A : Nat → Nat → Int32) (B : Nat → Int64) (E : Nat → Nat → Int32) (j : Nat) (hN : zf_N n) (hj : j < n 2) (h : ¬ A 13 j = 111) : ze_I l yX8_stop wsX8_stop 2 42 0 0 D c (ze_wC c a n A B E) [.ref (a 0), .int (nI j)] (A 10 j) (ze_wC c a n (ze_sE A 13 j 111) B E) := by
  intro sz
  refine ze_start (cc := cX8_stop) (maxL := 3) (ret := (some .int)) (own := RX8) (by decide) rfl rfl (Nat.le_of_ble_eq_true rfl) ?_
  obtain ⟨hn0, hn1, hn2, hn3, hn4⟩ := id hN
  intro p e s m_ below meth cd F ls hF hsz E0
  obtain ⟨S, hr, hlocks, hK, hW, hA, hl⟩ := E0
  have hX_ := S.1
  have hB_ := S.2.1
  have hts := S.2.2.2.2
  have hl : lv_has ls 3 [(0, .ref (a 0)), (1, .int (nI j))] := hl
  have hiX1 : ∀ w ∈ u_ws RX1 TX1 8, w ∈ wsX8_stop := fun _ h => (List.mem_cons_of_mem _ (List.mem_append_left _ (List.mem_append_left _ (List.mem_append_left _ (List.mem_append_left _ (List.mem_append_right _ h))))))
  have w0 := hts (.fieldLink RX8 169 "Islandgrid$Generator" "mode" "C") (List.mem_cons_of_mem _ (List.mem_append_left _ (List.mem_append_left _ (List.mem_append_left _ (List.mem_append_left _ (List.mem_append_left _ (List.mem_of_getElem? (i := 2) rfl)))))))
  have w1 := hts (.fieldLink RX8 192 "Islandgrid$Generator" "tank" "I") (List.mem_cons_of_mem _ (List.mem_append_left _ (List.mem_append_left _ (List.mem_append_left _ (List.mem_append_left _ (List.mem_append_left _ (List.mem_of_getElem? (i := 3) rfl)))))))
  refine lv_aload_n hX_ hB_ dX8_stop_0 rfl (lv_at hl 0 rfl) ?_
  refine lv_iload_n hX_ hB_ dX8_stop_1 rfl (lv_at hl 1 rfl) ?_
  refine ze_Vr (As := [.int (nI j)]) (rest := []) (ci := 8) (q0 := 0) (k := (RX8, TX8, 8)) S (zp_generatorAt l D c a n A B E j hN (by omega)) (cwV 1 hts gX8_stop_X8_generatorAt rfl rfl rfl (by decide +kernel) ⟨Nat.le_of_ble_eq_true rfl, Nat.le_of_ble_eq_true rfl⟩) hK hW hA rfl (ze_at0 0 rfl) rfl hl.1 rfl (lv_room (Nat.le_of_ble_eq_true rfl)) dX8_stop_2 ⟨Nat.le_of_ble_eq_true rfl, Nat.le_of_ble_eq_true rfl⟩ (fun H locs hW => ?_)
  refine lv_astore_n (lv' := [(2, .ref (a (20 + j))), (0, .ref (a 0)), (1, .int (nI j))]) hX_ hB_ dX8_stop_5 rfl hl (by decide) rfl (fun ls hl => ?_)
  refine lv_aload_n hX_ hB_ dX8_stop_6 rfl (lv_at hl 0 rfl) ?_
  refine ze_get (ci := 1) (C := RX1) (T := TX1) (N := 8) (v := .int (A 13 j)) S hiX1 hK hW (18 + j) (ze_atG (g := j) (by omega)) rfl 5 (by decide) rfl w0 dX8_stop_7 ?_
  refine lv_bipush (v := 111) hX_ hB_ dX8_stop_10 (by decide) ?_
  refine lv_icmp_ne (tgt := 25) hX_ hB_ dX8_stop_12 (by decide) (fun c12 => ?_) (fun c12 => ?_)
  · refine lv_aload_n hX_ hB_ dX8_stop_25 rfl (lv_at hl 0 rfl) ?_
    refine ze_Vv (As := []) (rest := []) (ci := 1) (q0 := (18 + j)) (k := (RX1, TX1, 8)) S (zc_1_switchOff l D c a n A B E j hN (by omega)) (cwV 0 hts gX8_stop_X1_switchOff rfl rfl rfl (by decide +kernel) ⟨Nat.le_of_ble_eq_true rfl, Nat.le_of_ble_eq_true rfl⟩) hK hW hA rfl (ze_atG (g := j) (by omega)) rfl hl.1 rfl (lv_room (Nat.le_of_ble_eq_true rfl)) dX8_stop_26 ⟨Nat.le_of_ble_eq_true rfl, Nat.le_of_ble_eq_true rfl⟩ (fun H locs hW => ?_)
    have hW : ze_W D (ze_wC c a n (ze_sE A 13 j 111) B E) F s.heap _ _ := hW
    refine lv_aload_n hX_ hB_ dX8_stop_29 rfl (lv_at hl 0 rfl) ?_
    refine ze_get (ci := 1) (C := RX1) (T := TX1) (N := 8) (v := .int (A 10 j)) S hiX1 hK hW (18 + j) (ze_atG (g := j) (by omega)) rfl 4 (by decide) rfl w1 dX8_stop_30 ?_
    exact ze_iret S hr hlocks hF hK hW rfl dX8_stop_33 (Nat.le_of_ble_eq_true rfl) (Nat.le_of_ble_eq_true rfl) rfl rfl
  · exact absurd c12 h
set_option maxHeartbeats 4000000 in
set_option maxRecDepth 100000 in
theorem zp_startNext_f (l : Launch) (D : va_G) (c : Nat → ClassId) (a n : Nat → Nat) (A : Nat → Nat → Int32) (B : Nat → Int64) (E : Nat → Nat → Int32) (j : Nat) (hN : zf_N n) (hj : j < n 0) (hS : zf_S n A) (v : Nat) (hpick : zf_nx A (E 0) (E 0 j) (n 2) = some v) : ze_I l yX8_startNext wsX8_startNext 2 46 0 0 D c (ze_wC c a n A B E) [.ref (a 0), .int (nI j)] (nI v) (ze_wC c a n (zf_start A v) B E) := by
  intro sz
  refine ze_start (cc := cX8_startNext) (maxL := 3) (ret := (some .int)) (own := RX8) (by decide) rfl rfl (Nat.le_of_ble_eq_true rfl) ?_
  obtain ⟨hn0, hn1, hn2, hn3, hn4⟩ := id hN
  have hv9 : v < n 2 := zf_nxlt (Nat.le_refl _) hpick
  intro p e s m_ below meth cd F ls hF hsz E0
  obtain ⟨S, hr, hlocks, hK, hW, hA, hl⟩ := E0
  have hX_ := S.1
  have hB_ := S.2.1
  have hts := S.2.2.2.2
  have hl : lv_has ls 3 [(0, .ref (a 0)), (1, .int (nI j))] := hl
  have hiX0 : ∀ w ∈ u_ws RX0 TX0 5, w ∈ wsX8_startNext := fun _ h => (List.mem_cons_of_mem _ (List.mem_append_left _ (List.mem_append_left _ (List.mem_append_left _ (List.mem_append_right _ h)))))
  have hiX5 : ∀ w ∈ u_ws RX5 TX5 10, w ∈ wsX8_startNext := fun _ h => (List.mem_cons_of_mem _ (List.mem_append_left _ (List.mem_append_left _ (List.mem_append_left _ (List.mem_append_left _ (List.mem_append_right _ h))))))
  have hiX8 : ∀ w ∈ u_ws RX8 TX8 8, w ∈ wsX8_startNext := fun _ h => (List.mem_cons_of_mem _ (List.mem_append_left _ (List.mem_append_left _ (List.mem_append_left _ (List.mem_append_left _ (List.mem_append_left _ (List.mem_append_right _ h)))))))
  have w0 := hts (.fieldLink RX8 21 "Islandgrid" "fleet" "LIslandgrid$Fleet;") (List.mem_cons_of_mem _ (List.mem_append_left _ (List.mem_append_left _ (List.mem_append_left _ (List.mem_append_left _ (List.mem_append_left _ (List.mem_append_left _ (List.mem_append_left _ (List.mem_of_getElem? (i := 2) rfl)))))))))
  have w1 := hts (.fieldLink RX8 10 "Islandgrid" "network" "LIslandgrid$Network;") (List.mem_cons_of_mem _ (List.mem_append_left _ (List.mem_append_left _ (List.mem_append_left _ (List.mem_append_left _ (List.mem_append_left _ (List.mem_append_left _ (List.mem_append_left _ (List.mem_of_getElem? (i := 3) rfl)))))))))
  have w2 := hts (.fieldLink RX8 140 "Islandgrid$Network" "islandOf" "[I") (List.mem_cons_of_mem _ (List.mem_append_left _ (List.mem_append_left _ (List.mem_append_left _ (List.mem_append_left _ (List.mem_append_left _ (List.mem_append_left _ (List.mem_append_left _ (List.mem_of_getElem? (i := 4) rfl)))))))))
  have w3 := hts (.fieldLink RX8 200 "Islandgrid$Fleet" "all" "[LIslandgrid$Generator;") (List.mem_cons_of_mem _ (List.mem_append_left _ (List.mem_append_left _ (List.mem_append_left _ (List.mem_append_left _ (List.mem_append_left _ (List.mem_append_left _ (List.mem_append_left _ (List.mem_of_getElem? (i := 5) rfl)))))))))
  refine lv_aload_n hX_ hB_ dX8_startNext_0 rfl (lv_at hl 0 rfl) ?_
  refine lv_iload_n hX_ hB_ dX8_startNext_1 rfl (lv_at hl 1 rfl) ?_
  refine ze_Vv (As := [.int (nI j)]) (rest := []) (ci := 8) (q0 := 0) (k := (RX8, TX8, 8)) S (zp_checkSite l D c a n A B E j hN (by omega)) (cwV 1 hts gX8_startNext_X8_checkSite rfl rfl rfl (by decide +kernel) ⟨Nat.le_of_ble_eq_true rfl, Nat.le_of_ble_eq_true rfl⟩) hK hW hA rfl (ze_at0 0 rfl) rfl hl.1 rfl (lv_room (Nat.le_of_ble_eq_true rfl)) dX8_startNext_2 ⟨Nat.le_of_ble_eq_true rfl, Nat.le_of_ble_eq_true rfl⟩ (fun H locs hW => ?_)
  refine lv_aload_n hX_ hB_ dX8_startNext_5 rfl (lv_at hl 0 rfl) ?_
  refine ze_get (ci := 8) (C := RX8) (T := TX8) (N := 8) (v := .ref (a 9)) S hiX8 hK hW 0 (ze_at0 0 rfl) rfl 1 (by decide) rfl w0 dX8_startNext_6 ?_
  refine lv_aload_n hX_ hB_ dX8_startNext_9 rfl (lv_at hl 0 rfl) ?_
  refine ze_get (ci := 8) (C := RX8) (T := TX8) (N := 8) (v := .ref (a 1)) S hiX8 hK hW 0 (ze_at0 0 rfl) rfl 0 (by decide) rfl w1 dX8_startNext_10 ?_
  refine ze_get (ci := 5) (C := RX5) (T := TX5) (N := 10) (v := .ref (a 3)) S hiX5 hK hW 1 (ze_at0 1 rfl) rfl 4 (by decide) rfl w2 dX8_startNext_13 ?_
  refine lv_iload_n hX_ hB_ dX8_startNext_16 rfl (lv_at hl 1 rfl) ?_
  refine ze_ialdN hX_ hB_ hK hW 3 (f := E 0) (ze_at0 3 rfl) (i := j) (by omega) (by decide) dX8_startNext_17 ?_
  refine ze_Vi (As := [.int (E 0 j)]) (rest := []) (ci := 0) (q0 := 9) (k := (RX0, TX0, 5)) S (zc_0_nextToStart l D c a n A B E (E 0 j) hN hS) (cwV 1 hts gX8_startNext_X0_nextToStart rfl rfl rfl (by decide +kernel) ⟨Nat.le_of_ble_eq_true rfl, Nat.le_of_ble_eq_true rfl⟩) hK hW hA rfl (ze_at0 9 rfl) rfl hl.1 rfl (lv_room (Nat.le_of_ble_eq_true rfl)) dX8_startNext_18 ⟨Nat.le_of_ble_eq_true rfl, Nat.le_of_ble_eq_true rfl⟩ (fun H locs hW => ?_)
  refine ze_top (by rw [hpick]; rfl : _ = nI v) ?_
  refine lv_istore_n (lv' := [(2, .int (nI v)), (0, .ref (a 0)), (1, .int (nI j))]) hX_ hB_ dX8_startNext_21 rfl hl (by decide) rfl (fun ls hl => ?_)
  refine lv_iload_n hX_ hB_ dX8_startNext_22 rfl (lv_at hl 0 rfl) ?_
  refine lv_iconst (v := (-1)) hX_ hB_ dX8_startNext_23 (by decide) ?_
  refine lv_icmp_ne (tgt := 37) hX_ hB_ dX8_startNext_24 (by decide) (fun c24 => ?_) (fun c24 => ?_)
  · refine lv_aload_n hX_ hB_ dX8_startNext_37 rfl (lv_at hl 1 rfl) ?_
    refine ze_get (ci := 8) (C := RX8) (T := TX8) (N := 8) (v := .ref (a 9)) S hiX8 hK hW 0 (ze_at0 0 rfl) rfl 1 (by decide) rfl w0 dX8_startNext_38 ?_
    refine ze_get (ci := 0) (C := RX0) (T := TX0) (N := 5) (v := .ref (a 10)) S hiX0 hK hW 9 (ze_at0 9 rfl) rfl 1 (by decide) rfl w3 dX8_startNext_41 ?_
    refine lv_iload_n hX_ hB_ dX8_startNext_44 rfl (lv_at hl 0 rfl) ?_
    refine ze_aldN hX_ hB_ hK hW 10 3 (ze_at0 10 rfl) rfl (i := v) (by omega) (by omega) (by decide) dX8_startNext_45 ?_
    refine ze_Vv (As := []) (rest := []) (ci := 1) (q0 := (18 + v)) (k := (RX1, TX1, 8)) S (zc_1_switchOn l D c a n A B E v hN (by omega)) (cwV 0 hts gX8_startNext_X1_switchOn rfl rfl rfl (by decide +kernel) ⟨Nat.le_of_ble_eq_true rfl, Nat.le_of_ble_eq_true rfl⟩) hK hW hA rfl (ze_atG (g := v) (by omega)) rfl hl.1 rfl (lv_room (Nat.le_of_ble_eq_true rfl)) dX8_startNext_46 ⟨Nat.le_of_ble_eq_true rfl, Nat.le_of_ble_eq_true rfl⟩ (fun H locs hW => ?_)
    have hW : ze_W D (ze_wC c a n (zf_start A v) B E) F s.heap _ _ := hW
    refine lv_iload_n hX_ hB_ dX8_startNext_49 rfl (lv_at hl 0 rfl) ?_
    exact ze_iret S hr hlocks hF hK hW rfl dX8_startNext_50 (Nat.le_of_ble_eq_true rfl) (Nat.le_of_ble_eq_true rfl) rfl rfl
  · exact absurd c24 (zf_nIm1 (by omega))
set_option maxHeartbeats 4000000 in
set_option maxRecDepth 100000 in
theorem zp_refuel_f (l : Launch) (D : va_G) (c : Nat → ClassId) (a n : Nat → Nat) (A : Nat → Nat → Int32) (B : Nat → Int64) (E : Nat → Nat → Int32) (j : Nat) (hN : zf_N n) (hj : j < n 2) (y : Int32) (h : zf_isIn y 1 9999) (h2 : A 10 j + y ≤ 99999) : ze_I l yX8_refuel wsX8_refuel 2 42 0 0 D c (ze_wC c a n A B E) [.ref (a 0), .int (nI j), .int y] (A 10 j + y) (ze_wC c a n (ze_sE A 10 j (A 10 j + y)) B E) := by
  intro sz
  refine ze_start (cc := cX8_refuel) (maxL := 4) (ret := (some .int)) (own := RX8) (by decide) rfl rfl (Nat.le_of_ble_eq_true rfl) ?_
  obtain ⟨hn0, hn1, hn2, hn3, hn4⟩ := id hN
  intro p e s m_ below meth cd F ls hF hsz E0
  obtain ⟨S, hr, hlocks, hK, hW, hA, hl⟩ := E0
  have hX_ := S.1
  have hB_ := S.2.1
  have hts := S.2.2.2.2
  have hl : lv_has ls 4 [(0, .ref (a 0)), (1, .int (nI j)), (2, .int y)] := hl
  have hiX1 : ∀ w ∈ u_ws RX1 TX1 8, w ∈ wsX8_refuel := fun _ h => (List.mem_cons_of_mem _ (List.mem_append_left _ (List.mem_append_left _ (List.mem_append_left _ (List.mem_append_left _ (List.mem_append_left _ (List.mem_append_right _ h)))))))
  have w0 := hts (.fieldLink RX8 192 "Islandgrid$Generator" "tank" "I") (List.mem_cons_of_mem _ (List.mem_append_left _ (List.mem_append_left _ (List.mem_append_left _ (List.mem_append_left _ (List.mem_append_left _ (List.mem_append_left _ (List.mem_of_getElem? (i := 2) rfl))))))))
  have w1 := hts (.constant RX8 204 (99999)) (List.mem_cons_of_mem _ (List.mem_append_left _ (List.mem_append_left _ (List.mem_append_left _ (List.mem_append_left _ (List.mem_append_left _ (List.mem_append_left _ (List.mem_of_getElem? (i := 3) rfl))))))))
  refine lv_aload_n hX_ hB_ dX8_refuel_0 rfl (lv_at hl 0 rfl) ?_
  refine lv_iload_n hX_ hB_ dX8_refuel_1 rfl (lv_at hl 1 rfl) ?_
  refine ze_Vr (As := [.int (nI j)]) (rest := []) (ci := 8) (q0 := 0) (k := (RX8, TX8, 8)) S (zp_generatorAt l D c a n A B E j hN (by omega)) (cwV 1 hts gX8_refuel_X8_generatorAt rfl rfl rfl (by decide +kernel) ⟨Nat.le_of_ble_eq_true rfl, Nat.le_of_ble_eq_true rfl⟩) hK hW hA rfl (ze_at0 0 rfl) rfl hl.1 rfl (lv_room (Nat.le_of_ble_eq_true rfl)) dX8_refuel_2 ⟨Nat.le_of_ble_eq_true rfl, Nat.le_of_ble_eq_true rfl⟩ (fun H locs hW => ?_)
  refine lv_astore_n (lv' := [(3, .ref (a (20 + j))), (0, .ref (a 0)), (1, .int (nI j)), (2, .int y)]) hX_ hB_ dX8_refuel_5 rfl hl (by decide) rfl (fun ls hl => ?_)
  refine lv_iload_n hX_ hB_ dX8_refuel_6 rfl (lv_at hl 3 rfl) ?_
  refine lv_iconst (v := 1) hX_ hB_ dX8_refuel_7 (by decide) ?_
  refine lv_sipush (v := 9999) hX_ hB_ dX8_refuel_8 (by decide) ?_
  refine ze_Sv (As := [.int y, .int 1, .int 9999]) (rest := []) S (zp_checkRange l D c (ze_wC c a n A B E) y 1 9999 (by assumption)) (va_cwS 3 hts gX8_refuel_X8_checkRange rfl rfl rfl (by decide +kernel) ⟨Nat.le_of_ble_eq_true rfl, Nat.le_of_ble_eq_true rfl⟩) hK hW hA rfl hl.1 rfl (lv_room (Nat.le_of_ble_eq_true rfl)) dX8_refuel_11 ⟨Nat.le_of_ble_eq_true rfl, Nat.le_of_ble_eq_true rfl⟩ (fun H locs hW => ?_)
  refine lv_aload_n hX_ hB_ dX8_refuel_14 rfl (lv_at hl 0 rfl) ?_
  refine ze_get (ci := 1) (C := RX1) (T := TX1) (N := 8) (v := .int (A 10 j)) S hiX1 hK hW (18 + j) (ze_atG (g := j) (by omega)) rfl 4 (by decide) rfl w0 dX8_refuel_15 ?_
  refine lv_iload_n hX_ hB_ dX8_refuel_18 rfl (lv_at hl 3 rfl) ?_
  refine lv_iadd hX_ hB_ dX8_refuel_19 ?_
  refine lv_ldc (own := RX8) (v := 99999) hX_ hB_ S.2.2.2.1 w1 dX8_refuel_20 ?_
  refine lv_icmp_le (tgt := 35) hX_ hB_ dX8_refuel_22 (by decide) (fun c22 => ?_) (fun c22 => ?_)
  · refine lv_aload_n hX_ hB_ dX8_refuel_35 rfl (lv_at hl 0 rfl) ?_
    refine lv_dup hX_ hB_ dX8_refuel_36 rfl ?_
    refine ze_get (ci := 1) (C := RX1) (T := TX1) (N := 8) (v := .int (A 10 j)) S hiX1 hK hW (18 + j) (ze_atG (g := j) (by omega)) rfl 4 (by decide) rfl w0 dX8_refuel_37 ?_
    refine lv_iload_n hX_ hB_ dX8_refuel_40 rfl (lv_at hl 3 rfl) ?_
    refine lv_iadd hX_ hB_ dX8_refuel_41 ?_
    refine ze_put (ci := 1) (C := RX1) (T := TX1) (N := 8) (v := .int (A 10 j + y)) S hiX1 tyX1 tyX1_ok nmX1 hK hW (18 + j) (ze_atG (g := j) (by omega)) rfl 4 (by decide) (Nat.le_of_ble_eq_true rfl) rfl rfl rfl w0 dX8_refuel_42 (ze_pG4 j (A 10 j + y) _ _ _ _ _ _ (by omega)) (fun H locs hW => ?_)
    have hW : ze_W D (ze_wC c a n (ze_sE A 10 j (A 10 j + y)) B E) F s.heap _ _ := hW
    refine lv_aload_n hX_ hB_ dX8_refuel_45 rfl (lv_at hl 0 rfl) ?_
    refine ze_get (ci := 1) (C := RX1) (T := TX1) (N := 8) (v := .int ((upd (A 10) j (A 10 j + y)) j)) S hiX1 hK hW (18 + j) (ze_atG (g := j) (by omega)) rfl 4 (by decide) rfl w0 dX8_refuel_46 ?_
    refine ze_top (ze_updat _ _ _) ?_
    exact ze_iret S hr hlocks hF hK hW rfl dX8_refuel_49 (Nat.le_of_ble_eq_true rfl) (Nat.le_of_ble_eq_true rfl) rfl rfl
  · exact absurd h2 c22
set_option maxHeartbeats 4000000 in
set_option maxRecDepth 100000 in
theorem zp_state_f (l : Launch) (D : va_G) (c : Nat → ClassId) (a n : Nat → Nat) (A : Nat → Nat → Int32) (B : Nat → Int64) (E : Nat → Nat → Int32) (j : Nat) (hN : zf_N n) (hj : j < n 2) (hC : zf_chr (A 13 j)) : ze_I l yX8_state wsX8_state 2 42 0 0 D c (ze_wC c a n A B E) [.ref (a 0), .int (nI j)] (A 13 j) (ze_wC c a n A B E) := by
  intro sz
  refine ze_start (cc := cX8_state) (maxL := 2) (ret := (some .char)) (own := RX8) (by decide) rfl rfl (Nat.le_of_ble_eq_true rfl) ?_
  obtain ⟨hn0, hn1, hn2, hn3, hn4⟩ := id hN
  intro p e s m_ below meth cd F ls hF hsz E0
  obtain ⟨S, hr, hlocks, hK, hW, hA, hl⟩ := E0
  have hX_ := S.1
  have hB_ := S.2.1
  have hts := S.2.2.2.2
  have hl : lv_has ls 2 [(0, .ref (a 0)), (1, .int (nI j))] := hl
  have hiX1 : ∀ w ∈ u_ws RX1 TX1 8, w ∈ wsX8_state := fun _ h => (List.mem_cons_of_mem _ (List.mem_append_left _ (List.mem_append_left _ (List.mem_append_left _ (List.mem_append_right _ h)))))
  have w0 := hts (.fieldLink RX8 169 "Islandgrid$Generator" "mode" "C") (List.mem_cons_of_mem _ (List.mem_append_left _ (List.mem_append_left _ (List.mem_append_left _ (List.mem_append_left _ (List.mem_of_getElem? (i := 0) rfl))))))
  refine lv_aload_n hX_ hB_ dX8_state_0 rfl (lv_at hl 0 rfl) ?_
  refine lv_iload_n hX_ hB_ dX8_state_1 rfl (lv_at hl 1 rfl) ?_
  refine ze_Vr (As := [.int (nI j)]) (rest := []) (ci := 8) (q0 := 0) (k := (RX8, TX8, 8)) S (zp_generatorAt l D c a n A B E j hN (by omega)) (cwV 1 hts gX8_state_X8_generatorAt rfl rfl rfl (by decide +kernel) ⟨Nat.le_of_ble_eq_true rfl, Nat.le_of_ble_eq_true rfl⟩) hK hW hA rfl (ze_at0 0 rfl) rfl hl.1 rfl (lv_room (Nat.le_of_ble_eq_true rfl)) dX8_state_2 ⟨Nat.le_of_ble_eq_true rfl, Nat.le_of_ble_eq_true rfl⟩ (fun H locs hW => ?_)
  refine ze_get (ci := 1) (C := RX1) (T := TX1) (N := 8) (v := .int (A 13 j)) S hiX1 hK hW (18 + j) (ze_atG (g := j) (by omega)) rfl 5 (by decide) rfl w0 dX8_state_5 ?_
  exact ze_iret S hr hlocks hF hK hW (zf_narc hC) dX8_state_8 (Nat.le_of_ble_eq_true rfl) (Nat.le_of_ble_eq_true rfl) rfl rfl
set_option maxHeartbeats 4000000 in
set_option maxRecDepth 100000 in
theorem zp_fuel_f (l : Launch) (D : va_G) (c : Nat → ClassId) (a n : Nat → Nat) (A : Nat → Nat → Int32) (B : Nat → Int64) (E : Nat → Nat → Int32) (j : Nat) (hN : zf_N n) (hj : j < n 2) : ze_I l yX8_fuel wsX8_fuel 2 42 0 0 D c (ze_wC c a n A B E) [.ref (a 0), .int (nI j)] (A 10 j) (ze_wC c a n A B E) := by
  intro sz
  refine ze_start (cc := cX8_fuel) (maxL := 2) (ret := (some .int)) (own := RX8) (by decide) rfl rfl (Nat.le_of_ble_eq_true rfl) ?_
  obtain ⟨hn0, hn1, hn2, hn3, hn4⟩ := id hN
  intro p e s m_ below meth cd F ls hF hsz E0
  obtain ⟨S, hr, hlocks, hK, hW, hA, hl⟩ := E0
  have hX_ := S.1
  have hB_ := S.2.1
  have hts := S.2.2.2.2
  have hl : lv_has ls 2 [(0, .ref (a 0)), (1, .int (nI j))] := hl
  have hiX1 : ∀ w ∈ u_ws RX1 TX1 8, w ∈ wsX8_fuel := fun _ h => (List.mem_cons_of_mem _ (List.mem_append_left _ (List.mem_append_left _ (List.mem_append_left _ (List.mem_append_right _ h)))))
  have w0 := hts (.fieldLink RX8 192 "Islandgrid$Generator" "tank" "I") (List.mem_cons_of_mem _ (List.mem_append_left _ (List.mem_append_left _ (List.mem_append_left _ (List.mem_append_left _ (List.mem_of_getElem? (i := 0) rfl))))))
  refine lv_aload_n hX_ hB_ dX8_fuel_0 rfl (lv_at hl 0 rfl) ?_
  refine lv_iload_n hX_ hB_ dX8_fuel_1 rfl (lv_at hl 1 rfl) ?_
  refine ze_Vr (As := [.int (nI j)]) (rest := []) (ci := 8) (q0 := 0) (k := (RX8, TX8, 8)) S (zp_generatorAt l D c a n A B E j hN (by omega)) (cwV 1 hts gX8_fuel_X8_generatorAt rfl rfl rfl (by decide +kernel) ⟨Nat.le_of_ble_eq_true rfl, Nat.le_of_ble_eq_true rfl⟩) hK hW hA rfl (ze_at0 0 rfl) rfl hl.1 rfl (lv_room (Nat.le_of_ble_eq_true rfl)) dX8_fuel_2 ⟨Nat.le_of_ble_eq_true rfl, Nat.le_of_ble_eq_true rfl⟩ (fun H locs hW => ?_)
  refine ze_get (ci := 1) (C := RX1) (T := TX1) (N := 8) (v := .int (A 10 j)) S hiX1 hK hW (18 + j) (ze_atG (g := j) (by omega)) rfl 4 (by decide) rfl w0 dX8_fuel_5 ?_
  exact ze_iret S hr hlocks hF hK hW rfl dX8_fuel_8 (Nat.le_of_ble_eq_true rfl) (Nat.le_of_ble_eq_true rfl) rfl rfl
set_option maxHeartbeats 4000000 in
set_option maxRecDepth 100000 in
theorem zp_given_f (l : Launch) (D : va_G) (c : Nat → ClassId) (a n : Nat → Nat) (A : Nat → Nat → Int32) (B : Nat → Int64) (E : Nat → Nat → Int32) (j : Nat) (hN : zf_N n) (hj : j < n 2) : ze_I l yX8_given wsX8_given 2 42 0 0 D c (ze_wC c a n A B E) [.ref (a 0), .int (nI j)] (A 12 j) (ze_wC c a n A B E) := by
  intro sz
  refine ze_start (cc := cX8_given) (maxL := 2) (ret := (some .int)) (own := RX8) (by decide) rfl rfl (Nat.le_of_ble_eq_true rfl) ?_
  obtain ⟨hn0, hn1, hn2, hn3, hn4⟩ := id hN
  intro p e s m_ below meth cd F ls hF hsz E0
  obtain ⟨S, hr, hlocks, hK, hW, hA, hl⟩ := E0
  have hX_ := S.1
  have hB_ := S.2.1
  have hts := S.2.2.2.2
  have hl : lv_has ls 2 [(0, .ref (a 0)), (1, .int (nI j))] := hl
  have hiX1 : ∀ w ∈ u_ws RX1 TX1 8, w ∈ wsX8_given := fun _ h => (List.mem_cons_of_mem _ (List.mem_append_left _ (List.mem_append_left _ (List.mem_append_left _ (List.mem_append_right _ h)))))
  have w0 := hts (.fieldLink RX8 297 "Islandgrid$Generator" "gave" "I") (List.mem_cons_of_mem _ (List.mem_append_left _ (List.mem_append_left _ (List.mem_append_left _ (List.mem_append_left _ (List.mem_of_getElem? (i := 0) rfl))))))
  refine lv_aload_n hX_ hB_ dX8_given_0 rfl (lv_at hl 0 rfl) ?_
  refine lv_iload_n hX_ hB_ dX8_given_1 rfl (lv_at hl 1 rfl) ?_
  refine ze_Vr (As := [.int (nI j)]) (rest := []) (ci := 8) (q0 := 0) (k := (RX8, TX8, 8)) S (zp_generatorAt l D c a n A B E j hN (by omega)) (cwV 1 hts gX8_given_X8_generatorAt rfl rfl rfl (by decide +kernel) ⟨Nat.le_of_ble_eq_true rfl, Nat.le_of_ble_eq_true rfl⟩) hK hW hA rfl (ze_at0 0 rfl) rfl hl.1 rfl (lv_room (Nat.le_of_ble_eq_true rfl)) dX8_given_2 ⟨Nat.le_of_ble_eq_true rfl, Nat.le_of_ble_eq_true rfl⟩ (fun H locs hW => ?_)
  refine ze_get (ci := 1) (C := RX1) (T := TX1) (N := 8) (v := .int (A 12 j)) S hiX1 hK hW (18 + j) (ze_atG (g := j) (by omega)) rfl 7 (by decide) rfl w0 dX8_given_5 ?_
  exact ze_iret S hr hlocks hF hK hW rfl dX8_given_8 (Nat.le_of_ble_eq_true rfl) (Nat.le_of_ble_eq_true rfl) rfl rfl
set_option maxHeartbeats 4000000 in
set_option maxRecDepth 100000 in
theorem zp_charge_f (l : Launch) (D : va_G) (c : Nat → ClassId) (a n : Nat → Nat) (A : Nat → Nat → Int32) (B : Nat → Int64) (E : Nat → Nat → Int32) (j : Nat) (hN : zf_N n) (hj : j < n 3) : ze_I l yX8_charge wsX8_charge 2 42 0 0 D c (ze_wC c a n A B E) [.ref (a 0), .int (nI j)] (A 17 j) (ze_wC c a n A B E) := by
  intro sz
  refine ze_start (cc := cX8_charge) (maxL := 2) (ret := (some .int)) (own := RX8) (by decide) rfl rfl (Nat.le_of_ble_eq_true rfl) ?_
  obtain ⟨hn0, hn1, hn2, hn3, hn4⟩ := id hN
  intro p e s m_ below meth cd F ls hF hsz E0
  obtain ⟨S, hr, hlocks, hK, hW, hA, hl⟩ := E0
  have hX_ := S.1
  have hB_ := S.2.1
  have hts := S.2.2.2.2
  have hl : lv_has ls 2 [(0, .ref (a 0)), (1, .int (nI j))] := hl
  have hiX7 : ∀ w ∈ u_ws RX7 TX7 5, w ∈ wsX8_charge := fun _ h => (List.mem_cons_of_mem _ (List.mem_append_left _ (List.mem_append_left _ (List.mem_append_left _ (List.mem_append_right _ h)))))
  have w0 := hts (.fieldLink RX8 223 "Islandgrid$Store" "held" "I") (List.mem_cons_of_mem _ (List.mem_append_left _ (List.mem_append_left _ (List.mem_append_left _ (List.mem_append_left _ (List.mem_of_getElem? (i := 0) rfl))))))
  refine lv_aload_n hX_ hB_ dX8_charge_0 rfl (lv_at hl 0 rfl) ?_
  refine lv_iload_n hX_ hB_ dX8_charge_1 rfl (lv_at hl 1 rfl) ?_
  refine ze_Vr (As := [.int (nI j)]) (rest := []) (ci := 8) (q0 := 0) (k := (RX8, TX8, 8)) S (zp_storeAt l D c a n A B E j hN (by omega)) (cwV 1 hts gX8_charge_X8_storeAt rfl rfl rfl (by decide +kernel) ⟨Nat.le_of_ble_eq_true rfl, Nat.le_of_ble_eq_true rfl⟩) hK hW hA rfl (ze_at0 0 rfl) rfl hl.1 rfl (lv_room (Nat.le_of_ble_eq_true rfl)) dX8_charge_2 ⟨Nat.le_of_ble_eq_true rfl, Nat.le_of_ble_eq_true rfl⟩ (fun H locs hW => ?_)
  refine ze_get (ci := 7) (C := RX7) (T := TX7) (N := 5) (v := .int (A 17 j)) S hiX7 hK hW (18 + (n 2 + j)) (ze_atT (g := j) (by omega)) rfl 3 (by decide) rfl w0 dX8_charge_5 ?_
  exact ze_iret S hr hlocks hF hK hW rfl dX8_charge_8 (Nat.le_of_ble_eq_true rfl) (Nat.le_of_ble_eq_true rfl) rfl rfl
set_option maxHeartbeats 4000000 in
set_option maxRecDepth 100000 in
theorem zp_flow_f (l : Launch) (D : va_G) (c : Nat → ClassId) (a n : Nat → Nat) (A : Nat → Nat → Int32) (B : Nat → Int64) (E : Nat → Nat → Int32) (j : Nat) (hN : zf_N n) (hj : j < n 3) : ze_I l yX8_flow wsX8_flow 2 42 0 0 D c (ze_wC c a n A B E) [.ref (a 0), .int (nI j)] (A 18 j) (ze_wC c a n A B E) := by
  intro sz
  refine ze_start (cc := cX8_flow) (maxL := 2) (ret := (some .int)) (own := RX8) (by decide) rfl rfl (Nat.le_of_ble_eq_true rfl) ?_
  obtain ⟨hn0, hn1, hn2, hn3, hn4⟩ := id hN
  intro p e s m_ below meth cd F ls hF hsz E0
  obtain ⟨S, hr, hlocks, hK, hW, hA, hl⟩ := E0
  have hX_ := S.1
  have hB_ := S.2.1
  have hts := S.2.2.2.2
  have hl : lv_has ls 2 [(0, .ref (a 0)), (1, .int (nI j))] := hl
  have hiX7 : ∀ w ∈ u_ws RX7 TX7 5, w ∈ wsX8_flow := fun _ h => (List.mem_cons_of_mem _ (List.mem_append_left _ (List.mem_append_left _ (List.mem_append_left _ (List.mem_append_right _ h)))))
  have w0 := hts (.fieldLink RX8 300 "Islandgrid$Store" "gave" "I") (List.mem_cons_of_mem _ (List.mem_append_left _ (List.mem_append_left _ (List.mem_append_left _ (List.mem_append_left _ (List.mem_of_getElem? (i := 0) rfl))))))
  refine lv_aload_n hX_ hB_ dX8_flow_0 rfl (lv_at hl 0 rfl) ?_
  refine lv_iload_n hX_ hB_ dX8_flow_1 rfl (lv_at hl 1 rfl) ?_
  refine ze_Vr (As := [.int (nI j)]) (rest := []) (ci := 8) (q0 := 0) (k := (RX8, TX8, 8)) S (zp_storeAt l D c a n A B E j hN (by omega)) (cwV 1 hts gX8_flow_X8_storeAt rfl rfl rfl (by decide +kernel) ⟨Nat.le_of_ble_eq_true rfl, Nat.le_of_ble_eq_true rfl⟩) hK hW hA rfl (ze_at0 0 rfl) rfl hl.1 rfl (lv_room (Nat.le_of_ble_eq_true rfl)) dX8_flow_2 ⟨Nat.le_of_ble_eq_true rfl, Nat.le_of_ble_eq_true rfl⟩ (fun H locs hW => ?_)
  refine ze_get (ci := 7) (C := RX7) (T := TX7) (N := 5) (v := .int (A 18 j)) S hiX7 hK hW (18 + (n 2 + j)) (ze_atT (g := j) (by omega)) rfl 4 (by decide) rfl w0 dX8_flow_5 ?_
  exact ze_iret S hr hlocks hF hK hW rfl dX8_flow_8 (Nat.le_of_ble_eq_true rfl) (Nat.le_of_ble_eq_true rfl) rfl rfl
set_option maxHeartbeats 4000000 in
set_option maxRecDepth 100000 in
theorem zp_toGo_f (l : Launch) (D : va_G) (c : Nat → ClassId) (a n : Nat → Nat) (A : Nat → Nat → Int32) (B : Nat → Int64) (E : Nat → Nat → Int32) (j : Nat) (hN : zf_N n) (hj : j < n 2) (h : A 13 j = 119) : ze_I l yX8_toGo wsX8_toGo 2 42 0 0 D c (ze_wC c a n A B E) [.ref (a 0), .int (nI j)] (A 11 j) (ze_wC c a n A B E) := by
  intro sz
  refine ze_start (cc := cX8_toGo) (maxL := 3) (ret := (some .int)) (own := RX8) (by decide) rfl rfl (Nat.le_of_ble_eq_true rfl) ?_
  obtain ⟨hn0, hn1, hn2, hn3, hn4⟩ := id hN
  intro p e s m_ below meth cd F ls hF hsz E0
  obtain ⟨S, hr, hlocks, hK, hW, hA, hl⟩ := E0
  have hX_ := S.1
  have hB_ := S.2.1
  have hts := S.2.2.2.2
  have hl : lv_has ls 3 [(0, .ref (a 0)), (1, .int (nI j))] := hl
  have hiX1 : ∀ w ∈ u_ws RX1 TX1 8, w ∈ wsX8_toGo := fun _ h => (List.mem_cons_of_mem _ (List.mem_append_left _ (List.mem_append_left _ (List.mem_append_left _ (List.mem_append_left _ (List.mem_append_right _ h))))))
  have w0 := hts (.fieldLink RX8 169 "Islandgrid$Generator" "mode" "C") (List.mem_cons_of_mem _ (List.mem_append_left _ (List.mem_append_left _ (List.mem_append_left _ (List.mem_append_left _ (List.mem_append_left _ (List.mem_of_getElem? (i := 2) rfl)))))))
  have w1 := hts (.fieldLink RX8 184 "Islandgrid$Generator" "left" "I") (List.mem_cons_of_mem _ (List.mem_append_left _ (List.mem_append_left _ (List.mem_append_left _ (List.mem_append_left _ (List.mem_append_left _ (List.mem_of_getElem? (i := 3) rfl)))))))
  refine lv_aload_n hX_ hB_ dX8_toGo_0 rfl (lv_at hl 0 rfl) ?_
  refine lv_iload_n hX_ hB_ dX8_toGo_1 rfl (lv_at hl 1 rfl) ?_
  refine ze_Vr (As := [.int (nI j)]) (rest := []) (ci := 8) (q0 := 0) (k := (RX8, TX8, 8)) S (zp_generatorAt l D c a n A B E j hN (by omega)) (cwV 1 hts gX8_toGo_X8_generatorAt rfl rfl rfl (by decide +kernel) ⟨Nat.le_of_ble_eq_true rfl, Nat.le_of_ble_eq_true rfl⟩) hK hW hA rfl (ze_at0 0 rfl) rfl hl.1 rfl (lv_room (Nat.le_of_ble_eq_true rfl)) dX8_toGo_2 ⟨Nat.le_of_ble_eq_true rfl, Nat.le_of_ble_eq_true rfl⟩ (fun H locs hW => ?_)
  refine lv_astore_n (lv' := [(2, .ref (a (20 + j))), (0, .ref (a 0)), (1, .int (nI j))]) hX_ hB_ dX8_toGo_5 rfl hl (by decide) rfl (fun ls hl => ?_)
  refine lv_aload_n hX_ hB_ dX8_toGo_6 rfl (lv_at hl 0 rfl) ?_
  refine ze_get (ci := 1) (C := RX1) (T := TX1) (N := 8) (v := .int (A 13 j)) S hiX1 hK hW (18 + j) (ze_atG (g := j) (by omega)) rfl 5 (by decide) rfl w0 dX8_toGo_7 ?_
  refine lv_bipush (v := 119) hX_ hB_ dX8_toGo_10 (by decide) ?_
  refine lv_icmp_eq (tgt := 25) hX_ hB_ dX8_toGo_12 (by decide) (fun c12 => ?_) (fun c12 => ?_)
  · refine lv_aload_n hX_ hB_ dX8_toGo_25 rfl (lv_at hl 0 rfl) ?_
    refine ze_get (ci := 1) (C := RX1) (T := TX1) (N := 8) (v := .int (A 11 j)) S hiX1 hK hW (18 + j) (ze_atG (g := j) (by omega)) rfl 6 (by decide) rfl w1 dX8_toGo_26 ?_
    exact ze_iret S hr hlocks hF hK hW rfl dX8_toGo_29 (Nat.le_of_ble_eq_true rfl) (Nat.le_of_ble_eq_true rfl) rfl rfl
  · exact absurd h c12
set_option maxHeartbeats 4000000 in
set_option maxRecDepth 100000 in
theorem zp_setRank_f (l : Launch) (D : va_G) (c : Nat → ClassId) (a n : Nat → Nat) (A : Nat → Nat → Int32) (B : Nat → Int64) (E : Nat → Nat → Int32) (j : Nat) (hN : zf_N n) (hj : j < n 4) (y : Int32) (h : zf_isIn y 1 9) : ze_I l yX8_setRank wsX8_setRank 2 42 0 0 D c (ze_wC c a n A B E) [.ref (a 0), .int (nI j), .int y] (A 21 j) (ze_wC c a n (ze_sE A 21 j y) B E) := by
  intro sz
  refine ze_start (cc := cX8_setRank) (maxL := 5) (ret := (some .int)) (own := RX8) (by decide) rfl rfl (Nat.le_of_ble_eq_true rfl) ?_
  obtain ⟨hn0, hn1, hn2, hn3, hn4⟩ := id hN
  intro p e s m_ below meth cd F ls hF hsz E0
  obtain ⟨S, hr, hlocks, hK, hW, hA, hl⟩ := E0
  have hX_ := S.1
  have hB_ := S.2.1
  have hts := S.2.2.2.2
  have hl : lv_has ls 5 [(0, .ref (a 0)), (1, .int (nI j)), (2, .int y)] := hl
  have hiX3 : ∀ w ∈ u_ws RX3 TX3 6, w ∈ wsX8_setRank := fun _ h => (List.mem_cons_of_mem _ (List.mem_append_left _ (List.mem_append_left _ (List.mem_append_left _ (List.mem_append_left _ (List.mem_append_right _ h))))))
  have w0 := hts (.fieldLink RX8 236 "Islandgrid$Load" "rank" "I") (List.mem_cons_of_mem _ (List.mem_append_left _ (List.mem_append_left _ (List.mem_append_left _ (List.mem_append_left _ (List.mem_append_left _ (List.mem_of_getElem? (i := 0) rfl)))))))
  refine lv_aload_n hX_ hB_ dX8_setRank_0 rfl (lv_at hl 0 rfl) ?_
  refine lv_iload_n hX_ hB_ dX8_setRank_1 rfl (lv_at hl 1 rfl) ?_
  refine ze_Vr (As := [.int (nI j)]) (rest := []) (ci := 8) (q0 := 0) (k := (RX8, TX8, 8)) S (zp_loadAt l D c a n A B E j hN (by omega)) (cwV 1 hts gX8_setRank_X8_loadAt rfl rfl rfl (by decide +kernel) ⟨Nat.le_of_ble_eq_true rfl, Nat.le_of_ble_eq_true rfl⟩) hK hW hA rfl (ze_at0 0 rfl) rfl hl.1 rfl (lv_room (Nat.le_of_ble_eq_true rfl)) dX8_setRank_2 ⟨Nat.le_of_ble_eq_true rfl, Nat.le_of_ble_eq_true rfl⟩ (fun H locs hW => ?_)
  refine lv_astore_n (lv' := [(3, .ref (a (40 + j))), (0, .ref (a 0)), (1, .int (nI j)), (2, .int y)]) hX_ hB_ dX8_setRank_5 rfl hl (by decide) rfl (fun ls hl => ?_)
  refine lv_iload_n hX_ hB_ dX8_setRank_6 rfl (lv_at hl 3 rfl) ?_
  refine lv_iconst (v := 1) hX_ hB_ dX8_setRank_7 (by decide) ?_
  refine lv_bipush (v := 9) hX_ hB_ dX8_setRank_8 (by decide) ?_
  refine ze_Sv (As := [.int y, .int 1, .int 9]) (rest := []) S (zp_checkRange l D c (ze_wC c a n A B E) y 1 9 (by assumption)) (va_cwS 3 hts gX8_setRank_X8_checkRange rfl rfl rfl (by decide +kernel) ⟨Nat.le_of_ble_eq_true rfl, Nat.le_of_ble_eq_true rfl⟩) hK hW hA rfl hl.1 rfl (lv_room (Nat.le_of_ble_eq_true rfl)) dX8_setRank_10 ⟨Nat.le_of_ble_eq_true rfl, Nat.le_of_ble_eq_true rfl⟩ (fun H locs hW => ?_)
  refine lv_aload_n hX_ hB_ dX8_setRank_13 rfl (lv_at hl 0 rfl) ?_
  refine ze_get (ci := 3) (C := RX3) (T := TX3) (N := 6) (v := .int (A 21 j)) S hiX3 hK hW (18 + (n 2 + (n 3 + j))) (ze_atL (g := j) (by omega)) rfl 3 (by decide) rfl w0 dX8_setRank_14 ?_
  refine lv_istore (lv' := [(4, .int (A 21 j)), (3, .ref (a (40 + j))), (0, .ref (a 0)), (1, .int (nI j)), (2, .int y)]) hX_ hB_ dX8_setRank_17 hl (by decide) rfl (fun ls hl => ?_)
  refine lv_aload_n hX_ hB_ dX8_setRank_19 rfl (lv_at hl 1 rfl) ?_
  refine lv_iload_n hX_ hB_ dX8_setRank_20 rfl (lv_at hl 4 rfl) ?_
  refine ze_put (ci := 3) (C := RX3) (T := TX3) (N := 6) (v := .int y) S hiX3 tyX3 tyX3_ok nmX3 hK hW (18 + (n 2 + (n 3 + j))) (ze_atL (g := j) (by omega)) rfl 3 (by decide) (Nat.le_of_ble_eq_true rfl) rfl rfl rfl w0 dX8_setRank_21 (ze_pL3 j (y) _ _ _ _ _ _ (by omega)) (fun H locs hW => ?_)
  have hW : ze_W D (ze_wC c a n (ze_sE A 21 j y) B E) F s.heap _ _ := hW
  refine lv_iload hX_ hB_ dX8_setRank_24 (lv_at hl 0 rfl) ?_
  exact ze_iret S hr hlocks hF hK hW rfl dX8_setRank_26 (Nat.le_of_ble_eq_true rfl) (Nat.le_of_ble_eq_true rfl) rfl rfl
set_option maxHeartbeats 4000000 in
set_option maxRecDepth 100000 in
theorem zp_isLit_f (l : Launch) (D : va_G) (c : Nat → ClassId) (a n : Nat → Nat) (A : Nat → Nat → Int32) (B : Nat → Int64) (E : Nat → Nat → Int32) (j : Nat) (hN : zf_N n) (hj : j < n 4) : ze_I l yX8_isLit wsX8_isLit 2 42 0 0 D c (ze_wC c a n A B E) [.ref (a 0), .int (nI j)] (ze_nt (A 5 j)) (ze_wC c a n A B E) := by
  intro sz
  refine ze_start (cc := cX8_isLit) (maxL := 2) (ret := (some .boolean)) (own := RX8) (by decide) rfl rfl (Nat.le_of_ble_eq_true rfl) ?_
  obtain ⟨hn0, hn1, hn2, hn3, hn4⟩ := id hN
  intro p e s m_ below meth cd F ls hF hsz E0
  obtain ⟨S, hr, hlocks, hK, hW, hA, hl⟩ := E0
  have hX_ := S.1
  have hB_ := S.2.1
  have hts := S.2.2.2.2
  have hl : lv_has ls 2 [(0, .ref (a 0)), (1, .int (nI j))] := hl
  have hiX3 : ∀ w ∈ u_ws RX3 TX3 6, w ∈ wsX8_isLit := fun _ h => (List.mem_cons_of_mem _ (List.mem_append_left _ (List.mem_append_left _ (List.mem_append_left _ (List.mem_append_right _ h)))))
  have w0 := hts (.fieldLink RX8 241 "Islandgrid$Load" "lit" "Z") (List.mem_cons_of_mem _ (List.mem_append_left _ (List.mem_append_left _ (List.mem_append_left _ (List.mem_append_left _ (List.mem_of_getElem? (i := 0) rfl))))))
  refine lv_aload_n hX_ hB_ dX8_isLit_0 rfl (lv_at hl 0 rfl) ?_
  refine lv_iload_n hX_ hB_ dX8_isLit_1 rfl (lv_at hl 1 rfl) ?_
  refine ze_Vr (As := [.int (nI j)]) (rest := []) (ci := 8) (q0 := 0) (k := (RX8, TX8, 8)) S (zp_loadAt l D c a n A B E j hN (by omega)) (cwV 1 hts gX8_isLit_X8_loadAt rfl rfl rfl (by decide +kernel) ⟨Nat.le_of_ble_eq_true rfl, Nat.le_of_ble_eq_true rfl⟩) hK hW hA rfl (ze_at0 0 rfl) rfl hl.1 rfl (lv_room (Nat.le_of_ble_eq_true rfl)) dX8_isLit_2 ⟨Nat.le_of_ble_eq_true rfl, Nat.le_of_ble_eq_true rfl⟩ (fun H locs hW => ?_)
  refine ze_get (ci := 3) (C := RX3) (T := TX3) (N := 6) (v := .int (ze_nt (A 5 j))) S hiX3 hK hW (18 + (n 2 + (n 3 + j))) (ze_atL (g := j) (by omega)) rfl 4 (by decide) rfl w0 dX8_isLit_5 ?_
  exact ze_iret S hr hlocks hF hK hW ze_narnt dX8_isLit_8 (Nat.le_of_ble_eq_true rfl) (Nat.le_of_ble_eq_true rfl) rfl rfl
set_option maxHeartbeats 4000000 in
set_option maxRecDepth 100000 in
theorem zp_waits_f (l : Launch) (D : va_G) (c : Nat → ClassId) (a n : Nat → Nat) (A : Nat → Nat → Int32) (B : Nat → Int64) (E : Nat → Nat → Int32) (j : Nat) (hN : zf_N n) (hj : j < n 4) (h : ¬ A 5 j = 0) : ze_I l yX8_waits wsX8_waits 2 42 0 0 D c (ze_wC c a n A B E) [.ref (a 0), .int (nI j)] (A 22 j) (ze_wC c a n A B E) := by
  intro sz
  refine ze_start (cc := cX8_waits) (maxL := 3) (ret := (some .int)) (own := RX8) (by decide) rfl rfl (Nat.le_of_ble_eq_true rfl) ?_
  obtain ⟨hn0, hn1, hn2, hn3, hn4⟩ := id hN
  intro p e s m_ below meth cd F ls hF hsz E0
  obtain ⟨S, hr, hlocks, hK, hW, hA, hl⟩ := E0
  have hX_ := S.1
  have hB_ := S.2.1
  have hts := S.2.2.2.2
  have hl : lv_has ls 3 [(0, .ref (a 0)), (1, .int (nI j))] := hl
  have hiX3 : ∀ w ∈ u_ws RX3 TX3 6, w ∈ wsX8_waits := fun _ h => (List.mem_cons_of_mem _ (List.mem_append_left _ (List.mem_append_left _ (List.mem_append_left _ (List.mem_append_left _ (List.mem_append_right _ h))))))
  have w0 := hts (.fieldLink RX8 241 "Islandgrid$Load" "lit" "Z") (List.mem_cons_of_mem _ (List.mem_append_left _ (List.mem_append_left _ (List.mem_append_left _ (List.mem_append_left _ (List.mem_append_left _ (List.mem_of_getElem? (i := 2) rfl)))))))
  have w1 := hts (.fieldLink RX8 246 "Islandgrid$Load" "wait" "I") (List.mem_cons_of_mem _ (List.mem_append_left _ (List.mem_append_left _ (List.mem_append_left _ (List.mem_append_left _ (List.mem_append_left _ (List.mem_of_getElem? (i := 3) rfl)))))))
  refine lv_aload_n hX_ hB_ dX8_waits_0 rfl (lv_at hl 0 rfl) ?_
  refine lv_iload_n hX_ hB_ dX8_waits_1 rfl (lv_at hl 1 rfl) ?_
  refine ze_Vr (As := [.int (nI j)]) (rest := []) (ci := 8) (q0 := 0) (k := (RX8, TX8, 8)) S (zp_loadAt l D c a n A B E j hN (by omega)) (cwV 1 hts gX8_waits_X8_loadAt rfl rfl rfl (by decide +kernel) ⟨Nat.le_of_ble_eq_true rfl, Nat.le_of_ble_eq_true rfl⟩) hK hW hA rfl (ze_at0 0 rfl) rfl hl.1 rfl (lv_room (Nat.le_of_ble_eq_true rfl)) dX8_waits_2 ⟨Nat.le_of_ble_eq_true rfl, Nat.le_of_ble_eq_true rfl⟩ (fun H locs hW => ?_)
  refine lv_astore_n (lv' := [(2, .ref (a (40 + j))), (0, .ref (a 0)), (1, .int (nI j))]) hX_ hB_ dX8_waits_5 rfl hl (by decide) rfl (fun ls hl => ?_)
  refine lv_aload_n hX_ hB_ dX8_waits_6 rfl (lv_at hl 0 rfl) ?_
  refine ze_get (ci := 3) (C := RX3) (T := TX3) (N := 6) (v := .int (ze_nt (A 5 j))) S hiX3 hK hW (18 + (n 2 + (n 3 + j))) (ze_atL (g := j) (by omega)) rfl 4 (by decide) rfl w0 dX8_waits_7 ?_
  refine lv_if_eq (tgt := 23) hX_ hB_ dX8_waits_10 (by decide) (fun c10 => ?_) (fun c10 => ?_)
  · have c10 : ¬ A 5 j = 0 := ze_ntf c10
    refine lv_aload_n hX_ hB_ dX8_waits_23 rfl (lv_at hl 0 rfl) ?_
    refine ze_get (ci := 3) (C := RX3) (T := TX3) (N := 6) (v := .int (A 22 j)) S hiX3 hK hW (18 + (n 2 + (n 3 + j))) (ze_atL (g := j) (by omega)) rfl 5 (by decide) rfl w1 dX8_waits_24 ?_
    exact ze_iret S hr hlocks hF hK hW rfl dX8_waits_27 (Nat.le_of_ble_eq_true rfl) (Nat.le_of_ble_eq_true rfl) rfl rfl
  · have c10 : A 5 j = 0 := ze_ntt c10
    exact absurd c10 h
set_option maxHeartbeats 4000000 in
set_option maxRecDepth 100000 in
theorem zp_setReserve_f (l : Launch) (D : va_G) (c : Nat → ClassId) (a n : Nat → Nat) (A : Nat → Nat → Int32) (B : Nat → Int64) (E : Nat → Nat → Int32) (y : Int32) (h : zf_isIn y 0 999) : ze_I l yX8_setReserve wsX8_setReserve 1 22 0 0 D c (ze_wC c a n A B E) [.ref (a 0), .int y] (A 28 0) (ze_wC c a n (ze_sC A 28 y) B E) := by
  intro sz
  refine ze_start (cc := cX8_setReserve) (maxL := 3) (ret := (some .int)) (own := RX8) (by decide) rfl rfl (Nat.le_of_ble_eq_true rfl) ?_
  intro p e s m_ below meth cd F ls hF hsz E0
  obtain ⟨S, hr, hlocks, hK, hW, hA, hl⟩ := E0
  have hX_ := S.1
  have hB_ := S.2.1
  have hts := S.2.2.2.2
  have hl : lv_has ls 3 [(0, .ref (a 0)), (1, .int y)] := hl
  have hiX8 : ∀ w ∈ u_ws RX8 TX8 8, w ∈ wsX8_setReserve := fun _ h => (List.mem_cons_of_mem _ (List.mem_append_left _ (List.mem_append_right _ h)))
  have w0 := hts (.fieldLink RX8 249 "Islandgrid" "reserve" "I") (List.mem_cons_of_mem _ (List.mem_append_left _ (List.mem_append_left _ (List.mem_of_getElem? (i := 0) rfl))))
  refine lv_iload_n hX_ hB_ dX8_setReserve_0 rfl (lv_at hl 1 rfl) ?_
  refine lv_iconst (v := 0) hX_ hB_ dX8_setReserve_1 (by decide) ?_
  refine lv_sipush (v := 999) hX_ hB_ dX8_setReserve_2 (by decide) ?_
  refine ze_Sv (As := [.int y, .int 0, .int 999]) (rest := []) S (zp_checkRange l D c (ze_wC c a n A B E) y 0 999 (by assumption)) (va_cwS 3 hts gX8_setReserve_X8_checkRange rfl rfl rfl (by decide +kernel) ⟨Nat.le_of_ble_eq_true rfl, Nat.le_of_ble_eq_true rfl⟩) hK hW hA rfl hl.1 rfl (lv_room (Nat.le_of_ble_eq_true rfl)) dX8_setReserve_5 ⟨Nat.le_of_ble_eq_true rfl, Nat.le_of_ble_eq_true rfl⟩ (fun H locs hW => ?_)
  refine lv_aload_n hX_ hB_ dX8_setReserve_8 rfl (lv_at hl 0 rfl) ?_
  refine ze_get (ci := 8) (C := RX8) (T := TX8) (N := 8) (v := .int (A 28 0)) S hiX8 hK hW 0 (ze_at0 0 rfl) rfl 5 (by decide) rfl w0 dX8_setReserve_9 ?_
  refine lv_istore_n (lv' := [(2, .int (A 28 0)), (0, .ref (a 0)), (1, .int y)]) hX_ hB_ dX8_setReserve_12 rfl hl (by decide) rfl (fun ls hl => ?_)
  refine lv_aload_n hX_ hB_ dX8_setReserve_13 rfl (lv_at hl 1 rfl) ?_
  refine lv_iload_n hX_ hB_ dX8_setReserve_14 rfl (lv_at hl 2 rfl) ?_
  refine ze_put (ci := 8) (C := RX8) (T := TX8) (N := 8) (v := .int y) S hiX8 tyX8 tyX8_ok nmX8 hK hW 0 (ze_at0 0 rfl) rfl 5 (by decide) (Nat.le_of_ble_eq_true rfl) rfl rfl rfl w0 dX8_setReserve_15 (ze_pC0_5 y _ _ _ _ _ _) (fun H locs hW => ?_)
  have hW : ze_W D (ze_wC c a n (ze_sC A 28 y) B E) F s.heap _ _ := hW
  refine lv_iload_n hX_ hB_ dX8_setReserve_18 rfl (lv_at hl 0 rfl) ?_
  exact ze_iret S hr hlocks hF hK hW rfl dX8_setReserve_19 (Nat.le_of_ble_eq_true rfl) (Nat.le_of_ble_eq_true rfl) rfl rfl
set_option maxHeartbeats 4000000 in
set_option maxRecDepth 100000 in
theorem zp_setDelay_f (l : Launch) (D : va_G) (c : Nat → ClassId) (a n : Nat → Nat) (A : Nat → Nat → Int32) (B : Nat → Int64) (E : Nat → Nat → Int32) (y : Int32) (h : zf_isIn y 0 9) : ze_I l yX8_setDelay wsX8_setDelay 1 22 0 0 D c (ze_wC c a n A B E) [.ref (a 0), .int y] (A 29 0) (ze_wC c a n (ze_sC A 29 y) B E) := by
  intro sz
  refine ze_start (cc := cX8_setDelay) (maxL := 3) (ret := (some .int)) (own := RX8) (by decide) rfl rfl (Nat.le_of_ble_eq_true rfl) ?_
  intro p e s m_ below meth cd F ls hF hsz E0
  obtain ⟨S, hr, hlocks, hK, hW, hA, hl⟩ := E0
  have hX_ := S.1
  have hB_ := S.2.1
  have hts := S.2.2.2.2
  have hl : lv_has ls 3 [(0, .ref (a 0)), (1, .int y)] := hl
  have hiX8 : ∀ w ∈ u_ws RX8 TX8 8, w ∈ wsX8_setDelay := fun _ h => (List.mem_cons_of_mem _ (List.mem_append_left _ (List.mem_append_right _ h)))
  have w0 := hts (.fieldLink RX8 46 "Islandgrid" "delay" "I") (List.mem_cons_of_mem _ (List.mem_append_left _ (List.mem_append_left _ (List.mem_of_getElem? (i := 0) rfl))))
  refine lv_iload_n hX_ hB_ dX8_setDelay_0 rfl (lv_at hl 1 rfl) ?_
  refine lv_iconst (v := 0) hX_ hB_ dX8_setDelay_1 (by decide) ?_
  refine lv_bipush (v := 9) hX_ hB_ dX8_setDelay_2 (by decide) ?_
  refine ze_Sv (As := [.int y, .int 0, .int 9]) (rest := []) S (zp_checkRange l D c (ze_wC c a n A B E) y 0 9 (by assumption)) (va_cwS 3 hts gX8_setDelay_X8_checkRange rfl rfl rfl (by decide +kernel) ⟨Nat.le_of_ble_eq_true rfl, Nat.le_of_ble_eq_true rfl⟩) hK hW hA rfl hl.1 rfl (lv_room (Nat.le_of_ble_eq_true rfl)) dX8_setDelay_4 ⟨Nat.le_of_ble_eq_true rfl, Nat.le_of_ble_eq_true rfl⟩ (fun H locs hW => ?_)
  refine lv_aload_n hX_ hB_ dX8_setDelay_7 rfl (lv_at hl 0 rfl) ?_
  refine ze_get (ci := 8) (C := RX8) (T := TX8) (N := 8) (v := .int (A 29 0)) S hiX8 hK hW 0 (ze_at0 0 rfl) rfl 6 (by decide) rfl w0 dX8_setDelay_8 ?_
  refine lv_istore_n (lv' := [(2, .int (A 29 0)), (0, .ref (a 0)), (1, .int y)]) hX_ hB_ dX8_setDelay_11 rfl hl (by decide) rfl (fun ls hl => ?_)
  refine lv_aload_n hX_ hB_ dX8_setDelay_12 rfl (lv_at hl 1 rfl) ?_
  refine lv_iload_n hX_ hB_ dX8_setDelay_13 rfl (lv_at hl 2 rfl) ?_
  refine ze_put (ci := 8) (C := RX8) (T := TX8) (N := 8) (v := .int y) S hiX8 tyX8 tyX8_ok nmX8 hK hW 0 (ze_at0 0 rfl) rfl 6 (by decide) (Nat.le_of_ble_eq_true rfl) rfl rfl rfl w0 dX8_setDelay_14 (ze_pC0_6 y _ _ _ _ _ _) (fun H locs hW => ?_)
  have hW : ze_W D (ze_wC c a n (ze_sC A 29 y) B E) F s.heap _ _ := hW
  refine lv_iload_n hX_ hB_ dX8_setDelay_17 rfl (lv_at hl 0 rfl) ?_
  exact ze_iret S hr hlocks hF hK hW rfl dX8_setDelay_18 (Nat.le_of_ble_eq_true rfl) (Nat.le_of_ble_eq_true rfl) rfl rfl
set_option maxHeartbeats 4000000 in
set_option maxRecDepth 100000 in
theorem zp_bound_f (l : Launch) (D : va_G) (c : Nat → ClassId) (a n : Nat → Nat) (A : Nat → Nat → Int32) (B : Nat → Int64) (E : Nat → Nat → Int32) (j : Nat) (hN : zf_N n) (hj : j < n 0) (hS : zf_S n A) : ze_I l yX8_bound wsX8_bound 4 77 0 0 D c (ze_wC c a n A B E) [.ref (a 0), .int (nI j)] (zf_bOf n A (E 0) (E 0 j)) (ze_wC c a n A B E) := by
  intro sz
  refine ze_start (cc := cX8_bound) (maxL := 2) (ret := (some .int)) (own := RX8) (by decide) rfl rfl (Nat.le_of_ble_eq_true rfl) ?_
  obtain ⟨hn0, hn1, hn2, hn3, hn4⟩ := id hN
  intro p e s m_ below meth cd F ls hF hsz E0
  obtain ⟨S, hr, hlocks, hK, hW, hA, hl⟩ := E0
  have hX_ := S.1
  have hB_ := S.2.1
  have hts := S.2.2.2.2
  have hl : lv_has ls 2 [(0, .ref (a 0)), (1, .int (nI j))] := hl
  have hiX5 : ∀ w ∈ u_ws RX5 TX5 10, w ∈ wsX8_bound := fun _ h => (List.mem_cons_of_mem _ (List.mem_append_left _ (List.mem_append_left _ (List.mem_append_left _ (List.mem_append_left _ (List.mem_append_left _ (List.mem_append_right _ h)))))))
  have hiX8 : ∀ w ∈ u_ws RX8 TX8 8, w ∈ wsX8_bound := fun _ h => (List.mem_cons_of_mem _ (List.mem_append_left _ (List.mem_append_left _ (List.mem_append_left _ (List.mem_append_left _ (List.mem_append_left _ (List.mem_append_left _ (List.mem_append_right _ h))))))))
  have w0 := hts (.fieldLink RX8 10 "Islandgrid" "network" "LIslandgrid$Network;") (List.mem_cons_of_mem _ (List.mem_append_left _ (List.mem_append_left _ (List.mem_append_left _ (List.mem_append_left _ (List.mem_append_left _ (List.mem_append_left _ (List.mem_append_left _ (List.mem_append_left _ (List.mem_of_getElem? (i := 0) rfl))))))))))
  have w1 := hts (.fieldLink RX8 140 "Islandgrid$Network" "islandOf" "[I") (List.mem_cons_of_mem _ (List.mem_append_left _ (List.mem_append_left _ (List.mem_append_left _ (List.mem_append_left _ (List.mem_append_left _ (List.mem_append_left _ (List.mem_append_left _ (List.mem_append_left _ (List.mem_of_getElem? (i := 1) rfl))))))))))
  refine lv_aload_n hX_ hB_ dX8_bound_0 rfl (lv_at hl 0 rfl) ?_
  refine lv_iload_n hX_ hB_ dX8_bound_1 rfl (lv_at hl 1 rfl) ?_
  refine ze_Vv (As := [.int (nI j)]) (rest := []) (ci := 8) (q0 := 0) (k := (RX8, TX8, 8)) S (zp_checkSite l D c a n A B E j hN (by omega)) (cwV 1 hts gX8_bound_X8_checkSite rfl rfl rfl (by decide +kernel) ⟨Nat.le_of_ble_eq_true rfl, Nat.le_of_ble_eq_true rfl⟩) hK hW hA rfl (ze_at0 0 rfl) rfl hl.1 rfl (lv_room (Nat.le_of_ble_eq_true rfl)) dX8_bound_2 ⟨Nat.le_of_ble_eq_true rfl, Nat.le_of_ble_eq_true rfl⟩ (fun H locs hW => ?_)
  refine lv_aload_n hX_ hB_ dX8_bound_5 rfl (lv_at hl 0 rfl) ?_
  refine lv_aload_n hX_ hB_ dX8_bound_6 rfl (lv_at hl 0 rfl) ?_
  refine ze_get (ci := 8) (C := RX8) (T := TX8) (N := 8) (v := .ref (a 1)) S hiX8 hK hW 0 (ze_at0 0 rfl) rfl 0 (by decide) rfl w0 dX8_bound_7 ?_
  refine ze_get (ci := 5) (C := RX5) (T := TX5) (N := 10) (v := .ref (a 3)) S hiX5 hK hW 1 (ze_at0 1 rfl) rfl 4 (by decide) rfl w1 dX8_bound_10 ?_
  refine lv_iload_n hX_ hB_ dX8_bound_13 rfl (lv_at hl 1 rfl) ?_
  refine ze_ialdN hX_ hB_ hK hW 3 (f := E 0) (ze_at0 3 rfl) (i := j) (by omega) (by decide) dX8_bound_14 ?_
  refine ze_Vi (As := [.int (E 0 j)]) (rest := []) (ci := 8) (q0 := 0) (k := (RX8, TX8, 8)) S (zp_boundOf l D c a n A B E (E 0 j) hN hS) (cwV 1 hts gX8_bound_X8_boundOf rfl rfl rfl (by decide +kernel) ⟨Nat.le_of_ble_eq_true rfl, Nat.le_of_ble_eq_true rfl⟩) hK hW hA rfl (ze_at0 0 rfl) rfl hl.1 rfl (lv_room (Nat.le_of_ble_eq_true rfl)) dX8_bound_15 ⟨Nat.le_of_ble_eq_true rfl, Nat.le_of_ble_eq_true rfl⟩ (fun H locs hW => ?_)
  exact ze_iret S hr hlocks hF hK hW rfl dX8_bound_18 (Nat.le_of_ble_eq_true rfl) (Nat.le_of_ble_eq_true rfl) rfl rfl
set_option maxHeartbeats 4000000 in
set_option maxRecDepth 100000 in
theorem zp_demand_f (l : Launch) (D : va_G) (c : Nat → ClassId) (a n : Nat → Nat) (A : Nat → Nat → Int32) (B : Nat → Int64) (E : Nat → Nat → Int32) (j : Nat) (hN : zf_N n) (hj : j < n 0) (hS : zf_S n A) : ze_I l yX8_demand wsX8_demand 2 45 0 0 D c (ze_wC c a n A B E) [.ref (a 0), .int (nI j)] (zf_demanded A (E 0) (E 0 j) (n 4)) (ze_wC c a n A B E) := by
  intro sz
  refine ze_start (cc := cX8_demand) (maxL := 2) (ret := (some .int)) (own := RX8) (by decide) rfl rfl (Nat.le_of_ble_eq_true rfl) ?_
  obtain ⟨hn0, hn1, hn2, hn3, hn4⟩ := id hN
  intro p e s m_ below meth cd F ls hF hsz E0
  obtain ⟨S, hr, hlocks, hK, hW, hA, hl⟩ := E0
  have hX_ := S.1
  have hB_ := S.2.1
  have hts := S.2.2.2.2
  have hl : lv_has ls 2 [(0, .ref (a 0)), (1, .int (nI j))] := hl
  have hiX5 : ∀ w ∈ u_ws RX5 TX5 10, w ∈ wsX8_demand := fun _ h => (List.mem_cons_of_mem _ (List.mem_append_left _ (List.mem_append_left _ (List.mem_append_left _ (List.mem_append_right _ h)))))
  have hiX8 : ∀ w ∈ u_ws RX8 TX8 8, w ∈ wsX8_demand := fun _ h => (List.mem_cons_of_mem _ (List.mem_append_left _ (List.mem_append_left _ (List.mem_append_left _ (List.mem_append_left _ (List.mem_append_right _ h))))))
  have w0 := hts (.fieldLink RX8 35 "Islandgrid" "loads" "LIslandgrid$Loads;") (List.mem_cons_of_mem _ (List.mem_append_left _ (List.mem_append_left _ (List.mem_append_left _ (List.mem_append_left _ (List.mem_append_left _ (List.mem_append_left _ (List.mem_of_getElem? (i := 0) rfl))))))))
  have w1 := hts (.fieldLink RX8 10 "Islandgrid" "network" "LIslandgrid$Network;") (List.mem_cons_of_mem _ (List.mem_append_left _ (List.mem_append_left _ (List.mem_append_left _ (List.mem_append_left _ (List.mem_append_left _ (List.mem_append_left _ (List.mem_of_getElem? (i := 1) rfl))))))))
  have w2 := hts (.fieldLink RX8 140 "Islandgrid$Network" "islandOf" "[I") (List.mem_cons_of_mem _ (List.mem_append_left _ (List.mem_append_left _ (List.mem_append_left _ (List.mem_append_left _ (List.mem_append_left _ (List.mem_append_left _ (List.mem_of_getElem? (i := 2) rfl))))))))
  refine lv_aload_n hX_ hB_ dX8_demand_0 rfl (lv_at hl 0 rfl) ?_
  refine lv_iload_n hX_ hB_ dX8_demand_1 rfl (lv_at hl 1 rfl) ?_
  refine ze_Vv (As := [.int (nI j)]) (rest := []) (ci := 8) (q0 := 0) (k := (RX8, TX8, 8)) S (zp_checkSite l D c a n A B E j hN (by omega)) (cwV 1 hts gX8_demand_X8_checkSite rfl rfl rfl (by decide +kernel) ⟨Nat.le_of_ble_eq_true rfl, Nat.le_of_ble_eq_true rfl⟩) hK hW hA rfl (ze_at0 0 rfl) rfl hl.1 rfl (lv_room (Nat.le_of_ble_eq_true rfl)) dX8_demand_2 ⟨Nat.le_of_ble_eq_true rfl, Nat.le_of_ble_eq_true rfl⟩ (fun H locs hW => ?_)
  refine lv_aload_n hX_ hB_ dX8_demand_5 rfl (lv_at hl 0 rfl) ?_
  refine ze_get (ci := 8) (C := RX8) (T := TX8) (N := 8) (v := .ref (a 15)) S hiX8 hK hW 0 (ze_at0 0 rfl) rfl 3 (by decide) rfl w0 dX8_demand_6 ?_
  refine lv_aload_n hX_ hB_ dX8_demand_9 rfl (lv_at hl 0 rfl) ?_
  refine ze_get (ci := 8) (C := RX8) (T := TX8) (N := 8) (v := .ref (a 1)) S hiX8 hK hW 0 (ze_at0 0 rfl) rfl 0 (by decide) rfl w1 dX8_demand_10 ?_
  refine ze_get (ci := 5) (C := RX5) (T := TX5) (N := 10) (v := .ref (a 3)) S hiX5 hK hW 1 (ze_at0 1 rfl) rfl 4 (by decide) rfl w2 dX8_demand_13 ?_
  refine lv_iload_n hX_ hB_ dX8_demand_16 rfl (lv_at hl 1 rfl) ?_
  refine ze_ialdN hX_ hB_ hK hW 3 (f := E 0) (ze_at0 3 rfl) (i := j) (by omega) (by decide) dX8_demand_17 ?_
  refine ze_Vi (As := [.int (E 0 j)]) (rest := []) (ci := 4) (q0 := 15) (k := (RX4, TX4, 3)) S (zc_4_sumOfLit l D c a n A B E (E 0 j) hN hS) (cwV 1 hts gX8_demand_X4_sumOfLit rfl rfl rfl (by decide +kernel) ⟨Nat.le_of_ble_eq_true rfl, Nat.le_of_ble_eq_true rfl⟩) hK hW hA rfl (ze_at0 15 rfl) rfl hl.1 rfl (lv_room (Nat.le_of_ble_eq_true rfl)) dX8_demand_18 ⟨Nat.le_of_ble_eq_true rfl, Nat.le_of_ble_eq_true rfl⟩ (fun H locs hW => ?_)
  exact ze_iret S hr hlocks hF hK hW rfl dX8_demand_21 (Nat.le_of_ble_eq_true rfl) (Nat.le_of_ble_eq_true rfl) rfl rfl
set_option maxHeartbeats 4000000 in
set_option maxRecDepth 100000 in
theorem zp_pass_f (l : Launch) (D : va_G) (c : Nat → ClassId) (a n : Nat → Nat) (A : Nat → Nat → Int32) (B : Nat → Int64) (E : Nat → Nat → Int32) (t : Nat) (h1 : 1 ≤ t) (h2 : t ≤ 12) (hN : zf_N n) (hS : zf_S n A) : ze_I l yX8_pass wsX8_pass 7 145 0 0 D c (ze_wC c a n A B E) [.ref (a 0), .int (nI t)] (zf_lits ((zf_ctks n A B E t).1) (n 4)) (ze_wC c a n ((zf_ctks n A B E t).1) ((zf_ctks n A B E t).2.1) ((zf_ctks n A B E t).2.2)) := by
  intro sz
  refine ze_start (cc := cX8_pass) (maxL := 3) (ret := (some .int)) (own := RX8) (by decide) rfl rfl (Nat.le_of_ble_eq_true rfl) ?_
  obtain ⟨hn0, hn1, hn2, hn3, hn4⟩ := id hN
  have hin : zf_isIn (nI t) 1 12 := zf_isInK h1 h2
  intro p e s m_ below meth cd F ls hF hsz E0
  obtain ⟨S, hr, hlocks, hK, hW, hA, hl⟩ := E0
  have hX_ := S.1
  have hB_ := S.2.1
  have hts := S.2.2.2.2
  have hl : lv_has ls 3 [(0, .ref (a 0)), (1, .int (nI t))] := hl
  have hiX8 : ∀ w ∈ u_ws RX8 TX8 8, w ∈ wsX8_pass := fun _ h => (List.mem_cons_of_mem _ (List.mem_append_left _ (List.mem_append_left _ (List.mem_append_left _ (List.mem_append_left _ (List.mem_append_left _ (List.mem_append_left _ (List.mem_append_left _ (List.mem_append_left _ (List.mem_append_left _ (List.mem_append_right _ h)))))))))))
  have w0 := hts (.fieldLink RX8 35 "Islandgrid" "loads" "LIslandgrid$Loads;") (List.mem_cons_of_mem _ (List.mem_append_left _ (List.mem_append_left _ (List.mem_append_left _ (List.mem_append_left _ (List.mem_append_left _ (List.mem_append_left _ (List.mem_append_left _ (List.mem_append_left _ (List.mem_append_left _ (List.mem_append_left _ (List.mem_append_left _ (List.mem_of_getElem? (i := 0) rfl)))))))))))))
  refine lv_iload_n hX_ hB_ dX8_pass_0 rfl (lv_at hl 1 rfl) ?_
  refine lv_iconst (v := 1) hX_ hB_ dX8_pass_1 (by decide) ?_
  refine lv_bipush (v := 12) hX_ hB_ dX8_pass_2 (by decide) ?_
  refine ze_Sv (As := [.int (nI t), .int 1, .int 12]) (rest := []) S (zp_checkRange l D c (ze_wC c a n A B E) (nI t) 1 12 (by assumption)) (va_cwS 3 hts gX8_pass_X8_checkRange rfl rfl rfl (by decide +kernel) ⟨Nat.le_of_ble_eq_true rfl, Nat.le_of_ble_eq_true rfl⟩) hK hW hA rfl hl.1 rfl (lv_room (Nat.le_of_ble_eq_true rfl)) dX8_pass_4 ⟨Nat.le_of_ble_eq_true rfl, Nat.le_of_ble_eq_true rfl⟩ (fun H locs hW => ?_)
  refine lv_iconst (v := 0) hX_ hB_ dX8_pass_7 (by decide) ?_
  refine lv_istore_n (lv' := [(2, .int 0), (0, .ref (a 0)), (1, .int (nI t))]) hX_ hB_ dX8_pass_8 rfl hl (by decide) rfl (fun ls hl => ?_)
  have L9 : ∀ (k9 : Nat) (i9 : Nat), (i9 ≤ t) → (t - i9) < k9 → ∀ (H : Heap) (locs : List Loc) (ls : Array Slot), ze_W D (ze_wC c a n ((zf_ctks n A B E i9).1) ((zf_ctks n A B E i9).2.1) ((zf_ctks n A B E i9).2.2)) F s.heap H locs → lv_has ls 3 [(2, .int (nI i9)), (0, .ref (a 0)), (1, .int (nI t))] → W p l e { frames := 7, cells := 0, slots := 0, locals := 145 } s m_ ([.ref (a 0), .int (nI t)] : List Value).toArray below meth cd H locs 0 0 (MQ below (ze_Qi D c (ze_wC c a n A B E) sz (zf_lits ((zf_ctks n A B E t).1) (n 4)) (ze_wC c a n ((zf_ctks n A B E t).1) ((zf_ctks n A B E t).2.1) ((zf_ctks n A B E t).2.2))) ([.ref (a 0), .int (nI t)] : List Value).toArray s 0 0 F) (F0 m_ 9 ls []) := by
    intro k9
    induction k9 with
    | zero =>
      intro i9 h9 hk9
      exact absurd hk9 (Nat.not_lt_zero _)
    | succ k9 ih9 =>
      intro i9 h9 hk9 H locs ls hW hl
      have hS2 := zf_ctksS (B := B) (E := E) hS i9
      refine lv_iload_n hX_ hB_ dX8_pass_9 rfl (lv_at hl 0 rfl) ?_
      refine lv_iload_n hX_ hB_ dX8_pass_10 rfl (lv_at hl 2 rfl) ?_
      refine lv_icmp_ge (tgt := 24) hX_ hB_ dX8_pass_11 (by decide) (fun c11 => ?_) (fun c11 => ?_)
      · have c11 : ¬ i9 < t := Nat.not_lt.mpr ((nI_leI (a := t) (b := i9) (by omega) (by omega)).mp c11)
        have e9 : t = i9 := by omega
        subst e9
        refine lv_aload_n hX_ hB_ dX8_pass_24 rfl (lv_at hl 1 rfl) ?_
        refine ze_get (ci := 8) (C := RX8) (T := TX8) (N := 8) (v := .ref (a 15)) S hiX8 hK hW 0 (ze_at0 0 rfl) rfl 3 (by decide) rfl w0 dX8_pass_25 ?_
        refine ze_Vi (As := []) (rest := []) (ci := 4) (q0 := 15) (k := (RX4, TX4, 3)) S (zc_4_countLit l D c a n ((zf_ctks n A B E t).1) ((zf_ctks n A B E t).2.1) ((zf_ctks n A B E t).2.2)  hN) (cwV 0 hts gX8_pass_X4_countLit rfl rfl rfl (by decide +kernel) ⟨Nat.le_of_ble_eq_true rfl, Nat.le_of_ble_eq_true rfl⟩) hK hW hA rfl (ze_at0 15 rfl) rfl hl.1 rfl (lv_room (Nat.le_of_ble_eq_true rfl)) dX8_pass_28 ⟨Nat.le_of_ble_eq_true rfl, Nat.le_of_ble_eq_true rfl⟩ (fun H locs hW => ?_)
        exact ze_iret S hr hlocks hF hK hW rfl dX8_pass_31 (Nat.le_of_ble_eq_true rfl) (Nat.le_of_ble_eq_true rfl) rfl rfl
      · have c11 : i9 < t := Nat.lt_of_not_le (fun h9 => c11 ((nI_leI (a := t) (b := i9) (by omega) (by omega)).mpr h9))
        refine lv_aload_n hX_ hB_ dX8_pass_14 rfl (lv_at hl 1 rfl) ?_
        refine ze_Vv (As := []) (rest := []) (ci := 8) (q0 := 0) (k := (RX8, TX8, 8)) S (zp_passOneTick l D c a n ((zf_ctks n A B E i9).1) ((zf_ctks n A B E i9).2.1) ((zf_ctks n A B E i9).2.2)  hN hS2) (cwV 0 hts gX8_pass_X8_passOneTick rfl rfl rfl (by decide +kernel) ⟨Nat.le_of_ble_eq_true rfl, Nat.le_of_ble_eq_true rfl⟩) hK hW hA rfl (ze_at0 0 rfl) rfl hl.1 rfl (lv_room (Nat.le_of_ble_eq_true rfl)) dX8_pass_15 ⟨Nat.le_of_ble_eq_true rfl, Nat.le_of_ble_eq_true rfl⟩ (fun H locs hW => ?_)
        have hW : ze_W D (ze_wC c a n ((zf_ctk n ((zf_ctks n A B E i9).1) ((zf_ctks n A B E i9).2.1) ((zf_ctks n A B E i9).2.2)).1) ((zf_ctk n ((zf_ctks n A B E i9).1) ((zf_ctks n A B E i9).2.1) ((zf_ctks n A B E i9).2.2)).2.1) ((zf_ctk n ((zf_ctks n A B E i9).1) ((zf_ctks n A B E i9).2.1) ((zf_ctks n A B E i9).2.2)).2.2)) F s.heap _ _ := hW
        refine lv_iinc (v := nI (i9 + 1)) (lv' := [(2, .int (nI (i9 + 1))), (0, .ref (a 0)), (1, .int (nI t))]) hX_ hB_ dX8_pass_18 hl (k := 0) rfl (ze_inc _) (by decide) rfl (fun ls hl => ?_)
        refine lv_goto (tgt := 9) hX_ hB_ dX8_pass_21 (by decide) ?_
        have eW : (ze_wC c a n ((zf_ctk n ((zf_ctks n A B E i9).1) ((zf_ctks n A B E i9).2.1) ((zf_ctks n A B E i9).2.2)).1) ((zf_ctk n ((zf_ctks n A B E i9).1) ((zf_ctks n A B E i9).2.1) ((zf_ctks n A B E i9).2.2)).2.1) ((zf_ctk n ((zf_ctks n A B E i9).1) ((zf_ctks n A B E i9).2.1) ((zf_ctks n A B E i9).2.2)).2.2)) = (ze_wC c a n ((zf_ctks n A B E (i9 + 1)).1) ((zf_ctks n A B E (i9 + 1)).2.1) ((zf_ctks n A B E (i9 + 1)).2.2)) := rfl
        rw [eW] at hW
        exact ih9 (i9 + 1) (by omega) (by omega) _ _ ls hW (lv_sub hl [0, 1, 2] rfl)
  have hl : lv_has ls 3 [(2, .int (nI 0)), (0, .ref (a 0)), (1, .int (nI t))] := hl
  have hW : ze_W D (ze_wC c a n ((zf_ctks n A B E 0).1) ((zf_ctks n A B E 0).2.1) ((zf_ctks n A B E 0).2.2)) F s.heap _ _ := hW
  exact L9 _ 0 (by omega) (Nat.lt_succ_self _) _ _ ls hW (lv_sub hl [0, 1, 2] rfl)
set_option maxHeartbeats 4000000 in
set_option maxRecDepth 100000 in
theorem zp_now_f (l : Launch) (D : va_G) (c : Nat → ClassId) (a n : Nat → Nat) (A : Nat → Nat → Int32) (B : Nat → Int64) (E : Nat → Nat → Int32)  : ze_I l yX8_now wsX8_now 0 0 0 0 D c (ze_wC c a n A B E) [.ref (a 0)] (A 30 0) (ze_wC c a n A B E) := by
  intro sz
  refine ze_start (cc := cX8_now) (maxL := 1) (ret := (some .int)) (own := RX8) (by decide) rfl rfl (Nat.le_of_ble_eq_true rfl) ?_
  intro p e s m_ below meth cd F ls hF hsz E0
  obtain ⟨S, hr, hlocks, hK, hW, hA, hl⟩ := E0
  have hX_ := S.1
  have hB_ := S.2.1
  have hts := S.2.2.2.2
  have hl : lv_has ls 1 [(0, .ref (a 0))] := hl
  have hiX8 : ∀ w ∈ u_ws RX8 TX8 8, w ∈ wsX8_now := fun _ h => (List.mem_cons_of_mem _ (List.mem_append_right _ h))
  have w0 := hts (.fieldLink RX8 294 "Islandgrid" "time" "I") (List.mem_cons_of_mem _ (List.mem_append_left _ (List.mem_of_getElem? (i := 0) rfl)))
  refine lv_aload_n hX_ hB_ dX8_now_0 rfl (lv_at hl 0 rfl) ?_
  refine ze_get (ci := 8) (C := RX8) (T := TX8) (N := 8) (v := .int (A 30 0)) S hiX8 hK hW 0 (ze_at0 0 rfl) rfl 7 (by decide) rfl w0 dX8_now_1 ?_
  exact ze_iret S hr hlocks hF hK hW rfl dX8_now_4 (Nat.le_of_ble_eq_true rfl) (Nat.le_of_ble_eq_true rfl) rfl rfl
set_option maxHeartbeats 4000000 in
set_option maxRecDepth 100000 in
theorem zp_grid_f (l : Launch) (D : va_G) (c : Nat → ClassId) (a n : Nat → Nat) (A : Nat → Nat → Int32) (B : Nat → Int64) (E : Nat → Nat → Int32)  : ze_I l yX8_grid wsX8_grid 0 0 0 0 D c (ze_wC c a n A B E) [.ref (a 0)] (A 31 0) (ze_wC c a n A B E) := by
  intro sz
  refine ze_start (cc := cX8_grid) (maxL := 1) (ret := (some .int)) (own := RX8) (by decide) rfl rfl (Nat.le_of_ble_eq_true rfl) ?_
  intro p e s m_ below meth cd F ls hF hsz E0
  obtain ⟨S, hr, hlocks, hK, hW, hA, hl⟩ := E0
  have hX_ := S.1
  have hB_ := S.2.1
  have hts := S.2.2.2.2
  have hl : lv_has ls 1 [(0, .ref (a 0))] := hl
  have hiX2 : ∀ w ∈ u_ws RX2 TX2 6, w ∈ wsX8_grid := fun _ h => (List.mem_cons_of_mem _ (List.mem_append_right _ h))
  have hiX8 : ∀ w ∈ u_ws RX8 TX8 8, w ∈ wsX8_grid := fun _ h => (List.mem_cons_of_mem _ (List.mem_append_left _ (List.mem_append_right _ h)))
  have w0 := hts (.fieldLink RX8 42 "Islandgrid" "ledger" "LIslandgrid$Ledger;") (List.mem_cons_of_mem _ (List.mem_append_left _ (List.mem_append_left _ (List.mem_of_getElem? (i := 0) rfl))))
  have w1 := hts (.fieldLink RX8 301 "Islandgrid$Ledger" "gridGave" "I") (List.mem_cons_of_mem _ (List.mem_append_left _ (List.mem_append_left _ (List.mem_of_getElem? (i := 1) rfl))))
  refine lv_aload_n hX_ hB_ dX8_grid_0 rfl (lv_at hl 0 rfl) ?_
  refine ze_get (ci := 8) (C := RX8) (T := TX8) (N := 8) (v := .ref (a 17)) S hiX8 hK hW 0 (ze_at0 0 rfl) rfl 4 (by decide) rfl w0 dX8_grid_1 ?_
  refine ze_get (ci := 2) (C := RX2) (T := TX2) (N := 6) (v := .int (A 31 0)) S hiX2 hK hW 17 (ze_at0 17 rfl) rfl 0 (by decide) rfl w1 dX8_grid_4 ?_
  exact ze_iret S hr hlocks hF hK hW rfl dX8_grid_7 (Nat.le_of_ble_eq_true rfl) (Nat.le_of_ble_eq_true rfl) rfl rfl
set_option maxHeartbeats 4000000 in
set_option maxRecDepth 100000 in
theorem zp_burnt_f (l : Launch) (D : va_G) (c : Nat → ClassId) (a n : Nat → Nat) (A : Nat → Nat → Int32) (B : Nat → Int64) (E : Nat → Nat → Int32)  : ze_L l yX8_burnt wsX8_burnt 0 0 0 0 D c (ze_wC c a n A B E) [.ref (a 0)] (B 33) (ze_wC c a n A B E) := by
  intro sz
  refine ze_start (cc := cX8_burnt) (maxL := 1) (ret := (some .long)) (own := RX8) (by decide) rfl rfl (Nat.le_of_ble_eq_true rfl) ?_
  intro p e s m_ below meth cd F ls hF hsz E0
  obtain ⟨S, hr, hlocks, hK, hW, hA, hl⟩ := E0
  have hX_ := S.1
  have hB_ := S.2.1
  have hts := S.2.2.2.2
  have hl : lv_has ls 1 [(0, .ref (a 0))] := hl
  have hiX2 : ∀ w ∈ u_ws RX2 TX2 6, w ∈ wsX8_burnt := fun _ h => (List.mem_cons_of_mem _ (List.mem_append_right _ h))
  have hiX8 : ∀ w ∈ u_ws RX8 TX8 8, w ∈ wsX8_burnt := fun _ h => (List.mem_cons_of_mem _ (List.mem_append_left _ (List.mem_append_right _ h)))
  have w0 := hts (.fieldLink RX8 42 "Islandgrid" "ledger" "LIslandgrid$Ledger;") (List.mem_cons_of_mem _ (List.mem_append_left _ (List.mem_append_left _ (List.mem_of_getElem? (i := 0) rfl))))
  have w1 := hts (.fieldLink RX8 304 "Islandgrid$Ledger" "burntSum" "J") (List.mem_cons_of_mem _ (List.mem_append_left _ (List.mem_append_left _ (List.mem_of_getElem? (i := 1) rfl))))
  refine lv_aload_n hX_ hB_ dX8_burnt_0 rfl (lv_at hl 0 rfl) ?_
  refine ze_get (ci := 8) (C := RX8) (T := TX8) (N := 8) (v := .ref (a 17)) S hiX8 hK hW 0 (ze_at0 0 rfl) rfl 4 (by decide) rfl w0 dX8_burnt_1 ?_
  refine ze_get (ci := 2) (C := RX2) (T := TX2) (N := 6) (v := .long (B 33)) S hiX2 hK hW 17 (ze_at0 17 rfl) rfl 1 (by decide) rfl w1 dX8_burnt_4 ?_
  exact ze_lret S hr hlocks hF hK hW dX8_burnt_7 (Nat.le_of_ble_eq_true rfl) (Nat.le_of_ble_eq_true rfl) rfl rfl
set_option maxHeartbeats 4000000 in
set_option maxRecDepth 100000 in
theorem zp_served_f (l : Launch) (D : va_G) (c : Nat → ClassId) (a n : Nat → Nat) (A : Nat → Nat → Int32) (B : Nat → Int64) (E : Nat → Nat → Int32)  : ze_L l yX8_served wsX8_served 0 0 0 0 D c (ze_wC c a n A B E) [.ref (a 0)] (B 34) (ze_wC c a n A B E) := by
  intro sz
  refine ze_start (cc := cX8_served) (maxL := 1) (ret := (some .long)) (own := RX8) (by decide) rfl rfl (Nat.le_of_ble_eq_true rfl) ?_
  intro p e s m_ below meth cd F ls hF hsz E0
  obtain ⟨S, hr, hlocks, hK, hW, hA, hl⟩ := E0
  have hX_ := S.1
  have hB_ := S.2.1
  have hts := S.2.2.2.2
  have hl : lv_has ls 1 [(0, .ref (a 0))] := hl
  have hiX2 : ∀ w ∈ u_ws RX2 TX2 6, w ∈ wsX8_served := fun _ h => (List.mem_cons_of_mem _ (List.mem_append_right _ h))
  have hiX8 : ∀ w ∈ u_ws RX8 TX8 8, w ∈ wsX8_served := fun _ h => (List.mem_cons_of_mem _ (List.mem_append_left _ (List.mem_append_right _ h)))
  have w0 := hts (.fieldLink RX8 42 "Islandgrid" "ledger" "LIslandgrid$Ledger;") (List.mem_cons_of_mem _ (List.mem_append_left _ (List.mem_append_left _ (List.mem_of_getElem? (i := 0) rfl))))
  have w1 := hts (.fieldLink RX8 308 "Islandgrid$Ledger" "servedSum" "J") (List.mem_cons_of_mem _ (List.mem_append_left _ (List.mem_append_left _ (List.mem_of_getElem? (i := 1) rfl))))
  refine lv_aload_n hX_ hB_ dX8_served_0 rfl (lv_at hl 0 rfl) ?_
  refine ze_get (ci := 8) (C := RX8) (T := TX8) (N := 8) (v := .ref (a 17)) S hiX8 hK hW 0 (ze_at0 0 rfl) rfl 4 (by decide) rfl w0 dX8_served_1 ?_
  refine ze_get (ci := 2) (C := RX2) (T := TX2) (N := 6) (v := .long (B 34)) S hiX2 hK hW 17 (ze_at0 17 rfl) rfl 2 (by decide) rfl w1 dX8_served_4 ?_
  exact ze_lret S hr hlocks hF hK hW dX8_served_7 (Nat.le_of_ble_eq_true rfl) (Nat.le_of_ble_eq_true rfl) rfl rfl
set_option maxHeartbeats 4000000 in
set_option maxRecDepth 100000 in
theorem zp_lost_f (l : Launch) (D : va_G) (c : Nat → ClassId) (a n : Nat → Nat) (A : Nat → Nat → Int32) (B : Nat → Int64) (E : Nat → Nat → Int32)  : ze_L l yX8_lost wsX8_lost 0 0 0 0 D c (ze_wC c a n A B E) [.ref (a 0)] (B 35) (ze_wC c a n A B E) := by
  intro sz
  refine ze_start (cc := cX8_lost) (maxL := 1) (ret := (some .long)) (own := RX8) (by decide) rfl rfl (Nat.le_of_ble_eq_true rfl) ?_
  intro p e s m_ below meth cd F ls hF hsz E0
  obtain ⟨S, hr, hlocks, hK, hW, hA, hl⟩ := E0
  have hX_ := S.1
  have hB_ := S.2.1
  have hts := S.2.2.2.2
  have hl : lv_has ls 1 [(0, .ref (a 0))] := hl
  have hiX2 : ∀ w ∈ u_ws RX2 TX2 6, w ∈ wsX8_lost := fun _ h => (List.mem_cons_of_mem _ (List.mem_append_right _ h))
  have hiX8 : ∀ w ∈ u_ws RX8 TX8 8, w ∈ wsX8_lost := fun _ h => (List.mem_cons_of_mem _ (List.mem_append_left _ (List.mem_append_right _ h)))
  have w0 := hts (.fieldLink RX8 42 "Islandgrid" "ledger" "LIslandgrid$Ledger;") (List.mem_cons_of_mem _ (List.mem_append_left _ (List.mem_append_left _ (List.mem_of_getElem? (i := 0) rfl))))
  have w1 := hts (.fieldLink RX8 311 "Islandgrid$Ledger" "lostSum" "J") (List.mem_cons_of_mem _ (List.mem_append_left _ (List.mem_append_left _ (List.mem_of_getElem? (i := 1) rfl))))
  refine lv_aload_n hX_ hB_ dX8_lost_0 rfl (lv_at hl 0 rfl) ?_
  refine ze_get (ci := 8) (C := RX8) (T := TX8) (N := 8) (v := .ref (a 17)) S hiX8 hK hW 0 (ze_at0 0 rfl) rfl 4 (by decide) rfl w0 dX8_lost_1 ?_
  refine ze_get (ci := 2) (C := RX2) (T := TX2) (N := 6) (v := .long (B 35)) S hiX2 hK hW 17 (ze_at0 17 rfl) rfl 3 (by decide) rfl w1 dX8_lost_4 ?_
  exact ze_lret S hr hlocks hF hK hW dX8_lost_7 (Nat.le_of_ble_eq_true rfl) (Nat.le_of_ble_eq_true rfl) rfl rfl
set_option maxHeartbeats 4000000 in
set_option maxRecDepth 100000 in
theorem zp_litShare_f (l : Launch) (D : va_G) (c : Nat → ClassId) (a n : Nat → Nat) (A : Nat → Nat → Int32) (B : Nat → Int64) (E : Nat → Nat → Int32) (hN : zf_N n) (h : ¬ n 4 = 0) : ze_F l yX8_litShare wsX8_litShare 1 22 0 0 D c (ze_wC c a n A B E) [.ref (a 0)] (FP.fdiv (FP.i2f (zf_lits A (n 4))) (FP.i2f (nI (n 4)))) (ze_wC c a n A B E) := by
  intro sz
  refine ze_start (cc := cX8_litShare) (maxL := 1) (ret := (some .float)) (own := RX8) (by decide) rfl rfl (Nat.le_of_ble_eq_true rfl) ?_
  obtain ⟨hn0, hn1, hn2, hn3, hn4⟩ := id hN
  intro p e s m_ below meth cd F ls hF hsz E0
  obtain ⟨S, hr, hlocks, hK, hW, hA, hl⟩ := E0
  have hX_ := S.1
  have hB_ := S.2.1
  have hts := S.2.2.2.2
  have hl : lv_has ls 1 [(0, .ref (a 0))] := hl
  have hiX4 : ∀ w ∈ u_ws RX4 TX4 3, w ∈ wsX8_litShare := fun _ h => (List.mem_cons_of_mem _ (List.mem_append_left _ (List.mem_append_left _ (List.mem_append_right _ h))))
  have hiX8 : ∀ w ∈ u_ws RX8 TX8 8, w ∈ wsX8_litShare := fun _ h => (List.mem_cons_of_mem _ (List.mem_append_left _ (List.mem_append_left _ (List.mem_append_left _ (List.mem_append_right _ h)))))
  have w0 := hts (.fieldLink RX8 35 "Islandgrid" "loads" "LIslandgrid$Loads;") (List.mem_cons_of_mem _ (List.mem_append_left _ (List.mem_append_left _ (List.mem_append_left _ (List.mem_append_left _ (List.mem_of_getElem? (i := 2) rfl))))))
  have w1 := hts (.fieldLink RX8 226 "Islandgrid$Loads" "count" "I") (List.mem_cons_of_mem _ (List.mem_append_left _ (List.mem_append_left _ (List.mem_append_left _ (List.mem_append_left _ (List.mem_of_getElem? (i := 3) rfl))))))
  refine lv_aload_n hX_ hB_ dX8_litShare_0 rfl (lv_at hl 0 rfl) ?_
  refine ze_get (ci := 8) (C := RX8) (T := TX8) (N := 8) (v := .ref (a 15)) S hiX8 hK hW 0 (ze_at0 0 rfl) rfl 3 (by decide) rfl w0 dX8_litShare_1 ?_
  refine ze_get (ci := 4) (C := RX4) (T := TX4) (N := 3) (v := .int (nI (n 4))) S hiX4 hK hW 15 (ze_at0 15 rfl) rfl 2 (by decide) rfl w1 dX8_litShare_4 ?_
  refine lv_if_ne (tgt := 21) hX_ hB_ dX8_litShare_7 (by decide) (fun c7 => ?_) (fun c7 => ?_)
  · have c7 : ¬ (n 4) = 0 := fun h9 => c7 ((nI_eq (a := (n 4)) (b := 0) (by omega) (by omega)).mpr h9)
    refine lv_aload_n hX_ hB_ dX8_litShare_21 rfl (lv_at hl 0 rfl) ?_
    refine ze_get (ci := 8) (C := RX8) (T := TX8) (N := 8) (v := .ref (a 15)) S hiX8 hK hW 0 (ze_at0 0 rfl) rfl 3 (by decide) rfl w0 dX8_litShare_22 ?_
    refine ze_Vi (As := []) (rest := []) (ci := 4) (q0 := 15) (k := (RX4, TX4, 3)) S (zc_4_countLit l D c a n A B E  hN) (cwV 0 hts gX8_litShare_X4_countLit rfl rfl rfl (by decide +kernel) ⟨Nat.le_of_ble_eq_true rfl, Nat.le_of_ble_eq_true rfl⟩) hK hW hA rfl (ze_at0 15 rfl) rfl hl.1 rfl (lv_room (Nat.le_of_ble_eq_true rfl)) dX8_litShare_25 ⟨Nat.le_of_ble_eq_true rfl, Nat.le_of_ble_eq_true rfl⟩ (fun H locs hW => ?_)
    refine lv_i2f hX_ hB_ dX8_litShare_28 ?_
    refine lv_aload_n hX_ hB_ dX8_litShare_29 rfl (lv_at hl 0 rfl) ?_
    refine ze_get (ci := 8) (C := RX8) (T := TX8) (N := 8) (v := .ref (a 15)) S hiX8 hK hW 0 (ze_at0 0 rfl) rfl 3 (by decide) rfl w0 dX8_litShare_30 ?_
    refine ze_get (ci := 4) (C := RX4) (T := TX4) (N := 3) (v := .int (nI (n 4))) S hiX4 hK hW 15 (ze_at0 15 rfl) rfl 2 (by decide) rfl w1 dX8_litShare_33 ?_
    refine lv_i2f hX_ hB_ dX8_litShare_36 ?_
    refine lv_fdiv hX_ hB_ dX8_litShare_37 (zf_shN h hn4) ?_
    exact ze_fret S hr hlocks hF hK hW dX8_litShare_38 (Nat.le_of_ble_eq_true rfl) (Nat.le_of_ble_eq_true rfl) rfl rfl
  · have c7 : (n 4) = 0 := (nI_eq (a := (n 4)) (b := 0) (by omega) (by omega)).mp c7
    exact absurd c7 h
