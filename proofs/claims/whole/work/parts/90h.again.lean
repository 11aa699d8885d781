/-! ===== again, for the methods that throw it ===== -/
set_option maxHeartbeats 4000000 in
set_option maxRecDepth 100000 in
theorem zp_unkeptLoadAt_n (l : Launch) (D : va_G) (c : Nat → ClassId) (a n : Nat → Nat) (A : Nat → Nat → Int32) (B : Nat → Int64) (E : Nat → Nat → Int32) (j : Nat) (hN : zf_N n) (hj : j < n 4) (hS : zf_S n A) (hk : ¬ zf_keepC n A (E 0) j (zf_bOf n A (E 0) (E 0 (ze_ix (A 19 j))))) : ze_R l yX8_unkeptLoadAt wsX8_unkeptLoadAt_n 5 98 0 0 D c (ze_wC c a n A B E) [.ref (a 0), .int (nI j)] (a (40 + j)) (ze_wC c a n A B E) := by
  intro sz
  refine ze_start (cc := cX8_unkeptLoadAt) (maxL := 3) (ret := (some (.object "Islandgrid$Load"))) (own := RX8) (by decide) rfl rfl (Nat.le_of_ble_eq_true rfl) ?_
  obtain ⟨hn0, hn1, hn2, hn3, hn4⟩ := id hN
  intro p e s m_ below meth cd F ls hF hsz E0
  obtain ⟨S, hr, hlocks, hK, hW, hA, hl⟩ := E0
  have hX_ := S.1
  have hB_ := S.2.1
  have hts := S.2.2.2.2
  have hl : lv_has ls 3 [(0, .ref (a 0)), (1, .int (nI j))] := hl
  have hiX8 : ∀ w ∈ u_ws RX8 TX8 8, w ∈ wsX8_unkeptLoadAt_n := fun _ h => (List.mem_cons_of_mem _ (List.mem_append_left _ (List.mem_append_left _ (List.mem_append_left _ (List.mem_append_left _ (List.mem_append_left _ (List.mem_append_left _ (List.mem_append_left _ (List.mem_append_left _ (List.mem_append_left _ (List.mem_append_right _ h)))))))))))
  have w0 := hts (.fieldLink RX8 35 "Islandgrid" "loads" "LIslandgrid$Loads;") (List.mem_cons_of_mem _ (List.mem_append_left _ (List.mem_append_left _ (List.mem_append_left _ (List.mem_append_left _ (List.mem_append_left _ (List.mem_append_left _ (List.mem_append_left _ (List.mem_append_left _ (List.mem_append_left _ (List.mem_append_left _ (List.mem_append_left _ (List.mem_of_getElem? (i := 2) rfl)))))))))))))
  refine lv_aload_n hX_ hB_ dX8_unkeptLoadAt_0 rfl (lv_at hl 0 rfl) ?_
  refine lv_iload_n hX_ hB_ dX8_unkeptLoadAt_1 rfl (lv_at hl 1 rfl) ?_
  refine ze_Vr (As := [.int (nI j)]) (rest := []) (ci := 8) (q0 := 0) (k := (RX8, TX8, 8)) S (zp_loadAt l D c a n A B E j hN (by omega)) (cwV 1 hts gX8_unkeptLoadAt_X8_loadAt_n rfl rfl rfl (by decide +kernel) ⟨Nat.le_of_ble_eq_true rfl, Nat.le_of_ble_eq_true rfl⟩) hK hW hA rfl (ze_at0 0 rfl) rfl hl.1 rfl (lv_room (Nat.le_of_ble_eq_true rfl)) dX8_unkeptLoadAt_2 ⟨Nat.le_of_ble_eq_true rfl, Nat.le_of_ble_eq_true rfl⟩ (fun H locs hW => ?_)
  refine lv_astore_n (lv' := [(2, .ref (a (40 + j))), (0, .ref (a 0)), (1, .int (nI j))]) hX_ hB_ dX8_unkeptLoadAt_5 rfl hl (by decide) rfl (fun ls hl => ?_)
  refine lv_aload_n hX_ hB_ dX8_unkeptLoadAt_6 rfl (lv_at hl 1 rfl) ?_
  refine ze_get (ci := 8) (C := RX8) (T := TX8) (N := 8) (v := .ref (a 15)) S hiX8 hK hW 0 (ze_at0 0 rfl) rfl 3 (by decide) rfl w0 dX8_unkeptLoadAt_7 ?_
  refine lv_aload_n hX_ hB_ dX8_unkeptLoadAt_10 rfl (lv_at hl 0 rfl) ?_
  refine lv_aload_n hX_ hB_ dX8_unkeptLoadAt_11 rfl (lv_at hl 1 rfl) ?_
  refine lv_aload_n hX_ hB_ dX8_unkeptLoadAt_12 rfl (lv_at hl 0 rfl) ?_
  refine ze_Vi (As := [.ref (a (40 + j))]) (rest := [.ref (a (40 + j)), .ref (a 15)]) (ci := 8) (q0 := 0) (k := (RX8, TX8, 8)) S (zp_boundFor l D c a n A B E j hN hS (by omega)) (cwV 1 hts gX8_unkeptLoadAt_X8_boundFor_n rfl rfl rfl (by decide +kernel) ⟨Nat.le_of_ble_eq_true rfl, Nat.le_of_ble_eq_true rfl⟩) hK hW hA rfl (ze_at0 0 rfl) rfl hl.1 rfl (lv_room (Nat.le_of_ble_eq_true rfl)) dX8_unkeptLoadAt_13 ⟨Nat.le_of_ble_eq_true rfl, Nat.le_of_ble_eq_true rfl⟩ (fun H locs hW => ?_)
  refine ze_Vi (As := [.ref (a (40 + j)), .int (zf_bOf n A (E 0) (E 0 (ze_ix (A 19 j))))]) (rest := []) (ci := 4) (q0 := 15) (k := (RX4, TX4, 3)) S (zc_4_keeps l D c a n A B E j (zf_bOf n A (E 0) (E 0 (ze_ix (A 19 j)))) hN hS (by omega)) (cwV 2 hts gX8_unkeptLoadAt_X4_keeps_n rfl rfl rfl (by decide +kernel) ⟨Nat.le_of_ble_eq_true rfl, Nat.le_of_ble_eq_true rfl⟩) hK hW hA rfl (ze_at0 15 rfl) rfl hl.1 rfl (lv_room (Nat.le_of_ble_eq_true rfl)) dX8_unkeptLoadAt_16 ⟨Nat.le_of_ble_eq_true rfl, Nat.le_of_ble_eq_true rfl⟩ (fun H locs hW => ?_)
  refine lv_if_eq (tgt := 33) hX_ hB_ dX8_unkeptLoadAt_19 (by decide) (fun c19 => ?_) (fun c19 => ?_)
  · have c19 : ¬ (zf_keepC n A (E 0) j (zf_bOf n A (E 0) (E 0 (ze_ix (A 19 j))))) := ze_bf c19
    refine lv_aload_n hX_ hB_ dX8_unkeptLoadAt_33 rfl (lv_at hl 0 rfl) ?_
    exact ze_rret S hr hlocks hF hK hW dX8_unkeptLoadAt_34 (Nat.le_of_ble_eq_true rfl) (Nat.le_of_ble_eq_true rfl) rfl rfl
  · have c19 : zf_keepC n A (E 0) j (zf_bOf n A (E 0) (E 0 (ze_ix (A 19 j)))) := ze_bt c19
    exact absurd c19 hk
set_option maxHeartbeats 4000000 in
set_option maxRecDepth 100000 in
theorem zp_checkShare_n (l : Launch) (D : va_G) (c : Nat → ClassId) (a n : Nat → Nat) (A : Nat → Nat → Int32) (B : Nat → Int64) (E : Nat → Nat → Int32) (j : Nat) (hN : zf_N n) (hj : j < n 0) (y : Int32) (k : Nat) (hk : k < n 2) (hS : zf_S n A) (hy : zf_isIn y 0 1200) (hrn : zf_runs A (E 0) k (E 0 j)) : ze_V l yX8_checkShare wsX8_checkShare_n 2 42 0 0 D c (ze_wC c a n A B E) [.ref (a 0), .int (nI j), .int y, .int (nI k)] (ze_wC c a n A B E) := by
  intro sz
  refine ze_start (cc := cX8_checkShare) (maxL := 4) (ret := none) (own := RX8) (by decide) rfl rfl (Nat.le_of_ble_eq_true rfl) ?_
  obtain ⟨hn0, hn1, hn2, hn3, hn4⟩ := id hN
  intro p e s m_ below meth cd F ls hF hsz E0
  obtain ⟨S, hr, hlocks, hK, hW, hA, hl⟩ := E0
  have hX_ := S.1
  have hB_ := S.2.1
  have hts := S.2.2.2.2
  have hl : lv_has ls 4 [(0, .ref (a 0)), (1, .int (nI j)), (2, .int y), (3, .int (nI k))] := hl
  have hiX0 : ∀ w ∈ u_ws RX0 TX0 5, w ∈ wsX8_checkShare_n := fun _ h => (List.mem_cons_of_mem _ (List.mem_append_left _ (List.mem_append_left _ (List.mem_append_left _ (List.mem_append_left _ (List.mem_append_left _ (List.mem_append_right _ h)))))))
  have hiX5 : ∀ w ∈ u_ws RX5 TX5 10, w ∈ wsX8_checkShare_n := fun _ h => (List.mem_cons_of_mem _ (List.mem_append_left _ (List.mem_append_left _ (List.mem_append_left _ (List.mem_append_left _ (List.mem_append_right _ h))))))
  have hiX8 : ∀ w ∈ u_ws RX8 TX8 8, w ∈ wsX8_checkShare_n := fun _ h => (List.mem_cons_of_mem _ (List.mem_append_left _ (List.mem_append_left _ (List.mem_append_left _ (List.mem_append_left _ (List.mem_append_left _ (List.mem_append_left _ (List.mem_append_right _ h))))))))
  have w0 := hts (.fieldLink RX8 21 "Islandgrid" "fleet" "LIslandgrid$Fleet;") (List.mem_cons_of_mem _ (List.mem_append_left _ (List.mem_append_left _ (List.mem_append_left _ (List.mem_append_left _ (List.mem_append_left _ (List.mem_append_left _ (List.mem_append_left _ (List.mem_append_left _ (List.mem_of_getElem? (i := 2) rfl))))))))))
  have w1 := hts (.fieldLink RX8 151 "Islandgrid$Fleet" "count" "I") (List.mem_cons_of_mem _ (List.mem_append_left _ (List.mem_append_left _ (List.mem_append_left _ (List.mem_append_left _ (List.mem_append_left _ (List.mem_append_left _ (List.mem_append_left _ (List.mem_append_left _ (List.mem_of_getElem? (i := 3) rfl))))))))))
  have w2 := hts (.fieldLink RX8 10 "Islandgrid" "network" "LIslandgrid$Network;") (List.mem_cons_of_mem _ (List.mem_append_left _ (List.mem_append_left _ (List.mem_append_left _ (List.mem_append_left _ (List.mem_append_left _ (List.mem_append_left _ (List.mem_append_left _ (List.mem_append_left _ (List.mem_of_getElem? (i := 4) rfl))))))))))
  have w3 := hts (.fieldLink RX8 140 "Islandgrid$Network" "islandOf" "[I") (List.mem_cons_of_mem _ (List.mem_append_left _ (List.mem_append_left _ (List.mem_append_left _ (List.mem_append_left _ (List.mem_append_left _ (List.mem_append_left _ (List.mem_append_left _ (List.mem_append_left _ (List.mem_of_getElem? (i := 5) rfl))))))))))
  refine lv_aload_n hX_ hB_ dX8_checkShare_0 rfl (lv_at hl 0 rfl) ?_
  refine lv_iload_n hX_ hB_ dX8_checkShare_1 rfl (lv_at hl 1 rfl) ?_
  refine ze_Vv (As := [.int (nI j)]) (rest := []) (ci := 8) (q0 := 0) (k := (RX8, TX8, 8)) S (zp_checkSite l D c a n A B E j hN (by omega)) (cwV 1 hts gX8_checkShare_X8_checkSite_n rfl rfl rfl (by decide +kernel) ⟨Nat.le_of_ble_eq_true rfl, Nat.le_of_ble_eq_true rfl⟩) hK hW hA rfl (ze_at0 0 rfl) rfl hl.1 rfl (lv_room (Nat.le_of_ble_eq_true rfl)) dX8_checkShare_2 ⟨Nat.le_of_ble_eq_true rfl, Nat.le_of_ble_eq_true rfl⟩ (fun H locs hW => ?_)
  refine lv_iload_n hX_ hB_ dX8_checkShare_5 rfl (lv_at hl 3 rfl) ?_
  refine lv_aload_n hX_ hB_ dX8_checkShare_6 rfl (lv_at hl 0 rfl) ?_
  refine ze_get (ci := 8) (C := RX8) (T := TX8) (N := 8) (v := .ref (a 9)) S hiX8 hK hW 0 (ze_at0 0 rfl) rfl 1 (by decide) rfl w0 dX8_checkShare_7 ?_
  refine ze_get (ci := 0) (C := RX0) (T := TX0) (N := 5) (v := .int (nI (n 2))) S hiX0 hK hW 9 (ze_at0 9 rfl) rfl 2 (by decide) rfl w1 dX8_checkShare_10 ?_
  refine ze_Sv (As := [.int (nI k), .int (nI (n 2))]) (rest := []) S (zp_checkNumber l D c (ze_wC c a n A B E) k (n 2) (by omega) (by omega)) (va_cwS 2 hts gX8_checkShare_X8_checkNumber_n rfl rfl rfl (by decide +kernel) ⟨Nat.le_of_ble_eq_true rfl, Nat.le_of_ble_eq_true rfl⟩) hK hW hA rfl hl.1 rfl (lv_room (Nat.le_of_ble_eq_true rfl)) dX8_checkShare_13 ⟨Nat.le_of_ble_eq_true rfl, Nat.le_of_ble_eq_true rfl⟩ (fun H locs hW => ?_)
  refine lv_iload_n hX_ hB_ dX8_checkShare_16 rfl (lv_at hl 2 rfl) ?_
  refine lv_iconst (v := 0) hX_ hB_ dX8_checkShare_17 (by decide) ?_
  refine lv_sipush (v := 1200) hX_ hB_ dX8_checkShare_18 (by decide) ?_
  refine ze_Sv (As := [.int y, .int 0, .int 1200]) (rest := []) S (zp_checkRange l D c (ze_wC c a n A B E) y 0 1200 (by assumption)) (va_cwS 3 hts gX8_checkShare_X8_checkRange_n rfl rfl rfl (by decide +kernel) ⟨Nat.le_of_ble_eq_true rfl, Nat.le_of_ble_eq_true rfl⟩) hK hW hA rfl hl.1 rfl (lv_room (Nat.le_of_ble_eq_true rfl)) dX8_checkShare_21 ⟨Nat.le_of_ble_eq_true rfl, Nat.le_of_ble_eq_true rfl⟩ (fun H locs hW => ?_)
  refine lv_aload_n hX_ hB_ dX8_checkShare_24 rfl (lv_at hl 0 rfl) ?_
  refine ze_get (ci := 8) (C := RX8) (T := TX8) (N := 8) (v := .ref (a 9)) S hiX8 hK hW 0 (ze_at0 0 rfl) rfl 1 (by decide) rfl w0 dX8_checkShare_25 ?_
  refine lv_iload_n hX_ hB_ dX8_checkShare_28 rfl (lv_at hl 3 rfl) ?_
  refine lv_aload_n hX_ hB_ dX8_checkShare_29 rfl (lv_at hl 0 rfl) ?_
  refine ze_get (ci := 8) (C := RX8) (T := TX8) (N := 8) (v := .ref (a 1)) S hiX8 hK hW 0 (ze_at0 0 rfl) rfl 0 (by decide) rfl w2 dX8_checkShare_30 ?_
  refine ze_get (ci := 5) (C := RX5) (T := TX5) (N := 10) (v := .ref (a 3)) S hiX5 hK hW 1 (ze_at0 1 rfl) rfl 4 (by decide) rfl w3 dX8_checkShare_33 ?_
  refine lv_iload_n hX_ hB_ dX8_checkShare_36 rfl (lv_at hl 1 rfl) ?_
  refine ze_ialdN hX_ hB_ hK hW 3 (f := E 0) (ze_at0 3 rfl) (i := j) (by omega) (by decide) dX8_checkShare_37 ?_
  refine ze_Vi (As := [.int (nI k), .int (E 0 j)]) (rest := []) (ci := 0) (q0 := 9) (k := (RX0, TX0, 5)) S (zc_0_runsOn l D c a n A B E k (E 0 j) hN hS (by omega)) (cwV 2 hts gX8_checkShare_X0_runsOn_n rfl rfl rfl (by decide +kernel) ⟨Nat.le_of_ble_eq_true rfl, Nat.le_of_ble_eq_true rfl⟩) hK hW hA rfl (ze_at0 9 rfl) rfl hl.1 rfl (lv_room (Nat.le_of_ble_eq_true rfl)) dX8_checkShare_38 ⟨Nat.le_of_ble_eq_true rfl, Nat.le_of_ble_eq_true rfl⟩ (fun H locs hW => ?_)
  refine lv_if_ne (tgt := 55) hX_ hB_ dX8_checkShare_41 (by decide) (fun c41 => ?_) (fun c41 => ?_)
  · have c41 : zf_runs A (E 0) k (E 0 j) := ze_bt c41
    exact ze_vret S hr hlocks hF hK hW dX8_checkShare_55 (Nat.le_of_ble_eq_true rfl) (Nat.le_of_ble_eq_true rfl) rfl
  · have c41 : ¬ (zf_runs A (E 0) k (E 0 j)) := ze_bf c41
    exact absurd hrn c41
set_option maxHeartbeats 4000000 in
set_option maxRecDepth 100000 in
theorem zp_tie_f_n (l : Launch) (D : va_G) (c : Nat → ClassId) (a n : Nat → Nat) (A : Nat → Nat → Int32) (B : Nat → Int64) (E : Nat → Nat → Int32) (hN : zf_N n) (h : ¬ n 0 = 0) (h2 : A 38 0 = 0) (h3 : ze_mn (ze_ab ((if zf_tied A 0 then 0 else A 0 (ze_ix 0)) - 0)) (360 - ze_ab ((if zf_tied A 0 then 0 else A 0 (ze_ix 0)) - 0)) ≤ 10) : ze_I l yX8_tie wsX8_tie_n 2 42 0 0 D c (ze_wC c a n A B E) [.ref (a 0)] (ze_sum 0 (fun s => if E 0 s = 0 then 1 else 0) (n 0)) (ze_wC c a n (ze_sC A 38 1) B E) := by
  intro sz
  refine ze_start (cc := cX8_tie) (maxL := 1) (ret := (some .int)) (own := RX8) (by decide) rfl rfl (Nat.le_of_ble_eq_true rfl) ?_
  obtain ⟨hn0, hn1, hn2, hn3, hn4⟩ := id hN
  intro p e s m_ below meth cd F ls hF hsz E0
  obtain ⟨S, hr, hlocks, hK, hW, hA, hl⟩ := E0
  have hX_ := S.1
  have hB_ := S.2.1
  have hts := S.2.2.2.2
  have hl : lv_has ls 1 [(0, .ref (a 0))] := hl
  have hiX5 : ∀ w ∈ u_ws RX5 TX5 10, w ∈ wsX8_tie_n := fun _ h => (List.mem_cons_of_mem _ (List.mem_append_left _ (List.mem_append_left _ (List.mem_append_left _ (List.mem_append_right _ h)))))
  have hiX8 : ∀ w ∈ u_ws RX8 TX8 8, w ∈ wsX8_tie_n := fun _ h => (List.mem_cons_of_mem _ (List.mem_append_left _ (List.mem_append_left _ (List.mem_append_left _ (List.mem_append_left _ (List.mem_append_right _ h))))))
  have w0 := hts (.fieldLink RX8 10 "Islandgrid" "network" "LIslandgrid$Network;") (List.mem_cons_of_mem _ (List.mem_append_left _ (List.mem_append_left _ (List.mem_append_left _ (List.mem_append_left _ (List.mem_append_left _ (List.mem_append_left _ (List.mem_of_getElem? (i := 6) rfl))))))))
  have w1 := hts (.fieldLink RX8 50 "Islandgrid$Network" "siteCount" "I") (List.mem_cons_of_mem _ (List.mem_append_left _ (List.mem_append_left _ (List.mem_append_left _ (List.mem_append_left _ (List.mem_append_left _ (List.mem_append_left _ (List.mem_of_getElem? (i := 7) rfl))))))))
  have w2 := hts (.fieldLink RX8 123 "Islandgrid$Network" "tied" "Z") (List.mem_cons_of_mem _ (List.mem_append_left _ (List.mem_append_left _ (List.mem_append_left _ (List.mem_append_left _ (List.mem_append_left _ (List.mem_append_left _ (List.mem_of_getElem? (i := 8) rfl))))))))
  refine lv_aload_n hX_ hB_ dX8_tie_0 rfl (lv_at hl 0 rfl) ?_
  refine ze_get (ci := 8) (C := RX8) (T := TX8) (N := 8) (v := .ref (a 1)) S hiX8 hK hW 0 (ze_at0 0 rfl) rfl 0 (by decide) rfl w0 dX8_tie_1 ?_
  refine ze_get (ci := 5) (C := RX5) (T := TX5) (N := 10) (v := .int (nI (n 0))) S hiX5 hK hW 1 (ze_at0 1 rfl) rfl 0 (by decide) rfl w1 dX8_tie_4 ?_
  refine lv_if_ne (tgt := 20) hX_ hB_ dX8_tie_7 (by decide) (fun c7 => ?_) (fun c7 => ?_)
  · have c7 : ¬ (n 0) = 0 := fun h9 => c7 ((nI_eq (a := (n 0)) (b := 0) (by omega) (by omega)).mpr h9)
    refine lv_aload_n hX_ hB_ dX8_tie_20 rfl (lv_at hl 0 rfl) ?_
    refine ze_get (ci := 8) (C := RX8) (T := TX8) (N := 8) (v := .ref (a 1)) S hiX8 hK hW 0 (ze_at0 0 rfl) rfl 0 (by decide) rfl w0 dX8_tie_21 ?_
    refine ze_get (ci := 5) (C := RX5) (T := TX5) (N := 10) (v := .int (A 38 0)) S hiX5 hK hW 1 (ze_at0 1 rfl) rfl 2 (by decide) rfl w2 dX8_tie_24 ?_
    refine lv_if_eq (tgt := 40) hX_ hB_ dX8_tie_27 (by decide) (fun c27 => ?_) (fun c27 => ?_)
    · refine lv_aload_n hX_ hB_ dX8_tie_40 rfl (lv_at hl 0 rfl) ?_
      refine ze_get (ci := 8) (C := RX8) (T := TX8) (N := 8) (v := .ref (a 1)) S hiX8 hK hW 0 (ze_at0 0 rfl) rfl 0 (by decide) rfl w0 dX8_tie_41 ?_
      refine lv_iconst (v := 0) hX_ hB_ dX8_tie_44 (by decide) ?_
      refine ze_Vi (As := [.int 0]) (rest := []) (ci := 5) (q0 := 1) (k := (RX5, TX5, 10)) S (zc_5_phaseOf l D c a n A B E 0 hN ⟨0, (by omega), rfl⟩) (cwV 1 hts gX8_tie_X5_phaseOf_n rfl rfl rfl (by decide +kernel) ⟨Nat.le_of_ble_eq_true rfl, Nat.le_of_ble_eq_true rfl⟩) hK hW hA rfl (ze_at0 1 rfl) rfl hl.1 rfl (lv_room (Nat.le_of_ble_eq_true rfl)) dX8_tie_45 ⟨Nat.le_of_ble_eq_true rfl, Nat.le_of_ble_eq_true rfl⟩ (fun H locs hW => ?_)
      refine lv_iconst (v := 0) hX_ hB_ dX8_tie_48 (by decide) ?_
      refine ze_Si (As := [.int (if zf_tied A 0 then 0 else A 0 (ze_ix 0)), .int 0]) (rest := []) S (zc_X5_apart l D c (ze_wC c a n A B E) (if zf_tied A 0 then 0 else A 0 (ze_ix 0)) 0) (va_cwS 2 hts gX8_tie_X5_apart_n rfl rfl rfl (by decide +kernel) ⟨Nat.le_of_ble_eq_true rfl, Nat.le_of_ble_eq_true rfl⟩) hK hW hA rfl hl.1 rfl (lv_room (Nat.le_of_ble_eq_true rfl)) dX8_tie_49 ⟨Nat.le_of_ble_eq_true rfl, Nat.le_of_ble_eq_true rfl⟩ (fun H locs hW => ?_)
      refine lv_bipush (v := 10) hX_ hB_ dX8_tie_52 (by decide) ?_
      refine lv_icmp_le (tgt := 67) hX_ hB_ dX8_tie_54 (by decide) (fun c54 => ?_) (fun c54 => ?_)
      · refine lv_aload_n hX_ hB_ dX8_tie_67 rfl (lv_at hl 0 rfl) ?_
        refine ze_get (ci := 8) (C := RX8) (T := TX8) (N := 8) (v := .ref (a 1)) S hiX8 hK hW 0 (ze_at0 0 rfl) rfl 0 (by decide) rfl w0 dX8_tie_68 ?_
        refine lv_iconst (v := 1) hX_ hB_ dX8_tie_71 (by decide) ?_
        refine ze_put (ci := 5) (C := RX5) (T := TX5) (N := 10) (v := .int 1) S hiX5 tyX5 tyX5_ok nmX5 hK hW 1 (ze_at0 1 rfl) rfl 2 (by decide) (Nat.le_of_ble_eq_true rfl) rfl rfl rfl w2 dX8_tie_72 (ze_pC1_2 1 _ _ _ _ _ _) (fun H locs hW => ?_)
        have hW : ze_W D (ze_wC c a n (ze_sC A 38 1) B E) F s.heap _ _ := hW
        refine lv_aload_n hX_ hB_ dX8_tie_75 rfl (lv_at hl 0 rfl) ?_
        refine ze_get (ci := 8) (C := RX8) (T := TX8) (N := 8) (v := .ref (a 1)) S hiX8 hK hW 0 (ze_at0 0 rfl) rfl 0 (by decide) rfl w0 dX8_tie_76 ?_
        refine lv_iconst (v := 0) hX_ hB_ dX8_tie_79 (by decide) ?_
        refine ze_Vi (As := [.int 0]) (rest := []) (ci := 5) (q0 := 1) (k := (RX5, TX5, 10)) S (zc_5_countSites l D c a n (ze_sC A 38 1) B E 0 hN) (cwV 1 hts gX8_tie_X5_countSites_n rfl rfl rfl (by decide +kernel) ⟨Nat.le_of_ble_eq_true rfl, Nat.le_of_ble_eq_true rfl⟩) hK hW hA rfl (ze_at0 1 rfl) rfl hl.1 rfl (lv_room (Nat.le_of_ble_eq_true rfl)) dX8_tie_80 ⟨Nat.le_of_ble_eq_true rfl, Nat.le_of_ble_eq_true rfl⟩ (fun H locs hW => ?_)
        exact ze_iret S hr hlocks hF hK hW rfl dX8_tie_83 (Nat.le_of_ble_eq_true rfl) (Nat.le_of_ble_eq_true rfl) rfl rfl
      · exact absurd h3 c54
    · exact absurd h2 c27
  · have c7 : (n 0) = 0 := (nI_eq (a := (n 0)) (b := 0) (by omega) (by omega)).mp c7
    exact absurd c7 h
set_option maxHeartbeats 4000000 in
set_option maxRecDepth 100000 in
theorem zp_start_f_n (l : Launch) (D : va_G) (c : Nat → ClassId) (a n : Nat → Nat) (A : Nat → Nat → Int32) (B : Nat → Int64) (E : Nat → Nat → Int32) (j : Nat) (hN : zf_N n) (hj : j < n 2) (h : A 13 j = 111) (h2 : ¬ zf_short A j) : ze_I l yX8_start wsX8_start_n 2 42 0 0 D c (ze_wC c a n A B E) [.ref (a 0), .int (nI j)] (zf_start A j 11 j) (ze_wC c a n (zf_start A j) B E) := by
  intro sz
  refine ze_start (cc := cX8_start) (maxL := 3) (ret := (some .int)) (own := RX8) (by decide) rfl rfl (Nat.le_of_ble_eq_true rfl) ?_
  obtain ⟨hn0, hn1, hn2, hn3, hn4⟩ := id hN
  intro p e s m_ below meth cd F ls hF hsz E0
  obtain ⟨S, hr, hlocks, hK, hW, hA, hl⟩ := E0
  have hX_ := S.1
  have hB_ := S.2.1
  have hts := S.2.2.2.2
  have hl : lv_has ls 3 [(0, .ref (a 0)), (1, .int (nI j))] := hl
  have hiX1 : ∀ w ∈ u_ws RX1 TX1 8, w ∈ wsX8_start_n := fun _ h => (List.mem_cons_of_mem _ (List.mem_append_left _ (List.mem_append_left _ (List.mem_append_left _ (List.mem_append_left _ (List.mem_append_left _ (List.mem_append_right _ h)))))))
  have w0 := hts (.fieldLink RX8 169 "Islandgrid$Generator" "mode" "C") (List.mem_cons_of_mem _ (List.mem_append_left _ (List.mem_append_left _ (List.mem_append_left _ (List.mem_append_left _ (List.mem_append_left _ (List.mem_append_left _ (List.mem_append_left _ (List.mem_of_getElem? (i := 4) rfl)))))))))
  have w1 := hts (.fieldLink RX8 184 "Islandgrid$Generator" "left" "I") (List.mem_cons_of_mem _ (List.mem_append_left _ (List.mem_append_left _ (List.mem_append_left _ (List.mem_append_left _ (List.mem_append_left _ (List.mem_append_left _ (List.mem_append_left _ (List.mem_of_getElem? (i := 5) rfl)))))))))
  refine lv_aload_n hX_ hB_ dX8_start_0 rfl (lv_at hl 0 rfl) ?_
  refine lv_iload_n hX_ hB_ dX8_start_1 rfl (lv_at hl 1 rfl) ?_
  refine ze_Vr (As := [.int (nI j)]) (rest := []) (ci := 8) (q0 := 0) (k := (RX8, TX8, 8)) S (zp_generatorAt l D c a n A B E j hN (by omega)) (cwV 1 hts gX8_start_X8_generatorAt_n rfl rfl rfl (by decide +kernel) ⟨Nat.le_of_ble_eq_true rfl, Nat.le_of_ble_eq_true rfl⟩) hK hW hA rfl (ze_at0 0 rfl) rfl hl.1 rfl (lv_room (Nat.le_of_ble_eq_true rfl)) dX8_start_2 ⟨Nat.le_of_ble_eq_true rfl, Nat.le_of_ble_eq_true rfl⟩ (fun H locs hW => ?_)
  refine lv_astore_n (lv' := [(2, .ref (a (20 + j))), (0, .ref (a 0)), (1, .int (nI j))]) hX_ hB_ dX8_start_5 rfl hl (by decide) rfl (fun ls hl => ?_)
  refine lv_aload_n hX_ hB_ dX8_start_6 rfl (lv_at hl 0 rfl) ?_
  refine ze_get (ci := 1) (C := RX1) (T := TX1) (N := 8) (v := .int (A 13 j)) S hiX1 hK hW (18 + j) (ze_atG (g := j) (by omega)) rfl 5 (by decide) rfl w0 dX8_start_7 ?_
  refine lv_bipush (v := 111) hX_ hB_ dX8_start_10 (by decide) ?_
  refine lv_icmp_eq (tgt := 25) hX_ hB_ dX8_start_12 (by decide) (fun c12 => ?_) (fun c12 => ?_)
  · refine lv_aload_n hX_ hB_ dX8_start_25 rfl (lv_at hl 0 rfl) ?_
    refine ze_Vi (As := []) (rest := []) (ci := 1) (q0 := (18 + j)) (k := (RX1, TX1, 8)) S (zc_1_isShort l D c a n A B E j hN (by omega)) (cwV 0 hts gX8_start_X1_isShort_n rfl rfl rfl (by decide +kernel) ⟨Nat.le_of_ble_eq_true rfl, Nat.le_of_ble_eq_true rfl⟩) hK hW hA rfl (ze_atG (g := j) (by omega)) rfl hl.1 rfl (lv_room (Nat.le_of_ble_eq_true rfl)) dX8_start_26 ⟨Nat.le_of_ble_eq_true rfl, Nat.le_of_ble_eq_true rfl⟩ (fun H locs hW => ?_)
    refine lv_if_eq (tgt := 42) hX_ hB_ dX8_start_29 (by decide) (fun c29 => ?_) (fun c29 => ?_)
    · have c29 : ¬ (zf_short A j) := ze_bf c29
      refine lv_aload_n hX_ hB_ dX8_start_42 rfl (lv_at hl 0 rfl) ?_
      refine ze_Vv (As := []) (rest := []) (ci := 1) (q0 := (18 + j)) (k := (RX1, TX1, 8)) S (zc_1_switchOn l D c a n A B E j hN (by omega)) (cwV 0 hts gX8_start_X1_switchOn_n rfl rfl rfl (by decide +kernel) ⟨Nat.le_of_ble_eq_true rfl, Nat.le_of_ble_eq_true rfl⟩) hK hW hA rfl (ze_atG (g := j) (by omega)) rfl hl.1 rfl (lv_room (Nat.le_of_ble_eq_true rfl)) dX8_start_43 ⟨Nat.le_of_ble_eq_true rfl, Nat.le_of_ble_eq_true rfl⟩ (fun H locs hW => ?_)
      have hW : ze_W D (ze_wC c a n (zf_start A j) B E) F s.heap _ _ := hW
      refine lv_aload_n hX_ hB_ dX8_start_46 rfl (lv_at hl 0 rfl) ?_
      refine ze_get (ci := 1) (C := RX1) (T := TX1) (N := 8) (v := .int (((zf_start A j) 11) j)) S hiX1 hK hW (18 + j) (ze_atG (g := j) (by omega)) rfl 6 (by decide) rfl w1 dX8_start_47 ?_
      exact ze_iret S hr hlocks hF hK hW rfl dX8_start_50 (Nat.le_of_ble_eq_true rfl) (Nat.le_of_ble_eq_true rfl) (by simp only [ze_b, eq_true h, eq_false h2, eq_true c12, eq_false c29, not_true_eq_false, not_false_eq_true, and_true, true_and, and_false, false_and, or_true, true_or, or_false, false_or, and_self, or_self, Decidable.not_not, if_true, if_false, reduceIte, reduceCtorEq, ne_eq, eq_self, Int32.lt_irrefl, Int32.le_refl, Nat.lt_irrefl]) rfl
    · have c29 : zf_short A j := ze_bt c29
      exact absurd c29 h2
  · exact absurd h c12
set_option maxHeartbeats 4000000 in
set_option maxRecDepth 100000 in
theorem zp_startNext_f_n (l : Launch) (D : va_G) (c : Nat → ClassId) (a n : Nat → Nat) (A : Nat → Nat → Int32) (B : Nat → Int64) (E : Nat → Nat → Int32) (j : Nat) (hN : zf_N n) (hj : j < n 0) (hS : zf_S n A) (v : Nat) (hpick : zf_nx A (E 0) (E 0 j) (n 2) = some v) : ze_I l yX8_startNext wsX8_startNext_n 2 46 0 0 D c (ze_wC c a n A B E) [.ref (a 0), .int (nI j)] (nI v) (ze_wC c a n (zf_start A v) B E) := by
  intro sz
  refine ze_start (cc := cX8_startNext) (maxL := 3) (ret := (some .int)) (own := RX8) (by decide) rfl rfl (Nat.le_of_ble_eq_true rfl) ?_
  obtain ⟨hn0, hn1, hn2, hn3, hn4⟩ := id hN
  have hv9 : v < n 2 := zf_nxlt (Nat.le_refl _) hpick
  intro p e s m_ below meth cd F ls hF hsz E0
  obtain ⟨S, hr, hlocks, hK, hW, hA, hl⟩ := E0
  have hX_ := S.1
  have hB_ := S.2.1
  have hts := S.2.2.2.2
  have hl : lv_has ls 3 [(0, .ref (a 0)), (1, .int (nI j))] := hl
  have hiX0 : ∀ w ∈ u_ws RX0 TX0 5, w ∈ wsX8_startNext_n := fun _ h => (List.mem_cons_of_mem _ (List.mem_append_left _ (List.mem_append_left _ (List.mem_append_left _ (List.mem_append_right _ h)))))
  have hiX5 : ∀ w ∈ u_ws RX5 TX5 10, w ∈ wsX8_startNext_n := fun _ h => (List.mem_cons_of_mem _ (List.mem_append_left _ (List.mem_append_left _ (List.mem_append_left _ (List.mem_append_left _ (List.mem_append_right _ h))))))
  have hiX8 : ∀ w ∈ u_ws RX8 TX8 8, w ∈ wsX8_startNext_n := fun _ h => (List.mem_cons_of_mem _ (List.mem_append_left _ (List.mem_append_left _ (List.mem_append_left _ (List.mem_append_left _ (List.mem_append_left _ (List.mem_append_right _ h)))))))
  have w0 := hts (.fieldLink RX8 21 "Islandgrid" "fleet" "LIslandgrid$Fleet;") (List.mem_cons_of_mem _ (List.mem_append_left _ (List.mem_append_left _ (List.mem_append_left _ (List.mem_append_left _ (List.mem_append_left _ (List.mem_append_left _ (List.mem_append_left _ (List.mem_of_getElem? (i := 2) rfl)))))))))
  have w1 := hts (.fieldLink RX8 10 "Islandgrid" "network" "LIslandgrid$Network;") (List.mem_cons_of_mem _ (List.mem_append_left _ (List.mem_append_left _ (List.mem_append_left _ (List.mem_append_left _ (List.mem_append_left _ (List.mem_append_left _ (List.mem_append_left _ (List.mem_of_getElem? (i := 3) rfl)))))))))
  have w2 := hts (.fieldLink RX8 140 "Islandgrid$Network" "islandOf" "[I") (List.mem_cons_of_mem _ (List.mem_append_left _ (List.mem_append_left _ (List.mem_append_left _ (List.mem_append_left _ (List.mem_append_left _ (List.mem_append_left _ (List.mem_append_left _ (List.mem_of_getElem? (i := 4) rfl)))))))))
  have w3 := hts (.fieldLink RX8 200 "Islandgrid$Fleet" "all" "[LIslandgrid$Generator;") (List.mem_cons_of_mem _ (List.mem_append_left _ (List.mem_append_left _ (List.mem_append_left _ (List.mem_append_left _ (List.mem_append_left _ (List.mem_append_left _ (List.mem_append_left _ (List.mem_of_getElem? (i := 5) rfl)))))))))
  refine lv_aload_n hX_ hB_ dX8_startNext_0 rfl (lv_at hl 0 rfl) ?_
  refine lv_iload_n hX_ hB_ dX8_startNext_1 rfl (lv_at hl 1 rfl) ?_
  refine ze_Vv (As := [.int (nI j)]) (rest := []) (ci := 8) (q0 := 0) (k := (RX8, TX8, 8)) S (zp_checkSite l D c a n A B E j hN (by omega)) (cwV 1 hts gX8_startNext_X8_checkSite_n rfl rfl rfl (by decide +kernel) ⟨Nat.le_of_ble_eq_true rfl, Nat.le_of_ble_eq_true rfl⟩) hK hW hA rfl (ze_at0 0 rfl) rfl hl.1 rfl (lv_room (Nat.le_of_ble_eq_true rfl)) dX8_startNext_2 ⟨Nat.le_of_ble_eq_true rfl, Nat.le_of_ble_eq_true rfl⟩ (fun H locs hW => ?_)
  refine lv_aload_n hX_ hB_ dX8_startNext_5 rfl (lv_at hl 0 rfl) ?_
  refine ze_get (ci := 8) (C := RX8) (T := TX8) (N := 8) (v := .ref (a 9)) S hiX8 hK hW 0 (ze_at0 0 rfl) rfl 1 (by decide) rfl w0 dX8_startNext_6 ?_
  refine lv_aload_n hX_ hB_ dX8_startNext_9 rfl (lv_at hl 0 rfl) ?_
  refine ze_get (ci := 8) (C := RX8) (T := TX8) (N := 8) (v := .ref (a 1)) S hiX8 hK hW 0 (ze_at0 0 rfl) rfl 0 (by decide) rfl w1 dX8_startNext_10 ?_
  refine ze_get (ci := 5) (C := RX5) (T := TX5) (N := 10) (v := .ref (a 3)) S hiX5 hK hW 1 (ze_at0 1 rfl) rfl 4 (by decide) rfl w2 dX8_startNext_13 ?_
  refine lv_iload_n hX_ hB_ dX8_startNext_16 rfl (lv_at hl 1 rfl) ?_
  refine ze_ialdN hX_ hB_ hK hW 3 (f := E 0) (ze_at0 3 rfl) (i := j) (by omega) (by decide) dX8_startNext_17 ?_
  refine ze_Vi (As := [.int (E 0 j)]) (rest := []) (ci := 0) (q0 := 9) (k := (RX0, TX0, 5)) S (zc_0_nextToStart l D c a n A B E (E 0 j) hN hS) (cwV 1 hts gX8_startNext_X0_nextToStart_n rfl rfl rfl (by decide +kernel) ⟨Nat.le_of_ble_eq_true rfl, Nat.le_of_ble_eq_true rfl⟩) hK hW hA rfl (ze_at0 9 rfl) rfl hl.1 rfl (lv_room (Nat.le_of_ble_eq_true rfl)) dX8_startNext_18 ⟨Nat.le_of_ble_eq_true rfl, Nat.le_of_ble_eq_true rfl⟩ (fun H locs hW => ?_)
  refine ze_top (by rw [hpick]; rfl : _ = nI v) ?_
  refine lv_istore_n (lv' := [(2, .int (nI v)), (0, .ref (a 0)), (1, .int (nI j))]) hX_ hB_ dX8_startNext_21 rfl hl (by decide) rfl (fun ls hl => ?_)
  refine lv_iload_n hX_ hB_ dX8_startNext_22 rfl (lv_at hl 0 rfl) ?_
  refine lv_iconst (v := (-1)) hX_ hB_ dX8_startNext_23 (by decide) ?_
  refine lv_icmp_ne (tgt := 37) hX_ hB_ dX8_startNext_24 (by decide) (fun c24 => ?_) (fun c24 => ?_)
  · refine lv_aload_n hX_ hB_ dX8_startNext_37 rfl (lv_at hl 1 rfl) ?_
    refine ze_get (ci := 8) (C := RX8) (T := TX8) (N := 8) (v := .ref (a 9)) S hiX8 hK hW 0 (ze_at0 0 rfl) rfl 1 (by decide) rfl w0 dX8_startNext_38 ?_
    refine ze_get (ci := 0) (C := RX0) (T := TX0) (N := 5) (v := .ref (a 10)) S hiX0 hK hW 9 (ze_at0 9 rfl) rfl 1 (by decide) rfl w3 dX8_startNext_41 ?_
    refine lv_iload_n hX_ hB_ dX8_startNext_44 rfl (lv_at hl 0 rfl) ?_
    refine ze_aldN hX_ hB_ hK hW 10 3 (ze_at0 10 rfl) rfl (i := v) (by omega) (by omega) (by decide) dX8_startNext_45 ?_
    refine ze_Vv (As := []) (rest := []) (ci := 1) (q0 := (18 + v)) (k := (RX1, TX1, 8)) S (zc_1_switchOn l D c a n A B E v hN (by omega)) (cwV 0 hts gX8_startNext_X1_switchOn_n rfl rfl rfl (by decide +kernel) ⟨Nat.le_of_ble_eq_true rfl, Nat.le_of_ble_eq_true rfl⟩) hK hW hA rfl (ze_atG (g := v) (by omega)) rfl hl.1 rfl (lv_room (Nat.le_of_ble_eq_true rfl)) dX8_startNext_46 ⟨Nat.le_of_ble_eq_true rfl, Nat.le_of_ble_eq_true rfl⟩ (fun H locs hW => ?_)
    have hW : ze_W D (ze_wC c a n (zf_start A v) B E) F s.heap _ _ := hW
    refine lv_iload_n hX_ hB_ dX8_startNext_49 rfl (lv_at hl 0 rfl) ?_
    exact ze_iret S hr hlocks hF hK hW rfl dX8_startNext_50 (Nat.le_of_ble_eq_true rfl) (Nat.le_of_ble_eq_true rfl) rfl rfl
  · exact absurd c24 (zf_nIm1 (by omega))
set_option maxHeartbeats 4000000 in
set_option maxRecDepth 100000 in
theorem zp_toGo_f_n (l : Launch) (D : va_G) (c : Nat → ClassId) (a n : Nat → Nat) (A : Nat → Nat → Int32) (B : Nat → Int64) (E : Nat → Nat → Int32) (j : Nat) (hN : zf_N n) (hj : j < n 2) (h : A 13 j = 119) : ze_I l yX8_toGo wsX8_toGo_n 2 42 0 0 D c (ze_wC c a n A B E) [.ref (a 0), .int (nI j)] (A 11 j) (ze_wC c a n A B E) := by
  intro sz
  refine ze_start (cc := cX8_toGo) (maxL := 3) (ret := (some .int)) (own := RX8) (by decide) rfl rfl (Nat.le_of_ble_eq_true rfl) ?_
  obtain ⟨hn0, hn1, hn2, hn3, hn4⟩ := id hN
  intro p e s m_ below meth cd F ls hF hsz E0
  obtain ⟨S, hr, hlocks, hK, hW, hA, hl⟩ := E0
  have hX_ := S.1
  have hB_ := S.2.1
  have hts := S.2.2.2.2
  have hl : lv_has ls 3 [(0, .ref (a 0)), (1, .int (nI j))] := hl
  have hiX1 : ∀ w ∈ u_ws RX1 TX1 8, w ∈ wsX8_toGo_n := fun _ h => (List.mem_cons_of_mem _ (List.mem_append_left _ (List.mem_append_left _ (List.mem_append_left _ (List.mem_append_left _ (List.mem_append_right _ h))))))
  have w0 := hts (.fieldLink RX8 169 "Islandgrid$Generator" "mode" "C") (List.mem_cons_of_mem _ (List.mem_append_left _ (List.mem_append_left _ (List.mem_append_left _ (List.mem_append_left _ (List.mem_append_left _ (List.mem_of_getElem? (i := 2) rfl)))))))
  have w1 := hts (.fieldLink RX8 184 "Islandgrid$Generator" "left" "I") (List.mem_cons_of_mem _ (List.mem_append_left _ (List.mem_append_left _ (List.mem_append_left _ (List.mem_append_left _ (List.mem_append_left _ (List.mem_of_getElem? (i := 3) rfl)))))))
  refine lv_aload_n hX_ hB_ dX8_toGo_0 rfl (lv_at hl 0 rfl) ?_
  refine lv_iload_n hX_ hB_ dX8_toGo_1 rfl (lv_at hl 1 rfl) ?_
  refine ze_Vr (As := [.int (nI j)]) (rest := []) (ci := 8) (q0 := 0) (k := (RX8, TX8, 8)) S (zp_generatorAt l D c a n A B E j hN (by omega)) (cwV 1 hts gX8_toGo_X8_generatorAt_n rfl rfl rfl (by decide +kernel) ⟨Nat.le_of_ble_eq_true rfl, Nat.le_of_ble_eq_true rfl⟩) hK hW hA rfl (ze_at0 0 rfl) rfl hl.1 rfl (lv_room (Nat.le_of_ble_eq_true rfl)) dX8_toGo_2 ⟨Nat.le_of_ble_eq_true rfl, Nat.le_of_ble_eq_true rfl⟩ (fun H locs hW => ?_)
  refine lv_astore_n (lv' := [(2, .ref (a (20 + j))), (0, .ref (a 0)), (1, .int (nI j))]) hX_ hB_ dX8_toGo_5 rfl hl (by decide) rfl (fun ls hl => ?_)
  refine lv_aload_n hX_ hB_ dX8_toGo_6 rfl (lv_at hl 0 rfl) ?_
  refine ze_get (ci := 1) (C := RX1) (T := TX1) (N := 8) (v := .int (A 13 j)) S hiX1 hK hW (18 + j) (ze_atG (g := j) (by omega)) rfl 5 (by decide) rfl w0 dX8_toGo_7 ?_
  refine lv_bipush (v := 119) hX_ hB_ dX8_toGo_10 (by decide) ?_
  refine lv_icmp_eq (tgt := 25) hX_ hB_ dX8_toGo_12 (by decide) (fun c12 => ?_) (fun c12 => ?_)
  · refine lv_aload_n hX_ hB_ dX8_toGo_25 rfl (lv_at hl 0 rfl) ?_
    refine ze_get (ci := 1) (C := RX1) (T := TX1) (N := 8) (v := .int (A 11 j)) S hiX1 hK hW (18 + j) (ze_atG (g := j) (by omega)) rfl 6 (by decide) rfl w1 dX8_toGo_26 ?_
    exact ze_iret S hr hlocks hF hK hW rfl dX8_toGo_29 (Nat.le_of_ble_eq_true rfl) (Nat.le_of_ble_eq_true rfl) rfl rfl
  · exact absurd h c12
set_option maxHeartbeats 4000000 in
set_option maxRecDepth 100000 in
theorem zp_waits_f_n (l : Launch) (D : va_G) (c : Nat → ClassId) (a n : Nat → Nat) (A : Nat → Nat → Int32) (B : Nat → Int64) (E : Nat → Nat → Int32) (j : Nat) (hN : zf_N n) (hj : j < n 4) (h : ¬ A 5 j = 0) : ze_I l yX8_waits wsX8_waits_n 2 42 0 0 D c (ze_wC c a n A B E) [.ref (a 0), .int (nI j)] (A 22 j) (ze_wC c a n A B E) := by
  intro sz
  refine ze_start (cc := cX8_waits) (maxL := 3) (ret := (some .int)) (own := RX8) (by decide) rfl rfl (Nat.le_of_ble_eq_true rfl) ?_
  obtain ⟨hn0, hn1, hn2, hn3, hn4⟩ := id hN
  intro p e s m_ below meth cd F ls hF hsz E0
  obtain ⟨S, hr, hlocks, hK, hW, hA, hl⟩ := E0
  have hX_ := S.1
  have hB_ := S.2.1
  have hts := S.2.2.2.2
  have hl : lv_has ls 3 [(0, .ref (a 0)), (1, .int (nI j))] := hl
  have hiX3 : ∀ w ∈ u_ws RX3 TX3 6, w ∈ wsX8_waits_n := fun _ h => (List.mem_cons_of_mem _ (List.mem_append_left _ (List.mem_append_left _ (List.mem_append_left _ (List.mem_append_left _ (List.mem_append_right _ h))))))
  have w0 := hts (.fieldLink RX8 241 "Islandgrid$Load" "lit" "Z") (List.mem_cons_of_mem _ (List.mem_append_left _ (List.mem_append_left _ (List.mem_append_left _ (List.mem_append_left _ (List.mem_append_left _ (List.mem_of_getElem? (i := 2) rfl)))))))
  have w1 := hts (.fieldLink RX8 246 "Islandgrid$Load" "wait" "I") (List.mem_cons_of_mem _ (List.mem_append_left _ (List.mem_append_left _ (List.mem_append_left _ (List.mem_append_left _ (List.mem_append_left _ (List.mem_of_getElem? (i := 3) rfl)))))))
  refine lv_aload_n hX_ hB_ dX8_waits_0 rfl (lv_at hl 0 rfl) ?_
  refine lv_iload_n hX_ hB_ dX8_waits_1 rfl (lv_at hl 1 rfl) ?_
  refine ze_Vr (As := [.int (nI j)]) (rest := []) (ci := 8) (q0 := 0) (k := (RX8, TX8, 8)) S (zp_loadAt l D c a n A B E j hN (by omega)) (cwV 1 hts gX8_waits_X8_loadAt_n rfl rfl rfl (by decide +kernel) ⟨Nat.le_of_ble_eq_true rfl, Nat.le_of_ble_eq_true rfl⟩) hK hW hA rfl (ze_at0 0 rfl) rfl hl.1 rfl (lv_room (Nat.le_of_ble_eq_true rfl)) dX8_waits_2 ⟨Nat.le_of_ble_eq_true rfl, Nat.le_of_ble_eq_true rfl⟩ (fun H locs hW => ?_)
  refine lv_astore_n (lv' := [(2, .ref (a (40 + j))), (0, .ref (a 0)), (1, .int (nI j))]) hX_ hB_ dX8_waits_5 rfl hl (by decide) rfl (fun ls hl => ?_)
  refine lv_aload_n hX_ hB_ dX8_waits_6 rfl (lv_at hl 0 rfl) ?_
  refine ze_get (ci := 3) (C := RX3) (T := TX3) (N := 6) (v := .int (ze_nt (A 5 j))) S hiX3 hK hW (18 + (n 2 + (n 3 + j))) (ze_atL (g := j) (by omega)) rfl 4 (by decide) rfl w0 dX8_waits_7 ?_
  refine lv_if_eq (tgt := 23) hX_ hB_ dX8_waits_10 (by decide) (fun c10 => ?_) (fun c10 => ?_)
  · have c10 : ¬ A 5 j = 0 := ze_ntf c10
    refine lv_aload_n hX_ hB_ dX8_waits_23 rfl (lv_at hl 0 rfl) ?_
    refine ze_get (ci := 3) (C := RX3) (T := TX3) (N := 6) (v := .int (A 22 j)) S hiX3 hK hW (18 + (n 2 + (n 3 + j))) (ze_atL (g := j) (by omega)) rfl 5 (by decide) rfl w1 dX8_waits_24 ?_
    exact ze_iret S hr hlocks hF hK hW rfl dX8_waits_27 (Nat.le_of_ble_eq_true rfl) (Nat.le_of_ble_eq_true rfl) rfl rfl
  · have c10 : A 5 j = 0 := ze_ntt c10
    exact absurd c10 h
set_option maxHeartbeats 4000000 in
set_option maxRecDepth 100000 in
theorem zp_barrier_f_n (l : Launch) (D : va_G) (c : Nat → ClassId) (a n : Nat → Nat) (A : Nat → Nat → Int32) (B : Nat → Int64) (E : Nat → Nat → Int32) (j : Nat) (hN : zf_N n) (hj : j < n 4) (hS : zf_S n A) (hk : ¬ zf_keepC n A (E 0) j (zf_bOf n A (E 0) (E 0 (ze_ix (A 19 j))))) : ze_I l yX8_barrier wsX8_barrier_n 6 120 0 0 D c (ze_wC c a n A B E) [.ref (a 0), .int (nI j)] (zf_on (zf_fuC n A (E 0) (E 0 (ze_ix (A 19 j))) (zf_bOf n A (E 0) (E 0 (ze_ix (A 19 j)))) (n 4))) (ze_wC c a n A B E) := by
  intro sz
  refine ze_start (cc := cX8_barrier) (maxL := 3) (ret := (some .int)) (own := RX8) (by decide) rfl rfl (Nat.le_of_ble_eq_true rfl) ?_
  obtain ⟨hn0, hn1, hn2, hn3, hn4⟩ := id hN
  intro p e s m_ below meth cd F ls hF hsz E0
  obtain ⟨S, hr, hlocks, hK, hW, hA, hl⟩ := E0
  have hX_ := S.1
  have hB_ := S.2.1
  have hts := S.2.2.2.2
  have hl : lv_has ls 3 [(0, .ref (a 0)), (1, .int (nI j))] := hl
  have hiX3 : ∀ w ∈ u_ws RX3 TX3 6, w ∈ wsX8_barrier_n := fun _ h => (List.mem_cons_of_mem _ (List.mem_append_left _ (List.mem_append_left _ (List.mem_append_left _ (List.mem_append_left _ (List.mem_append_left _ (List.mem_append_left _ (List.mem_append_left _ (List.mem_append_right _ h)))))))))
  have hiX5 : ∀ w ∈ u_ws RX5 TX5 10, w ∈ wsX8_barrier_n := fun _ h => (List.mem_cons_of_mem _ (List.mem_append_left _ (List.mem_append_left _ (List.mem_append_left _ (List.mem_append_left _ (List.mem_append_left _ (List.mem_append_left _ (List.mem_append_left _ (List.mem_append_left _ (List.mem_append_right _ h))))))))))
  have hiX8 : ∀ w ∈ u_ws RX8 TX8 8, w ∈ wsX8_barrier_n := fun _ h => (List.mem_cons_of_mem _ (List.mem_append_left _ (List.mem_append_left _ (List.mem_append_left _ (List.mem_append_left _ (List.mem_append_left _ (List.mem_append_left _ (List.mem_append_left _ (List.mem_append_left _ (List.mem_append_left _ (List.mem_append_right _ h)))))))))))
  have w0 := hts (.fieldLink RX8 35 "Islandgrid" "loads" "LIslandgrid$Loads;") (List.mem_cons_of_mem _ (List.mem_append_left _ (List.mem_append_left _ (List.mem_append_left _ (List.mem_append_left _ (List.mem_append_left _ (List.mem_append_left _ (List.mem_append_left _ (List.mem_append_left _ (List.mem_append_left _ (List.mem_append_left _ (List.mem_append_left _ (List.mem_of_getElem? (i := 0) rfl)))))))))))))
  have w1 := hts (.fieldLink RX8 10 "Islandgrid" "network" "LIslandgrid$Network;") (List.mem_cons_of_mem _ (List.mem_append_left _ (List.mem_append_left _ (List.mem_append_left _ (List.mem_append_left _ (List.mem_append_left _ (List.mem_append_left _ (List.mem_append_left _ (List.mem_append_left _ (List.mem_append_left _ (List.mem_append_left _ (List.mem_append_left _ (List.mem_of_getElem? (i := 1) rfl)))))))))))))
  have w2 := hts (.fieldLink RX8 140 "Islandgrid$Network" "islandOf" "[I") (List.mem_cons_of_mem _ (List.mem_append_left _ (List.mem_append_left _ (List.mem_append_left _ (List.mem_append_left _ (List.mem_append_left _ (List.mem_append_left _ (List.mem_append_left _ (List.mem_append_left _ (List.mem_append_left _ (List.mem_append_left _ (List.mem_append_left _ (List.mem_of_getElem? (i := 2) rfl)))))))))))))
  have w3 := hts (.fieldLink RX8 269 "Islandgrid$Load" "site" "I") (List.mem_cons_of_mem _ (List.mem_append_left _ (List.mem_append_left _ (List.mem_append_left _ (List.mem_append_left _ (List.mem_append_left _ (List.mem_append_left _ (List.mem_append_left _ (List.mem_append_left _ (List.mem_append_left _ (List.mem_append_left _ (List.mem_append_left _ (List.mem_of_getElem? (i := 3) rfl)))))))))))))
  refine lv_aload_n hX_ hB_ dX8_barrier_0 rfl (lv_at hl 0 rfl) ?_
  refine lv_iload_n hX_ hB_ dX8_barrier_1 rfl (lv_at hl 1 rfl) ?_
  refine ze_Vr (As := [.int (nI j)]) (rest := []) (ci := 8) (q0 := 0) (k := (RX8, TX8, 8)) S (zp_unkeptLoadAt_n l D c a n A B E j hN (by omega) hS (by assumption)) (cwV 1 hts gX8_barrier_X8_unkeptLoadAt_n rfl rfl rfl (by decide +kernel) ⟨Nat.le_of_ble_eq_true rfl, Nat.le_of_ble_eq_true rfl⟩) hK hW hA rfl (ze_at0 0 rfl) rfl hl.1 rfl (lv_room (Nat.le_of_ble_eq_true rfl)) dX8_barrier_2 ⟨Nat.le_of_ble_eq_true rfl, Nat.le_of_ble_eq_true rfl⟩ (fun H locs hW => ?_)
  refine lv_astore_n (lv' := [(2, .ref (a (40 + j))), (0, .ref (a 0)), (1, .int (nI j))]) hX_ hB_ dX8_barrier_5 rfl hl (by decide) rfl (fun ls hl => ?_)
  refine lv_aload_n hX_ hB_ dX8_barrier_6 rfl (lv_at hl 1 rfl) ?_
  refine ze_get (ci := 8) (C := RX8) (T := TX8) (N := 8) (v := .ref (a 15)) S hiX8 hK hW 0 (ze_at0 0 rfl) rfl 3 (by decide) rfl w0 dX8_barrier_7 ?_
  refine lv_aload_n hX_ hB_ dX8_barrier_10 rfl (lv_at hl 1 rfl) ?_
  refine ze_get (ci := 8) (C := RX8) (T := TX8) (N := 8) (v := .ref (a 1)) S hiX8 hK hW 0 (ze_at0 0 rfl) rfl 0 (by decide) rfl w1 dX8_barrier_11 ?_
  refine ze_get (ci := 5) (C := RX5) (T := TX5) (N := 10) (v := .ref (a 3)) S hiX5 hK hW 1 (ze_at0 1 rfl) rfl 4 (by decide) rfl w2 dX8_barrier_14 ?_
  refine lv_aload_n hX_ hB_ dX8_barrier_17 rfl (lv_at hl 0 rfl) ?_
  refine ze_get (ci := 3) (C := RX3) (T := TX3) (N := 6) (v := .int (A 19 j)) S hiX3 hK hW (18 + (n 2 + (n 3 + j))) (ze_atL (g := j) (by omega)) rfl 1 (by decide) rfl w3 dX8_barrier_18 ?_
  refine ze_iald hX_ hB_ hK hW 3 (f := E 0) (ze_at0 3 rfl) (zf_in hN (hS.2.2.2 j hj)) dX8_barrier_21 ?_
  refine lv_aload_n hX_ hB_ dX8_barrier_22 rfl (lv_at hl 1 rfl) ?_
  refine lv_aload_n hX_ hB_ dX8_barrier_23 rfl (lv_at hl 0 rfl) ?_
  refine ze_Vi (As := [.ref (a (40 + j))]) (rest := [.int (E 0 (ze_ix (A 19 j))), .ref (a 15)]) (ci := 8) (q0 := 0) (k := (RX8, TX8, 8)) S (zp_boundFor l D c a n A B E j hN hS (by omega)) (cwV 1 hts gX8_barrier_X8_boundFor_n rfl rfl rfl (by decide +kernel) ⟨Nat.le_of_ble_eq_true rfl, Nat.le_of_ble_eq_true rfl⟩) hK hW hA rfl (ze_at0 0 rfl) rfl hl.1 rfl (lv_room (Nat.le_of_ble_eq_true rfl)) dX8_barrier_24 ⟨Nat.le_of_ble_eq_true rfl, Nat.le_of_ble_eq_true rfl⟩ (fun H locs hW => ?_)
  refine ze_Vi (As := [.int (E 0 (ze_ix (A 19 j))), .int (zf_bOf n A (E 0) (E 0 (ze_ix (A 19 j))))]) (rest := []) (ci := 4) (q0 := 15) (k := (RX4, TX4, 3)) S (zc_4_firstUnkept l D c a n A B E (E 0 (ze_ix (A 19 j))) (zf_bOf n A (E 0) (E 0 (ze_ix (A 19 j)))) hN hS) (cwV 2 hts gX8_barrier_X4_firstUnkept_n rfl rfl rfl (by decide +kernel) ⟨Nat.le_of_ble_eq_true rfl, Nat.le_of_ble_eq_true rfl⟩) hK hW hA rfl (ze_at0 15 rfl) rfl hl.1 rfl (lv_room (Nat.le_of_ble_eq_true rfl)) dX8_barrier_27 ⟨Nat.le_of_ble_eq_true rfl, Nat.le_of_ble_eq_true rfl⟩ (fun H locs hW => ?_)
  exact ze_iret S hr hlocks hF hK hW rfl dX8_barrier_30 (Nat.le_of_ble_eq_true rfl) (Nat.le_of_ble_eq_true rfl) rfl rfl
set_option maxHeartbeats 4000000 in
set_option maxRecDepth 100000 in
theorem zp_behind_f_n (l : Launch) (D : va_G) (c : Nat → ClassId) (a n : Nat → Nat) (A : Nat → Nat → Int32) (B : Nat → Int64) (E : Nat → Nat → Int32) (j : Nat) (hN : zf_N n) (hj : j < n 4) (hS : zf_S n A) (hk : ¬ zf_keepC n A (E 0) j (zf_bOf n A (E 0) (E 0 (ze_ix (A 19 j))))) : ze_I l yX8_behind wsX8_behind_n 6 120 0 0 D c (ze_wC c a n A B E) [.ref (a 0), .int (nI j)] (zf_cua n A (E 0) j (zf_bOf n A (E 0) (E 0 (ze_ix (A 19 j)))) (n 4)) (ze_wC c a n A B E) := by
  intro sz
  refine ze_start (cc := cX8_behind) (maxL := 3) (ret := (some .int)) (own := RX8) (by decide) rfl rfl (Nat.le_of_ble_eq_true rfl) ?_
  obtain ⟨hn0, hn1, hn2, hn3, hn4⟩ := id hN
  intro p e s m_ below meth cd F ls hF hsz E0
  obtain ⟨S, hr, hlocks, hK, hW, hA, hl⟩ := E0
  have hX_ := S.1
  have hB_ := S.2.1
  have hts := S.2.2.2.2
  have hl : lv_has ls 3 [(0, .ref (a 0)), (1, .int (nI j))] := hl
  have hiX8 : ∀ w ∈ u_ws RX8 TX8 8, w ∈ wsX8_behind_n := fun _ h => (List.mem_cons_of_mem _ (List.mem_append_left _ (List.mem_append_left _ (List.mem_append_left _ (List.mem_append_left _ (List.mem_append_left _ (List.mem_append_left _ (List.mem_append_left _ (List.mem_append_left _ (List.mem_append_left _ (List.mem_append_right _ h)))))))))))
  have w0 := hts (.fieldLink RX8 35 "Islandgrid" "loads" "LIslandgrid$Loads;") (List.mem_cons_of_mem _ (List.mem_append_left _ (List.mem_append_left _ (List.mem_append_left _ (List.mem_append_left _ (List.mem_append_left _ (List.mem_append_left _ (List.mem_append_left _ (List.mem_append_left _ (List.mem_append_left _ (List.mem_append_left _ (List.mem_append_left _ (List.mem_of_getElem? (i := 0) rfl)))))))))))))
  refine lv_aload_n hX_ hB_ dX8_behind_0 rfl (lv_at hl 0 rfl) ?_
  refine lv_iload_n hX_ hB_ dX8_behind_1 rfl (lv_at hl 1 rfl) ?_
  refine ze_Vr (As := [.int (nI j)]) (rest := []) (ci := 8) (q0 := 0) (k := (RX8, TX8, 8)) S (zp_unkeptLoadAt_n l D c a n A B E j hN (by omega) hS (by assumption)) (cwV 1 hts gX8_behind_X8_unkeptLoadAt_n rfl rfl rfl (by decide +kernel) ⟨Nat.le_of_ble_eq_true rfl, Nat.le_of_ble_eq_true rfl⟩) hK hW hA rfl (ze_at0 0 rfl) rfl hl.1 rfl (lv_room (Nat.le_of_ble_eq_true rfl)) dX8_behind_2 ⟨Nat.le_of_ble_eq_true rfl, Nat.le_of_ble_eq_true rfl⟩ (fun H locs hW => ?_)
  refine lv_astore_n (lv' := [(2, .ref (a (40 + j))), (0, .ref (a 0)), (1, .int (nI j))]) hX_ hB_ dX8_behind_5 rfl hl (by decide) rfl (fun ls hl => ?_)
  refine lv_aload_n hX_ hB_ dX8_behind_6 rfl (lv_at hl 1 rfl) ?_
  refine ze_get (ci := 8) (C := RX8) (T := TX8) (N := 8) (v := .ref (a 15)) S hiX8 hK hW 0 (ze_at0 0 rfl) rfl 3 (by decide) rfl w0 dX8_behind_7 ?_
  refine lv_aload_n hX_ hB_ dX8_behind_10 rfl (lv_at hl 0 rfl) ?_
  refine lv_aload_n hX_ hB_ dX8_behind_11 rfl (lv_at hl 1 rfl) ?_
  refine lv_aload_n hX_ hB_ dX8_behind_12 rfl (lv_at hl 0 rfl) ?_
  refine ze_Vi (As := [.ref (a (40 + j))]) (rest := [.ref (a (40 + j)), .ref (a 15)]) (ci := 8) (q0 := 0) (k := (RX8, TX8, 8)) S (zp_boundFor l D c a n A B E j hN hS (by omega)) (cwV 1 hts gX8_behind_X8_boundFor_n rfl rfl rfl (by decide +kernel) ⟨Nat.le_of_ble_eq_true rfl, Nat.le_of_ble_eq_true rfl⟩) hK hW hA rfl (ze_at0 0 rfl) rfl hl.1 rfl (lv_room (Nat.le_of_ble_eq_true rfl)) dX8_behind_13 ⟨Nat.le_of_ble_eq_true rfl, Nat.le_of_ble_eq_true rfl⟩ (fun H locs hW => ?_)
  refine ze_Vi (As := [.ref (a (40 + j)), .int (zf_bOf n A (E 0) (E 0 (ze_ix (A 19 j))))]) (rest := []) (ci := 4) (q0 := 15) (k := (RX4, TX4, 3)) S (zc_4_countUnkeptAhead l D c a n A B E j (zf_bOf n A (E 0) (E 0 (ze_ix (A 19 j)))) hN hS (by omega)) (cwV 2 hts gX8_behind_X4_countUnkeptAhead_n rfl rfl rfl (by decide +kernel) ⟨Nat.le_of_ble_eq_true rfl, Nat.le_of_ble_eq_true rfl⟩) hK hW hA rfl (ze_at0 15 rfl) rfl hl.1 rfl (lv_room (Nat.le_of_ble_eq_true rfl)) dX8_behind_16 ⟨Nat.le_of_ble_eq_true rfl, Nat.le_of_ble_eq_true rfl⟩ (fun H locs hW => ?_)
  exact ze_iret S hr hlocks hF hK hW rfl dX8_behind_19 (Nat.le_of_ble_eq_true rfl) (Nat.le_of_ble_eq_true rfl) rfl rfl
set_option maxHeartbeats 4000000 in
set_option maxRecDepth 100000 in
theorem zp_share_f_n (l : Launch) (D : va_G) (c : Nat → ClassId) (a n : Nat → Nat) (A : Nat → Nat → Int32) (B : Nat → Int64) (E : Nat → Nat → Int32) (j : Nat) (hN : zf_N n) (hj : j < n 0) (y : Int32) (k : Nat) (hk : k < n 2) (hS : zf_S n A) (hy : zf_isIn y 0 1200) (hrn : zf_runs A (E 0) k (E 0 j)) : ze_I l yX8_share wsX8_share_n 5 98 0 0 D c (ze_wC c a n A B E) [.ref (a 0), .int (nI j), .int y, .int (nI k)] (A 7 k + zf_swr (ze_up (zf_stp A (E 0) (E 0 j)) (E 3) (n 2)) (n 2) k (y - zf_gs A (E 0) (E 0 j) (n 2))) (ze_wC c a n A B (ze_sA E 3 (ze_up (zf_stp A (E 0) (E 0 j)) (E 3) (n 2)))) := by
  intro sz
  refine ze_start (cc := cX8_share) (maxL := 4) (ret := (some .int)) (own := RX8) (by decide) rfl rfl (Nat.le_of_ble_eq_true rfl) ?_
  obtain ⟨hn0, hn1, hn2, hn3, hn4⟩ := id hN
  intro p e s m_ below meth cd F ls hF hsz E0
  obtain ⟨S, hr, hlocks, hK, hW, hA, hl⟩ := E0
  have hX_ := S.1
  have hB_ := S.2.1
  have hts := S.2.2.2.2
  have hl : lv_has ls 4 [(0, .ref (a 0)), (1, .int (nI j)), (2, .int y), (3, .int (nI k))] := hl
  have hiX5 : ∀ w ∈ u_ws RX5 TX5 10, w ∈ wsX8_share_n := fun _ h => (List.mem_cons_of_mem _ (List.mem_append_left _ (List.mem_append_left _ (List.mem_append_left _ (List.mem_append_left _ (List.mem_append_left _ (List.mem_append_right _ h)))))))
  have hiX8 : ∀ w ∈ u_ws RX8 TX8 8, w ∈ wsX8_share_n := fun _ h => (List.mem_cons_of_mem _ (List.mem_append_left _ (List.mem_append_left _ (List.mem_append_left _ (List.mem_append_left _ (List.mem_append_left _ (List.mem_append_left _ (List.mem_append_right _ h))))))))
  have w0 := hts (.fieldLink RX8 21 "Islandgrid" "fleet" "LIslandgrid$Fleet;") (List.mem_cons_of_mem _ (List.mem_append_left _ (List.mem_append_left _ (List.mem_append_left _ (List.mem_append_left _ (List.mem_append_left _ (List.mem_append_left _ (List.mem_append_left _ (List.mem_append_left _ (List.mem_of_getElem? (i := 0) rfl))))))))))
  have w1 := hts (.fieldLink RX8 10 "Islandgrid" "network" "LIslandgrid$Network;") (List.mem_cons_of_mem _ (List.mem_append_left _ (List.mem_append_left _ (List.mem_append_left _ (List.mem_append_left _ (List.mem_append_left _ (List.mem_append_left _ (List.mem_append_left _ (List.mem_append_left _ (List.mem_of_getElem? (i := 1) rfl))))))))))
  have w2 := hts (.fieldLink RX8 140 "Islandgrid$Network" "islandOf" "[I") (List.mem_cons_of_mem _ (List.mem_append_left _ (List.mem_append_left _ (List.mem_append_left _ (List.mem_append_left _ (List.mem_append_left _ (List.mem_append_left _ (List.mem_append_left _ (List.mem_append_left _ (List.mem_of_getElem? (i := 2) rfl))))))))))
  refine lv_aload_n hX_ hB_ dX8_share_0 rfl (lv_at hl 0 rfl) ?_
  refine lv_iload_n hX_ hB_ dX8_share_1 rfl (lv_at hl 1 rfl) ?_
  refine lv_iload_n hX_ hB_ dX8_share_2 rfl (lv_at hl 2 rfl) ?_
  refine lv_iload_n hX_ hB_ dX8_share_3 rfl (lv_at hl 3 rfl) ?_
  refine ze_Vv (As := [.int (nI j), .int y, .int (nI k)]) (rest := []) (ci := 8) (q0 := 0) (k := (RX8, TX8, 8)) S (zp_checkShare_n l D c a n A B E j hN (by omega) y k (by omega) hS (by assumption) (by assumption)) (cwV 3 hts gX8_share_X8_checkShare_n rfl rfl rfl (by decide +kernel) ⟨Nat.le_of_ble_eq_true rfl, Nat.le_of_ble_eq_true rfl⟩) hK hW hA rfl (ze_at0 0 rfl) rfl hl.1 rfl (lv_room (Nat.le_of_ble_eq_true rfl)) dX8_share_4 ⟨Nat.le_of_ble_eq_true rfl, Nat.le_of_ble_eq_true rfl⟩ (fun H locs hW => ?_)
  refine lv_aload_n hX_ hB_ dX8_share_7 rfl (lv_at hl 0 rfl) ?_
  refine ze_get (ci := 8) (C := RX8) (T := TX8) (N := 8) (v := .ref (a 9)) S hiX8 hK hW 0 (ze_at0 0 rfl) rfl 1 (by decide) rfl w0 dX8_share_8 ?_
  refine lv_aload_n hX_ hB_ dX8_share_11 rfl (lv_at hl 0 rfl) ?_
  refine ze_get (ci := 8) (C := RX8) (T := TX8) (N := 8) (v := .ref (a 1)) S hiX8 hK hW 0 (ze_at0 0 rfl) rfl 0 (by decide) rfl w1 dX8_share_12 ?_
  refine ze_get (ci := 5) (C := RX5) (T := TX5) (N := 10) (v := .ref (a 3)) S hiX5 hK hW 1 (ze_at0 1 rfl) rfl 4 (by decide) rfl w2 dX8_share_15 ?_
  refine lv_iload_n hX_ hB_ dX8_share_18 rfl (lv_at hl 1 rfl) ?_
  refine ze_ialdN hX_ hB_ hK hW 3 (f := E 0) (ze_at0 3 rfl) (i := j) (by omega) (by decide) dX8_share_19 ?_
  refine lv_iload_n hX_ hB_ dX8_share_20 rfl (lv_at hl 2 rfl) ?_
  refine lv_iload_n hX_ hB_ dX8_share_21 rfl (lv_at hl 3 rfl) ?_
  refine ze_Vi (As := [.int (E 0 j), .int y, .int (nI k)]) (rest := []) (ci := 0) (q0 := 9) (k := (RX0, TX0, 5)) S (zc_0_shareFromOrder l D c a n A B E (E 0 j) y k hN hS (by omega)) (cwV 3 hts gX8_share_X0_shareFromOrder_n rfl rfl rfl (by decide +kernel) ⟨Nat.le_of_ble_eq_true rfl, Nat.le_of_ble_eq_true rfl⟩) hK hW hA rfl (ze_at0 9 rfl) rfl hl.1 rfl (lv_room (Nat.le_of_ble_eq_true rfl)) dX8_share_22 ⟨Nat.le_of_ble_eq_true rfl, Nat.le_of_ble_eq_true rfl⟩ (fun H locs hW => ?_)
  have hW : ze_W D (ze_wC c a n A B (ze_sA E 3 (ze_up (zf_stp A (E 0) (E 0 j)) (E 3) (n 2)))) F s.heap _ _ := hW
  exact ze_iret S hr hlocks hF hK hW rfl dX8_share_25 (Nat.le_of_ble_eq_true rfl) (Nat.le_of_ble_eq_true rfl) rfl rfl
set_option maxHeartbeats 4000000 in
set_option maxRecDepth 100000 in
theorem zp_shareBySteps_f_n (l : Launch) (D : va_G) (c : Nat → ClassId) (a n : Nat → Nat) (A : Nat → Nat → Int32) (B : Nat → Int64) (E : Nat → Nat → Int32) (j : Nat) (hN : zf_N n) (hj : j < n 0) (y : Int32) (k : Nat) (hk : k < n 2) (hS : zf_S n A) (hy : zf_isIn y 0 1200) (hrn : zf_runs A (E 0) k (E 0 j)) : ze_I l yX8_shareBySteps wsX8_shareBySteps_n 5 101 0 0 D c (ze_wC c a n A B E) [.ref (a 0), .int (nI j), .int y, .int (nI k)] (A 7 k + (zf_tlr n A (E 0) (E 3) (E 4) (E 0 j) y) k) (ze_wC c a n A B (ze_sA (ze_sA E 3 (ze_up (zf_stp A (E 0) (E 0 j)) (E 3) (n 2))) 4 (zf_tlr n A (E 0) (E 3) (E 4) (E 0 j) y))) := by
  intro sz
  refine ze_start (cc := cX8_shareBySteps) (maxL := 4) (ret := (some .int)) (own := RX8) (by decide) rfl rfl (Nat.le_of_ble_eq_true rfl) ?_
  obtain ⟨hn0, hn1, hn2, hn3, hn4⟩ := id hN
  intro p e s m_ below meth cd F ls hF hsz E0
  obtain ⟨S, hr, hlocks, hK, hW, hA, hl⟩ := E0
  have hX_ := S.1
  have hB_ := S.2.1
  have hts := S.2.2.2.2
  have hl : lv_has ls 4 [(0, .ref (a 0)), (1, .int (nI j)), (2, .int y), (3, .int (nI k))] := hl
  have hiX5 : ∀ w ∈ u_ws RX5 TX5 10, w ∈ wsX8_shareBySteps_n := fun _ h => (List.mem_cons_of_mem _ (List.mem_append_left _ (List.mem_append_left _ (List.mem_append_left _ (List.mem_append_left _ (List.mem_append_left _ (List.mem_append_right _ h)))))))
  have hiX8 : ∀ w ∈ u_ws RX8 TX8 8, w ∈ wsX8_shareBySteps_n := fun _ h => (List.mem_cons_of_mem _ (List.mem_append_left _ (List.mem_append_left _ (List.mem_append_left _ (List.mem_append_left _ (List.mem_append_left _ (List.mem_append_left _ (List.mem_append_right _ h))))))))
  have w0 := hts (.fieldLink RX8 21 "Islandgrid" "fleet" "LIslandgrid$Fleet;") (List.mem_cons_of_mem _ (List.mem_append_left _ (List.mem_append_left _ (List.mem_append_left _ (List.mem_append_left _ (List.mem_append_left _ (List.mem_append_left _ (List.mem_append_left _ (List.mem_append_left _ (List.mem_of_getElem? (i := 0) rfl))))))))))
  have w1 := hts (.fieldLink RX8 10 "Islandgrid" "network" "LIslandgrid$Network;") (List.mem_cons_of_mem _ (List.mem_append_left _ (List.mem_append_left _ (List.mem_append_left _ (List.mem_append_left _ (List.mem_append_left _ (List.mem_append_left _ (List.mem_append_left _ (List.mem_append_left _ (List.mem_of_getElem? (i := 1) rfl))))))))))
  have w2 := hts (.fieldLink RX8 140 "Islandgrid$Network" "islandOf" "[I") (List.mem_cons_of_mem _ (List.mem_append_left _ (List.mem_append_left _ (List.mem_append_left _ (List.mem_append_left _ (List.mem_append_left _ (List.mem_append_left _ (List.mem_append_left _ (List.mem_append_left _ (List.mem_of_getElem? (i := 2) rfl))))))))))
  refine lv_aload_n hX_ hB_ dX8_shareBySteps_0 rfl (lv_at hl 0 rfl) ?_
  refine lv_iload_n hX_ hB_ dX8_shareBySteps_1 rfl (lv_at hl 1 rfl) ?_
  refine lv_iload_n hX_ hB_ dX8_shareBySteps_2 rfl (lv_at hl 2 rfl) ?_
  refine lv_iload_n hX_ hB_ dX8_shareBySteps_3 rfl (lv_at hl 3 rfl) ?_
  refine ze_Vv (As := [.int (nI j), .int y, .int (nI k)]) (rest := []) (ci := 8) (q0 := 0) (k := (RX8, TX8, 8)) S (zp_checkShare_n l D c a n A B E j hN (by omega) y k (by omega) hS (by assumption) (by assumption)) (cwV 3 hts gX8_shareBySteps_X8_checkShare_n rfl rfl rfl (by decide +kernel) ⟨Nat.le_of_ble_eq_true rfl, Nat.le_of_ble_eq_true rfl⟩) hK hW hA rfl (ze_at0 0 rfl) rfl hl.1 rfl (lv_room (Nat.le_of_ble_eq_true rfl)) dX8_shareBySteps_4 ⟨Nat.le_of_ble_eq_true rfl, Nat.le_of_ble_eq_true rfl⟩ (fun H locs hW => ?_)
  refine lv_aload_n hX_ hB_ dX8_shareBySteps_7 rfl (lv_at hl 0 rfl) ?_
  refine ze_get (ci := 8) (C := RX8) (T := TX8) (N := 8) (v := .ref (a 9)) S hiX8 hK hW 0 (ze_at0 0 rfl) rfl 1 (by decide) rfl w0 dX8_shareBySteps_8 ?_
  refine lv_aload_n hX_ hB_ dX8_shareBySteps_11 rfl (lv_at hl 0 rfl) ?_
  refine ze_get (ci := 8) (C := RX8) (T := TX8) (N := 8) (v := .ref (a 1)) S hiX8 hK hW 0 (ze_at0 0 rfl) rfl 0 (by decide) rfl w1 dX8_shareBySteps_12 ?_
  refine ze_get (ci := 5) (C := RX5) (T := TX5) (N := 10) (v := .ref (a 3)) S hiX5 hK hW 1 (ze_at0 1 rfl) rfl 4 (by decide) rfl w2 dX8_shareBySteps_15 ?_
  refine lv_iload_n hX_ hB_ dX8_shareBySteps_18 rfl (lv_at hl 1 rfl) ?_
  refine ze_ialdN hX_ hB_ hK hW 3 (f := E 0) (ze_at0 3 rfl) (i := j) (by omega) (by decide) dX8_shareBySteps_19 ?_
  refine lv_iload_n hX_ hB_ dX8_shareBySteps_20 rfl (lv_at hl 2 rfl) ?_
  refine lv_iload_n hX_ hB_ dX8_shareBySteps_21 rfl (lv_at hl 3 rfl) ?_
  refine ze_Vi (As := [.int (E 0 j), .int y, .int (nI k)]) (rest := []) (ci := 0) (q0 := 9) (k := (RX0, TX0, 5)) S (zc_0_shareFromSteps l D c a n A B E (E 0 j) y k hN hS (by omega)) (cwV 3 hts gX8_shareBySteps_X0_shareFromSteps_n rfl rfl rfl (by decide +kernel) ⟨Nat.le_of_ble_eq_true rfl, Nat.le_of_ble_eq_true rfl⟩) hK hW hA rfl (ze_at0 9 rfl) rfl hl.1 rfl (lv_room (Nat.le_of_ble_eq_true rfl)) dX8_shareBySteps_22 ⟨Nat.le_of_ble_eq_true rfl, Nat.le_of_ble_eq_true rfl⟩ (fun H locs hW => ?_)
  have hW : ze_W D (ze_wC c a n A B (ze_sA (ze_sA E 3 (ze_up (zf_stp A (E 0) (E 0 j)) (E 3) (n 2))) 4 (zf_tlr n A (E 0) (E 3) (E 4) (E 0 j) y))) F s.heap _ _ := hW
  exact ze_iret S hr hlocks hF hK hW rfl dX8_shareBySteps_25 (Nat.le_of_ble_eq_true rfl) (Nat.le_of_ble_eq_true rfl) (by simp only [ze_b, not_true_eq_false, not_false_eq_true, and_true, true_and, and_false, false_and, or_true, true_or, or_false, false_or, and_self, or_self, Decidable.not_not, if_true, if_false, reduceIte, reduceCtorEq, ne_eq, eq_self, Int32.lt_irrefl, Int32.le_refl, Nat.lt_irrefl]) rfl
set_option maxHeartbeats 4000000 in
set_option maxRecDepth 100000 in
theorem zp_litShare_f_n (l : Launch) (D : va_G) (c : Nat → ClassId) (a n : Nat → Nat) (A : Nat → Nat → Int32) (B : Nat → Int64) (E : Nat → Nat → Int32) (hN : zf_N n) (h : ¬ n 4 = 0) : ze_F l yX8_litShare wsX8_litShare_n 1 22 0 0 D c (ze_wC c a n A B E) [.ref (a 0)] (FP.fdiv (FP.i2f (zf_lits A (n 4))) (FP.i2f (nI (n 4)))) (ze_wC c a n A B E) := by
  intro sz
  refine ze_start (cc := cX8_litShare) (maxL := 1) (ret := (some .float)) (own := RX8) (by decide) rfl rfl (Nat.le_of_ble_eq_true rfl) ?_
  obtain ⟨hn0, hn1, hn2, hn3, hn4⟩ := id hN
  intro p e s m_ below meth cd F ls hF hsz E0
  obtain ⟨S, hr, hlocks, hK, hW, hA, hl⟩ := E0
  have hX_ := S.1
  have hB_ := S.2.1
  have hts := S.2.2.2.2
  have hl : lv_has ls 1 [(0, .ref (a 0))] := hl
  have hiX4 : ∀ w ∈ u_ws RX4 TX4 3, w ∈ wsX8_litShare_n := fun _ h => (List.mem_cons_of_mem _ (List.mem_append_left _ (List.mem_append_left _ (List.mem_append_right _ h))))
  have hiX8 : ∀ w ∈ u_ws RX8 TX8 8, w ∈ wsX8_litShare_n := fun _ h => (List.mem_cons_of_mem _ (List.mem_append_left _ (List.mem_append_left _ (List.mem_append_left _ (List.mem_append_right _ h)))))
  have w0 := hts (.fieldLink RX8 35 "Islandgrid" "loads" "LIslandgrid$Loads;") (List.mem_cons_of_mem _ (List.mem_append_left _ (List.mem_append_left _ (List.mem_append_left _ (List.mem_append_left _ (List.mem_of_getElem? (i := 2) rfl))))))
  have w1 := hts (.fieldLink RX8 226 "Islandgrid$Loads" "count" "I") (List.mem_cons_of_mem _ (List.mem_append_left _ (List.mem_append_left _ (List.mem_append_left _ (List.mem_append_left _ (List.mem_of_getElem? (i := 3) rfl))))))
  refine lv_aload_n hX_ hB_ dX8_litShare_0 rfl (lv_at hl 0 rfl) ?_
  refine ze_get (ci := 8) (C := RX8) (T := TX8) (N := 8) (v := .ref (a 15)) S hiX8 hK hW 0 (ze_at0 0 rfl) rfl 3 (by decide) rfl w0 dX8_litShare_1 ?_
  refine ze_get (ci := 4) (C := RX4) (T := TX4) (N := 3) (v := .int (nI (n 4))) S hiX4 hK hW 15 (ze_at0 15 rfl) rfl 2 (by decide) rfl w1 dX8_litShare_4 ?_
  refine lv_if_ne (tgt := 21) hX_ hB_ dX8_litShare_7 (by decide) (fun c7 => ?_) (fun c7 => ?_)
  · have c7 : ¬ (n 4) = 0 := fun h9 => c7 ((nI_eq (a := (n 4)) (b := 0) (by omega) (by omega)).mpr h9)
    refine lv_aload_n hX_ hB_ dX8_litShare_21 rfl (lv_at hl 0 rfl) ?_
    refine ze_get (ci := 8) (C := RX8) (T := TX8) (N := 8) (v := .ref (a 15)) S hiX8 hK hW 0 (ze_at0 0 rfl) rfl 3 (by decide) rfl w0 dX8_litShare_22 ?_
    refine ze_Vi (As := []) (rest := []) (ci := 4) (q0 := 15) (k := (RX4, TX4, 3)) S (zc_4_countLit l D c a n A B E  hN) (cwV 0 hts gX8_litShare_X4_countLit_n rfl rfl rfl (by decide +kernel) ⟨Nat.le_of_ble_eq_true rfl, Nat.le_of_ble_eq_true rfl⟩) hK hW hA rfl (ze_at0 15 rfl) rfl hl.1 rfl (lv_room (Nat.le_of_ble_eq_true rfl)) dX8_litShare_25 ⟨Nat.le_of_ble_eq_true rfl, Nat.le_of_ble_eq_true rfl⟩ (fun H locs hW => ?_)
    refine lv_i2f hX_ hB_ dX8_litShare_28 ?_
    refine lv_aload_n hX_ hB_ dX8_litShare_29 rfl (lv_at hl 0 rfl) ?_
    refine ze_get (ci := 8) (C := RX8) (T := TX8) (N := 8) (v := .ref (a 15)) S hiX8 hK hW 0 (ze_at0 0 rfl) rfl 3 (by decide) rfl w0 dX8_litShare_30 ?_
    refine ze_get (ci := 4) (C := RX4) (T := TX4) (N := 3) (v := .int (nI (n 4))) S hiX4 hK hW 15 (ze_at0 15 rfl) rfl 2 (by decide) rfl w1 dX8_litShare_33 ?_
    refine lv_i2f hX_ hB_ dX8_litShare_36 ?_
    refine lv_fdiv hX_ hB_ dX8_litShare_37 (zf_shN h hn4) ?_
    exact ze_fret S hr hlocks hF hK hW dX8_litShare_38 (Nat.le_of_ble_eq_true rfl) (Nat.le_of_ble_eq_true rfl) rfl rfl
  · have c7 : (n 4) = 0 := (nI_eq (a := (n 4)) (b := 0) (by omega) (by omega)).mp c7
    exact absurd c7 h

set_option maxHeartbeats 4000000 in
set_option maxRecDepth 100000 in
theorem zt_unkeptLoadAt_t1_n (l : Launch) (D : va_G) (hst : l.stackTraces = false) (c : Nat → ClassId) (a n : Nat → Nat) (A : Nat → Nat → Int32) (B : Nat → Int64) (E : Nat → Nat → Int32) (x : Int32) (hN : zf_N n) (hx : ¬ zf_isIn x 0 (nI (n 4) - 1)) : ze_T l yX8_unkeptLoadAt wsX8_unkeptLoadAt_n 8 124 D c (ze_wC c a n A B E) [.ref (a 0), .int x] "java/lang/IndexOutOfBoundsException" := by
  intro sz
  refine zx_start (cc := cX8_unkeptLoadAt) (maxL := 3) (ret := (some (.object "Islandgrid$Load"))) (own := RX8) (by decide) rfl rfl (Nat.le_of_ble_eq_true rfl) ?_
  obtain ⟨hn0, hn1, hn2, hn3, hn4⟩ := id hN
  intro p e s m_ below meth cd F ls hF hsz E0 hXB htab
  obtain ⟨S, hr, hlocks, hK, hW, hA, hl⟩ := E0
  have hX_ := S.1
  have hB_ := S.2.1
  have hts := S.2.2.2.2
  have hl : lv_has ls 3 [(0, .ref (a 0)), (1, .int x)] := hl
  refine lv_aload_n hX_ hB_ dX8_unkeptLoadAt_0 rfl (lv_at hl 0 rfl) ?_
  refine lv_iload_n hX_ hB_ dX8_unkeptLoadAt_1 rfl (lv_at hl 1 rfl) ?_
  exact zx_Vt (As := [.int x]) (rest := []) (ci := 8) (q0 := 0) (k := (RX8, TX8, 8)) S (zt_loadAt_t l D hst c a n A B E x hN hx) (cwV 1 hts gX8_unkeptLoadAt_X8_loadAt_n rfl rfl rfl (by decide +kernel) ⟨(Nat.le_of_ble_eq_true rfl), (Nat.le_of_ble_eq_true rfl)⟩) hlocks hF hK hW hXB htab hA rfl (ze_at0 0 rfl) rfl hl.1 rfl (lv_room (Nat.le_of_ble_eq_true rfl)) dX8_unkeptLoadAt_2 ⟨(Nat.le_of_ble_eq_true rfl), (Nat.le_of_ble_eq_true rfl)⟩ (Nat.le_of_ble_eq_true rfl) (Nat.le_of_ble_eq_true rfl)
set_option maxHeartbeats 4000000 in
set_option maxRecDepth 100000 in
theorem zt_unkeptLoadAt_t2_n (l : Launch) (D : va_G) (hst : l.stackTraces = false) (c : Nat → ClassId) (a n : Nat → Nat) (A : Nat → Nat → Int32) (B : Nat → Int64) (E : Nat → Nat → Int32) (j : Nat) (hN : zf_N n) (hj : j < n 4) (hS : zf_S n A) (hk : zf_keepC n A (E 0) j (zf_bOf n A (E 0) (E 0 (ze_ix (A 19 j))))) : ze_T l yX8_unkeptLoadAt wsX8_unkeptLoadAt_n 6 98 D c (ze_wC c a n A B E) [.ref (a 0), .int (nI j)] "java/util/NoSuchElementException" := by
  intro sz
  refine zx_start (cc := cX8_unkeptLoadAt) (maxL := 3) (ret := (some (.object "Islandgrid$Load"))) (own := RX8) (by decide) rfl rfl (Nat.le_of_ble_eq_true rfl) ?_
  obtain ⟨hn0, hn1, hn2, hn3, hn4⟩ := id hN
  intro p e s m_ below meth cd F ls hF hsz E0 hXB htab
  obtain ⟨S, hr, hlocks, hK, hW, hA, hl⟩ := E0
  have hX_ := S.1
  have hB_ := S.2.1
  have hts := S.2.2.2.2
  have hl : lv_has ls 3 [(0, .ref (a 0)), (1, .int (nI j))] := hl
  have hiX8 : ∀ w ∈ u_ws RX8 TX8 8, w ∈ wsX8_unkeptLoadAt_n := fun _ h => (List.mem_cons_of_mem _ (List.mem_append_left _ (List.mem_append_left _ (List.mem_append_left _ (List.mem_append_left _ (List.mem_append_left _ (List.mem_append_left _ (List.mem_append_left _ (List.mem_append_left _ (List.mem_append_left _ (List.mem_append_right _ h)))))))))))
  have w0 := hts (.fieldLink RX8 35 "Islandgrid" "loads" "LIslandgrid$Loads;") (List.mem_cons_of_mem _ (List.mem_append_left _ (List.mem_append_left _ (List.mem_append_left _ (List.mem_append_left _ (List.mem_append_left _ (List.mem_append_left _ (List.mem_append_left _ (List.mem_append_left _ (List.mem_append_left _ (List.mem_append_left _ (List.mem_append_left _ (List.mem_of_getElem? (i := 2) rfl)))))))))))))
  have w1 := hts (.classLink RX8 118 "java/util/NoSuchElementException") (List.mem_cons_of_mem _ (List.mem_append_left _ (List.mem_append_left _ (List.mem_append_left _ (List.mem_append_left _ (List.mem_append_left _ (List.mem_append_left _ (List.mem_append_left _ (List.mem_append_left _ (List.mem_append_left _ (List.mem_append_left _ (List.mem_append_left _ (List.mem_of_getElem? (i := 0) rfl)))))))))))))
  have w2 := hts (.initialized "java/util/NoSuchElementException") (List.mem_cons_of_mem _ (List.mem_append_left _ (List.mem_append_left _ (List.mem_append_left _ (List.mem_append_left _ (List.mem_append_left _ (List.mem_append_left _ (List.mem_append_left _ (List.mem_append_left _ (List.mem_append_left _ (List.mem_append_left _ (List.mem_append_left _ (List.mem_of_getElem? (i := 1) rfl)))))))))))))
  refine lv_aload_n hX_ hB_ dX8_unkeptLoadAt_0 rfl (lv_at hl 0 rfl) ?_
  refine lv_iload_n hX_ hB_ dX8_unkeptLoadAt_1 rfl (lv_at hl 1 rfl) ?_
  refine ze_Vr (As := [.int (nI j)]) (rest := []) (ci := 8) (q0 := 0) (k := (RX8, TX8, 8)) S (zp_loadAt l D c a n A B E j hN (by omega)) (cwV 1 hts gX8_unkeptLoadAt_X8_loadAt_n rfl rfl rfl (by decide +kernel) ⟨Nat.le_of_ble_eq_true rfl, Nat.le_of_ble_eq_true rfl⟩) hK hW hA rfl (ze_at0 0 rfl) rfl hl.1 rfl (lv_room (Nat.le_of_ble_eq_true rfl)) dX8_unkeptLoadAt_2 ⟨Nat.le_of_ble_eq_true rfl, Nat.le_of_ble_eq_true rfl⟩ (fun H locs hW => ?_)
  refine lv_astore_n (lv' := [(2, .ref (a (40 + j))), (0, .ref (a 0)), (1, .int (nI j))]) hX_ hB_ dX8_unkeptLoadAt_5 rfl hl (by decide) rfl (fun ls hl => ?_)
  refine lv_aload_n hX_ hB_ dX8_unkeptLoadAt_6 rfl (lv_at hl 1 rfl) ?_
  refine ze_get (ci := 8) (C := RX8) (T := TX8) (N := 8) (v := .ref (a 15)) S hiX8 hK hW 0 (ze_at0 0 rfl) rfl 3 (by decide) rfl w0 dX8_unkeptLoadAt_7 ?_
  refine lv_aload_n hX_ hB_ dX8_unkeptLoadAt_10 rfl (lv_at hl 0 rfl) ?_
  refine lv_aload_n hX_ hB_ dX8_unkeptLoadAt_11 rfl (lv_at hl 1 rfl) ?_
  refine lv_aload_n hX_ hB_ dX8_unkeptLoadAt_12 rfl (lv_at hl 0 rfl) ?_
  refine ze_Vi (As := [.ref (a (40 + j))]) (rest := [.ref (a (40 + j)), .ref (a 15)]) (ci := 8) (q0 := 0) (k := (RX8, TX8, 8)) S (zp_boundFor l D c a n A B E j hN hS (by omega)) (cwV 1 hts gX8_unkeptLoadAt_X8_boundFor_n rfl rfl rfl (by decide +kernel) ⟨Nat.le_of_ble_eq_true rfl, Nat.le_of_ble_eq_true rfl⟩) hK hW hA rfl (ze_at0 0 rfl) rfl hl.1 rfl (lv_room (Nat.le_of_ble_eq_true rfl)) dX8_unkeptLoadAt_13 ⟨Nat.le_of_ble_eq_true rfl, Nat.le_of_ble_eq_true rfl⟩ (fun H locs hW => ?_)
  refine ze_Vi (As := [.ref (a (40 + j)), .int (zf_bOf n A (E 0) (E 0 (ze_ix (A 19 j))))]) (rest := []) (ci := 4) (q0 := 15) (k := (RX4, TX4, 3)) S (zc_4_keeps l D c a n A B E j (zf_bOf n A (E 0) (E 0 (ze_ix (A 19 j)))) hN hS (by omega)) (cwV 2 hts gX8_unkeptLoadAt_X4_keeps_n rfl rfl rfl (by decide +kernel) ⟨Nat.le_of_ble_eq_true rfl, Nat.le_of_ble_eq_true rfl⟩) hK hW hA rfl (ze_at0 15 rfl) rfl hl.1 rfl (lv_room (Nat.le_of_ble_eq_true rfl)) dX8_unkeptLoadAt_16 ⟨Nat.le_of_ble_eq_true rfl, Nat.le_of_ble_eq_true rfl⟩ (fun H locs hW => ?_)
  refine lv_if_eq (tgt := 33) hX_ hB_ dX8_unkeptLoadAt_19 (by decide) (fun c19 => ?_) (fun c19 => ?_)
  · have c19 : ¬ (zf_keepC n A (E 0) j (zf_bOf n A (E 0) (E 0 (ze_ix (A 19 j))))) := ze_bf c19
    exact absurd hk c19
  · have c19 : zf_keepC n A (E 0) j (zf_bOf n A (E 0) (E 0 (ze_ix (A 19 j)))) := ze_bt c19
    exact zm_thrW (is := 338) (tx := "the load would be kept") hst S hlocks hF hK hW hXB htab hl.1 (by decide +kernel) w1 w2 (by decide +kernel) zm_g122 zm_o122 (fun _ h => (List.mem_cons_of_mem _ (List.mem_append_left _ (List.mem_append_right _ h)))) ⟨rfl, rfl⟩ dX8_unkeptLoadAt_22 dX8_unkeptLoadAt_25 dX8_unkeptLoadAt_26 dX8_unkeptLoadAt_29 dX8_unkeptLoadAt_32 ⟨(Nat.le_of_ble_eq_true rfl), (Nat.le_of_ble_eq_true rfl), (Nat.le_of_ble_eq_true rfl), (Nat.le_of_ble_eq_true rfl)⟩ (Nat.le_of_ble_eq_true rfl) (Nat.le_of_ble_eq_true rfl)
set_option maxHeartbeats 4000000 in
set_option maxRecDepth 100000 in
theorem zt_checkShare_t1a_n (l : Launch) (D : va_G) (hst : l.stackTraces = false) (c : Nat → ClassId) (a n : Nat → Nat) (A : Nat → Nat → Int32) (B : Nat → Int64) (E : Nat → Nat → Int32) (x : Int32) (hN : zf_N n) (hx : ¬ zf_isIn x 0 (nI (n 0) - 1)) (y z : Int32) : ze_T l yX8_checkShare wsX8_checkShare_n 8 124 D c (ze_wC c a n A B E) [.ref (a 0), .int x, .int y, .int z] "java/lang/IndexOutOfBoundsException" := by
  intro sz
  refine zx_start (cc := cX8_checkShare) (maxL := 4) (ret := none) (own := RX8) (by decide) rfl rfl (Nat.le_of_ble_eq_true rfl) ?_
  obtain ⟨hn0, hn1, hn2, hn3, hn4⟩ := id hN
  intro p e s m_ below meth cd F ls hF hsz E0 hXB htab
  obtain ⟨S, hr, hlocks, hK, hW, hA, hl⟩ := E0
  have hX_ := S.1
  have hB_ := S.2.1
  have hts := S.2.2.2.2
  have hl : lv_has ls 4 [(0, .ref (a 0)), (1, .int x), (2, .int y), (3, .int z)] := hl
  refine lv_aload_n hX_ hB_ dX8_checkShare_0 rfl (lv_at hl 0 rfl) ?_
  refine lv_iload_n hX_ hB_ dX8_checkShare_1 rfl (lv_at hl 1 rfl) ?_
  exact zx_Vt (As := [.int x]) (rest := []) (ci := 8) (q0 := 0) (k := (RX8, TX8, 8)) S (zt_checkSite_t l D hst c a n A B E x hN hx) (cwV 1 hts gX8_checkShare_X8_checkSite_n rfl rfl rfl (by decide +kernel) ⟨(Nat.le_of_ble_eq_true rfl), (Nat.le_of_ble_eq_true rfl)⟩) hlocks hF hK hW hXB htab hA rfl (ze_at0 0 rfl) rfl hl.1 rfl (lv_room (Nat.le_of_ble_eq_true rfl)) dX8_checkShare_2 ⟨(Nat.le_of_ble_eq_true rfl), (Nat.le_of_ble_eq_true rfl)⟩ (Nat.le_of_ble_eq_true rfl) (Nat.le_of_ble_eq_true rfl)
set_option maxHeartbeats 4000000 in
set_option maxRecDepth 100000 in
theorem zt_checkShare_t1b_n (l : Launch) (D : va_G) (hst : l.stackTraces = false) (c : Nat → ClassId) (a n : Nat → Nat) (A : Nat → Nat → Int32) (B : Nat → Int64) (E : Nat → Nat → Int32) (j : Nat) (hN : zf_N n) (hj : j < n 0) (y z : Int32) (hzo : ¬ zf_isIn z 0 (nI (n 2) - 1)) : ze_T l yX8_checkShare wsX8_checkShare_n 7 103 D c (ze_wC c a n A B E) [.ref (a 0), .int (nI j), .int y, .int z] "java/lang/IndexOutOfBoundsException" := by
  intro sz
  refine zx_start (cc := cX8_checkShare) (maxL := 4) (ret := none) (own := RX8) (by decide) rfl rfl (Nat.le_of_ble_eq_true rfl) ?_
  obtain ⟨hn0, hn1, hn2, hn3, hn4⟩ := id hN
  intro p e s m_ below meth cd F ls hF hsz E0 hXB htab
  obtain ⟨S, hr, hlocks, hK, hW, hA, hl⟩ := E0
  have hX_ := S.1
  have hB_ := S.2.1
  have hts := S.2.2.2.2
  have hl : lv_has ls 4 [(0, .ref (a 0)), (1, .int (nI j)), (2, .int y), (3, .int z)] := hl
  have hiX0 : ∀ w ∈ u_ws RX0 TX0 5, w ∈ wsX8_checkShare_n := fun _ h => (List.mem_cons_of_mem _ (List.mem_append_left _ (List.mem_append_left _ (List.mem_append_left _ (List.mem_append_left _ (List.mem_append_left _ (List.mem_append_right _ h)))))))
  have hiX8 : ∀ w ∈ u_ws RX8 TX8 8, w ∈ wsX8_checkShare_n := fun _ h => (List.mem_cons_of_mem _ (List.mem_append_left _ (List.mem_append_left _ (List.mem_append_left _ (List.mem_append_left _ (List.mem_append_left _ (List.mem_append_left _ (List.mem_append_right _ h))))))))
  have w0 := hts (.fieldLink RX8 21 "Islandgrid" "fleet" "LIslandgrid$Fleet;") (List.mem_cons_of_mem _ (List.mem_append_left _ (List.mem_append_left _ (List.mem_append_left _ (List.mem_append_left _ (List.mem_append_left _ (List.mem_append_left _ (List.mem_append_left _ (List.mem_append_left _ (List.mem_of_getElem? (i := 2) rfl))))))))))
  have w1 := hts (.fieldLink RX8 151 "Islandgrid$Fleet" "count" "I") (List.mem_cons_of_mem _ (List.mem_append_left _ (List.mem_append_left _ (List.mem_append_left _ (List.mem_append_left _ (List.mem_append_left _ (List.mem_append_left _ (List.mem_append_left _ (List.mem_append_left _ (List.mem_of_getElem? (i := 3) rfl))))))))))
  refine lv_aload_n hX_ hB_ dX8_checkShare_0 rfl (lv_at hl 0 rfl) ?_
  refine lv_iload_n hX_ hB_ dX8_checkShare_1 rfl (lv_at hl 1 rfl) ?_
  refine ze_Vv (As := [.int (nI j)]) (rest := []) (ci := 8) (q0 := 0) (k := (RX8, TX8, 8)) S (zp_checkSite l D c a n A B E j hN (by omega)) (cwV 1 hts gX8_checkShare_X8_checkSite_n rfl rfl rfl (by decide +kernel) ⟨Nat.le_of_ble_eq_true rfl, Nat.le_of_ble_eq_true rfl⟩) hK hW hA rfl (ze_at0 0 rfl) rfl hl.1 rfl (lv_room (Nat.le_of_ble_eq_true rfl)) dX8_checkShare_2 ⟨Nat.le_of_ble_eq_true rfl, Nat.le_of_ble_eq_true rfl⟩ (fun H locs hW => ?_)
  refine lv_iload_n hX_ hB_ dX8_checkShare_5 rfl (lv_at hl 3 rfl) ?_
  refine lv_aload_n hX_ hB_ dX8_checkShare_6 rfl (lv_at hl 0 rfl) ?_
  refine ze_get (ci := 8) (C := RX8) (T := TX8) (N := 8) (v := .ref (a 9)) S hiX8 hK hW 0 (ze_at0 0 rfl) rfl 1 (by decide) rfl w0 dX8_checkShare_7 ?_
  refine ze_get (ci := 0) (C := RX0) (T := TX0) (N := 5) (v := .int (nI (n 2))) S hiX0 hK hW 9 (ze_at0 9 rfl) rfl 2 (by decide) rfl w1 dX8_checkShare_10 ?_
  exact zx_St (As := [.int z, .int (nI (n 2))]) (rest := []) S (zt_checkNumber_t l D hst c (ze_wC c a n A B E) z (n 2) hzo (by omega)) (va_cwS 2 hts gX8_checkShare_X8_checkNumber_n rfl rfl rfl (by decide +kernel) ⟨(Nat.le_of_ble_eq_true rfl), (Nat.le_of_ble_eq_true rfl)⟩) hlocks hF hK hW hXB htab hA rfl hl.1 rfl (lv_room (Nat.le_of_ble_eq_true rfl)) dX8_checkShare_13 ⟨(Nat.le_of_ble_eq_true rfl), (Nat.le_of_ble_eq_true rfl)⟩ (Nat.le_of_ble_eq_true rfl) (Nat.le_of_ble_eq_true rfl)
set_option maxHeartbeats 4000000 in
set_option maxRecDepth 100000 in
theorem zt_checkShare_t2_n (l : Launch) (D : va_G) (hst : l.stackTraces = false) (c : Nat → ClassId) (a n : Nat → Nat) (A : Nat → Nat → Int32) (B : Nat → Int64) (E : Nat → Nat → Int32) (j : Nat) (hN : zf_N n) (hj : j < n 0) (y : Int32) (k : Nat) (hk : k < n 2) (hy : ¬ zf_isIn y 0 1200) : ze_T l yX8_checkShare wsX8_checkShare_n 7 104 D c (ze_wC c a n A B E) [.ref (a 0), .int (nI j), .int y, .int (nI k)] "java/lang/IllegalArgumentException" := by
  intro sz
  refine zx_start (cc := cX8_checkShare) (maxL := 4) (ret := none) (own := RX8) (by decide) rfl rfl (Nat.le_of_ble_eq_true rfl) ?_
  obtain ⟨hn0, hn1, hn2, hn3, hn4⟩ := id hN
  intro p e s m_ below meth cd F ls hF hsz E0 hXB htab
  obtain ⟨S, hr, hlocks, hK, hW, hA, hl⟩ := E0
  have hX_ := S.1
  have hB_ := S.2.1
  have hts := S.2.2.2.2
  have hl : lv_has ls 4 [(0, .ref (a 0)), (1, .int (nI j)), (2, .int y), (3, .int (nI k))] := hl
  have hiX0 : ∀ w ∈ u_ws RX0 TX0 5, w ∈ wsX8_checkShare_n := fun _ h => (List.mem_cons_of_mem _ (List.mem_append_left _ (List.mem_append_left _ (List.mem_append_left _ (List.mem_append_left _ (List.mem_append_left _ (List.mem_append_right _ h)))))))
  have hiX8 : ∀ w ∈ u_ws RX8 TX8 8, w ∈ wsX8_checkShare_n := fun _ h => (List.mem_cons_of_mem _ (List.mem_append_left _ (List.mem_append_left _ (List.mem_append_left _ (List.mem_append_left _ (List.mem_append_left _ (List.mem_append_left _ (List.mem_append_right _ h))))))))
  have w0 := hts (.fieldLink RX8 21 "Islandgrid" "fleet" "LIslandgrid$Fleet;") (List.mem_cons_of_mem _ (List.mem_append_left _ (List.mem_append_left _ (List.mem_append_left _ (List.mem_append_left _ (List.mem_append_left _ (List.mem_append_left _ (List.mem_append_left _ (List.mem_append_left _ (List.mem_of_getElem? (i := 2) rfl))))))))))
  have w1 := hts (.fieldLink RX8 151 "Islandgrid$Fleet" "count" "I") (List.mem_cons_of_mem _ (List.mem_append_left _ (List.mem_append_left _ (List.mem_append_left _ (List.mem_append_left _ (List.mem_append_left _ (List.mem_append_left _ (List.mem_append_left _ (List.mem_append_left _ (List.mem_of_getElem? (i := 3) rfl))))))))))
  refine lv_aload_n hX_ hB_ dX8_checkShare_0 rfl (lv_at hl 0 rfl) ?_
  refine lv_iload_n hX_ hB_ dX8_checkShare_1 rfl (lv_at hl 1 rfl) ?_
  refine ze_Vv (As := [.int (nI j)]) (rest := []) (ci := 8) (q0 := 0) (k := (RX8, TX8, 8)) S (zp_checkSite l D c a n A B E j hN (by omega)) (cwV 1 hts gX8_checkShare_X8_checkSite_n rfl rfl rfl (by decide +kernel) ⟨Nat.le_of_ble_eq_true rfl, Nat.le_of_ble_eq_true rfl⟩) hK hW hA rfl (ze_at0 0 rfl) rfl hl.1 rfl (lv_room (Nat.le_of_ble_eq_true rfl)) dX8_checkShare_2 ⟨Nat.le_of_ble_eq_true rfl, Nat.le_of_ble_eq_true rfl⟩ (fun H locs hW => ?_)
  refine lv_iload_n hX_ hB_ dX8_checkShare_5 rfl (lv_at hl 3 rfl) ?_
  refine lv_aload_n hX_ hB_ dX8_checkShare_6 rfl (lv_at hl 0 rfl) ?_
  refine ze_get (ci := 8) (C := RX8) (T := TX8) (N := 8) (v := .ref (a 9)) S hiX8 hK hW 0 (ze_at0 0 rfl) rfl 1 (by decide) rfl w0 dX8_checkShare_7 ?_
  refine ze_get (ci := 0) (C := RX0) (T := TX0) (N := 5) (v := .int (nI (n 2))) S hiX0 hK hW 9 (ze_at0 9 rfl) rfl 2 (by decide) rfl w1 dX8_checkShare_10 ?_
  refine ze_Sv (As := [.int (nI k), .int (nI (n 2))]) (rest := []) S (zp_checkNumber l D c (ze_wC c a n A B E) k (n 2) (by omega) (by omega)) (va_cwS 2 hts gX8_checkShare_X8_checkNumber_n rfl rfl rfl (by decide +kernel) ⟨Nat.le_of_ble_eq_true rfl, Nat.le_of_ble_eq_true rfl⟩) hK hW hA rfl hl.1 rfl (lv_room (Nat.le_of_ble_eq_true rfl)) dX8_checkShare_13 ⟨Nat.le_of_ble_eq_true rfl, Nat.le_of_ble_eq_true rfl⟩ (fun H locs hW => ?_)
  refine lv_iload_n hX_ hB_ dX8_checkShare_16 rfl (lv_at hl 2 rfl) ?_
  refine lv_iconst (v := 0) hX_ hB_ dX8_checkShare_17 (by decide) ?_
  refine lv_sipush (v := 1200) hX_ hB_ dX8_checkShare_18 (by decide) ?_
  exact zx_St (As := [.int y, .int 0, .int 1200]) (rest := []) S (zt_checkRange_t l D hst c (ze_wC c a n A B E) y 0 1200 hy) (va_cwS 3 hts gX8_checkShare_X8_checkRange_n rfl rfl rfl (by decide +kernel) ⟨(Nat.le_of_ble_eq_true rfl), (Nat.le_of_ble_eq_true rfl)⟩) hlocks hF hK hW hXB htab hA rfl hl.1 rfl (lv_room (Nat.le_of_ble_eq_true rfl)) dX8_checkShare_21 ⟨(Nat.le_of_ble_eq_true rfl), (Nat.le_of_ble_eq_true rfl)⟩ (Nat.le_of_ble_eq_true rfl) (Nat.le_of_ble_eq_true rfl)
set_option maxHeartbeats 4000000 in
set_option maxRecDepth 100000 in
theorem zt_checkShare_t3_n (l : Launch) (D : va_G) (hst : l.stackTraces = false) (c : Nat → ClassId) (a n : Nat → Nat) (A : Nat → Nat → Int32) (B : Nat → Int64) (E : Nat → Nat → Int32) (j : Nat) (hN : zf_N n) (hj : j < n 0) (y : Int32) (k : Nat) (hk : k < n 2) (hS : zf_S n A) (hy : zf_isIn y 0 1200) (hrn : ¬ zf_runs A (E 0) k (E 0 j)) : ze_T l yX8_checkShare wsX8_checkShare_n 6 82 D c (ze_wC c a n A B E) [.ref (a 0), .int (nI j), .int y, .int (nI k)] "java/util/NoSuchElementException" := by
  intro sz
  refine zx_start (cc := cX8_checkShare) (maxL := 4) (ret := none) (own := RX8) (by decide) rfl rfl (Nat.le_of_ble_eq_true rfl) ?_
  obtain ⟨hn0, hn1, hn2, hn3, hn4⟩ := id hN
  intro p e s m_ below meth cd F ls hF hsz E0 hXB htab
  obtain ⟨S, hr, hlocks, hK, hW, hA, hl⟩ := E0
  have hX_ := S.1
  have hB_ := S.2.1
  have hts := S.2.2.2.2
  have hl : lv_has ls 4 [(0, .ref (a 0)), (1, .int (nI j)), (2, .int y), (3, .int (nI k))] := hl
  have hiX0 : ∀ w ∈ u_ws RX0 TX0 5, w ∈ wsX8_checkShare_n := fun _ h => (List.mem_cons_of_mem _ (List.mem_append_left _ (List.mem_append_left _ (List.mem_append_left _ (List.mem_append_left _ (List.mem_append_left _ (List.mem_append_right _ h)))))))
  have hiX5 : ∀ w ∈ u_ws RX5 TX5 10, w ∈ wsX8_checkShare_n := fun _ h => (List.mem_cons_of_mem _ (List.mem_append_left _ (List.mem_append_left _ (List.mem_append_left _ (List.mem_append_left _ (List.mem_append_right _ h))))))
  have hiX8 : ∀ w ∈ u_ws RX8 TX8 8, w ∈ wsX8_checkShare_n := fun _ h => (List.mem_cons_of_mem _ (List.mem_append_left _ (List.mem_append_left _ (List.mem_append_left _ (List.mem_append_left _ (List.mem_append_left _ (List.mem_append_left _ (List.mem_append_right _ h))))))))
  have w0 := hts (.fieldLink RX8 21 "Islandgrid" "fleet" "LIslandgrid$Fleet;") (List.mem_cons_of_mem _ (List.mem_append_left _ (List.mem_append_left _ (List.mem_append_left _ (List.mem_append_left _ (List.mem_append_left _ (List.mem_append_left _ (List.mem_append_left _ (List.mem_append_left _ (List.mem_of_getElem? (i := 2) rfl))))))))))
  have w1 := hts (.fieldLink RX8 151 "Islandgrid$Fleet" "count" "I") (List.mem_cons_of_mem _ (List.mem_append_left _ (List.mem_append_left _ (List.mem_append_left _ (List.mem_append_left _ (List.mem_append_left _ (List.mem_append_left _ (List.mem_append_left _ (List.mem_append_left _ (List.mem_of_getElem? (i := 3) rfl))))))))))
  have w2 := hts (.fieldLink RX8 10 "Islandgrid" "network" "LIslandgrid$Network;") (List.mem_cons_of_mem _ (List.mem_append_left _ (List.mem_append_left _ (List.mem_append_left _ (List.mem_append_left _ (List.mem_append_left _ (List.mem_append_left _ (List.mem_append_left _ (List.mem_append_left _ (List.mem_of_getElem? (i := 4) rfl))))))))))
  have w3 := hts (.fieldLink RX8 140 "Islandgrid$Network" "islandOf" "[I") (List.mem_cons_of_mem _ (List.mem_append_left _ (List.mem_append_left _ (List.mem_append_left _ (List.mem_append_left _ (List.mem_append_left _ (List.mem_append_left _ (List.mem_append_left _ (List.mem_append_left _ (List.mem_of_getElem? (i := 5) rfl))))))))))
  have w4 := hts (.classLink RX8 118 "java/util/NoSuchElementException") (List.mem_cons_of_mem _ (List.mem_append_left _ (List.mem_append_left _ (List.mem_append_left _ (List.mem_append_left _ (List.mem_append_left _ (List.mem_append_left _ (List.mem_append_left _ (List.mem_append_left _ (List.mem_of_getElem? (i := 0) rfl))))))))))
  have w5 := hts (.initialized "java/util/NoSuchElementException") (List.mem_cons_of_mem _ (List.mem_append_left _ (List.mem_append_left _ (List.mem_append_left _ (List.mem_append_left _ (List.mem_append_left _ (List.mem_append_left _ (List.mem_append_left _ (List.mem_append_left _ (List.mem_of_getElem? (i := 1) rfl))))))))))
  refine lv_aload_n hX_ hB_ dX8_checkShare_0 rfl (lv_at hl 0 rfl) ?_
  refine lv_iload_n hX_ hB_ dX8_checkShare_1 rfl (lv_at hl 1 rfl) ?_
  refine ze_Vv (As := [.int (nI j)]) (rest := []) (ci := 8) (q0 := 0) (k := (RX8, TX8, 8)) S (zp_checkSite l D c a n A B E j hN (by omega)) (cwV 1 hts gX8_checkShare_X8_checkSite_n rfl rfl rfl (by decide +kernel) ⟨Nat.le_of_ble_eq_true rfl, Nat.le_of_ble_eq_true rfl⟩) hK hW hA rfl (ze_at0 0 rfl) rfl hl.1 rfl (lv_room (Nat.le_of_ble_eq_true rfl)) dX8_checkShare_2 ⟨Nat.le_of_ble_eq_true rfl, Nat.le_of_ble_eq_true rfl⟩ (fun H locs hW => ?_)
  refine lv_iload_n hX_ hB_ dX8_checkShare_5 rfl (lv_at hl 3 rfl) ?_
  refine lv_aload_n hX_ hB_ dX8_checkShare_6 rfl (lv_at hl 0 rfl) ?_
  refine ze_get (ci := 8) (C := RX8) (T := TX8) (N := 8) (v := .ref (a 9)) S hiX8 hK hW 0 (ze_at0 0 rfl) rfl 1 (by decide) rfl w0 dX8_checkShare_7 ?_
  refine ze_get (ci := 0) (C := RX0) (T := TX0) (N := 5) (v := .int (nI (n 2))) S hiX0 hK hW 9 (ze_at0 9 rfl) rfl 2 (by decide) rfl w1 dX8_checkShare_10 ?_
  refine ze_Sv (As := [.int (nI k), .int (nI (n 2))]) (rest := []) S (zp_checkNumber l D c (ze_wC c a n A B E) k (n 2) (by omega) (by omega)) (va_cwS 2 hts gX8_checkShare_X8_checkNumber_n rfl rfl rfl (by decide +kernel) ⟨Nat.le_of_ble_eq_true rfl, Nat.le_of_ble_eq_true rfl⟩) hK hW hA rfl hl.1 rfl (lv_room (Nat.le_of_ble_eq_true rfl)) dX8_checkShare_13 ⟨Nat.le_of_ble_eq_true rfl, Nat.le_of_ble_eq_true rfl⟩ (fun H locs hW => ?_)
  refine lv_iload_n hX_ hB_ dX8_checkShare_16 rfl (lv_at hl 2 rfl) ?_
  refine lv_iconst (v := 0) hX_ hB_ dX8_checkShare_17 (by decide) ?_
  refine lv_sipush (v := 1200) hX_ hB_ dX8_checkShare_18 (by decide) ?_
  refine ze_Sv (As := [.int y, .int 0, .int 1200]) (rest := []) S (zp_checkRange l D c (ze_wC c a n A B E) y 0 1200 (by assumption)) (va_cwS 3 hts gX8_checkShare_X8_checkRange_n rfl rfl rfl (by decide +kernel) ⟨Nat.le_of_ble_eq_true rfl, Nat.le_of_ble_eq_true rfl⟩) hK hW hA rfl hl.1 rfl (lv_room (Nat.le_of_ble_eq_true rfl)) dX8_checkShare_21 ⟨Nat.le_of_ble_eq_true rfl, Nat.le_of_ble_eq_true rfl⟩ (fun H locs hW => ?_)
  refine lv_aload_n hX_ hB_ dX8_checkShare_24 rfl (lv_at hl 0 rfl) ?_
  refine ze_get (ci := 8) (C := RX8) (T := TX8) (N := 8) (v := .ref (a 9)) S hiX8 hK hW 0 (ze_at0 0 rfl) rfl 1 (by decide) rfl w0 dX8_checkShare_25 ?_
  refine lv_iload_n hX_ hB_ dX8_checkShare_28 rfl (lv_at hl 3 rfl) ?_
  refine lv_aload_n hX_ hB_ dX8_checkShare_29 rfl (lv_at hl 0 rfl) ?_
  refine ze_get (ci := 8) (C := RX8) (T := TX8) (N := 8) (v := .ref (a 1)) S hiX8 hK hW 0 (ze_at0 0 rfl) rfl 0 (by decide) rfl w2 dX8_checkShare_30 ?_
  refine ze_get (ci := 5) (C := RX5) (T := TX5) (N := 10) (v := .ref (a 3)) S hiX5 hK hW 1 (ze_at0 1 rfl) rfl 4 (by decide) rfl w3 dX8_checkShare_33 ?_
  refine lv_iload_n hX_ hB_ dX8_checkShare_36 rfl (lv_at hl 1 rfl) ?_
  refine ze_ialdN hX_ hB_ hK hW 3 (f := E 0) (ze_at0 3 rfl) (i := j) (by omega) (by decide) dX8_checkShare_37 ?_
  refine ze_Vi (As := [.int (nI k), .int (E 0 j)]) (rest := []) (ci := 0) (q0 := 9) (k := (RX0, TX0, 5)) S (zc_0_runsOn l D c a n A B E k (E 0 j) hN hS (by omega)) (cwV 2 hts gX8_checkShare_X0_runsOn_n rfl rfl rfl (by decide +kernel) ⟨Nat.le_of_ble_eq_true rfl, Nat.le_of_ble_eq_true rfl⟩) hK hW hA rfl (ze_at0 9 rfl) rfl hl.1 rfl (lv_room (Nat.le_of_ble_eq_true rfl)) dX8_checkShare_38 ⟨Nat.le_of_ble_eq_true rfl, Nat.le_of_ble_eq_true rfl⟩ (fun H locs hW => ?_)
  refine lv_if_ne (tgt := 55) hX_ hB_ dX8_checkShare_41 (by decide) (fun c41 => ?_) (fun c41 => ?_)
  · have c41 : zf_runs A (E 0) k (E 0 j) := ze_bt c41
    exact absurd c41 hrn
  · have c41 : ¬ (zf_runs A (E 0) k (E 0 j)) := ze_bf c41
    exact zm_thrW (is := 344) (tx := "the generator does not run on this island") hst S hlocks hF hK hW hXB htab hl.1 (by decide +kernel) w4 w5 (by decide +kernel) zm_g122 zm_o122 (fun _ h => (List.mem_cons_of_mem _ (List.mem_append_left _ (List.mem_append_left _ (List.mem_append_right _ h))))) ⟨rfl, rfl⟩ dX8_checkShare_44 dX8_checkShare_47 dX8_checkShare_48 dX8_checkShare_51 dX8_checkShare_54 ⟨(Nat.le_of_ble_eq_true rfl), (Nat.le_of_ble_eq_true rfl), (Nat.le_of_ble_eq_true rfl), (Nat.le_of_ble_eq_true rfl)⟩ (Nat.le_of_ble_eq_true rfl) (Nat.le_of_ble_eq_true rfl)
set_option maxHeartbeats 4000000 in
set_option maxRecDepth 100000 in
theorem zt_tie_t1_n (l : Launch) (D : va_G) (hst : l.stackTraces = false) (c : Nat → ClassId) (a n : Nat → Nat) (A : Nat → Nat → Int32) (B : Nat → Int64) (E : Nat → Nat → Int32) (hN : zf_N n) (h : n 0 = 0) : ze_T l yX8_tie wsX8_tie_n 6 82 D c (ze_wC c a n A B E) [.ref (a 0)] "java/util/NoSuchElementException" := by
  intro sz
  refine zx_start (cc := cX8_tie) (maxL := 1) (ret := (some .int)) (own := RX8) (by decide) rfl rfl (Nat.le_of_ble_eq_true rfl) ?_
  obtain ⟨hn0, hn1, hn2, hn3, hn4⟩ := id hN
  intro p e s m_ below meth cd F ls hF hsz E0 hXB htab
  obtain ⟨S, hr, hlocks, hK, hW, hA, hl⟩ := E0
  have hX_ := S.1
  have hB_ := S.2.1
  have hts := S.2.2.2.2
  have hl : lv_has ls 1 [(0, .ref (a 0))] := hl
  have hiX5 : ∀ w ∈ u_ws RX5 TX5 10, w ∈ wsX8_tie_n := fun _ h => (List.mem_cons_of_mem _ (List.mem_append_left _ (List.mem_append_left _ (List.mem_append_left _ (List.mem_append_right _ h)))))
  have hiX8 : ∀ w ∈ u_ws RX8 TX8 8, w ∈ wsX8_tie_n := fun _ h => (List.mem_cons_of_mem _ (List.mem_append_left _ (List.mem_append_left _ (List.mem_append_left _ (List.mem_append_left _ (List.mem_append_right _ h))))))
  have w0 := hts (.fieldLink RX8 10 "Islandgrid" "network" "LIslandgrid$Network;") (List.mem_cons_of_mem _ (List.mem_append_left _ (List.mem_append_left _ (List.mem_append_left _ (List.mem_append_left _ (List.mem_append_left _ (List.mem_append_left _ (List.mem_of_getElem? (i := 6) rfl))))))))
  have w1 := hts (.fieldLink RX8 50 "Islandgrid$Network" "siteCount" "I") (List.mem_cons_of_mem _ (List.mem_append_left _ (List.mem_append_left _ (List.mem_append_left _ (List.mem_append_left _ (List.mem_append_left _ (List.mem_append_left _ (List.mem_of_getElem? (i := 7) rfl))))))))
  have w2 := hts (.classLink RX8 118 "java/util/NoSuchElementException") (List.mem_cons_of_mem _ (List.mem_append_left _ (List.mem_append_left _ (List.mem_append_left _ (List.mem_append_left _ (List.mem_append_left _ (List.mem_append_left _ (List.mem_of_getElem? (i := 0) rfl))))))))
  have w3 := hts (.initialized "java/util/NoSuchElementException") (List.mem_cons_of_mem _ (List.mem_append_left _ (List.mem_append_left _ (List.mem_append_left _ (List.mem_append_left _ (List.mem_append_left _ (List.mem_append_left _ (List.mem_of_getElem? (i := 1) rfl))))))))
  refine lv_aload_n hX_ hB_ dX8_tie_0 rfl (lv_at hl 0 rfl) ?_
  refine ze_get (ci := 8) (C := RX8) (T := TX8) (N := 8) (v := .ref (a 1)) S hiX8 hK hW 0 (ze_at0 0 rfl) rfl 0 (by decide) rfl w0 dX8_tie_1 ?_
  refine ze_get (ci := 5) (C := RX5) (T := TX5) (N := 10) (v := .int (nI (n 0))) S hiX5 hK hW 1 (ze_at0 1 rfl) rfl 0 (by decide) rfl w1 dX8_tie_4 ?_
  refine lv_if_ne (tgt := 20) hX_ hB_ dX8_tie_7 (by decide) (fun c7 => ?_) (fun c7 => ?_)
  · have c7 : ¬ (n 0) = 0 := fun h9 => c7 ((nI_eq (a := (n 0)) (b := 0) (by omega) (by omega)).mpr h9)
    exact absurd h c7
  · have c7 : (n 0) = 0 := (nI_eq (a := (n 0)) (b := 0) (by omega) (by omega)).mp c7
    exact zm_thr (is := 120) (tx := "there is no site") hst S hlocks hF hK hW hXB htab hl.1 (by decide +kernel) w2 w3 (by decide +kernel) zm_g122 zm_o122 (fun _ h => (List.mem_cons_of_mem _ (List.mem_append_left _ (List.mem_append_left _ (List.mem_append_right _ h))))) ⟨rfl, rfl⟩ dX8_tie_10 dX8_tie_13 dX8_tie_14 dX8_tie_16 dX8_tie_19 ⟨(Nat.le_of_ble_eq_true rfl), (Nat.le_of_ble_eq_true rfl), (Nat.le_of_ble_eq_true rfl), (Nat.le_of_ble_eq_true rfl)⟩ (Nat.le_of_ble_eq_true rfl) (Nat.le_of_ble_eq_true rfl)
set_option maxHeartbeats 4000000 in
set_option maxRecDepth 100000 in
theorem zt_tie_t2_n (l : Launch) (D : va_G) (hst : l.stackTraces = false) (c : Nat → ClassId) (a n : Nat → Nat) (A : Nat → Nat → Int32) (B : Nat → Int64) (E : Nat → Nat → Int32) (hN : zf_N n) (h : ¬ n 0 = 0) (h2 : ¬ A 38 0 = 0) : ze_T l yX8_tie wsX8_tie_n 6 82 D c (ze_wC c a n A B E) [.ref (a 0)] "java/lang/IllegalStateException" := by
  intro sz
  refine zx_start (cc := cX8_tie) (maxL := 1) (ret := (some .int)) (own := RX8) (by decide) rfl rfl (Nat.le_of_ble_eq_true rfl) ?_
  obtain ⟨hn0, hn1, hn2, hn3, hn4⟩ := id hN
  intro p e s m_ below meth cd F ls hF hsz E0 hXB htab
  obtain ⟨S, hr, hlocks, hK, hW, hA, hl⟩ := E0
  have hX_ := S.1
  have hB_ := S.2.1
  have hts := S.2.2.2.2
  have hl : lv_has ls 1 [(0, .ref (a 0))] := hl
  have hiX5 : ∀ w ∈ u_ws RX5 TX5 10, w ∈ wsX8_tie_n := fun _ h => (List.mem_cons_of_mem _ (List.mem_append_left _ (List.mem_append_left _ (List.mem_append_left _ (List.mem_append_right _ h)))))
  have hiX8 : ∀ w ∈ u_ws RX8 TX8 8, w ∈ wsX8_tie_n := fun _ h => (List.mem_cons_of_mem _ (List.mem_append_left _ (List.mem_append_left _ (List.mem_append_left _ (List.mem_append_left _ (List.mem_append_right _ h))))))
  have w0 := hts (.fieldLink RX8 10 "Islandgrid" "network" "LIslandgrid$Network;") (List.mem_cons_of_mem _ (List.mem_append_left _ (List.mem_append_left _ (List.mem_append_left _ (List.mem_append_left _ (List.mem_append_left _ (List.mem_append_left _ (List.mem_of_getElem? (i := 6) rfl))))))))
  have w1 := hts (.fieldLink RX8 50 "Islandgrid$Network" "siteCount" "I") (List.mem_cons_of_mem _ (List.mem_append_left _ (List.mem_append_left _ (List.mem_append_left _ (List.mem_append_left _ (List.mem_append_left _ (List.mem_append_left _ (List.mem_of_getElem? (i := 7) rfl))))))))
  have w2 := hts (.fieldLink RX8 123 "Islandgrid$Network" "tied" "Z") (List.mem_cons_of_mem _ (List.mem_append_left _ (List.mem_append_left _ (List.mem_append_left _ (List.mem_append_left _ (List.mem_append_left _ (List.mem_append_left _ (List.mem_of_getElem? (i := 8) rfl))))))))
  have w3 := hts (.classLink RX8 53 "java/lang/IllegalStateException") (List.mem_cons_of_mem _ (List.mem_append_left _ (List.mem_append_left _ (List.mem_append_left _ (List.mem_append_left _ (List.mem_append_left _ (List.mem_append_left _ (List.mem_of_getElem? (i := 2) rfl))))))))
  have w4 := hts (.initialized "java/lang/IllegalStateException") (List.mem_cons_of_mem _ (List.mem_append_left _ (List.mem_append_left _ (List.mem_append_left _ (List.mem_append_left _ (List.mem_append_left _ (List.mem_append_left _ (List.mem_of_getElem? (i := 3) rfl))))))))
  refine lv_aload_n hX_ hB_ dX8_tie_0 rfl (lv_at hl 0 rfl) ?_
  refine ze_get (ci := 8) (C := RX8) (T := TX8) (N := 8) (v := .ref (a 1)) S hiX8 hK hW 0 (ze_at0 0 rfl) rfl 0 (by decide) rfl w0 dX8_tie_1 ?_
  refine ze_get (ci := 5) (C := RX5) (T := TX5) (N := 10) (v := .int (nI (n 0))) S hiX5 hK hW 1 (ze_at0 1 rfl) rfl 0 (by decide) rfl w1 dX8_tie_4 ?_
  refine lv_if_ne (tgt := 20) hX_ hB_ dX8_tie_7 (by decide) (fun c7 => ?_) (fun c7 => ?_)
  · have c7 : ¬ (n 0) = 0 := fun h9 => c7 ((nI_eq (a := (n 0)) (b := 0) (by omega) (by omega)).mpr h9)
    refine lv_aload_n hX_ hB_ dX8_tie_20 rfl (lv_at hl 0 rfl) ?_
    refine ze_get (ci := 8) (C := RX8) (T := TX8) (N := 8) (v := .ref (a 1)) S hiX8 hK hW 0 (ze_at0 0 rfl) rfl 0 (by decide) rfl w0 dX8_tie_21 ?_
    refine ze_get (ci := 5) (C := RX5) (T := TX5) (N := 10) (v := .int (A 38 0)) S hiX5 hK hW 1 (ze_at0 1 rfl) rfl 2 (by decide) rfl w2 dX8_tie_24 ?_
    refine lv_if_eq (tgt := 40) hX_ hB_ dX8_tie_27 (by decide) (fun c27 => ?_) (fun c27 => ?_)
    · exact absurd c27 h2
    · exact zx_throw (is := 127) (tx := "the main grid is tied") hst S hlocks hF hK hW hXB htab hl.1 (by decide +kernel) w3 w4 (by decide +kernel) zx_g57 zx_o57 (fun _ h => (List.mem_cons_of_mem _ (List.mem_append_left _ (List.mem_append_right _ h)))) ⟨rfl, rfl⟩ dX8_tie_30 dX8_tie_33 dX8_tie_34 dX8_tie_36 dX8_tie_39 ⟨(Nat.le_of_ble_eq_true rfl), (Nat.le_of_ble_eq_true rfl), (Nat.le_of_ble_eq_true rfl), (Nat.le_of_ble_eq_true rfl)⟩ (Nat.le_of_ble_eq_true rfl) (Nat.le_of_ble_eq_true rfl)
  · have c7 : (n 0) = 0 := (nI_eq (a := (n 0)) (b := 0) (by omega) (by omega)).mp c7
    exact absurd c7 h
set_option maxHeartbeats 4000000 in
set_option maxRecDepth 100000 in
theorem zt_tie_t3_n (l : Launch) (D : va_G) (hst : l.stackTraces = false) (c : Nat → ClassId) (a n : Nat → Nat) (A : Nat → Nat → Int32) (B : Nat → Int64) (E : Nat → Nat → Int32) (hN : zf_N n) (h : ¬ n 0 = 0) (h2 : A 38 0 = 0) (h3 : ¬ ze_mn (ze_ab ((if zf_tied A 0 then 0 else A 0 (ze_ix 0)) - 0)) (360 - ze_ab ((if zf_tied A 0 then 0 else A 0 (ze_ix 0)) - 0)) ≤ 10) : ze_T l yX8_tie wsX8_tie_n 6 82 D c (ze_wC c a n A B E) [.ref (a 0)] "java/lang/UnsupportedOperationException" := by
  intro sz
  refine zx_start (cc := cX8_tie) (maxL := 1) (ret := (some .int)) (own := RX8) (by decide) rfl rfl (Nat.le_of_ble_eq_true rfl) ?_
  obtain ⟨hn0, hn1, hn2, hn3, hn4⟩ := id hN
  intro p e s m_ below meth cd F ls hF hsz E0 hXB htab
  obtain ⟨S, hr, hlocks, hK, hW, hA, hl⟩ := E0
  have hX_ := S.1
  have hB_ := S.2.1
  have hts := S.2.2.2.2
  have hl : lv_has ls 1 [(0, .ref (a 0))] := hl
  have hiX5 : ∀ w ∈ u_ws RX5 TX5 10, w ∈ wsX8_tie_n := fun _ h => (List.mem_cons_of_mem _ (List.mem_append_left _ (List.mem_append_left _ (List.mem_append_left _ (List.mem_append_right _ h)))))
  have hiX8 : ∀ w ∈ u_ws RX8 TX8 8, w ∈ wsX8_tie_n := fun _ h => (List.mem_cons_of_mem _ (List.mem_append_left _ (List.mem_append_left _ (List.mem_append_left _ (List.mem_append_left _ (List.mem_append_right _ h))))))
  have w0 := hts (.fieldLink RX8 10 "Islandgrid" "network" "LIslandgrid$Network;") (List.mem_cons_of_mem _ (List.mem_append_left _ (List.mem_append_left _ (List.mem_append_left _ (List.mem_append_left _ (List.mem_append_left _ (List.mem_append_left _ (List.mem_of_getElem? (i := 6) rfl))))))))
  have w1 := hts (.fieldLink RX8 50 "Islandgrid$Network" "siteCount" "I") (List.mem_cons_of_mem _ (List.mem_append_left _ (List.mem_append_left _ (List.mem_append_left _ (List.mem_append_left _ (List.mem_append_left _ (List.mem_append_left _ (List.mem_of_getElem? (i := 7) rfl))))))))
  have w2 := hts (.fieldLink RX8 123 "Islandgrid$Network" "tied" "Z") (List.mem_cons_of_mem _ (List.mem_append_left _ (List.mem_append_left _ (List.mem_append_left _ (List.mem_append_left _ (List.mem_append_left _ (List.mem_append_left _ (List.mem_of_getElem? (i := 8) rfl))))))))
  have w3 := hts (.classLink RX8 104 "java/lang/UnsupportedOperationException") (List.mem_cons_of_mem _ (List.mem_append_left _ (List.mem_append_left _ (List.mem_append_left _ (List.mem_append_left _ (List.mem_append_left _ (List.mem_append_left _ (List.mem_of_getElem? (i := 4) rfl))))))))
  have w4 := hts (.initialized "java/lang/UnsupportedOperationException") (List.mem_cons_of_mem _ (List.mem_append_left _ (List.mem_append_left _ (List.mem_append_left _ (List.mem_append_left _ (List.mem_append_left _ (List.mem_append_left _ (List.mem_of_getElem? (i := 5) rfl))))))))
  refine lv_aload_n hX_ hB_ dX8_tie_0 rfl (lv_at hl 0 rfl) ?_
  refine ze_get (ci := 8) (C := RX8) (T := TX8) (N := 8) (v := .ref (a 1)) S hiX8 hK hW 0 (ze_at0 0 rfl) rfl 0 (by decide) rfl w0 dX8_tie_1 ?_
  refine ze_get (ci := 5) (C := RX5) (T := TX5) (N := 10) (v := .int (nI (n 0))) S hiX5 hK hW 1 (ze_at0 1 rfl) rfl 0 (by decide) rfl w1 dX8_tie_4 ?_
  refine lv_if_ne (tgt := 20) hX_ hB_ dX8_tie_7 (by decide) (fun c7 => ?_) (fun c7 => ?_)
  · have c7 : ¬ (n 0) = 0 := fun h9 => c7 ((nI_eq (a := (n 0)) (b := 0) (by omega) (by omega)).mpr h9)
    refine lv_aload_n hX_ hB_ dX8_tie_20 rfl (lv_at hl 0 rfl) ?_
    refine ze_get (ci := 8) (C := RX8) (T := TX8) (N := 8) (v := .ref (a 1)) S hiX8 hK hW 0 (ze_at0 0 rfl) rfl 0 (by decide) rfl w0 dX8_tie_21 ?_
    refine ze_get (ci := 5) (C := RX5) (T := TX5) (N := 10) (v := .int (A 38 0)) S hiX5 hK hW 1 (ze_at0 1 rfl) rfl 2 (by decide) rfl w2 dX8_tie_24 ?_
    refine lv_if_eq (tgt := 40) hX_ hB_ dX8_tie_27 (by decide) (fun c27 => ?_) (fun c27 => ?_)
    · refine lv_aload_n hX_ hB_ dX8_tie_40 rfl (lv_at hl 0 rfl) ?_
      refine ze_get (ci := 8) (C := RX8) (T := TX8) (N := 8) (v := .ref (a 1)) S hiX8 hK hW 0 (ze_at0 0 rfl) rfl 0 (by decide) rfl w0 dX8_tie_41 ?_
      refine lv_iconst (v := 0) hX_ hB_ dX8_tie_44 (by decide) ?_
      refine ze_Vi (As := [.int 0]) (rest := []) (ci := 5) (q0 := 1) (k := (RX5, TX5, 10)) S (zc_5_phaseOf l D c a n A B E 0 hN ⟨0, (by omega), rfl⟩) (cwV 1 hts gX8_tie_X5_phaseOf_n rfl rfl rfl (by decide +kernel) ⟨Nat.le_of_ble_eq_true rfl, Nat.le_of_ble_eq_true rfl⟩) hK hW hA rfl (ze_at0 1 rfl) rfl hl.1 rfl (lv_room (Nat.le_of_ble_eq_true rfl)) dX8_tie_45 ⟨Nat.le_of_ble_eq_true rfl, Nat.le_of_ble_eq_true rfl⟩ (fun H locs hW => ?_)
      refine lv_iconst (v := 0) hX_ hB_ dX8_tie_48 (by decide) ?_
      refine ze_Si (As := [.int (if zf_tied A 0 then 0 else A 0 (ze_ix 0)), .int 0]) (rest := []) S (zc_X5_apart l D c (ze_wC c a n A B E) (if zf_tied A 0 then 0 else A 0 (ze_ix 0)) 0) (va_cwS 2 hts gX8_tie_X5_apart_n rfl rfl rfl (by decide +kernel) ⟨Nat.le_of_ble_eq_true rfl, Nat.le_of_ble_eq_true rfl⟩) hK hW hA rfl hl.1 rfl (lv_room (Nat.le_of_ble_eq_true rfl)) dX8_tie_49 ⟨Nat.le_of_ble_eq_true rfl, Nat.le_of_ble_eq_true rfl⟩ (fun H locs hW => ?_)
      refine lv_bipush (v := 10) hX_ hB_ dX8_tie_52 (by decide) ?_
      refine lv_icmp_le (tgt := 67) hX_ hB_ dX8_tie_54 (by decide) (fun c54 => ?_) (fun c54 => ?_)
      · exact absurd c54 h3
      · exact zx_throw (is := 106) (tx := "the phases do not fit") hst S hlocks hF hK hW hXB htab hl.1 (by decide +kernel) w3 w4 (by decide +kernel) zx_g108 zx_o108 (fun _ h => (List.mem_cons_of_mem _ (List.mem_append_right _ h))) ⟨rfl, rfl⟩ dX8_tie_57 dX8_tie_60 dX8_tie_61 dX8_tie_63 dX8_tie_66 ⟨(Nat.le_of_ble_eq_true rfl), (Nat.le_of_ble_eq_true rfl), (Nat.le_of_ble_eq_true rfl), (Nat.le_of_ble_eq_true rfl)⟩ (Nat.le_of_ble_eq_true rfl) (Nat.le_of_ble_eq_true rfl)
    · exact absurd h2 c27
  · have c7 : (n 0) = 0 := (nI_eq (a := (n 0)) (b := 0) (by omega) (by omega)).mp c7
    exact absurd c7 h
set_option maxHeartbeats 4000000 in
set_option maxRecDepth 100000 in
theorem zt_startNext_t1_n (l : Launch) (D : va_G) (hst : l.stackTraces = false) (c : Nat → ClassId) (a n : Nat → Nat) (A : Nat → Nat → Int32) (B : Nat → Int64) (E : Nat → Nat → Int32) (x : Int32) (hN : zf_N n) (hx : ¬ zf_isIn x 0 (nI (n 0) - 1)) : ze_T l yX8_startNext wsX8_startNext_n 8 124 D c (ze_wC c a n A B E) [.ref (a 0), .int x] "java/lang/IndexOutOfBoundsException" := by
  intro sz
  refine zx_start (cc := cX8_startNext) (maxL := 3) (ret := (some .int)) (own := RX8) (by decide) rfl rfl (Nat.le_of_ble_eq_true rfl) ?_
  obtain ⟨hn0, hn1, hn2, hn3, hn4⟩ := id hN
  intro p e s m_ below meth cd F ls hF hsz E0 hXB htab
  obtain ⟨S, hr, hlocks, hK, hW, hA, hl⟩ := E0
  have hX_ := S.1
  have hB_ := S.2.1
  have hts := S.2.2.2.2
  have hl : lv_has ls 3 [(0, .ref (a 0)), (1, .int x)] := hl
  refine lv_aload_n hX_ hB_ dX8_startNext_0 rfl (lv_at hl 0 rfl) ?_
  refine lv_iload_n hX_ hB_ dX8_startNext_1 rfl (lv_at hl 1 rfl) ?_
  exact zx_Vt (As := [.int x]) (rest := []) (ci := 8) (q0 := 0) (k := (RX8, TX8, 8)) S (zt_checkSite_t l D hst c a n A B E x hN hx) (cwV 1 hts gX8_startNext_X8_checkSite_n rfl rfl rfl (by decide +kernel) ⟨(Nat.le_of_ble_eq_true rfl), (Nat.le_of_ble_eq_true rfl)⟩) hlocks hF hK hW hXB htab hA rfl (ze_at0 0 rfl) rfl hl.1 rfl (lv_room (Nat.le_of_ble_eq_true rfl)) dX8_startNext_2 ⟨(Nat.le_of_ble_eq_true rfl), (Nat.le_of_ble_eq_true rfl)⟩ (Nat.le_of_ble_eq_true rfl) (Nat.le_of_ble_eq_true rfl)
set_option maxHeartbeats 4000000 in
set_option maxRecDepth 100000 in
theorem zt_start_t1_n (l : Launch) (D : va_G) (hst : l.stackTraces = false) (c : Nat → ClassId) (a n : Nat → Nat) (A : Nat → Nat → Int32) (B : Nat → Int64) (E : Nat → Nat → Int32) (x : Int32) (hN : zf_N n) (hx : ¬ zf_isIn x 0 (nI (n 2) - 1)) : ze_T l yX8_start wsX8_start_n 8 124 D c (ze_wC c a n A B E) [.ref (a 0), .int x] "java/lang/IndexOutOfBoundsException" := by
  intro sz
  refine zx_start (cc := cX8_start) (maxL := 3) (ret := (some .int)) (own := RX8) (by decide) rfl rfl (Nat.le_of_ble_eq_true rfl) ?_
  obtain ⟨hn0, hn1, hn2, hn3, hn4⟩ := id hN
  intro p e s m_ below meth cd F ls hF hsz E0 hXB htab
  obtain ⟨S, hr, hlocks, hK, hW, hA, hl⟩ := E0
  have hX_ := S.1
  have hB_ := S.2.1
  have hts := S.2.2.2.2
  have hl : lv_has ls 3 [(0, .ref (a 0)), (1, .int x)] := hl
  refine lv_aload_n hX_ hB_ dX8_start_0 rfl (lv_at hl 0 rfl) ?_
  refine lv_iload_n hX_ hB_ dX8_start_1 rfl (lv_at hl 1 rfl) ?_
  exact zx_Vt (As := [.int x]) (rest := []) (ci := 8) (q0 := 0) (k := (RX8, TX8, 8)) S (zt_generatorAt_t l D hst c a n A B E x hN hx) (cwV 1 hts gX8_start_X8_generatorAt_n rfl rfl rfl (by decide +kernel) ⟨(Nat.le_of_ble_eq_true rfl), (Nat.le_of_ble_eq_true rfl)⟩) hlocks hF hK hW hXB htab hA rfl (ze_at0 0 rfl) rfl hl.1 rfl (lv_room (Nat.le_of_ble_eq_true rfl)) dX8_start_2 ⟨(Nat.le_of_ble_eq_true rfl), (Nat.le_of_ble_eq_true rfl)⟩ (Nat.le_of_ble_eq_true rfl) (Nat.le_of_ble_eq_true rfl)
set_option maxHeartbeats 4000000 in
set_option maxRecDepth 100000 in
theorem zt_toGo_t1_n (l : Launch) (D : va_G) (hst : l.stackTraces = false) (c : Nat → ClassId) (a n : Nat → Nat) (A : Nat → Nat → Int32) (B : Nat → Int64) (E : Nat → Nat → Int32) (x : Int32) (hN : zf_N n) (hx : ¬ zf_isIn x 0 (nI (n 2) - 1)) : ze_T l yX8_toGo wsX8_toGo_n 8 124 D c (ze_wC c a n A B E) [.ref (a 0), .int x] "java/lang/IndexOutOfBoundsException" := by
  intro sz
  refine zx_start (cc := cX8_toGo) (maxL := 3) (ret := (some .int)) (own := RX8) (by decide) rfl rfl (Nat.le_of_ble_eq_true rfl) ?_
  obtain ⟨hn0, hn1, hn2, hn3, hn4⟩ := id hN
  intro p e s m_ below meth cd F ls hF hsz E0 hXB htab
  obtain ⟨S, hr, hlocks, hK, hW, hA, hl⟩ := E0
  have hX_ := S.1
  have hB_ := S.2.1
  have hts := S.2.2.2.2
  have hl : lv_has ls 3 [(0, .ref (a 0)), (1, .int x)] := hl
  refine lv_aload_n hX_ hB_ dX8_toGo_0 rfl (lv_at hl 0 rfl) ?_
  refine lv_iload_n hX_ hB_ dX8_toGo_1 rfl (lv_at hl 1 rfl) ?_
  exact zx_Vt (As := [.int x]) (rest := []) (ci := 8) (q0 := 0) (k := (RX8, TX8, 8)) S (zt_generatorAt_t l D hst c a n A B E x hN hx) (cwV 1 hts gX8_toGo_X8_generatorAt_n rfl rfl rfl (by decide +kernel) ⟨(Nat.le_of_ble_eq_true rfl), (Nat.le_of_ble_eq_true rfl)⟩) hlocks hF hK hW hXB htab hA rfl (ze_at0 0 rfl) rfl hl.1 rfl (lv_room (Nat.le_of_ble_eq_true rfl)) dX8_toGo_2 ⟨(Nat.le_of_ble_eq_true rfl), (Nat.le_of_ble_eq_true rfl)⟩ (Nat.le_of_ble_eq_true rfl) (Nat.le_of_ble_eq_true rfl)
set_option maxHeartbeats 4000000 in
set_option maxRecDepth 100000 in
theorem zt_waits_t1_n (l : Launch) (D : va_G) (hst : l.stackTraces = false) (c : Nat → ClassId) (a n : Nat → Nat) (A : Nat → Nat → Int32) (B : Nat → Int64) (E : Nat → Nat → Int32) (x : Int32) (hN : zf_N n) (hx : ¬ zf_isIn x 0 (nI (n 4) - 1)) : ze_T l yX8_waits wsX8_waits_n 8 124 D c (ze_wC c a n A B E) [.ref (a 0), .int x] "java/lang/IndexOutOfBoundsException" := by
  intro sz
  refine zx_start (cc := cX8_waits) (maxL := 3) (ret := (some .int)) (own := RX8) (by decide) rfl rfl (Nat.le_of_ble_eq_true rfl) ?_
  obtain ⟨hn0, hn1, hn2, hn3, hn4⟩ := id hN
  intro p e s m_ below meth cd F ls hF hsz E0 hXB htab
  obtain ⟨S, hr, hlocks, hK, hW, hA, hl⟩ := E0
  have hX_ := S.1
  have hB_ := S.2.1
  have hts := S.2.2.2.2
  have hl : lv_has ls 3 [(0, .ref (a 0)), (1, .int x)] := hl
  refine lv_aload_n hX_ hB_ dX8_waits_0 rfl (lv_at hl 0 rfl) ?_
  refine lv_iload_n hX_ hB_ dX8_waits_1 rfl (lv_at hl 1 rfl) ?_
  exact zx_Vt (As := [.int x]) (rest := []) (ci := 8) (q0 := 0) (k := (RX8, TX8, 8)) S (zt_loadAt_t l D hst c a n A B E x hN hx) (cwV 1 hts gX8_waits_X8_loadAt_n rfl rfl rfl (by decide +kernel) ⟨(Nat.le_of_ble_eq_true rfl), (Nat.le_of_ble_eq_true rfl)⟩) hlocks hF hK hW hXB htab hA rfl (ze_at0 0 rfl) rfl hl.1 rfl (lv_room (Nat.le_of_ble_eq_true rfl)) dX8_waits_2 ⟨(Nat.le_of_ble_eq_true rfl), (Nat.le_of_ble_eq_true rfl)⟩ (Nat.le_of_ble_eq_true rfl) (Nat.le_of_ble_eq_true rfl)
set_option maxHeartbeats 4000000 in
set_option maxRecDepth 100000 in
theorem zt_start_t2_n (l : Launch) (D : va_G) (hst : l.stackTraces = false) (c : Nat → ClassId) (a n : Nat → Nat) (A : Nat → Nat → Int32) (B : Nat → Int64) (E : Nat → Nat → Int32) (j : Nat) (hN : zf_N n) (hj : j < n 2) (h : ¬ A 13 j = 111) : ze_T l yX8_start wsX8_start_n 6 82 D c (ze_wC c a n A B E) [.ref (a 0), .int (nI j)] "java/lang/IllegalStateException" := by
  intro sz
  refine zx_start (cc := cX8_start) (maxL := 3) (ret := (some .int)) (own := RX8) (by decide) rfl rfl (Nat.le_of_ble_eq_true rfl) ?_
  obtain ⟨hn0, hn1, hn2, hn3, hn4⟩ := id hN
  intro p e s m_ below meth cd F ls hF hsz E0 hXB htab
  obtain ⟨S, hr, hlocks, hK, hW, hA, hl⟩ := E0
  have hX_ := S.1
  have hB_ := S.2.1
  have hts := S.2.2.2.2
  have hl : lv_has ls 3 [(0, .ref (a 0)), (1, .int (nI j))] := hl
  have hiX1 : ∀ w ∈ u_ws RX1 TX1 8, w ∈ wsX8_start_n := fun _ h => (List.mem_cons_of_mem _ (List.mem_append_left _ (List.mem_append_left _ (List.mem_append_left _ (List.mem_append_left _ (List.mem_append_left _ (List.mem_append_right _ h)))))))
  have w0 := hts (.fieldLink RX8 169 "Islandgrid$Generator" "mode" "C") (List.mem_cons_of_mem _ (List.mem_append_left _ (List.mem_append_left _ (List.mem_append_left _ (List.mem_append_left _ (List.mem_append_left _ (List.mem_append_left _ (List.mem_append_left _ (List.mem_of_getElem? (i := 4) rfl)))))))))
  have w1 := hts (.classLink RX8 53 "java/lang/IllegalStateException") (List.mem_cons_of_mem _ (List.mem_append_left _ (List.mem_append_left _ (List.mem_append_left _ (List.mem_append_left _ (List.mem_append_left _ (List.mem_append_left _ (List.mem_append_left _ (List.mem_of_getElem? (i := 0) rfl)))))))))
  have w2 := hts (.initialized "java/lang/IllegalStateException") (List.mem_cons_of_mem _ (List.mem_append_left _ (List.mem_append_left _ (List.mem_append_left _ (List.mem_append_left _ (List.mem_append_left _ (List.mem_append_left _ (List.mem_append_left _ (List.mem_of_getElem? (i := 1) rfl)))))))))
  refine lv_aload_n hX_ hB_ dX8_start_0 rfl (lv_at hl 0 rfl) ?_
  refine lv_iload_n hX_ hB_ dX8_start_1 rfl (lv_at hl 1 rfl) ?_
  refine ze_Vr (As := [.int (nI j)]) (rest := []) (ci := 8) (q0 := 0) (k := (RX8, TX8, 8)) S (zp_generatorAt l D c a n A B E j hN (by omega)) (cwV 1 hts gX8_start_X8_generatorAt_n rfl rfl rfl (by decide +kernel) ⟨Nat.le_of_ble_eq_true rfl, Nat.le_of_ble_eq_true rfl⟩) hK hW hA rfl (ze_at0 0 rfl) rfl hl.1 rfl (lv_room (Nat.le_of_ble_eq_true rfl)) dX8_start_2 ⟨Nat.le_of_ble_eq_true rfl, Nat.le_of_ble_eq_true rfl⟩ (fun H locs hW => ?_)
  refine lv_astore_n (lv' := [(2, .ref (a (20 + j))), (0, .ref (a 0)), (1, .int (nI j))]) hX_ hB_ dX8_start_5 rfl hl (by decide) rfl (fun ls hl => ?_)
  refine lv_aload_n hX_ hB_ dX8_start_6 rfl (lv_at hl 0 rfl) ?_
  refine ze_get (ci := 1) (C := RX1) (T := TX1) (N := 8) (v := .int (A 13 j)) S hiX1 hK hW (18 + j) (ze_atG (g := j) (by omega)) rfl 5 (by decide) rfl w0 dX8_start_7 ?_
  refine lv_bipush (v := 111) hX_ hB_ dX8_start_10 (by decide) ?_
  refine lv_icmp_eq (tgt := 25) hX_ hB_ dX8_start_12 (by decide) (fun c12 => ?_) (fun c12 => ?_)
  · exact absurd c12 h
  · exact zx_throw (is := 173) (tx := "the generator is not off") hst S hlocks hF hK hW hXB htab hl.1 (by decide +kernel) w1 w2 (by decide +kernel) zx_g57 zx_o57 (fun _ h => (List.mem_cons_of_mem _ (List.mem_append_left _ (List.mem_append_left _ (List.mem_append_right _ h))))) ⟨rfl, rfl⟩ dX8_start_15 dX8_start_18 dX8_start_19 dX8_start_21 dX8_start_24 ⟨(Nat.le_of_ble_eq_true rfl), (Nat.le_of_ble_eq_true rfl), (Nat.le_of_ble_eq_true rfl), (Nat.le_of_ble_eq_true rfl)⟩ (Nat.le_of_ble_eq_true rfl) (Nat.le_of_ble_eq_true rfl)
set_option maxHeartbeats 4000000 in
set_option maxRecDepth 100000 in
theorem zt_start_t3_n (l : Launch) (D : va_G) (hst : l.stackTraces = false) (c : Nat → ClassId) (a n : Nat → Nat) (A : Nat → Nat → Int32) (B : Nat → Int64) (E : Nat → Nat → Int32) (j : Nat) (hN : zf_N n) (hj : j < n 2) (h : A 13 j = 111) (h2 : zf_short A j) : ze_T l yX8_start wsX8_start_n 6 82 D c (ze_wC c a n A B E) [.ref (a 0), .int (nI j)] "java/util/NoSuchElementException" := by
  intro sz
  refine zx_start (cc := cX8_start) (maxL := 3) (ret := (some .int)) (own := RX8) (by decide) rfl rfl (Nat.le_of_ble_eq_true rfl) ?_
  obtain ⟨hn0, hn1, hn2, hn3, hn4⟩ := id hN
  intro p e s m_ below meth cd F ls hF hsz E0 hXB htab
  obtain ⟨S, hr, hlocks, hK, hW, hA, hl⟩ := E0
  have hX_ := S.1
  have hB_ := S.2.1
  have hts := S.2.2.2.2
  have hl : lv_has ls 3 [(0, .ref (a 0)), (1, .int (nI j))] := hl
  have hiX1 : ∀ w ∈ u_ws RX1 TX1 8, w ∈ wsX8_start_n := fun _ h => (List.mem_cons_of_mem _ (List.mem_append_left _ (List.mem_append_left _ (List.mem_append_left _ (List.mem_append_left _ (List.mem_append_left _ (List.mem_append_right _ h)))))))
  have w0 := hts (.fieldLink RX8 169 "Islandgrid$Generator" "mode" "C") (List.mem_cons_of_mem _ (List.mem_append_left _ (List.mem_append_left _ (List.mem_append_left _ (List.mem_append_left _ (List.mem_append_left _ (List.mem_append_left _ (List.mem_append_left _ (List.mem_of_getElem? (i := 4) rfl)))))))))
  have w1 := hts (.classLink RX8 118 "java/util/NoSuchElementException") (List.mem_cons_of_mem _ (List.mem_append_left _ (List.mem_append_left _ (List.mem_append_left _ (List.mem_append_left _ (List.mem_append_left _ (List.mem_append_left _ (List.mem_append_left _ (List.mem_of_getElem? (i := 2) rfl)))))))))
  have w2 := hts (.initialized "java/util/NoSuchElementException") (List.mem_cons_of_mem _ (List.mem_append_left _ (List.mem_append_left _ (List.mem_append_left _ (List.mem_append_left _ (List.mem_append_left _ (List.mem_append_left _ (List.mem_append_left _ (List.mem_of_getElem? (i := 3) rfl)))))))))
  refine lv_aload_n hX_ hB_ dX8_start_0 rfl (lv_at hl 0 rfl) ?_
  refine lv_iload_n hX_ hB_ dX8_start_1 rfl (lv_at hl 1 rfl) ?_
  refine ze_Vr (As := [.int (nI j)]) (rest := []) (ci := 8) (q0 := 0) (k := (RX8, TX8, 8)) S (zp_generatorAt l D c a n A B E j hN (by omega)) (cwV 1 hts gX8_start_X8_generatorAt_n rfl rfl rfl (by decide +kernel) ⟨Nat.le_of_ble_eq_true rfl, Nat.le_of_ble_eq_true rfl⟩) hK hW hA rfl (ze_at0 0 rfl) rfl hl.1 rfl (lv_room (Nat.le_of_ble_eq_true rfl)) dX8_start_2 ⟨Nat.le_of_ble_eq_true rfl, Nat.le_of_ble_eq_true rfl⟩ (fun H locs hW => ?_)
  refine lv_astore_n (lv' := [(2, .ref (a (20 + j))), (0, .ref (a 0)), (1, .int (nI j))]) hX_ hB_ dX8_start_5 rfl hl (by decide) rfl (fun ls hl => ?_)
  refine lv_aload_n hX_ hB_ dX8_start_6 rfl (lv_at hl 0 rfl) ?_
  refine ze_get (ci := 1) (C := RX1) (T := TX1) (N := 8) (v := .int (A 13 j)) S hiX1 hK hW (18 + j) (ze_atG (g := j) (by omega)) rfl 5 (by decide) rfl w0 dX8_start_7 ?_
  refine lv_bipush (v := 111) hX_ hB_ dX8_start_10 (by decide) ?_
  refine lv_icmp_eq (tgt := 25) hX_ hB_ dX8_start_12 (by decide) (fun c12 => ?_) (fun c12 => ?_)
  · refine lv_aload_n hX_ hB_ dX8_start_25 rfl (lv_at hl 0 rfl) ?_
    refine ze_Vi (As := []) (rest := []) (ci := 1) (q0 := (18 + j)) (k := (RX1, TX1, 8)) S (zc_1_isShort l D c a n A B E j hN (by omega)) (cwV 0 hts gX8_start_X1_isShort_n rfl rfl rfl (by decide +kernel) ⟨Nat.le_of_ble_eq_true rfl, Nat.le_of_ble_eq_true rfl⟩) hK hW hA rfl (ze_atG (g := j) (by omega)) rfl hl.1 rfl (lv_room (Nat.le_of_ble_eq_true rfl)) dX8_start_26 ⟨Nat.le_of_ble_eq_true rfl, Nat.le_of_ble_eq_true rfl⟩ (fun H locs hW => ?_)
    refine lv_if_eq (tgt := 42) hX_ hB_ dX8_start_29 (by decide) (fun c29 => ?_) (fun c29 => ?_)
    · have c29 : ¬ (zf_short A j) := ze_bf c29
      exact absurd h2 c29
    · have c29 : zf_short A j := ze_bt c29
      exact zm_thr (is := 179) (tx := "the fuel is less than the least power") hst S hlocks hF hK hW hXB htab hl.1 (by decide +kernel) w1 w2 (by decide +kernel) zm_g122 zm_o122 (fun _ h => (List.mem_cons_of_mem _ (List.mem_append_left _ (List.mem_append_right _ h)))) ⟨rfl, rfl⟩ dX8_start_32 dX8_start_35 dX8_start_36 dX8_start_38 dX8_start_41 ⟨(Nat.le_of_ble_eq_true rfl), (Nat.le_of_ble_eq_true rfl), (Nat.le_of_ble_eq_true rfl), (Nat.le_of_ble_eq_true rfl)⟩ (Nat.le_of_ble_eq_true rfl) (Nat.le_of_ble_eq_true rfl)
  · exact absurd h c12
set_option maxHeartbeats 4000000 in
set_option maxRecDepth 100000 in
theorem zt_startNext_t2_n (l : Launch) (D : va_G) (hst : l.stackTraces = false) (c : Nat → ClassId) (a n : Nat → Nat) (A : Nat → Nat → Int32) (B : Nat → Int64) (E : Nat → Nat → Int32) (j : Nat) (hN : zf_N n) (hj : j < n 0) (hS : zf_S n A) (hpick : zf_nx A (E 0) (E 0 j) (n 2) = none) : ze_T l yX8_startNext wsX8_startNext_n 6 82 D c (ze_wC c a n A B E) [.ref (a 0), .int (nI j)] "java/util/NoSuchElementException" := by
  intro sz
  refine zx_start (cc := cX8_startNext) (maxL := 3) (ret := (some .int)) (own := RX8) (by decide) rfl rfl (Nat.le_of_ble_eq_true rfl) ?_
  obtain ⟨hn0, hn1, hn2, hn3, hn4⟩ := id hN
  intro p e s m_ below meth cd F ls hF hsz E0 hXB htab
  obtain ⟨S, hr, hlocks, hK, hW, hA, hl⟩ := E0
  have hX_ := S.1
  have hB_ := S.2.1
  have hts := S.2.2.2.2
  have hl : lv_has ls 3 [(0, .ref (a 0)), (1, .int (nI j))] := hl
  have hiX5 : ∀ w ∈ u_ws RX5 TX5 10, w ∈ wsX8_startNext_n := fun _ h => (List.mem_cons_of_mem _ (List.mem_append_left _ (List.mem_append_left _ (List.mem_append_left _ (List.mem_append_left _ (List.mem_append_right _ h))))))
  have hiX8 : ∀ w ∈ u_ws RX8 TX8 8, w ∈ wsX8_startNext_n := fun _ h => (List.mem_cons_of_mem _ (List.mem_append_left _ (List.mem_append_left _ (List.mem_append_left _ (List.mem_append_left _ (List.mem_append_left _ (List.mem_append_right _ h)))))))
  have w0 := hts (.fieldLink RX8 21 "Islandgrid" "fleet" "LIslandgrid$Fleet;") (List.mem_cons_of_mem _ (List.mem_append_left _ (List.mem_append_left _ (List.mem_append_left _ (List.mem_append_left _ (List.mem_append_left _ (List.mem_append_left _ (List.mem_append_left _ (List.mem_of_getElem? (i := 2) rfl)))))))))
  have w1 := hts (.fieldLink RX8 10 "Islandgrid" "network" "LIslandgrid$Network;") (List.mem_cons_of_mem _ (List.mem_append_left _ (List.mem_append_left _ (List.mem_append_left _ (List.mem_append_left _ (List.mem_append_left _ (List.mem_append_left _ (List.mem_append_left _ (List.mem_of_getElem? (i := 3) rfl)))))))))
  have w2 := hts (.fieldLink RX8 140 "Islandgrid$Network" "islandOf" "[I") (List.mem_cons_of_mem _ (List.mem_append_left _ (List.mem_append_left _ (List.mem_append_left _ (List.mem_append_left _ (List.mem_append_left _ (List.mem_append_left _ (List.mem_append_left _ (List.mem_of_getElem? (i := 4) rfl)))))))))
  have w3 := hts (.classLink RX8 118 "java/util/NoSuchElementException") (List.mem_cons_of_mem _ (List.mem_append_left _ (List.mem_append_left _ (List.mem_append_left _ (List.mem_append_left _ (List.mem_append_left _ (List.mem_append_left _ (List.mem_append_left _ (List.mem_of_getElem? (i := 0) rfl)))))))))
  have w4 := hts (.initialized "java/util/NoSuchElementException") (List.mem_cons_of_mem _ (List.mem_append_left _ (List.mem_append_left _ (List.mem_append_left _ (List.mem_append_left _ (List.mem_append_left _ (List.mem_append_left _ (List.mem_append_left _ (List.mem_of_getElem? (i := 1) rfl)))))))))
  refine lv_aload_n hX_ hB_ dX8_startNext_0 rfl (lv_at hl 0 rfl) ?_
  refine lv_iload_n hX_ hB_ dX8_startNext_1 rfl (lv_at hl 1 rfl) ?_
  refine ze_Vv (As := [.int (nI j)]) (rest := []) (ci := 8) (q0 := 0) (k := (RX8, TX8, 8)) S (zp_checkSite l D c a n A B E j hN (by omega)) (cwV 1 hts gX8_startNext_X8_checkSite_n rfl rfl rfl (by decide +kernel) ⟨Nat.le_of_ble_eq_true rfl, Nat.le_of_ble_eq_true rfl⟩) hK hW hA rfl (ze_at0 0 rfl) rfl hl.1 rfl (lv_room (Nat.le_of_ble_eq_true rfl)) dX8_startNext_2 ⟨Nat.le_of_ble_eq_true rfl, Nat.le_of_ble_eq_true rfl⟩ (fun H locs hW => ?_)
  refine lv_aload_n hX_ hB_ dX8_startNext_5 rfl (lv_at hl 0 rfl) ?_
  refine ze_get (ci := 8) (C := RX8) (T := TX8) (N := 8) (v := .ref (a 9)) S hiX8 hK hW 0 (ze_at0 0 rfl) rfl 1 (by decide) rfl w0 dX8_startNext_6 ?_
  refine lv_aload_n hX_ hB_ dX8_startNext_9 rfl (lv_at hl 0 rfl) ?_
  refine ze_get (ci := 8) (C := RX8) (T := TX8) (N := 8) (v := .ref (a 1)) S hiX8 hK hW 0 (ze_at0 0 rfl) rfl 0 (by decide) rfl w1 dX8_startNext_10 ?_
  refine ze_get (ci := 5) (C := RX5) (T := TX5) (N := 10) (v := .ref (a 3)) S hiX5 hK hW 1 (ze_at0 1 rfl) rfl 4 (by decide) rfl w2 dX8_startNext_13 ?_
  refine lv_iload_n hX_ hB_ dX8_startNext_16 rfl (lv_at hl 1 rfl) ?_
  refine ze_ialdN hX_ hB_ hK hW 3 (f := E 0) (ze_at0 3 rfl) (i := j) (by omega) (by decide) dX8_startNext_17 ?_
  refine ze_Vi (As := [.int (E 0 j)]) (rest := []) (ci := 0) (q0 := 9) (k := (RX0, TX0, 5)) S (zc_0_nextToStart l D c a n A B E (E 0 j) hN hS) (cwV 1 hts gX8_startNext_X0_nextToStart_n rfl rfl rfl (by decide +kernel) ⟨Nat.le_of_ble_eq_true rfl, Nat.le_of_ble_eq_true rfl⟩) hK hW hA rfl (ze_at0 9 rfl) rfl hl.1 rfl (lv_room (Nat.le_of_ble_eq_true rfl)) dX8_startNext_18 ⟨Nat.le_of_ble_eq_true rfl, Nat.le_of_ble_eq_true rfl⟩ (fun H locs hW => ?_)
  refine ze_top (y := -1) (by rw [hpick]; rfl) ?_
  refine lv_istore_n (lv' := [(2, .int (-1)), (0, .ref (a 0)), (1, .int (nI j))]) hX_ hB_ dX8_startNext_21 rfl hl (by decide) rfl (fun ls hl => ?_)
  refine lv_iload_n hX_ hB_ dX8_startNext_22 rfl (lv_at hl 0 rfl) ?_
  refine lv_iconst (v := (-1)) hX_ hB_ dX8_startNext_23 (by decide) ?_
  refine lv_icmp_ne (tgt := 37) hX_ hB_ dX8_startNext_24 (by decide) (fun c24 => ?_) (fun c24 => ?_)
  · exact absurd c24 (by decide)
  · exact zm_thr (is := 198) (tx := "there is no generator to start") hst S hlocks hF hK hW hXB htab hl.1 (by decide +kernel) w3 w4 (by decide +kernel) zm_g122 zm_o122 (fun _ h => (List.mem_cons_of_mem _ (List.mem_append_left _ (List.mem_append_right _ h)))) ⟨rfl, rfl⟩ dX8_startNext_27 dX8_startNext_30 dX8_startNext_31 dX8_startNext_33 dX8_startNext_36 ⟨(Nat.le_of_ble_eq_true rfl), (Nat.le_of_ble_eq_true rfl), (Nat.le_of_ble_eq_true rfl), (Nat.le_of_ble_eq_true rfl)⟩ (Nat.le_of_ble_eq_true rfl) (Nat.le_of_ble_eq_true rfl)
set_option maxHeartbeats 4000000 in
set_option maxRecDepth 100000 in
theorem zt_toGo_t2_n (l : Launch) (D : va_G) (hst : l.stackTraces = false) (c : Nat → ClassId) (a n : Nat → Nat) (A : Nat → Nat → Int32) (B : Nat → Int64) (E : Nat → Nat → Int32) (j : Nat) (hN : zf_N n) (hj : j < n 2) (h : ¬ A 13 j = 119) : ze_T l yX8_toGo wsX8_toGo_n 6 82 D c (ze_wC c a n A B E) [.ref (a 0), .int (nI j)] "java/util/NoSuchElementException" := by
  intro sz
  refine zx_start (cc := cX8_toGo) (maxL := 3) (ret := (some .int)) (own := RX8) (by decide) rfl rfl (Nat.le_of_ble_eq_true rfl) ?_
  obtain ⟨hn0, hn1, hn2, hn3, hn4⟩ := id hN
  intro p e s m_ below meth cd F ls hF hsz E0 hXB htab
  obtain ⟨S, hr, hlocks, hK, hW, hA, hl⟩ := E0
  have hX_ := S.1
  have hB_ := S.2.1
  have hts := S.2.2.2.2
  have hl : lv_has ls 3 [(0, .ref (a 0)), (1, .int (nI j))] := hl
  have hiX1 : ∀ w ∈ u_ws RX1 TX1 8, w ∈ wsX8_toGo_n := fun _ h => (List.mem_cons_of_mem _ (List.mem_append_left _ (List.mem_append_left _ (List.mem_append_left _ (List.mem_append_left _ (List.mem_append_right _ h))))))
  have w0 := hts (.fieldLink RX8 169 "Islandgrid$Generator" "mode" "C") (List.mem_cons_of_mem _ (List.mem_append_left _ (List.mem_append_left _ (List.mem_append_left _ (List.mem_append_left _ (List.mem_append_left _ (List.mem_of_getElem? (i := 2) rfl)))))))
  have w1 := hts (.classLink RX8 118 "java/util/NoSuchElementException") (List.mem_cons_of_mem _ (List.mem_append_left _ (List.mem_append_left _ (List.mem_append_left _ (List.mem_append_left _ (List.mem_append_left _ (List.mem_of_getElem? (i := 0) rfl)))))))
  have w2 := hts (.initialized "java/util/NoSuchElementException") (List.mem_cons_of_mem _ (List.mem_append_left _ (List.mem_append_left _ (List.mem_append_left _ (List.mem_append_left _ (List.mem_append_left _ (List.mem_of_getElem? (i := 1) rfl)))))))
  refine lv_aload_n hX_ hB_ dX8_toGo_0 rfl (lv_at hl 0 rfl) ?_
  refine lv_iload_n hX_ hB_ dX8_toGo_1 rfl (lv_at hl 1 rfl) ?_
  refine ze_Vr (As := [.int (nI j)]) (rest := []) (ci := 8) (q0 := 0) (k := (RX8, TX8, 8)) S (zp_generatorAt l D c a n A B E j hN (by omega)) (cwV 1 hts gX8_toGo_X8_generatorAt_n rfl rfl rfl (by decide +kernel) ⟨Nat.le_of_ble_eq_true rfl, Nat.le_of_ble_eq_true rfl⟩) hK hW hA rfl (ze_at0 0 rfl) rfl hl.1 rfl (lv_room (Nat.le_of_ble_eq_true rfl)) dX8_toGo_2 ⟨Nat.le_of_ble_eq_true rfl, Nat.le_of_ble_eq_true rfl⟩ (fun H locs hW => ?_)
  refine lv_astore_n (lv' := [(2, .ref (a (20 + j))), (0, .ref (a 0)), (1, .int (nI j))]) hX_ hB_ dX8_toGo_5 rfl hl (by decide) rfl (fun ls hl => ?_)
  refine lv_aload_n hX_ hB_ dX8_toGo_6 rfl (lv_at hl 0 rfl) ?_
  refine ze_get (ci := 1) (C := RX1) (T := TX1) (N := 8) (v := .int (A 13 j)) S hiX1 hK hW (18 + j) (ze_atG (g := j) (by omega)) rfl 5 (by decide) rfl w0 dX8_toGo_7 ?_
  refine lv_bipush (v := 119) hX_ hB_ dX8_toGo_10 (by decide) ?_
  refine lv_icmp_eq (tgt := 25) hX_ hB_ dX8_toGo_12 (by decide) (fun c12 => ?_) (fun c12 => ?_)
  · exact absurd c12 h
  · exact zm_thr (is := 207) (tx := "the generator does not warm up") hst S hlocks hF hK hW hXB htab hl.1 (by decide +kernel) w1 w2 (by decide +kernel) zm_g122 zm_o122 (fun _ h => (List.mem_cons_of_mem _ (List.mem_append_left _ (List.mem_append_right _ h)))) ⟨rfl, rfl⟩ dX8_toGo_15 dX8_toGo_18 dX8_toGo_19 dX8_toGo_21 dX8_toGo_24 ⟨(Nat.le_of_ble_eq_true rfl), (Nat.le_of_ble_eq_true rfl), (Nat.le_of_ble_eq_true rfl), (Nat.le_of_ble_eq_true rfl)⟩ (Nat.le_of_ble_eq_true rfl) (Nat.le_of_ble_eq_true rfl)
set_option maxHeartbeats 4000000 in
set_option maxRecDepth 100000 in
theorem zt_waits_t2_n (l : Launch) (D : va_G) (hst : l.stackTraces = false) (c : Nat → ClassId) (a n : Nat → Nat) (A : Nat → Nat → Int32) (B : Nat → Int64) (E : Nat → Nat → Int32) (j : Nat) (hN : zf_N n) (hj : j < n 4) (h : A 5 j = 0) : ze_T l yX8_waits wsX8_waits_n 6 82 D c (ze_wC c a n A B E) [.ref (a 0), .int (nI j)] "java/util/NoSuchElementException" := by
  intro sz
  refine zx_start (cc := cX8_waits) (maxL := 3) (ret := (some .int)) (own := RX8) (by decide) rfl rfl (Nat.le_of_ble_eq_true rfl) ?_
  obtain ⟨hn0, hn1, hn2, hn3, hn4⟩ := id hN
  intro p e s m_ below meth cd F ls hF hsz E0 hXB htab
  obtain ⟨S, hr, hlocks, hK, hW, hA, hl⟩ := E0
  have hX_ := S.1
  have hB_ := S.2.1
  have hts := S.2.2.2.2
  have hl : lv_has ls 3 [(0, .ref (a 0)), (1, .int (nI j))] := hl
  have hiX3 : ∀ w ∈ u_ws RX3 TX3 6, w ∈ wsX8_waits_n := fun _ h => (List.mem_cons_of_mem _ (List.mem_append_left _ (List.mem_append_left _ (List.mem_append_left _ (List.mem_append_left _ (List.mem_append_right _ h))))))
  have w0 := hts (.fieldLink RX8 241 "Islandgrid$Load" "lit" "Z") (List.mem_cons_of_mem _ (List.mem_append_left _ (List.mem_append_left _ (List.mem_append_left _ (List.mem_append_left _ (List.mem_append_left _ (List.mem_of_getElem? (i := 2) rfl)))))))
  have w1 := hts (.classLink RX8 118 "java/util/NoSuchElementException") (List.mem_cons_of_mem _ (List.mem_append_left _ (List.mem_append_left _ (List.mem_append_left _ (List.mem_append_left _ (List.mem_append_left _ (List.mem_of_getElem? (i := 0) rfl)))))))
  have w2 := hts (.initialized "java/util/NoSuchElementException") (List.mem_cons_of_mem _ (List.mem_append_left _ (List.mem_append_left _ (List.mem_append_left _ (List.mem_append_left _ (List.mem_append_left _ (List.mem_of_getElem? (i := 1) rfl)))))))
  refine lv_aload_n hX_ hB_ dX8_waits_0 rfl (lv_at hl 0 rfl) ?_
  refine lv_iload_n hX_ hB_ dX8_waits_1 rfl (lv_at hl 1 rfl) ?_
  refine ze_Vr (As := [.int (nI j)]) (rest := []) (ci := 8) (q0 := 0) (k := (RX8, TX8, 8)) S (zp_loadAt l D c a n A B E j hN (by omega)) (cwV 1 hts gX8_waits_X8_loadAt_n rfl rfl rfl (by decide +kernel) ⟨Nat.le_of_ble_eq_true rfl, Nat.le_of_ble_eq_true rfl⟩) hK hW hA rfl (ze_at0 0 rfl) rfl hl.1 rfl (lv_room (Nat.le_of_ble_eq_true rfl)) dX8_waits_2 ⟨Nat.le_of_ble_eq_true rfl, Nat.le_of_ble_eq_true rfl⟩ (fun H locs hW => ?_)
  refine lv_astore_n (lv' := [(2, .ref (a (40 + j))), (0, .ref (a 0)), (1, .int (nI j))]) hX_ hB_ dX8_waits_5 rfl hl (by decide) rfl (fun ls hl => ?_)
  refine lv_aload_n hX_ hB_ dX8_waits_6 rfl (lv_at hl 0 rfl) ?_
  refine ze_get (ci := 3) (C := RX3) (T := TX3) (N := 6) (v := .int (ze_nt (A 5 j))) S hiX3 hK hW (18 + (n 2 + (n 3 + j))) (ze_atL (g := j) (by omega)) rfl 4 (by decide) rfl w0 dX8_waits_7 ?_
  refine lv_if_eq (tgt := 23) hX_ hB_ dX8_waits_10 (by decide) (fun c10 => ?_) (fun c10 => ?_)
  · have c10 : ¬ A 5 j = 0 := ze_ntf c10
    exact absurd h c10
  · have c10 : A 5 j = 0 := ze_ntt c10
    exact zm_thr (is := 244) (tx := "the load is lit") hst S hlocks hF hK hW hXB htab hl.1 (by decide +kernel) w1 w2 (by decide +kernel) zm_g122 zm_o122 (fun _ h => (List.mem_cons_of_mem _ (List.mem_append_left _ (List.mem_append_right _ h)))) ⟨rfl, rfl⟩ dX8_waits_13 dX8_waits_16 dX8_waits_17 dX8_waits_19 dX8_waits_22 ⟨(Nat.le_of_ble_eq_true rfl), (Nat.le_of_ble_eq_true rfl), (Nat.le_of_ble_eq_true rfl), (Nat.le_of_ble_eq_true rfl)⟩ (Nat.le_of_ble_eq_true rfl) (Nat.le_of_ble_eq_true rfl)
set_option maxHeartbeats 4000000 in
set_option maxRecDepth 100000 in
theorem zt_barrier_t1_n (l : Launch) (D : va_G) (hst : l.stackTraces = false) (c : Nat → ClassId) (a n : Nat → Nat) (A : Nat → Nat → Int32) (B : Nat → Int64) (E : Nat → Nat → Int32) (x : Int32) (hN : zf_N n) (hx : ¬ zf_isIn x 0 (nI (n 4) - 1)) : ze_T l yX8_barrier wsX8_barrier_n 9 146 D c (ze_wC c a n A B E) [.ref (a 0), .int x] "java/lang/IndexOutOfBoundsException" := by
  intro sz
  refine zx_start (cc := cX8_barrier) (maxL := 3) (ret := (some .int)) (own := RX8) (by decide) rfl rfl (Nat.le_of_ble_eq_true rfl) ?_
  obtain ⟨hn0, hn1, hn2, hn3, hn4⟩ := id hN
  intro p e s m_ below meth cd F ls hF hsz E0 hXB htab
  obtain ⟨S, hr, hlocks, hK, hW, hA, hl⟩ := E0
  have hX_ := S.1
  have hB_ := S.2.1
  have hts := S.2.2.2.2
  have hl : lv_has ls 3 [(0, .ref (a 0)), (1, .int x)] := hl
  refine lv_aload_n hX_ hB_ dX8_barrier_0 rfl (lv_at hl 0 rfl) ?_
  refine lv_iload_n hX_ hB_ dX8_barrier_1 rfl (lv_at hl 1 rfl) ?_
  exact zx_Vt (As := [.int x]) (rest := []) (ci := 8) (q0 := 0) (k := (RX8, TX8, 8)) S (zt_unkeptLoadAt_t1_n l D hst c a n A B E x hN hx) (cwV 1 hts gX8_barrier_X8_unkeptLoadAt_n rfl rfl rfl (by decide +kernel) ⟨(Nat.le_of_ble_eq_true rfl), (Nat.le_of_ble_eq_true rfl)⟩) hlocks hF hK hW hXB htab hA rfl (ze_at0 0 rfl) rfl hl.1 rfl (lv_room (Nat.le_of_ble_eq_true rfl)) dX8_barrier_2 ⟨(Nat.le_of_ble_eq_true rfl), (Nat.le_of_ble_eq_true rfl)⟩ (Nat.le_of_ble_eq_true rfl) (Nat.le_of_ble_eq_true rfl)
set_option maxHeartbeats 4000000 in
set_option maxRecDepth 100000 in
theorem zt_barrier_t2_n (l : Launch) (D : va_G) (hst : l.stackTraces = false) (c : Nat → ClassId) (a n : Nat → Nat) (A : Nat → Nat → Int32) (B : Nat → Int64) (E : Nat → Nat → Int32) (j : Nat) (hN : zf_N n) (hj : j < n 4) (hS : zf_S n A) (hk : zf_keepC n A (E 0) j (zf_bOf n A (E 0) (E 0 (ze_ix (A 19 j))))) : ze_T l yX8_barrier wsX8_barrier_n 7 120 D c (ze_wC c a n A B E) [.ref (a 0), .int (nI j)] "java/util/NoSuchElementException" := by
  intro sz
  refine zx_start (cc := cX8_barrier) (maxL := 3) (ret := (some .int)) (own := RX8) (by decide) rfl rfl (Nat.le_of_ble_eq_true rfl) ?_
  obtain ⟨hn0, hn1, hn2, hn3, hn4⟩ := id hN
  intro p e s m_ below meth cd F ls hF hsz E0 hXB htab
  obtain ⟨S, hr, hlocks, hK, hW, hA, hl⟩ := E0
  have hX_ := S.1
  have hB_ := S.2.1
  have hts := S.2.2.2.2
  have hl : lv_has ls 3 [(0, .ref (a 0)), (1, .int (nI j))] := hl
  refine lv_aload_n hX_ hB_ dX8_barrier_0 rfl (lv_at hl 0 rfl) ?_
  refine lv_iload_n hX_ hB_ dX8_barrier_1 rfl (lv_at hl 1 rfl) ?_
  exact zx_Vt (As := [.int (nI j)]) (rest := []) (ci := 8) (q0 := 0) (k := (RX8, TX8, 8)) S (zt_unkeptLoadAt_t2_n l D hst c a n A B E j hN hj hS hk) (cwV 1 hts gX8_barrier_X8_unkeptLoadAt_n rfl rfl rfl (by decide +kernel) ⟨(Nat.le_of_ble_eq_true rfl), (Nat.le_of_ble_eq_true rfl)⟩) hlocks hF hK hW hXB htab hA rfl (ze_at0 0 rfl) rfl hl.1 rfl (lv_room (Nat.le_of_ble_eq_true rfl)) dX8_barrier_2 ⟨(Nat.le_of_ble_eq_true rfl), (Nat.le_of_ble_eq_true rfl)⟩ (Nat.le_of_ble_eq_true rfl) (Nat.le_of_ble_eq_true rfl)
set_option maxHeartbeats 4000000 in
set_option maxRecDepth 100000 in
theorem zt_behind_t1_n (l : Launch) (D : va_G) (hst : l.stackTraces = false) (c : Nat → ClassId) (a n : Nat → Nat) (A : Nat → Nat → Int32) (B : Nat → Int64) (E : Nat → Nat → Int32) (x : Int32) (hN : zf_N n) (hx : ¬ zf_isIn x 0 (nI (n 4) - 1)) : ze_T l yX8_behind wsX8_behind_n 9 146 D c (ze_wC c a n A B E) [.ref (a 0), .int x] "java/lang/IndexOutOfBoundsException" := by
  intro sz
  refine zx_start (cc := cX8_behind) (maxL := 3) (ret := (some .int)) (own := RX8) (by decide) rfl rfl (Nat.le_of_ble_eq_true rfl) ?_
  obtain ⟨hn0, hn1, hn2, hn3, hn4⟩ := id hN
  intro p e s m_ below meth cd F ls hF hsz E0 hXB htab
  obtain ⟨S, hr, hlocks, hK, hW, hA, hl⟩ := E0
  have hX_ := S.1
  have hB_ := S.2.1
  have hts := S.2.2.2.2
  have hl : lv_has ls 3 [(0, .ref (a 0)), (1, .int x)] := hl
  refine lv_aload_n hX_ hB_ dX8_behind_0 rfl (lv_at hl 0 rfl) ?_
  refine lv_iload_n hX_ hB_ dX8_behind_1 rfl (lv_at hl 1 rfl) ?_
  exact zx_Vt (As := [.int x]) (rest := []) (ci := 8) (q0 := 0) (k := (RX8, TX8, 8)) S (zt_unkeptLoadAt_t1_n l D hst c a n A B E x hN hx) (cwV 1 hts gX8_behind_X8_unkeptLoadAt_n rfl rfl rfl (by decide +kernel) ⟨(Nat.le_of_ble_eq_true rfl), (Nat.le_of_ble_eq_true rfl)⟩) hlocks hF hK hW hXB htab hA rfl (ze_at0 0 rfl) rfl hl.1 rfl (lv_room (Nat.le_of_ble_eq_true rfl)) dX8_behind_2 ⟨(Nat.le_of_ble_eq_true rfl), (Nat.le_of_ble_eq_true rfl)⟩ (Nat.le_of_ble_eq_true rfl) (Nat.le_of_ble_eq_true rfl)
set_option maxHeartbeats 4000000 in
set_option maxRecDepth 100000 in
theorem zt_behind_t2_n (l : Launch) (D : va_G) (hst : l.stackTraces = false) (c : Nat → ClassId) (a n : Nat → Nat) (A : Nat → Nat → Int32) (B : Nat → Int64) (E : Nat → Nat → Int32) (j : Nat) (hN : zf_N n) (hj : j < n 4) (hS : zf_S n A) (hk : zf_keepC n A (E 0) j (zf_bOf n A (E 0) (E 0 (ze_ix (A 19 j))))) : ze_T l yX8_behind wsX8_behind_n 7 120 D c (ze_wC c a n A B E) [.ref (a 0), .int (nI j)] "java/util/NoSuchElementException" := by
  intro sz
  refine zx_start (cc := cX8_behind) (maxL := 3) (ret := (some .int)) (own := RX8) (by decide) rfl rfl (Nat.le_of_ble_eq_true rfl) ?_
  obtain ⟨hn0, hn1, hn2, hn3, hn4⟩ := id hN
  intro p e s m_ below meth cd F ls hF hsz E0 hXB htab
  obtain ⟨S, hr, hlocks, hK, hW, hA, hl⟩ := E0
  have hX_ := S.1
  have hB_ := S.2.1
  have hts := S.2.2.2.2
  have hl : lv_has ls 3 [(0, .ref (a 0)), (1, .int (nI j))] := hl
  refine lv_aload_n hX_ hB_ dX8_behind_0 rfl (lv_at hl 0 rfl) ?_
  refine lv_iload_n hX_ hB_ dX8_behind_1 rfl (lv_at hl 1 rfl) ?_
  exact zx_Vt (As := [.int (nI j)]) (rest := []) (ci := 8) (q0 := 0) (k := (RX8, TX8, 8)) S (zt_unkeptLoadAt_t2_n l D hst c a n A B E j hN hj hS hk) (cwV 1 hts gX8_behind_X8_unkeptLoadAt_n rfl rfl rfl (by decide +kernel) ⟨(Nat.le_of_ble_eq_true rfl), (Nat.le_of_ble_eq_true rfl)⟩) hlocks hF hK hW hXB htab hA rfl (ze_at0 0 rfl) rfl hl.1 rfl (lv_room (Nat.le_of_ble_eq_true rfl)) dX8_behind_2 ⟨(Nat.le_of_ble_eq_true rfl), (Nat.le_of_ble_eq_true rfl)⟩ (Nat.le_of_ble_eq_true rfl) (Nat.le_of_ble_eq_true rfl)
set_option maxHeartbeats 4000000 in
set_option maxRecDepth 100000 in
theorem zt_share_t1a_n (l : Launch) (D : va_G) (hst : l.stackTraces = false) (c : Nat → ClassId) (a n : Nat → Nat) (A : Nat → Nat → Int32) (B : Nat → Int64) (E : Nat → Nat → Int32) (x : Int32) (hN : zf_N n) (hx : ¬ zf_isIn x 0 (nI (n 0) - 1)) (y z : Int32) : ze_T l yX8_share wsX8_share_n 9 147 D c (ze_wC c a n A B E) [.ref (a 0), .int x, .int y, .int z] "java/lang/IndexOutOfBoundsException" := by
  intro sz
  refine zx_start (cc := cX8_share) (maxL := 4) (ret := (some .int)) (own := RX8) (by decide) rfl rfl (Nat.le_of_ble_eq_true rfl) ?_
  obtain ⟨hn0, hn1, hn2, hn3, hn4⟩ := id hN
  intro p e s m_ below meth cd F ls hF hsz E0 hXB htab
  obtain ⟨S, hr, hlocks, hK, hW, hA, hl⟩ := E0
  have hX_ := S.1
  have hB_ := S.2.1
  have hts := S.2.2.2.2
  have hl : lv_has ls 4 [(0, .ref (a 0)), (1, .int x), (2, .int y), (3, .int z)] := hl
  refine lv_aload_n hX_ hB_ dX8_share_0 rfl (lv_at hl 0 rfl) ?_
  refine lv_iload_n hX_ hB_ dX8_share_1 rfl (lv_at hl 1 rfl) ?_
  refine lv_iload_n hX_ hB_ dX8_share_2 rfl (lv_at hl 2 rfl) ?_
  refine lv_iload_n hX_ hB_ dX8_share_3 rfl (lv_at hl 3 rfl) ?_
  exact zx_Vt (As := [.int x, .int y, .int z]) (rest := []) (ci := 8) (q0 := 0) (k := (RX8, TX8, 8)) S (zt_checkShare_t1a_n l D hst c a n A B E x hN hx y z) (cwV 3 hts gX8_share_X8_checkShare_n rfl rfl rfl (by decide +kernel) ⟨(Nat.le_of_ble_eq_true rfl), (Nat.le_of_ble_eq_true rfl)⟩) hlocks hF hK hW hXB htab hA rfl (ze_at0 0 rfl) rfl hl.1 rfl (lv_room (Nat.le_of_ble_eq_true rfl)) dX8_share_4 ⟨(Nat.le_of_ble_eq_true rfl), (Nat.le_of_ble_eq_true rfl)⟩ (Nat.le_of_ble_eq_true rfl) (Nat.le_of_ble_eq_true rfl)
set_option maxHeartbeats 4000000 in
set_option maxRecDepth 100000 in
theorem zt_share_t1b_n (l : Launch) (D : va_G) (hst : l.stackTraces = false) (c : Nat → ClassId) (a n : Nat → Nat) (A : Nat → Nat → Int32) (B : Nat → Int64) (E : Nat → Nat → Int32) (j : Nat) (hN : zf_N n) (hj : j < n 0) (y z : Int32) (hzo : ¬ zf_isIn z 0 (nI (n 2) - 1)) : ze_T l yX8_share wsX8_share_n 8 126 D c (ze_wC c a n A B E) [.ref (a 0), .int (nI j), .int y, .int z] "java/lang/IndexOutOfBoundsException" := by
  intro sz
  refine zx_start (cc := cX8_share) (maxL := 4) (ret := (some .int)) (own := RX8) (by decide) rfl rfl (Nat.le_of_ble_eq_true rfl) ?_
  obtain ⟨hn0, hn1, hn2, hn3, hn4⟩ := id hN
  intro p e s m_ below meth cd F ls hF hsz E0 hXB htab
  obtain ⟨S, hr, hlocks, hK, hW, hA, hl⟩ := E0
  have hX_ := S.1
  have hB_ := S.2.1
  have hts := S.2.2.2.2
  have hl : lv_has ls 4 [(0, .ref (a 0)), (1, .int (nI j)), (2, .int y), (3, .int z)] := hl
  refine lv_aload_n hX_ hB_ dX8_share_0 rfl (lv_at hl 0 rfl) ?_
  refine lv_iload_n hX_ hB_ dX8_share_1 rfl (lv_at hl 1 rfl) ?_
  refine lv_iload_n hX_ hB_ dX8_share_2 rfl (lv_at hl 2 rfl) ?_
  refine lv_iload_n hX_ hB_ dX8_share_3 rfl (lv_at hl 3 rfl) ?_
  exact zx_Vt (As := [.int (nI j), .int y, .int z]) (rest := []) (ci := 8) (q0 := 0) (k := (RX8, TX8, 8)) S (zt_checkShare_t1b_n l D hst c a n A B E j hN hj y z hzo) (cwV 3 hts gX8_share_X8_checkShare_n rfl rfl rfl (by decide +kernel) ⟨(Nat.le_of_ble_eq_true rfl), (Nat.le_of_ble_eq_true rfl)⟩) hlocks hF hK hW hXB htab hA rfl (ze_at0 0 rfl) rfl hl.1 rfl (lv_room (Nat.le_of_ble_eq_true rfl)) dX8_share_4 ⟨(Nat.le_of_ble_eq_true rfl), (Nat.le_of_ble_eq_true rfl)⟩ (Nat.le_of_ble_eq_true rfl) (Nat.le_of_ble_eq_true rfl)
set_option maxHeartbeats 4000000 in
set_option maxRecDepth 100000 in
theorem zt_share_t2_n (l : Launch) (D : va_G) (hst : l.stackTraces = false) (c : Nat → ClassId) (a n : Nat → Nat) (A : Nat → Nat → Int32) (B : Nat → Int64) (E : Nat → Nat → Int32) (j : Nat) (hN : zf_N n) (hj : j < n 0) (y : Int32) (k : Nat) (hk : k < n 2) (hy : ¬ zf_isIn y 0 1200) : ze_T l yX8_share wsX8_share_n 8 127 D c (ze_wC c a n A B E) [.ref (a 0), .int (nI j), .int y, .int (nI k)] "java/lang/IllegalArgumentException" := by
  intro sz
  refine zx_start (cc := cX8_share) (maxL := 4) (ret := (some .int)) (own := RX8) (by decide) rfl rfl (Nat.le_of_ble_eq_true rfl) ?_
  obtain ⟨hn0, hn1, hn2, hn3, hn4⟩ := id hN
  intro p e s m_ below meth cd F ls hF hsz E0 hXB htab
  obtain ⟨S, hr, hlocks, hK, hW, hA, hl⟩ := E0
  have hX_ := S.1
  have hB_ := S.2.1
  have hts := S.2.2.2.2
  have hl : lv_has ls 4 [(0, .ref (a 0)), (1, .int (nI j)), (2, .int y), (3, .int (nI k))] := hl
  refine lv_aload_n hX_ hB_ dX8_share_0 rfl (lv_at hl 0 rfl) ?_
  refine lv_iload_n hX_ hB_ dX8_share_1 rfl (lv_at hl 1 rfl) ?_
  refine lv_iload_n hX_ hB_ dX8_share_2 rfl (lv_at hl 2 rfl) ?_
  refine lv_iload_n hX_ hB_ dX8_share_3 rfl (lv_at hl 3 rfl) ?_
  exact zx_Vt (As := [.int (nI j), .int y, .int (nI k)]) (rest := []) (ci := 8) (q0 := 0) (k := (RX8, TX8, 8)) S (zt_checkShare_t2_n l D hst c a n A B E j hN hj y k hk hy) (cwV 3 hts gX8_share_X8_checkShare_n rfl rfl rfl (by decide +kernel) ⟨(Nat.le_of_ble_eq_true rfl), (Nat.le_of_ble_eq_true rfl)⟩) hlocks hF hK hW hXB htab hA rfl (ze_at0 0 rfl) rfl hl.1 rfl (lv_room (Nat.le_of_ble_eq_true rfl)) dX8_share_4 ⟨(Nat.le_of_ble_eq_true rfl), (Nat.le_of_ble_eq_true rfl)⟩ (Nat.le_of_ble_eq_true rfl) (Nat.le_of_ble_eq_true rfl)
set_option maxHeartbeats 4000000 in
set_option maxRecDepth 100000 in
theorem zt_share_t3_n (l : Launch) (D : va_G) (hst : l.stackTraces = false) (c : Nat → ClassId) (a n : Nat → Nat) (A : Nat → Nat → Int32) (B : Nat → Int64) (E : Nat → Nat → Int32) (j : Nat) (hN : zf_N n) (hj : j < n 0) (y : Int32) (k : Nat) (hk : k < n 2) (hS : zf_S n A) (hy : zf_isIn y 0 1200) (hrn : ¬ zf_runs A (E 0) k (E 0 j)) : ze_T l yX8_share wsX8_share_n 7 105 D c (ze_wC c a n A B E) [.ref (a 0), .int (nI j), .int y, .int (nI k)] "java/util/NoSuchElementException" := by
  intro sz
  refine zx_start (cc := cX8_share) (maxL := 4) (ret := (some .int)) (own := RX8) (by decide) rfl rfl (Nat.le_of_ble_eq_true rfl) ?_
  obtain ⟨hn0, hn1, hn2, hn3, hn4⟩ := id hN
  intro p e s m_ below meth cd F ls hF hsz E0 hXB htab
  obtain ⟨S, hr, hlocks, hK, hW, hA, hl⟩ := E0
  have hX_ := S.1
  have hB_ := S.2.1
  have hts := S.2.2.2.2
  have hl : lv_has ls 4 [(0, .ref (a 0)), (1, .int (nI j)), (2, .int y), (3, .int (nI k))] := hl
  refine lv_aload_n hX_ hB_ dX8_share_0 rfl (lv_at hl 0 rfl) ?_
  refine lv_iload_n hX_ hB_ dX8_share_1 rfl (lv_at hl 1 rfl) ?_
  refine lv_iload_n hX_ hB_ dX8_share_2 rfl (lv_at hl 2 rfl) ?_
  refine lv_iload_n hX_ hB_ dX8_share_3 rfl (lv_at hl 3 rfl) ?_
  exact zx_Vt (As := [.int (nI j), .int y, .int (nI k)]) (rest := []) (ci := 8) (q0 := 0) (k := (RX8, TX8, 8)) S (zt_checkShare_t3_n l D hst c a n A B E j hN hj y k hk hS hy hrn) (cwV 3 hts gX8_share_X8_checkShare_n rfl rfl rfl (by decide +kernel) ⟨(Nat.le_of_ble_eq_true rfl), (Nat.le_of_ble_eq_true rfl)⟩) hlocks hF hK hW hXB htab hA rfl (ze_at0 0 rfl) rfl hl.1 rfl (lv_room (Nat.le_of_ble_eq_true rfl)) dX8_share_4 ⟨(Nat.le_of_ble_eq_true rfl), (Nat.le_of_ble_eq_true rfl)⟩ (Nat.le_of_ble_eq_true rfl) (Nat.le_of_ble_eq_true rfl)
set_option maxHeartbeats 4000000 in
set_option maxRecDepth 100000 in
theorem zt_shareBySteps_t1a_n (l : Launch) (D : va_G) (hst : l.stackTraces = false) (c : Nat → ClassId) (a n : Nat → Nat) (A : Nat → Nat → Int32) (B : Nat → Int64) (E : Nat → Nat → Int32) (x : Int32) (hN : zf_N n) (hx : ¬ zf_isIn x 0 (nI (n 0) - 1)) (y z : Int32) : ze_T l yX8_shareBySteps wsX8_shareBySteps_n 9 147 D c (ze_wC c a n A B E) [.ref (a 0), .int x, .int y, .int z] "java/lang/IndexOutOfBoundsException" := by
  intro sz
  refine zx_start (cc := cX8_shareBySteps) (maxL := 4) (ret := (some .int)) (own := RX8) (by decide) rfl rfl (Nat.le_of_ble_eq_true rfl) ?_
  obtain ⟨hn0, hn1, hn2, hn3, hn4⟩ := id hN
  intro p e s m_ below meth cd F ls hF hsz E0 hXB htab
  obtain ⟨S, hr, hlocks, hK, hW, hA, hl⟩ := E0
  have hX_ := S.1
  have hB_ := S.2.1
  have hts := S.2.2.2.2
  have hl : lv_has ls 4 [(0, .ref (a 0)), (1, .int x), (2, .int y), (3, .int z)] := hl
  refine lv_aload_n hX_ hB_ dX8_shareBySteps_0 rfl (lv_at hl 0 rfl) ?_
  refine lv_iload_n hX_ hB_ dX8_shareBySteps_1 rfl (lv_at hl 1 rfl) ?_
  refine lv_iload_n hX_ hB_ dX8_shareBySteps_2 rfl (lv_at hl 2 rfl) ?_
  refine lv_iload_n hX_ hB_ dX8_shareBySteps_3 rfl (lv_at hl 3 rfl) ?_
  exact zx_Vt (As := [.int x, .int y, .int z]) (rest := []) (ci := 8) (q0 := 0) (k := (RX8, TX8, 8)) S (zt_checkShare_t1a_n l D hst c a n A B E x hN hx y z) (cwV 3 hts gX8_shareBySteps_X8_checkShare_n rfl rfl rfl (by decide +kernel) ⟨(Nat.le_of_ble_eq_true rfl), (Nat.le_of_ble_eq_true rfl)⟩) hlocks hF hK hW hXB htab hA rfl (ze_at0 0 rfl) rfl hl.1 rfl (lv_room (Nat.le_of_ble_eq_true rfl)) dX8_shareBySteps_4 ⟨(Nat.le_of_ble_eq_true rfl), (Nat.le_of_ble_eq_true rfl)⟩ (Nat.le_of_ble_eq_true rfl) (Nat.le_of_ble_eq_true rfl)
set_option maxHeartbeats 4000000 in
set_option maxRecDepth 100000 in
theorem zt_shareBySteps_t1b_n (l : Launch) (D : va_G) (hst : l.stackTraces = false) (c : Nat → ClassId) (a n : Nat → Nat) (A : Nat → Nat → Int32) (B : Nat → Int64) (E : Nat → Nat → Int32) (j : Nat) (hN : zf_N n) (hj : j < n 0) (y z : Int32) (hzo : ¬ zf_isIn z 0 (nI (n 2) - 1)) : ze_T l yX8_shareBySteps wsX8_shareBySteps_n 8 126 D c (ze_wC c a n A B E) [.ref (a 0), .int (nI j), .int y, .int z] "java/lang/IndexOutOfBoundsException" := by
  intro sz
  refine zx_start (cc := cX8_shareBySteps) (maxL := 4) (ret := (some .int)) (own := RX8) (by decide) rfl rfl (Nat.le_of_ble_eq_true rfl) ?_
  obtain ⟨hn0, hn1, hn2, hn3, hn4⟩ := id hN
  intro p e s m_ below meth cd F ls hF hsz E0 hXB htab
  obtain ⟨S, hr, hlocks, hK, hW, hA, hl⟩ := E0
  have hX_ := S.1
  have hB_ := S.2.1
  have hts := S.2.2.2.2
  have hl : lv_has ls 4 [(0, .ref (a 0)), (1, .int (nI j)), (2, .int y), (3, .int z)] := hl
  refine lv_aload_n hX_ hB_ dX8_shareBySteps_0 rfl (lv_at hl 0 rfl) ?_
  refine lv_iload_n hX_ hB_ dX8_shareBySteps_1 rfl (lv_at hl 1 rfl) ?_
  refine lv_iload_n hX_ hB_ dX8_shareBySteps_2 rfl (lv_at hl 2 rfl) ?_
  refine lv_iload_n hX_ hB_ dX8_shareBySteps_3 rfl (lv_at hl 3 rfl) ?_
  exact zx_Vt (As := [.int (nI j), .int y, .int z]) (rest := []) (ci := 8) (q0 := 0) (k := (RX8, TX8, 8)) S (zt_checkShare_t1b_n l D hst c a n A B E j hN hj y z hzo) (cwV 3 hts gX8_shareBySteps_X8_checkShare_n rfl rfl rfl (by decide +kernel) ⟨(Nat.le_of_ble_eq_true rfl), (Nat.le_of_ble_eq_true rfl)⟩) hlocks hF hK hW hXB htab hA rfl (ze_at0 0 rfl) rfl hl.1 rfl (lv_room (Nat.le_of_ble_eq_true rfl)) dX8_shareBySteps_4 ⟨(Nat.le_of_ble_eq_true rfl), (Nat.le_of_ble_eq_true rfl)⟩ (Nat.le_of_ble_eq_true rfl) (Nat.le_of_ble_eq_true rfl)
set_option maxHeartbeats 4000000 in
set_option maxRecDepth 100000 in
theorem zt_shareBySteps_t2_n (l : Launch) (D : va_G) (hst : l.stackTraces = false) (c : Nat → ClassId) (a n : Nat → Nat) (A : Nat → Nat → Int32) (B : Nat → Int64) (E : Nat → Nat → Int32) (j : Nat) (hN : zf_N n) (hj : j < n 0) (y : Int32) (k : Nat) (hk : k < n 2) (hy : ¬ zf_isIn y 0 1200) : ze_T l yX8_shareBySteps wsX8_shareBySteps_n 8 127 D c (ze_wC c a n A B E) [.ref (a 0), .int (nI j), .int y, .int (nI k)] "java/lang/IllegalArgumentException" := by
  intro sz
  refine zx_start (cc := cX8_shareBySteps) (maxL := 4) (ret := (some .int)) (own := RX8) (by decide) rfl rfl (Nat.le_of_ble_eq_true rfl) ?_
  obtain ⟨hn0, hn1, hn2, hn3, hn4⟩ := id hN
  intro p e s m_ below meth cd F ls hF hsz E0 hXB htab
  obtain ⟨S, hr, hlocks, hK, hW, hA, hl⟩ := E0
  have hX_ := S.1
  have hB_ := S.2.1
  have hts := S.2.2.2.2
  have hl : lv_has ls 4 [(0, .ref (a 0)), (1, .int (nI j)), (2, .int y), (3, .int (nI k))] := hl
  refine lv_aload_n hX_ hB_ dX8_shareBySteps_0 rfl (lv_at hl 0 rfl) ?_
  refine lv_iload_n hX_ hB_ dX8_shareBySteps_1 rfl (lv_at hl 1 rfl) ?_
  refine lv_iload_n hX_ hB_ dX8_shareBySteps_2 rfl (lv_at hl 2 rfl) ?_
  refine lv_iload_n hX_ hB_ dX8_shareBySteps_3 rfl (lv_at hl 3 rfl) ?_
  exact zx_Vt (As := [.int (nI j), .int y, .int (nI k)]) (rest := []) (ci := 8) (q0 := 0) (k := (RX8, TX8, 8)) S (zt_checkShare_t2_n l D hst c a n A B E j hN hj y k hk hy) (cwV 3 hts gX8_shareBySteps_X8_checkShare_n rfl rfl rfl (by decide +kernel) ⟨(Nat.le_of_ble_eq_true rfl), (Nat.le_of_ble_eq_true rfl)⟩) hlocks hF hK hW hXB htab hA rfl (ze_at0 0 rfl) rfl hl.1 rfl (lv_room (Nat.le_of_ble_eq_true rfl)) dX8_shareBySteps_4 ⟨(Nat.le_of_ble_eq_true rfl), (Nat.le_of_ble_eq_true rfl)⟩ (Nat.le_of_ble_eq_true rfl) (Nat.le_of_ble_eq_true rfl)
set_option maxHeartbeats 4000000 in
set_option maxRecDepth 100000 in
theorem zt_shareBySteps_t3_n (l : Launch) (D : va_G) (hst : l.stackTraces = false) (c : Nat → ClassId) (a n : Nat → Nat) (A : Nat → Nat → Int32) (B : Nat → Int64) (E : Nat → Nat → Int32) (j : Nat) (hN : zf_N n) (hj : j < n 0) (y : Int32) (k : Nat) (hk : k < n 2) (hS : zf_S n A) (hy : zf_isIn y 0 1200) (hrn : ¬ zf_runs A (E 0) k (E 0 j)) : ze_T l yX8_shareBySteps wsX8_shareBySteps_n 7 105 D c (ze_wC c a n A B E) [.ref (a 0), .int (nI j), .int y, .int (nI k)] "java/util/NoSuchElementException" := by
  intro sz
  refine zx_start (cc := cX8_shareBySteps) (maxL := 4) (ret := (some .int)) (own := RX8) (by decide) rfl rfl (Nat.le_of_ble_eq_true rfl) ?_
  obtain ⟨hn0, hn1, hn2, hn3, hn4⟩ := id hN
  intro p e s m_ below meth cd F ls hF hsz E0 hXB htab
  obtain ⟨S, hr, hlocks, hK, hW, hA, hl⟩ := E0
  have hX_ := S.1
  have hB_ := S.2.1
  have hts := S.2.2.2.2
  have hl : lv_has ls 4 [(0, .ref (a 0)), (1, .int (nI j)), (2, .int y), (3, .int (nI k))] := hl
  refine lv_aload_n hX_ hB_ dX8_shareBySteps_0 rfl (lv_at hl 0 rfl) ?_
  refine lv_iload_n hX_ hB_ dX8_shareBySteps_1 rfl (lv_at hl 1 rfl) ?_
  refine lv_iload_n hX_ hB_ dX8_shareBySteps_2 rfl (lv_at hl 2 rfl) ?_
  refine lv_iload_n hX_ hB_ dX8_shareBySteps_3 rfl (lv_at hl 3 rfl) ?_
  exact zx_Vt (As := [.int (nI j), .int y, .int (nI k)]) (rest := []) (ci := 8) (q0 := 0) (k := (RX8, TX8, 8)) S (zt_checkShare_t3_n l D hst c a n A B E j hN hj y k hk hS hy hrn) (cwV 3 hts gX8_shareBySteps_X8_checkShare_n rfl rfl rfl (by decide +kernel) ⟨(Nat.le_of_ble_eq_true rfl), (Nat.le_of_ble_eq_true rfl)⟩) hlocks hF hK hW hXB htab hA rfl (ze_at0 0 rfl) rfl hl.1 rfl (lv_room (Nat.le_of_ble_eq_true rfl)) dX8_shareBySteps_4 ⟨(Nat.le_of_ble_eq_true rfl), (Nat.le_of_ble_eq_true rfl)⟩ (Nat.le_of_ble_eq_true rfl) (Nat.le_of_ble_eq_true rfl)
set_option maxHeartbeats 4000000 in
set_option maxRecDepth 100000 in
theorem zt_litShare_t1_n (l : Launch) (D : va_G) (hst : l.stackTraces = false) (c : Nat → ClassId) (a n : Nat → Nat) (A : Nat → Nat → Int32) (B : Nat → Int64) (E : Nat → Nat → Int32) (hN : zf_N n) (h : n 4 = 0) : ze_T l yX8_litShare wsX8_litShare_n 6 82 D c (ze_wC c a n A B E) [.ref (a 0)] "java/util/NoSuchElementException" := by
  intro sz
  refine zx_start (cc := cX8_litShare) (maxL := 1) (ret := (some .float)) (own := RX8) (by decide) rfl rfl (Nat.le_of_ble_eq_true rfl) ?_
  obtain ⟨hn0, hn1, hn2, hn3, hn4⟩ := id hN
  intro p e s m_ below meth cd F ls hF hsz E0 hXB htab
  obtain ⟨S, hr, hlocks, hK, hW, hA, hl⟩ := E0
  have hX_ := S.1
  have hB_ := S.2.1
  have hts := S.2.2.2.2
  have hl : lv_has ls 1 [(0, .ref (a 0))] := hl
  have hiX4 : ∀ w ∈ u_ws RX4 TX4 3, w ∈ wsX8_litShare_n := fun _ h => (List.mem_cons_of_mem _ (List.mem_append_left _ (List.mem_append_left _ (List.mem_append_right _ h))))
  have hiX8 : ∀ w ∈ u_ws RX8 TX8 8, w ∈ wsX8_litShare_n := fun _ h => (List.mem_cons_of_mem _ (List.mem_append_left _ (List.mem_append_left _ (List.mem_append_left _ (List.mem_append_right _ h)))))
  have w0 := hts (.fieldLink RX8 35 "Islandgrid" "loads" "LIslandgrid$Loads;") (List.mem_cons_of_mem _ (List.mem_append_left _ (List.mem_append_left _ (List.mem_append_left _ (List.mem_append_left _ (List.mem_of_getElem? (i := 2) rfl))))))
  have w1 := hts (.fieldLink RX8 226 "Islandgrid$Loads" "count" "I") (List.mem_cons_of_mem _ (List.mem_append_left _ (List.mem_append_left _ (List.mem_append_left _ (List.mem_append_left _ (List.mem_of_getElem? (i := 3) rfl))))))
  have w2 := hts (.classLink RX8 118 "java/util/NoSuchElementException") (List.mem_cons_of_mem _ (List.mem_append_left _ (List.mem_append_left _ (List.mem_append_left _ (List.mem_append_left _ (List.mem_of_getElem? (i := 0) rfl))))))
  have w3 := hts (.initialized "java/util/NoSuchElementException") (List.mem_cons_of_mem _ (List.mem_append_left _ (List.mem_append_left _ (List.mem_append_left _ (List.mem_append_left _ (List.mem_of_getElem? (i := 1) rfl))))))
  refine lv_aload_n hX_ hB_ dX8_litShare_0 rfl (lv_at hl 0 rfl) ?_
  refine ze_get (ci := 8) (C := RX8) (T := TX8) (N := 8) (v := .ref (a 15)) S hiX8 hK hW 0 (ze_at0 0 rfl) rfl 3 (by decide) rfl w0 dX8_litShare_1 ?_
  refine ze_get (ci := 4) (C := RX4) (T := TX4) (N := 3) (v := .int (nI (n 4))) S hiX4 hK hW 15 (ze_at0 15 rfl) rfl 2 (by decide) rfl w1 dX8_litShare_4 ?_
  refine lv_if_ne (tgt := 21) hX_ hB_ dX8_litShare_7 (by decide) (fun c7 => ?_) (fun c7 => ?_)
  · have c7 : ¬ (n 4) = 0 := fun h9 => c7 ((nI_eq (a := (n 4)) (b := 0) (by omega) (by omega)).mpr h9)
    exact absurd h c7
  · have c7 : (n 4) = 0 := (nI_eq (a := (n 4)) (b := 0) (by omega) (by omega)).mp c7
    exact zm_thrW (is := 323) (tx := "there is no load") hst S hlocks hF hK hW hXB htab hl.1 (by decide +kernel) w2 w3 (by decide +kernel) zm_g122 zm_o122 (fun _ h => (List.mem_cons_of_mem _ (List.mem_append_right _ h))) ⟨rfl, rfl⟩ dX8_litShare_10 dX8_litShare_13 dX8_litShare_14 dX8_litShare_17 dX8_litShare_20 ⟨(Nat.le_of_ble_eq_true rfl), (Nat.le_of_ble_eq_true rfl), (Nat.le_of_ble_eq_true rfl), (Nat.le_of_ble_eq_true rfl)⟩ (Nat.le_of_ble_eq_true rfl) (Nat.le_of_ble_eq_true rfl)

