set_option maxHeartbeats 4000000 in
set_option maxRecDepth 100000 in
theorem zr_islandOf (l : Launch) (D : va_G) (c : Nat → ClassId) (d n : Nat → Nat) (A : Nat → Nat → Int32) (B : Nat → Int64) (mk : Nat → Int32) (th : Int32) (x : Int32) (hN : zf_N n) (hS : zf_S n A) (hz : ∀ s, n 0 ≤ s → mk s = 0) (hx : zf_site n x) : ze_I l yX9_islandOf wsX9_islandOf 2 36 0 0 D c (ze_wR c d n A B mk th) [.ref (d 0), .int x] (zf_CI n A (ze_ix x)) (ze_wR c d n A B (zf_CI n A) th) := by
  intro sz
  refine ze_start (cc := cX9_islandOf) (maxL := 2) (ret := (some .int)) (own := RX9) (by decide) rfl rfl (Nat.le_of_ble_eq_true rfl) ?_
  obtain ⟨hn0, hn1, hn2, hn3, hn4⟩ := id hN
  intro p e s m_ below meth cd F ls hF hsz E0
  obtain ⟨S, hr, hlocks, hK, hW, hA, hl⟩ := E0
  have hX_ := S.1
  have hB_ := S.2.1
  have hts := S.2.2.2.2
  have hl : lv_has ls 2 [(0, .ref (d 0)), (1, .int x)] := hl
  have hiX9 : ∀ w ∈ u_ws RX9 TX9 39, w ∈ wsX9_islandOf := fun _ h => (List.mem_cons_of_mem _ (List.mem_append_right _ h))
  have w0 := hts (.fieldLink RX9 13 "IslandgridModel" "mark" "[I") (List.mem_cons_of_mem _ (List.mem_append_left _ (List.mem_of_getElem? (i := 0) rfl)))
  refine lv_aload_n hX_ hB_ dX9_islandOf_0 rfl (lv_at hl 0 rfl) ?_
  refine ze_Vv (As := []) (rest := []) (ci := 9) (q0 := 0) (k := (RX9, TX9, 39)) S (zr_marks l D c d n A B mk th hN hS hz) (cwV 0 hts gX9_islandOf_X9_marks rfl rfl rfl (by decide +kernel) ⟨Nat.le_of_ble_eq_true rfl, Nat.le_of_ble_eq_true rfl⟩) hK hW hA rfl rfl rfl hl.1 rfl (lv_room (Nat.le_of_ble_eq_true rfl)) dX9_islandOf_1 ⟨Nat.le_of_ble_eq_true rfl, Nat.le_of_ble_eq_true rfl⟩ (fun H locs hW => ?_)
  have hW : ze_W D (ze_wR c d n A B (zf_CI n A) th) F s.heap _ _ := hW
  refine lv_aload_n hX_ hB_ dX9_islandOf_4 rfl (lv_at hl 0 rfl) ?_
  refine ze_get (ci := 9) (C := RX9) (T := TX9) (N := 39) (v := .ref (d 2)) S hiX9 hK hW 0 rfl rfl 1 (by decide) rfl w0 dX9_islandOf_5 ?_
  refine lv_iload_n hX_ hB_ dX9_islandOf_8 rfl (lv_at hl 1 rfl) ?_
  refine ze_iald hX_ hB_ hK hW 2 (f := (zf_CI n A)) rfl (zf_in hN hx) dX9_islandOf_9 ?_
  exact ze_iret S hr hlocks hF hK hW rfl dX9_islandOf_10 (Nat.le_of_ble_eq_true rfl) (Nat.le_of_ble_eq_true rfl) (by simp only [ze_b, not_true_eq_false, not_false_eq_true, and_true, true_and, and_false, false_and, or_true, true_or, or_false, false_or, and_self, or_self, Decidable.not_not, if_true, if_false, reduceIte, reduceCtorEq, ne_eq, eq_self, Int32.lt_irrefl, Int32.le_refl, Nat.lt_irrefl]) rfl
set_option maxHeartbeats 4000000 in
set_option maxRecDepth 100000 in
theorem zr_phaseOf (l : Launch) (D : va_G) (c : Nat → ClassId) (d n : Nat → Nat) (A : Nat → Nat → Int32) (B : Nat → Int64) (mk : Nat → Int32) (th : Int32) (x : Int32) (hN : zf_N n) (hS : zf_S n A) (hz : ∀ s, n 0 ≤ s → mk s = 0) (hx : zf_site n x) : ze_I l yX9_phaseOf wsX9_phaseOf 3 57 0 0 D c (ze_wR c d n A B mk th) [.ref (d 0), .int x] (zf_ph A (zf_CI n A) (ze_ix x)) (ze_wR c d n A B (zf_CI n A) th) := by
  intro sz
  refine ze_start (cc := cX9_phaseOf) (maxL := 3) (ret := (some .int)) (own := RX9) (by decide) rfl rfl (Nat.le_of_ble_eq_true rfl) ?_
  obtain ⟨hn0, hn1, hn2, hn3, hn4⟩ := id hN
  intro p e s m_ below meth cd F ls hF hsz E0
  obtain ⟨S, hr, hlocks, hK, hW, hA, hl⟩ := E0
  have hX_ := S.1
  have hB_ := S.2.1
  have hts := S.2.2.2.2
  have hl : lv_has ls 3 [(0, .ref (d 0)), (1, .int x)] := hl
  have hiX9 : ∀ w ∈ u_ws RX9 TX9 39, w ∈ wsX9_phaseOf := fun _ h => (List.mem_cons_of_mem _ (List.mem_append_right _ h))
  have w0 := hts (.fieldLink RX9 128 "IslandgridModel" "isTied" "Z") (List.mem_cons_of_mem _ (List.mem_append_left _ (List.mem_of_getElem? (i := 0) rfl)))
  have w1 := hts (.fieldLink RX9 9 "IslandgridModel" "phase" "[I") (List.mem_cons_of_mem _ (List.mem_append_left _ (List.mem_of_getElem? (i := 1) rfl)))
  refine lv_aload_n hX_ hB_ dX9_phaseOf_0 rfl (lv_at hl 0 rfl) ?_
  refine lv_iload_n hX_ hB_ dX9_phaseOf_1 rfl (lv_at hl 1 rfl) ?_
  refine ze_Vi (As := [.int x]) (rest := []) (ci := 9) (q0 := 0) (k := (RX9, TX9, 39)) S (zr_islandOf l D c d n A B mk th x hN hS hz hx) (cwV 1 hts gX9_phaseOf_X9_islandOf rfl rfl rfl (by decide +kernel) ⟨Nat.le_of_ble_eq_true rfl, Nat.le_of_ble_eq_true rfl⟩) hK hW hA rfl rfl rfl hl.1 rfl (lv_room (Nat.le_of_ble_eq_true rfl)) dX9_phaseOf_2 ⟨Nat.le_of_ble_eq_true rfl, Nat.le_of_ble_eq_true rfl⟩ (fun H locs hW => ?_)
  have hW : ze_W D (ze_wR c d n A B (zf_CI n A) th) F s.heap _ _ := hW
  refine lv_istore_n (lv' := [(2, .int (zf_CI n A (ze_ix x))), (0, .ref (d 0)), (1, .int x)]) hX_ hB_ dX9_phaseOf_5 rfl hl (by decide) rfl (fun ls hl => ?_)
  refine lv_aload_n hX_ hB_ dX9_phaseOf_6 rfl (lv_at hl 1 rfl) ?_
  refine ze_get (ci := 9) (C := RX9) (T := TX9) (N := 39) (v := .int (A 38 0)) S hiX9 hK hW 0 rfl rfl 38 (by decide) rfl w0 dX9_phaseOf_7 ?_
  refine lv_if_eq (tgt := 21) hX_ hB_ dX9_phaseOf_10 (by decide) (fun c10 => ?_) (fun c10 => ?_)
  · refine lv_aload_n hX_ hB_ dX9_phaseOf_21 rfl (lv_at hl 1 rfl) ?_
    refine ze_get (ci := 9) (C := RX9) (T := TX9) (N := 39) (v := .ref (d 1)) S hiX9 hK hW 0 rfl rfl 0 (by decide) rfl w1 dX9_phaseOf_22 ?_
    refine lv_iload_n hX_ hB_ dX9_phaseOf_25 rfl (lv_at hl 0 rfl) ?_
    refine ze_iald hX_ hB_ hK hW 1 (f := A 0) rfl (zf_in hN (zf_CIsite hN hS hx)) dX9_phaseOf_26 ?_
    exact ze_iret S hr hlocks hF hK hW rfl dX9_phaseOf_27 (Nat.le_of_ble_eq_true rfl) (Nat.le_of_ble_eq_true rfl) (by simp only [ze_b, zf_ph, eq_true c10, not_true_eq_false, not_false_eq_true, and_true, true_and, and_false, false_and, or_true, true_or, or_false, false_or, and_self, or_self, Decidable.not_not, if_true, if_false, reduceIte, reduceCtorEq, ne_eq, eq_self, Int32.lt_irrefl, Int32.le_refl, Nat.lt_irrefl]) rfl
  · refine lv_iload_n hX_ hB_ dX9_phaseOf_13 rfl (lv_at hl 0 rfl) ?_
    refine lv_if_ne (tgt := 21) hX_ hB_ dX9_phaseOf_14 (by decide) (fun c14 => ?_) (fun c14 => ?_)
    · refine lv_aload_n hX_ hB_ dX9_phaseOf_21 rfl (lv_at hl 1 rfl) ?_
      refine ze_get (ci := 9) (C := RX9) (T := TX9) (N := 39) (v := .ref (d 1)) S hiX9 hK hW 0 rfl rfl 0 (by decide) rfl w1 dX9_phaseOf_22 ?_
      refine lv_iload_n hX_ hB_ dX9_phaseOf_25 rfl (lv_at hl 0 rfl) ?_
      refine ze_iald hX_ hB_ hK hW 1 (f := A 0) rfl (zf_in hN (zf_CIsite hN hS hx)) dX9_phaseOf_26 ?_
      exact ze_iret S hr hlocks hF hK hW rfl dX9_phaseOf_27 (Nat.le_of_ble_eq_true rfl) (Nat.le_of_ble_eq_true rfl) (by simp only [ze_b, zf_ph, eq_false c10, eq_false c14, not_true_eq_false, not_false_eq_true, and_true, true_and, and_false, false_and, or_true, true_or, or_false, false_or, and_self, or_self, Decidable.not_not, if_true, if_false, reduceIte, reduceCtorEq, ne_eq, eq_self, Int32.lt_irrefl, Int32.le_refl, Nat.lt_irrefl]) rfl
    · refine lv_iconst (v := 0) hX_ hB_ dX9_phaseOf_17 (by decide) ?_
      refine lv_goto (tgt := 27) hX_ hB_ dX9_phaseOf_18 (by decide) ?_
      exact ze_iret S hr hlocks hF hK hW rfl dX9_phaseOf_27 (Nat.le_of_ble_eq_true rfl) (Nat.le_of_ble_eq_true rfl) (by simp only [ze_b, zf_ph, eq_false c10, eq_true c14, not_true_eq_false, not_false_eq_true, and_true, true_and, and_false, false_and, or_true, true_or, or_false, false_or, and_self, or_self, Decidable.not_not, if_true, if_false, reduceIte, reduceCtorEq, ne_eq, eq_self, Int32.lt_irrefl, Int32.le_refl, Nat.lt_irrefl]) rfl
set_option maxHeartbeats 4000000 in
set_option maxRecDepth 100000 in
theorem zr_gapOf (l : Launch) (D : va_G) (c : Nat → ClassId) (d n : Nat → Nat) (A : Nat → Nat → Int32) (B : Nat → Int64) (mk : Nat → Int32) (th : Int32) (i : Nat) (hN : zf_N n) (hS : zf_S n A) (hz : ∀ s, n 0 ≤ s → mk s = 0) (hi : i < n 1) : ze_I l yX9_gapOf wsX9_gapOf 4 79 0 0 D c (ze_wR c d n A B mk th) [.ref (d 0), .int (nI i)] (zf_gap A (zf_CI n A) i) (ze_wR c d n A B (zf_CI n A) th) := by
  intro sz
  refine ze_start (cc := cX9_gapOf) (maxL := 3) (ret := (some .int)) (own := RX9) (by decide) rfl rfl (Nat.le_of_ble_eq_true rfl) ?_
  obtain ⟨hn0, hn1, hn2, hn3, hn4⟩ := id hN
  intro p e s m_ below meth cd F ls hF hsz E0
  obtain ⟨S, hr, hlocks, hK, hW, hA, hl⟩ := E0
  have hX_ := S.1
  have hB_ := S.2.1
  have hts := S.2.2.2.2
  have hl : lv_has ls 3 [(0, .ref (d 0)), (1, .int (nI i))] := hl
  have hiX9 : ∀ w ∈ u_ws RX9 TX9 39, w ∈ wsX9_gapOf := fun _ h => (List.mem_cons_of_mem _ (List.mem_append_right _ h))
  have w0 := hts (.fieldLink RX9 16 "IslandgridModel" "one" "[I") (List.mem_cons_of_mem _ (List.mem_append_left _ (List.mem_append_left _ (List.mem_of_getElem? (i := 0) rfl))))
  have w1 := hts (.fieldLink RX9 19 "IslandgridModel" "other" "[I") (List.mem_cons_of_mem _ (List.mem_append_left _ (List.mem_append_left _ (List.mem_of_getElem? (i := 1) rfl))))
  have w2 := hts (.methodLink RX9 135 Lib.Math.abs.name) (List.mem_cons_of_mem _ (List.mem_append_left _ (List.mem_append_left _ (List.mem_of_getElem? (i := 2) rfl))))
  have w3 := hts (.static Lib.Math.abs.name) (List.mem_cons_of_mem _ (List.mem_append_left _ (List.mem_append_left _ (List.mem_of_getElem? (i := 3) rfl))))
  have w4 := hts (.initialized "java/lang/Math") (List.mem_cons_of_mem _ (List.mem_append_left _ (List.mem_append_left _ (List.mem_of_getElem? (i := 4) rfl))))
  have w5 := hts (.code Lib.Math.abs.name Lib.Math.abs.code 1 (some .int)) (List.mem_cons_of_mem _ (List.mem_append_left _ (List.mem_append_left _ (List.mem_of_getElem? (i := 5) rfl))))
  have w6 := hts (.methodLink RX9 115 Lib.Math.min.name) (List.mem_cons_of_mem _ (List.mem_append_left _ (List.mem_append_left _ (List.mem_of_getElem? (i := 6) rfl))))
  have w7 := hts (.static Lib.Math.min.name) (List.mem_cons_of_mem _ (List.mem_append_left _ (List.mem_append_left _ (List.mem_of_getElem? (i := 7) rfl))))
  have w8 := hts (.code Lib.Math.min.name Lib.Math.min.code 2 (some .int)) (List.mem_cons_of_mem _ (List.mem_append_left _ (List.mem_append_left _ (List.mem_of_getElem? (i := 8) rfl))))
  refine lv_aload_n hX_ hB_ dX9_gapOf_0 rfl (lv_at hl 0 rfl) ?_
  refine lv_aload_n hX_ hB_ dX9_gapOf_1 rfl (lv_at hl 0 rfl) ?_
  refine ze_get (ci := 9) (C := RX9) (T := TX9) (N := 39) (v := .ref (d 3)) S hiX9 hK hW 0 rfl rfl 2 (by decide) rfl w0 dX9_gapOf_2 ?_
  refine lv_iload_n hX_ hB_ dX9_gapOf_5 rfl (lv_at hl 1 rfl) ?_
  refine ze_ialdN hX_ hB_ hK hW 3 (f := A 2) rfl (i := i) (by omega) (by decide) dX9_gapOf_6 ?_
  refine ze_Vi (As := [.int (A 2 i)]) (rest := []) (ci := 9) (q0 := 0) (k := (RX9, TX9, 39)) S (zr_islandOf l D c d n A B mk th (A 2 i) hN hS hz (hS.1 i hi).1) (cwV 1 hts gX9_gapOf_X9_islandOf rfl rfl rfl (by decide +kernel) ⟨Nat.le_of_ble_eq_true rfl, Nat.le_of_ble_eq_true rfl⟩) hK hW hA rfl rfl rfl hl.1 rfl (lv_room (Nat.le_of_ble_eq_true rfl)) dX9_gapOf_7 ⟨Nat.le_of_ble_eq_true rfl, Nat.le_of_ble_eq_true rfl⟩ (fun H locs hW => ?_)
  have hW : ze_W D (ze_wR c d n A B (zf_CI n A) th) F s.heap _ _ := hW
  refine lv_aload_n hX_ hB_ dX9_gapOf_10 rfl (lv_at hl 0 rfl) ?_
  refine lv_aload_n hX_ hB_ dX9_gapOf_11 rfl (lv_at hl 0 rfl) ?_
  refine ze_get (ci := 9) (C := RX9) (T := TX9) (N := 39) (v := .ref (d 4)) S hiX9 hK hW 0 rfl rfl 3 (by decide) rfl w1 dX9_gapOf_12 ?_
  refine lv_iload_n hX_ hB_ dX9_gapOf_15 rfl (lv_at hl 1 rfl) ?_
  refine ze_ialdN hX_ hB_ hK hW 4 (f := A 3) rfl (i := i) (by omega) (by decide) dX9_gapOf_16 ?_
  refine ze_Vi (As := [.int (A 3 i)]) (rest := [.int (zf_CI n A (ze_ix (A 2 i)))]) (ci := 9) (q0 := 0) (k := (RX9, TX9, 39)) S (zr_islandOf l D c d n A B (zf_CI n A) th (A 3 i) hN hS (zf_CIz hN hS) (hS.1 i hi).2) (cwV 1 hts gX9_gapOf_X9_islandOf rfl rfl rfl (by decide +kernel) ⟨Nat.le_of_ble_eq_true rfl, Nat.le_of_ble_eq_true rfl⟩) hK hW hA rfl rfl rfl hl.1 rfl (lv_room (Nat.le_of_ble_eq_true rfl)) dX9_gapOf_17 ⟨Nat.le_of_ble_eq_true rfl, Nat.le_of_ble_eq_true rfl⟩ (fun H locs hW => ?_)
  refine lv_icmp_ne (tgt := 25) hX_ hB_ dX9_gapOf_20 (by decide) (fun c20 => ?_) (fun c20 => ?_)
  · refine lv_aload_n hX_ hB_ dX9_gapOf_25 rfl (lv_at hl 0 rfl) ?_
    refine lv_aload_n hX_ hB_ dX9_gapOf_26 rfl (lv_at hl 0 rfl) ?_
    refine ze_get (ci := 9) (C := RX9) (T := TX9) (N := 39) (v := .ref (d 3)) S hiX9 hK hW 0 rfl rfl 2 (by decide) rfl w0 dX9_gapOf_27 ?_
    refine lv_iload_n hX_ hB_ dX9_gapOf_30 rfl (lv_at hl 1 rfl) ?_
    refine ze_ialdN hX_ hB_ hK hW 3 (f := A 2) rfl (i := i) (by omega) (by decide) dX9_gapOf_31 ?_
    refine ze_Vi (As := [.int (A 2 i)]) (rest := []) (ci := 9) (q0 := 0) (k := (RX9, TX9, 39)) S (zr_phaseOf l D c d n A B (zf_CI n A) th (A 2 i) hN hS (zf_CIz hN hS) (hS.1 i hi).1) (cwV 1 hts gX9_gapOf_X9_phaseOf rfl rfl rfl (by decide +kernel) ⟨Nat.le_of_ble_eq_true rfl, Nat.le_of_ble_eq_true rfl⟩) hK hW hA rfl rfl rfl hl.1 rfl (lv_room (Nat.le_of_ble_eq_true rfl)) dX9_gapOf_32 ⟨Nat.le_of_ble_eq_true rfl, Nat.le_of_ble_eq_true rfl⟩ (fun H locs hW => ?_)
    refine lv_aload_n hX_ hB_ dX9_gapOf_35 rfl (lv_at hl 0 rfl) ?_
    refine lv_aload_n hX_ hB_ dX9_gapOf_36 rfl (lv_at hl 0 rfl) ?_
    refine ze_get (ci := 9) (C := RX9) (T := TX9) (N := 39) (v := .ref (d 4)) S hiX9 hK hW 0 rfl rfl 3 (by decide) rfl w1 dX9_gapOf_37 ?_
    refine lv_iload_n hX_ hB_ dX9_gapOf_40 rfl (lv_at hl 1 rfl) ?_
    refine ze_ialdN hX_ hB_ hK hW 4 (f := A 3) rfl (i := i) (by omega) (by decide) dX9_gapOf_41 ?_
    refine ze_Vi (As := [.int (A 3 i)]) (rest := [.int (zf_ph A (zf_CI n A) (ze_ix (A 2 i)))]) (ci := 9) (q0 := 0) (k := (RX9, TX9, 39)) S (zr_phaseOf l D c d n A B (zf_CI n A) th (A 3 i) hN hS (zf_CIz hN hS) (hS.1 i hi).2) (cwV 1 hts gX9_gapOf_X9_phaseOf rfl rfl rfl (by decide +kernel) ⟨Nat.le_of_ble_eq_true rfl, Nat.le_of_ble_eq_true rfl⟩) hK hW hA rfl rfl rfl hl.1 rfl (lv_room (Nat.le_of_ble_eq_true rfl)) dX9_gapOf_42 ⟨Nat.le_of_ble_eq_true rfl, Nat.le_of_ble_eq_true rfl⟩ (fun H locs hW => ?_)
    refine lv_isub hX_ hB_ dX9_gapOf_45 ?_
    refine ze_abs S hl.1 w2 w3 w4 w5 ⟨Nat.le_of_ble_eq_true rfl, Nat.le_of_ble_eq_true rfl, Nat.le_of_ble_eq_true rfl, Nat.le_of_ble_eq_true rfl⟩ dX9_gapOf_46 ?_
    refine lv_istore_n (lv' := [(2, .int (ze_ab (zf_ph A (zf_CI n A) (ze_ix (A 2 i)) - zf_ph A (zf_CI n A) (ze_ix (A 3 i))))), (0, .ref (d 0)), (1, .int (nI i))]) hX_ hB_ dX9_gapOf_49 rfl hl (by decide) rfl (fun ls hl => ?_)
    refine lv_iload_n hX_ hB_ dX9_gapOf_50 rfl (lv_at hl 0 rfl) ?_
    refine lv_sipush (v := 360) hX_ hB_ dX9_gapOf_51 (by decide) ?_
    refine lv_iload_n hX_ hB_ dX9_gapOf_54 rfl (lv_at hl 0 rfl) ?_
    refine lv_isub hX_ hB_ dX9_gapOf_55 ?_
    refine ze_min S hl.1 w6 w7 w4 w8 ⟨Nat.le_of_ble_eq_true rfl, Nat.le_of_ble_eq_true rfl, Nat.le_of_ble_eq_true rfl, Nat.le_of_ble_eq_true rfl⟩ dX9_gapOf_56 ?_
    exact ze_iret S hr hlocks hF hK hW rfl dX9_gapOf_59 (Nat.le_of_ble_eq_true rfl) (Nat.le_of_ble_eq_true rfl) (by simp only [zf_gap, if_neg c20]) rfl
  · refine lv_iconst (v := 0) hX_ hB_ dX9_gapOf_23 (by decide) ?_
    exact ze_iret S hr hlocks hF hK hW rfl dX9_gapOf_24 (Nat.le_of_ble_eq_true rfl) (Nat.le_of_ble_eq_true rfl) (by simp only [zf_gap, if_pos c20]) rfl
set_option maxHeartbeats 4000000 in
set_option maxRecDepth 100000 in
theorem zr_many (l : Launch) (D : va_G) (c : Nat → ClassId) (d n : Nat → Nat) (A : Nat → Nat → Int32) (B : Nat → Int64) (mk : Nat → Int32) (th : Int32) (hN : zf_N n) (hS : zf_S n A) (hz : ∀ s, n 0 ≤ s → mk s = 0) : ze_I l yX9_many wsX9_many 2 36 0 0 D c (ze_wR c d n A B mk th) [.ref (d 0)] (zf_many (zf_CI n A) (n 0)) (ze_wR c d n A B (zf_CI n A) th) := by
  intro sz
  refine ze_start (cc := cX9_many) (maxL := 3) (ret := (some .int)) (own := RX9) (by decide) rfl rfl (Nat.le_of_ble_eq_true rfl) ?_
  obtain ⟨hn0, hn1, hn2, hn3, hn4⟩ := id hN
  intro p e s m_ below meth cd F ls hF hsz E0
  obtain ⟨S, hr, hlocks, hK, hW, hA, hl⟩ := E0
  have hX_ := S.1
  have hB_ := S.2.1
  have hts := S.2.2.2.2
  have hl : lv_has ls 3 [(0, .ref (d 0))] := hl
  have hiX9 : ∀ w ∈ u_ws RX9 TX9 39, w ∈ wsX9_many := fun _ h => (List.mem_cons_of_mem _ (List.mem_append_right _ h))
  have w0 := hts (.fieldLink RX9 88 "IslandgridModel" "sites" "I") (List.mem_cons_of_mem _ (List.mem_append_left _ (List.mem_of_getElem? (i := 0) rfl)))
  have w1 := hts (.fieldLink RX9 13 "IslandgridModel" "mark" "[I") (List.mem_cons_of_mem _ (List.mem_append_left _ (List.mem_of_getElem? (i := 1) rfl)))
  refine lv_aload_n hX_ hB_ dX9_many_0 rfl (lv_at hl 0 rfl) ?_
  refine ze_Vv (As := []) (rest := []) (ci := 9) (q0 := 0) (k := (RX9, TX9, 39)) S (zr_marks l D c d n A B mk th hN hS hz) (cwV 0 hts gX9_many_X9_marks rfl rfl rfl (by decide +kernel) ⟨Nat.le_of_ble_eq_true rfl, Nat.le_of_ble_eq_true rfl⟩) hK hW hA rfl rfl rfl hl.1 rfl (lv_room (Nat.le_of_ble_eq_true rfl)) dX9_many_1 ⟨Nat.le_of_ble_eq_true rfl, Nat.le_of_ble_eq_true rfl⟩ (fun H locs hW => ?_)
  have hW : ze_W D (ze_wR c d n A B (zf_CI n A) th) F s.heap _ _ := hW
  refine lv_iconst (v := 0) hX_ hB_ dX9_many_4 (by decide) ?_
  refine lv_istore_n (lv' := [(1, .int 0), (0, .ref (d 0))]) hX_ hB_ dX9_many_5 rfl hl (by decide) rfl (fun ls hl => ?_)
  refine lv_iconst (v := 0) hX_ hB_ dX9_many_6 (by decide) ?_
  refine lv_istore_n (lv' := [(2, .int 0), (1, .int 0), (0, .ref (d 0))]) hX_ hB_ dX9_many_7 rfl hl (by decide) rfl (fun ls hl => ?_)
  have L8 : ∀ (k8 : Nat) (i8 : Nat), (i8 ≤ n 0) → (n 0 - i8) < k8 → ∀ (H : Heap) (locs : List Loc) (ls : Array Slot), ze_W D (ze_wR c d n A B (zf_CI n A) th) F s.heap H locs → lv_has ls 3 [(2, .int (nI i8)), (1, .int (zf_many (zf_CI n A) i8)), (0, .ref (d 0))] → W p l e { frames := 2, cells := 0, slots := 0, locals := 36 } s m_ ([.ref (d 0)] : List Value).toArray below meth cd H locs 0 0 (MQ below (ze_Qi D c (ze_wR c d n A B mk th) sz (zf_many (zf_CI n A) (n 0)) (ze_wR c d n A B (zf_CI n A) th)) ([.ref (d 0)] : List Value).toArray s 0 0 F) (F0 m_ 8 ls []) := by
    intro k8
    induction k8 with
    | zero =>
      intro i8 h8 hk8
      exact absurd hk8 (Nat.not_lt_zero _)
    | succ k8 ih8 =>
      intro i8 h8 hk8 H locs ls hW hl
      refine lv_iload_n hX_ hB_ dX9_many_8 rfl (lv_at hl 0 rfl) ?_
      refine lv_aload_n hX_ hB_ dX9_many_9 rfl (lv_at hl 2 rfl) ?_
      refine ze_get (ci := 9) (C := RX9) (T := TX9) (N := 39) (v := .int (nI (n 0))) S hiX9 hK hW 0 rfl rfl 23 (by decide) rfl w0 dX9_many_10 ?_
      refine lv_icmp_ge (tgt := 40) hX_ hB_ dX9_many_13 (by decide) (fun c13 => ?_) (fun c13 => ?_)
      · have c13 : ¬ i8 < (n 0) := Nat.not_lt.mpr ((nI_leI (a := (n 0)) (b := i8) (by omega) (by omega)).mp c13)
        have e8 : i8 = n 0 := by omega
        subst e8
        refine lv_iload_n hX_ hB_ dX9_many_40 rfl (lv_at hl 1 rfl) ?_
        exact ze_iret S hr hlocks hF hK hW rfl dX9_many_41 (Nat.le_of_ble_eq_true rfl) (Nat.le_of_ble_eq_true rfl) rfl rfl
      · have c13 : i8 < (n 0) := Nat.lt_of_not_le (fun h9 => c13 ((nI_leI (a := (n 0)) (b := i8) (by omega) (by omega)).mpr h9))
        refine lv_iload_n hX_ hB_ dX9_many_16 rfl (lv_at hl 1 rfl) ?_
        refine lv_aload_n hX_ hB_ dX9_many_17 rfl (lv_at hl 2 rfl) ?_
        refine ze_get (ci := 9) (C := RX9) (T := TX9) (N := 39) (v := .ref (d 2)) S hiX9 hK hW 0 rfl rfl 1 (by decide) rfl w1 dX9_many_18 ?_
        refine lv_iload_n hX_ hB_ dX9_many_21 rfl (lv_at hl 0 rfl) ?_
        refine ze_ialdN hX_ hB_ hK hW 2 (f := (zf_CI n A)) rfl (i := i8) (by omega) (by decide) dX9_many_22 ?_
        refine lv_iload_n hX_ hB_ dX9_many_23 rfl (lv_at hl 0 rfl) ?_
        refine lv_icmp_ne (tgt := 31) hX_ hB_ dX9_many_24 (by decide) (fun c24 => ?_) (fun c24 => ?_)
        · refine lv_iconst (v := 0) hX_ hB_ dX9_many_31 (by decide) ?_
          refine lv_iadd hX_ hB_ dX9_many_32 ?_
          refine lv_istore_n (lv' := [(1, .int (zf_many (zf_CI n A) i8 + 0)), (2, .int (nI i8)), (0, .ref (d 0))]) hX_ hB_ dX9_many_33 rfl hl (by decide) rfl (fun ls hl => ?_)
          refine lv_iinc (v := nI (i8 + 1)) (lv' := [(2, .int (nI (i8 + 1))), (1, .int (zf_many (zf_CI n A) i8 + 0)), (0, .ref (d 0))]) hX_ hB_ dX9_many_34 hl (k := 1) rfl (ze_inc _) (by decide) rfl (fun ls hl => ?_)
          refine lv_goto (tgt := 8) hX_ hB_ dX9_many_37 (by decide) ?_
          have eL1 : zf_many (zf_CI n A) i8 + 0 = zf_many (zf_CI n A) (i8 + 1) := (by simp only [ze_b, zf_many, ze_sum, eq_true c13, eq_false c24, not_true_eq_false, not_false_eq_true, and_true, true_and, and_false, false_and, or_true, true_or, or_false, false_or, and_self, or_self, Decidable.not_not, if_true, if_false, reduceIte, reduceCtorEq, ne_eq, eq_self, Int32.lt_irrefl, Int32.le_refl, Nat.lt_irrefl])
          have hl : lv_has ls 3 [(2, .int (nI (i8 + 1))), (1, .int (zf_many (zf_CI n A) (i8 + 1))), (0, .ref (d 0))] := by
            first | (rw [← eL1]; exact hl) | (simp only [← eL1]; exact hl)
          exact ih8 (i8 + 1) (by omega) (by omega) _ _ ls hW (lv_sub hl [0, 1, 2] rfl)
        · refine lv_iconst (v := 1) hX_ hB_ dX9_many_27 (by decide) ?_
          refine lv_goto (tgt := 32) hX_ hB_ dX9_many_28 (by decide) ?_
          refine lv_iadd hX_ hB_ dX9_many_32 ?_
          refine lv_istore_n (lv' := [(1, .int (zf_many (zf_CI n A) i8 + 1)), (2, .int (nI i8)), (0, .ref (d 0))]) hX_ hB_ dX9_many_33 rfl hl (by decide) rfl (fun ls hl => ?_)
          refine lv_iinc (v := nI (i8 + 1)) (lv' := [(2, .int (nI (i8 + 1))), (1, .int (zf_many (zf_CI n A) i8 + 1)), (0, .ref (d 0))]) hX_ hB_ dX9_many_34 hl (k := 1) rfl (ze_inc _) (by decide) rfl (fun ls hl => ?_)
          refine lv_goto (tgt := 8) hX_ hB_ dX9_many_37 (by decide) ?_
          have eL1 : zf_many (zf_CI n A) i8 + 1 = zf_many (zf_CI n A) (i8 + 1) := (by simp only [ze_b, zf_many, ze_sum, eq_true c13, eq_true c24, not_true_eq_false, not_false_eq_true, and_true, true_and, and_false, false_and, or_true, true_or, or_false, false_or, and_self, or_self, Decidable.not_not, if_true, if_false, reduceIte, reduceCtorEq, ne_eq, eq_self, Int32.lt_irrefl, Int32.le_refl, Nat.lt_irrefl])
          have hl : lv_has ls 3 [(2, .int (nI (i8 + 1))), (1, .int (zf_many (zf_CI n A) (i8 + 1))), (0, .ref (d 0))] := by
            first | (rw [← eL1]; exact hl) | (simp only [← eL1]; exact hl)
          exact ih8 (i8 + 1) (by omega) (by omega) _ _ ls hW (lv_sub hl [0, 1, 2] rfl)
  have hl : lv_has ls 3 [(2, .int (nI 0)), (1, .int (zf_many (zf_CI n A) 0)), (0, .ref (d 0))] := hl
  have hW : ze_W D (ze_wR c d n A B (zf_CI n A) th) F s.heap _ _ := hW
  exact L8 _ 0 (by omega) (Nat.lt_succ_self _) _ _ ls hW (lv_sub hl [0, 1, 2] rfl)
set_option maxHeartbeats 4000000 in
set_option maxRecDepth 100000 in
theorem zr_sizeOfFirst (l : Launch) (D : va_G) (c : Nat → ClassId) (d n : Nat → Nat) (A : Nat → Nat → Int32) (B : Nat → Int64) (mk : Nat → Int32) (th : Int32) (hN : zf_N n) (hS : zf_S n A) (hz : ∀ s, n 0 ≤ s → mk s = 0) : ze_I l yX9_sizeOfFirst wsX9_sizeOfFirst 2 36 0 0 D c (ze_wR c d n A B mk th) [.ref (d 0)] (zf_first (zf_CI n A) (n 0)) (ze_wR c d n A B (zf_CI n A) th) := by
  intro sz
  refine ze_start (cc := cX9_sizeOfFirst) (maxL := 3) (ret := (some .int)) (own := RX9) (by decide) rfl rfl (Nat.le_of_ble_eq_true rfl) ?_
  obtain ⟨hn0, hn1, hn2, hn3, hn4⟩ := id hN
  intro p e s m_ below meth cd F ls hF hsz E0
  obtain ⟨S, hr, hlocks, hK, hW, hA, hl⟩ := E0
  have hX_ := S.1
  have hB_ := S.2.1
  have hts := S.2.2.2.2
  have hl : lv_has ls 3 [(0, .ref (d 0))] := hl
  have hiX9 : ∀ w ∈ u_ws RX9 TX9 39, w ∈ wsX9_sizeOfFirst := fun _ h => (List.mem_cons_of_mem _ (List.mem_append_right _ h))
  have w0 := hts (.fieldLink RX9 88 "IslandgridModel" "sites" "I") (List.mem_cons_of_mem _ (List.mem_append_left _ (List.mem_of_getElem? (i := 0) rfl)))
  have w1 := hts (.fieldLink RX9 13 "IslandgridModel" "mark" "[I") (List.mem_cons_of_mem _ (List.mem_append_left _ (List.mem_of_getElem? (i := 1) rfl)))
  refine lv_aload_n hX_ hB_ dX9_sizeOfFirst_0 rfl (lv_at hl 0 rfl) ?_
  refine ze_Vv (As := []) (rest := []) (ci := 9) (q0 := 0) (k := (RX9, TX9, 39)) S (zr_marks l D c d n A B mk th hN hS hz) (cwV 0 hts gX9_sizeOfFirst_X9_marks rfl rfl rfl (by decide +kernel) ⟨Nat.le_of_ble_eq_true rfl, Nat.le_of_ble_eq_true rfl⟩) hK hW hA rfl rfl rfl hl.1 rfl (lv_room (Nat.le_of_ble_eq_true rfl)) dX9_sizeOfFirst_1 ⟨Nat.le_of_ble_eq_true rfl, Nat.le_of_ble_eq_true rfl⟩ (fun H locs hW => ?_)
  have hW : ze_W D (ze_wR c d n A B (zf_CI n A) th) F s.heap _ _ := hW
  refine lv_iconst (v := 0) hX_ hB_ dX9_sizeOfFirst_4 (by decide) ?_
  refine lv_istore_n (lv' := [(1, .int 0), (0, .ref (d 0))]) hX_ hB_ dX9_sizeOfFirst_5 rfl hl (by decide) rfl (fun ls hl => ?_)
  refine lv_iconst (v := 0) hX_ hB_ dX9_sizeOfFirst_6 (by decide) ?_
  refine lv_istore_n (lv' := [(2, .int 0), (1, .int 0), (0, .ref (d 0))]) hX_ hB_ dX9_sizeOfFirst_7 rfl hl (by decide) rfl (fun ls hl => ?_)
  have L8 : ∀ (k8 : Nat) (i8 : Nat), (i8 ≤ n 0) → (n 0 - i8) < k8 → ∀ (H : Heap) (locs : List Loc) (ls : Array Slot), ze_W D (ze_wR c d n A B (zf_CI n A) th) F s.heap H locs → lv_has ls 3 [(2, .int (nI i8)), (1, .int (zf_first (zf_CI n A) i8)), (0, .ref (d 0))] → W p l e { frames := 2, cells := 0, slots := 0, locals := 36 } s m_ ([.ref (d 0)] : List Value).toArray below meth cd H locs 0 0 (MQ below (ze_Qi D c (ze_wR c d n A B mk th) sz (zf_first (zf_CI n A) (n 0)) (ze_wR c d n A B (zf_CI n A) th)) ([.ref (d 0)] : List Value).toArray s 0 0 F) (F0 m_ 8 ls []) := by
    intro k8
    induction k8 with
    | zero =>
      intro i8 h8 hk8
      exact absurd hk8 (Nat.not_lt_zero _)
    | succ k8 ih8 =>
      intro i8 h8 hk8 H locs ls hW hl
      refine lv_iload_n hX_ hB_ dX9_sizeOfFirst_8 rfl (lv_at hl 0 rfl) ?_
      refine lv_aload_n hX_ hB_ dX9_sizeOfFirst_9 rfl (lv_at hl 2 rfl) ?_
      refine ze_get (ci := 9) (C := RX9) (T := TX9) (N := 39) (v := .int (nI (n 0))) S hiX9 hK hW 0 rfl rfl 23 (by decide) rfl w0 dX9_sizeOfFirst_10 ?_
      refine lv_icmp_ge (tgt := 39) hX_ hB_ dX9_sizeOfFirst_13 (by decide) (fun c13 => ?_) (fun c13 => ?_)
      · have c13 : ¬ i8 < (n 0) := Nat.not_lt.mpr ((nI_leI (a := (n 0)) (b := i8) (by omega) (by omega)).mp c13)
        have e8 : i8 = n 0 := by omega
        subst e8
        refine lv_iload_n hX_ hB_ dX9_sizeOfFirst_39 rfl (lv_at hl 1 rfl) ?_
        exact ze_iret S hr hlocks hF hK hW rfl dX9_sizeOfFirst_40 (Nat.le_of_ble_eq_true rfl) (Nat.le_of_ble_eq_true rfl) rfl rfl
      · have c13 : i8 < (n 0) := Nat.lt_of_not_le (fun h9 => c13 ((nI_leI (a := (n 0)) (b := i8) (by omega) (by omega)).mpr h9))
        refine lv_iload_n hX_ hB_ dX9_sizeOfFirst_16 rfl (lv_at hl 1 rfl) ?_
        refine lv_aload_n hX_ hB_ dX9_sizeOfFirst_17 rfl (lv_at hl 2 rfl) ?_
        refine ze_get (ci := 9) (C := RX9) (T := TX9) (N := 39) (v := .ref (d 2)) S hiX9 hK hW 0 rfl rfl 1 (by decide) rfl w1 dX9_sizeOfFirst_18 ?_
        refine lv_iload_n hX_ hB_ dX9_sizeOfFirst_21 rfl (lv_at hl 0 rfl) ?_
        refine ze_ialdN hX_ hB_ hK hW 2 (f := (zf_CI n A)) rfl (i := i8) (by omega) (by decide) dX9_sizeOfFirst_22 ?_
        refine lv_if_ne (tgt := 30) hX_ hB_ dX9_sizeOfFirst_23 (by decide) (fun c23 => ?_) (fun c23 => ?_)
        · refine lv_iconst (v := 0) hX_ hB_ dX9_sizeOfFirst_30 (by decide) ?_
          refine lv_iadd hX_ hB_ dX9_sizeOfFirst_31 ?_
          refine lv_istore_n (lv' := [(1, .int (zf_first (zf_CI n A) i8 + 0)), (2, .int (nI i8)), (0, .ref (d 0))]) hX_ hB_ dX9_sizeOfFirst_32 rfl hl (by decide) rfl (fun ls hl => ?_)
          refine lv_iinc (v := nI (i8 + 1)) (lv' := [(2, .int (nI (i8 + 1))), (1, .int (zf_first (zf_CI n A) i8 + 0)), (0, .ref (d 0))]) hX_ hB_ dX9_sizeOfFirst_33 hl (k := 1) rfl (ze_inc _) (by decide) rfl (fun ls hl => ?_)
          refine lv_goto (tgt := 8) hX_ hB_ dX9_sizeOfFirst_36 (by decide) ?_
          have eL1 : zf_first (zf_CI n A) i8 + 0 = zf_first (zf_CI n A) (i8 + 1) := (by simp only [ze_b, zf_first, ze_sum, eq_true c13, eq_false c23, not_true_eq_false, not_false_eq_true, and_true, true_and, and_false, false_and, or_true, true_or, or_false, false_or, and_self, or_self, Decidable.not_not, if_true, if_false, reduceIte, reduceCtorEq, ne_eq, eq_self, Int32.lt_irrefl, Int32.le_refl, Nat.lt_irrefl])
          have hl : lv_has ls 3 [(2, .int (nI (i8 + 1))), (1, .int (zf_first (zf_CI n A) (i8 + 1))), (0, .ref (d 0))] := by
            first | (rw [← eL1]; exact hl) | (simp only [← eL1]; exact hl)
          exact ih8 (i8 + 1) (by omega) (by omega) _ _ ls hW (lv_sub hl [0, 1, 2] rfl)
        · refine lv_iconst (v := 1) hX_ hB_ dX9_sizeOfFirst_26 (by decide) ?_
          refine lv_goto (tgt := 31) hX_ hB_ dX9_sizeOfFirst_27 (by decide) ?_
          refine lv_iadd hX_ hB_ dX9_sizeOfFirst_31 ?_
          refine lv_istore_n (lv' := [(1, .int (zf_first (zf_CI n A) i8 + 1)), (2, .int (nI i8)), (0, .ref (d 0))]) hX_ hB_ dX9_sizeOfFirst_32 rfl hl (by decide) rfl (fun ls hl => ?_)
          refine lv_iinc (v := nI (i8 + 1)) (lv' := [(2, .int (nI (i8 + 1))), (1, .int (zf_first (zf_CI n A) i8 + 1)), (0, .ref (d 0))]) hX_ hB_ dX9_sizeOfFirst_33 hl (k := 1) rfl (ze_inc _) (by decide) rfl (fun ls hl => ?_)
          refine lv_goto (tgt := 8) hX_ hB_ dX9_sizeOfFirst_36 (by decide) ?_
          have eL1 : zf_first (zf_CI n A) i8 + 1 = zf_first (zf_CI n A) (i8 + 1) := (by simp only [ze_b, zf_first, ze_sum, eq_true c13, eq_true c23, not_true_eq_false, not_false_eq_true, and_true, true_and, and_false, false_and, or_true, true_or, or_false, false_or, and_self, or_self, Decidable.not_not, if_true, if_false, reduceIte, reduceCtorEq, ne_eq, eq_self, Int32.lt_irrefl, Int32.le_refl, Nat.lt_irrefl])
          have hl : lv_has ls 3 [(2, .int (nI (i8 + 1))), (1, .int (zf_first (zf_CI n A) (i8 + 1))), (0, .ref (d 0))] := by
            first | (rw [← eL1]; exact hl) | (simp only [← eL1]; exact hl)
          exact ih8 (i8 + 1) (by omega) (by omega) _ _ ls hW (lv_sub hl [0, 1, 2] rfl)
  have hl : lv_has ls 3 [(2, .int (nI 0)), (1, .int (zf_first (zf_CI n A) 0)), (0, .ref (d 0))] := hl
  have hW : ze_W D (ze_wR c d n A B (zf_CI n A) th) F s.heap _ _ := hW
  exact L8 _ 0 (by omega) (Nat.lt_succ_self _) _ _ ls hW (lv_sub hl [0, 1, 2] rfl)
set_option maxHeartbeats 4000000 in
set_option maxRecDepth 100000 in
theorem zr_starts (l : Launch) (D : va_G) (c : Nat → ClassId) (d n : Nat → Nat) (A : Nat → Nat → Int32) (B : Nat → Int64) (mk : Nat → Int32) (th : Int32) (g : Nat) (hN : zf_N n) (hg : g < n 2) : ze_V l yX9_starts wsX9_starts 0 0 0 0 D c (ze_wR c d n A B mk th) [.ref (d 0), .int (nI g)] (ze_wR c d n (zf_start A g) B mk th) := by
  intro sz
  refine ze_start (cc := cX9_starts) (maxL := 2) (ret := none) (own := RX9) (by decide) rfl rfl (Nat.le_of_ble_eq_true rfl) ?_
  obtain ⟨hn0, hn1, hn2, hn3, hn4⟩ := id hN
  intro p e s m_ below meth cd F ls hF hsz E0
  obtain ⟨S, hr, hlocks, hK, hW, hA, hl⟩ := E0
  have hX_ := S.1
  have hB_ := S.2.1
  have hts := S.2.2.2.2
  have hl : lv_has ls 2 [(0, .ref (d 0)), (1, .int (nI g))] := hl
  have hiX9 : ∀ w ∈ u_ws RX9 TX9 39, w ∈ wsX9_starts := fun _ h => (List.mem_cons_of_mem _ (List.mem_append_right _ h))
  have w0 := hts (.fieldLink RX9 44 "IslandgridModel" "toGo" "[I") (List.mem_cons_of_mem _ (List.mem_append_left _ (List.mem_of_getElem? (i := 0) rfl)))
  have w1 := hts (.fieldLink RX9 38 "IslandgridModel" "warmUp" "[I") (List.mem_cons_of_mem _ (List.mem_append_left _ (List.mem_of_getElem? (i := 1) rfl)))
  have w2 := hts (.fieldLink RX9 50 "IslandgridModel" "state" "[C") (List.mem_cons_of_mem _ (List.mem_append_left _ (List.mem_of_getElem? (i := 2) rfl)))
  refine lv_aload_n hX_ hB_ dX9_starts_0 rfl (lv_at hl 0 rfl) ?_
  refine ze_get (ci := 9) (C := RX9) (T := TX9) (N := 39) (v := .ref (d 12)) S hiX9 hK hW 0 rfl rfl 11 (by decide) rfl w0 dX9_starts_1 ?_
  refine lv_iload_n hX_ hB_ dX9_starts_4 rfl (lv_at hl 1 rfl) ?_
  refine lv_aload_n hX_ hB_ dX9_starts_5 rfl (lv_at hl 0 rfl) ?_
  refine ze_get (ci := 9) (C := RX9) (T := TX9) (N := 39) (v := .ref (d 10)) S hiX9 hK hW 0 rfl rfl 9 (by decide) rfl w1 dX9_starts_6 ?_
  refine lv_iload_n hX_ hB_ dX9_starts_9 rfl (lv_at hl 1 rfl) ?_
  refine ze_ialdN hX_ hB_ hK hW 10 (f := A 9) rfl (i := g) (by omega) (by decide) dX9_starts_10 ?_
  refine ze_iastN hX_ hB_ hK hW 12 (f := A 11) rfl (i := g) (by omega) (by decide) dX9_starts_11 (ze_qR11 g (A 9 g) _ _ _ _ _ _ _) (fun H locs hW => ?_)
  have hW : ze_W D (ze_wR c d n (ze_sE A 11 g (A 9 g)) B mk th) F s.heap _ _ := hW
  refine lv_aload_n hX_ hB_ dX9_starts_12 rfl (lv_at hl 0 rfl) ?_
  refine ze_get (ci := 9) (C := RX9) (T := TX9) (N := 39) (v := .ref (d 14)) S hiX9 hK hW 0 rfl rfl 13 (by decide) rfl w2 dX9_starts_13 ?_
  refine lv_iload_n hX_ hB_ dX9_starts_16 rfl (lv_at hl 1 rfl) ?_
  refine lv_aload_n hX_ hB_ dX9_starts_17 rfl (lv_at hl 0 rfl) ?_
  refine ze_get (ci := 9) (C := RX9) (T := TX9) (N := 39) (v := .ref (d 10)) S hiX9 hK hW 0 rfl rfl 9 (by decide) rfl w1 dX9_starts_18 ?_
  refine lv_iload_n hX_ hB_ dX9_starts_21 rfl (lv_at hl 1 rfl) ?_
  refine ze_ialdN hX_ hB_ hK hW 10 (f := A 9) rfl (i := g) (by omega) (by decide) dX9_starts_22 ?_
  refine lv_if_ne (tgt := 31) hX_ hB_ dX9_starts_23 (by decide) (fun c23 => ?_) (fun c23 => ?_)
  · refine lv_bipush (v := 119) hX_ hB_ dX9_starts_31 (by decide) ?_
    refine ze_castN hX_ hB_ hK hW 14 (f := A 13) rfl (i := g) (by omega) (by decide) rfl dX9_starts_33 (ze_qR13 g 119 _ _ _ _ _ _ _) (fun H locs hW => ?_)
    have hW : ze_W D (ze_wR c d n (ze_sE (ze_sE A 11 g (A 9 g)) 13 g 119) B mk th) F s.heap _ _ := hW
    exact ze_vret S hr hlocks hF hK hW dX9_starts_34 (Nat.le_of_ble_eq_true rfl) (Nat.le_of_ble_eq_true rfl) (by simp only [ze_b, zf_start, eq_false c23, not_true_eq_false, not_false_eq_true, and_true, true_and, and_false, false_and, or_true, true_or, or_false, false_or, and_self, or_self, Decidable.not_not, if_true, if_false, reduceIte, reduceCtorEq, ne_eq, eq_self, Int32.lt_irrefl, Int32.le_refl, Nat.lt_irrefl])
  · refine lv_bipush (v := 114) hX_ hB_ dX9_starts_26 (by decide) ?_
    refine lv_goto (tgt := 33) hX_ hB_ dX9_starts_28 (by decide) ?_
    refine ze_castN hX_ hB_ hK hW 14 (f := A 13) rfl (i := g) (by omega) (by decide) rfl dX9_starts_33 (ze_qR13 g 114 _ _ _ _ _ _ _) (fun H locs hW => ?_)
    have hW : ze_W D (ze_wR c d n (ze_sE (ze_sE A 11 g (A 9 g)) 13 g 114) B mk th) F s.heap _ _ := hW
    exact ze_vret S hr hlocks hF hK hW dX9_starts_34 (Nat.le_of_ble_eq_true rfl) (Nat.le_of_ble_eq_true rfl) (by simp only [ze_b, zf_start, eq_true c23, not_true_eq_false, not_false_eq_true, and_true, true_and, and_false, false_and, or_true, true_or, or_false, false_or, and_self, or_self, Decidable.not_not, if_true, if_false, reduceIte, reduceCtorEq, ne_eq, eq_self, Int32.lt_irrefl, Int32.le_refl, Nat.lt_irrefl])
set_option maxHeartbeats 4000000 in
set_option maxRecDepth 100000 in
theorem zr_isTiedOne (l : Launch) (D : va_G) (c : Nat → ClassId) (d n : Nat → Nat) (A : Nat → Nat → Int32) (B : Nat → Int64) (mk : Nat → Int32) (th : Int32) (m : Int32) : ze_I l yX9_isTiedOne wsX9_isTiedOne 0 0 0 0 D c (ze_wR c d n A B mk th) [.ref (d 0), .int m] (ze_b (zf_tied A m)) (ze_wR c d n A B mk th) := by
  intro sz
  refine ze_start (cc := cX9_isTiedOne) (maxL := 2) (ret := (some .boolean)) (own := RX9) (by decide) rfl rfl (Nat.le_of_ble_eq_true rfl) ?_
  intro p e s m_ below meth cd F ls hF hsz E0
  obtain ⟨S, hr, hlocks, hK, hW, hA, hl⟩ := E0
  have hX_ := S.1
  have hB_ := S.2.1
  have hts := S.2.2.2.2
  have hl : lv_has ls 2 [(0, .ref (d 0)), (1, .int m)] := hl
  have hiX9 : ∀ w ∈ u_ws RX9 TX9 39, w ∈ wsX9_isTiedOne := fun _ h => (List.mem_cons_of_mem _ (List.mem_append_right _ h))
  have w0 := hts (.fieldLink RX9 128 "IslandgridModel" "isTied" "Z") (List.mem_cons_of_mem _ (List.mem_append_left _ (List.mem_of_getElem? (i := 0) rfl)))
  refine lv_aload_n hX_ hB_ dX9_isTiedOne_0 rfl (lv_at hl 0 rfl) ?_
  refine ze_get (ci := 9) (C := RX9) (T := TX9) (N := 39) (v := .int (A 38 0)) S hiX9 hK hW 0 rfl rfl 38 (by decide) rfl w0 dX9_isTiedOne_1 ?_
  refine lv_if_eq (tgt := 15) hX_ hB_ dX9_isTiedOne_4 (by decide) (fun c4 => ?_) (fun c4 => ?_)
  · refine lv_iconst (v := 0) hX_ hB_ dX9_isTiedOne_15 (by decide) ?_
    exact ze_iret S hr hlocks hF hK hW rfl dX9_isTiedOne_16 (Nat.le_of_ble_eq_true rfl) (Nat.le_of_ble_eq_true rfl) (by simp only [ze_b, zf_tied, eq_true c4, not_true_eq_false, not_false_eq_true, and_true, true_and, and_false, false_and, or_true, true_or, or_false, false_or, and_self, or_self, Decidable.not_not, if_true, if_false, reduceIte, reduceCtorEq, ne_eq, eq_self, Int32.lt_irrefl, Int32.le_refl, Nat.lt_irrefl]) rfl
  · refine lv_iload_n hX_ hB_ dX9_isTiedOne_7 rfl (lv_at hl 1 rfl) ?_
    refine lv_if_ne (tgt := 15) hX_ hB_ dX9_isTiedOne_8 (by decide) (fun c8 => ?_) (fun c8 => ?_)
    · refine lv_iconst (v := 0) hX_ hB_ dX9_isTiedOne_15 (by decide) ?_
      exact ze_iret S hr hlocks hF hK hW rfl dX9_isTiedOne_16 (Nat.le_of_ble_eq_true rfl) (Nat.le_of_ble_eq_true rfl) (by simp only [ze_b, zf_tied, eq_false c4, eq_false c8, not_true_eq_false, not_false_eq_true, and_true, true_and, and_false, false_and, or_true, true_or, or_false, false_or, and_self, or_self, Decidable.not_not, if_true, if_false, reduceIte, reduceCtorEq, ne_eq, eq_self, Int32.lt_irrefl, Int32.le_refl, Nat.lt_irrefl]) rfl
    · refine lv_iconst (v := 1) hX_ hB_ dX9_isTiedOne_11 (by decide) ?_
      refine lv_goto (tgt := 16) hX_ hB_ dX9_isTiedOne_12 (by decide) ?_
      exact ze_iret S hr hlocks hF hK hW rfl dX9_isTiedOne_16 (Nat.le_of_ble_eq_true rfl) (Nat.le_of_ble_eq_true rfl) (by simp only [ze_b, zf_tied, eq_false c4, eq_true c8, not_true_eq_false, not_false_eq_true, and_true, true_and, and_false, false_and, or_true, true_or, or_false, false_or, and_self, or_self, Decidable.not_not, if_true, if_false, reduceIte, reduceCtorEq, ne_eq, eq_self, Int32.lt_irrefl, Int32.le_refl, Nat.lt_irrefl]) rfl
set_option maxHeartbeats 4000000 in
set_option maxRecDepth 100000 in
theorem zr_isAhead (l : Launch) (D : va_G) (c : Nat → ClassId) (d n : Nat → Nat) (A : Nat → Nat → Int32) (B : Nat → Int64) (mk : Nat → Int32) (th : Int32) (k o : Nat) (hN : zf_N n) (hS : zf_S n A) (hk : k < n 4) (ho : o < n 4) : ze_I l yX9_isAhead wsX9_isAhead 0 0 0 0 D c (ze_wR c d n A B mk th) [.ref (d 0), .int (nI k), .int (nI o)] (ze_b (zf_ahead A mk k o)) (ze_wR c d n A B mk th) := by
  intro sz
  refine ze_start (cc := cX9_isAhead) (maxL := 3) (ret := (some .boolean)) (own := RX9) (by decide) rfl rfl (Nat.le_of_ble_eq_true rfl) ?_
  obtain ⟨hn0, hn1, hn2, hn3, hn4⟩ := id hN
  intro p e s m_ below meth cd F ls hF hsz E0
  obtain ⟨S, hr, hlocks, hK, hW, hA, hl⟩ := E0
  have hX_ := S.1
  have hB_ := S.2.1
  have hts := S.2.2.2.2
  have hl : lv_has ls 3 [(0, .ref (d 0)), (1, .int (nI k)), (2, .int (nI o))] := hl
  have hiX9 : ∀ w ∈ u_ws RX9 TX9 39, w ∈ wsX9_isAhead := fun _ h => (List.mem_cons_of_mem _ (List.mem_append_right _ h))
  have w0 := hts (.fieldLink RX9 13 "IslandgridModel" "mark" "[I") (List.mem_cons_of_mem _ (List.mem_append_left _ (List.mem_of_getElem? (i := 0) rfl)))
  have w1 := hts (.fieldLink RX9 69 "IslandgridModel" "loadSite" "[I") (List.mem_cons_of_mem _ (List.mem_append_left _ (List.mem_of_getElem? (i := 1) rfl)))
  have w2 := hts (.fieldLink RX9 75 "IslandgridModel" "rank" "[I") (List.mem_cons_of_mem _ (List.mem_append_left _ (List.mem_of_getElem? (i := 2) rfl)))
  refine lv_aload_n hX_ hB_ dX9_isAhead_0 rfl (lv_at hl 0 rfl) ?_
  refine ze_get (ci := 9) (C := RX9) (T := TX9) (N := 39) (v := .ref (d 2)) S hiX9 hK hW 0 rfl rfl 1 (by decide) rfl w0 dX9_isAhead_1 ?_
  refine lv_aload_n hX_ hB_ dX9_isAhead_4 rfl (lv_at hl 0 rfl) ?_
  refine ze_get (ci := 9) (C := RX9) (T := TX9) (N := 39) (v := .ref (d 20)) S hiX9 hK hW 0 rfl rfl 19 (by decide) rfl w1 dX9_isAhead_5 ?_
  refine lv_iload_n hX_ hB_ dX9_isAhead_8 rfl (lv_at hl 1 rfl) ?_
  refine ze_ialdN hX_ hB_ hK hW 20 (f := A 19) rfl (i := k) (by omega) (by decide) dX9_isAhead_9 ?_
  refine ze_iald hX_ hB_ hK hW 2 (f := mk) rfl (zf_in hN (hS.2.2.2 k hk)) dX9_isAhead_10 ?_
  refine lv_aload_n hX_ hB_ dX9_isAhead_11 rfl (lv_at hl 0 rfl) ?_
  refine ze_get (ci := 9) (C := RX9) (T := TX9) (N := 39) (v := .ref (d 2)) S hiX9 hK hW 0 rfl rfl 1 (by decide) rfl w0 dX9_isAhead_12 ?_
  refine lv_aload_n hX_ hB_ dX9_isAhead_15 rfl (lv_at hl 0 rfl) ?_
  refine ze_get (ci := 9) (C := RX9) (T := TX9) (N := 39) (v := .ref (d 20)) S hiX9 hK hW 0 rfl rfl 19 (by decide) rfl w1 dX9_isAhead_16 ?_
  refine lv_iload_n hX_ hB_ dX9_isAhead_19 rfl (lv_at hl 2 rfl) ?_
  refine ze_ialdN hX_ hB_ hK hW 20 (f := A 19) rfl (i := o) (by omega) (by decide) dX9_isAhead_20 ?_
  refine ze_iald hX_ hB_ hK hW 2 (f := mk) rfl (zf_in hN (hS.2.2.2 o ho)) dX9_isAhead_21 ?_
  refine lv_icmp_ne (tgt := 64) hX_ hB_ dX9_isAhead_22 (by decide) (fun c22 => ?_) (fun c22 => ?_)
  · refine lv_iconst (v := 0) hX_ hB_ dX9_isAhead_64 (by decide) ?_
    exact ze_iret S hr hlocks hF hK hW rfl dX9_isAhead_65 (Nat.le_of_ble_eq_true rfl) (Nat.le_of_ble_eq_true rfl) (by simp only [ze_b, zf_ahead, eq_false c22, not_true_eq_false, not_false_eq_true, and_true, true_and, and_false, false_and, or_true, true_or, or_false, false_or, and_self, or_self, Decidable.not_not, if_true, if_false, reduceIte, reduceCtorEq, ne_eq, eq_self, Int32.lt_irrefl, Int32.le_refl, Nat.lt_irrefl]) rfl
  · refine lv_aload_n hX_ hB_ dX9_isAhead_25 rfl (lv_at hl 0 rfl) ?_
    refine ze_get (ci := 9) (C := RX9) (T := TX9) (N := 39) (v := .ref (d 22)) S hiX9 hK hW 0 rfl rfl 21 (by decide) rfl w2 dX9_isAhead_26 ?_
    refine lv_iload_n hX_ hB_ dX9_isAhead_29 rfl (lv_at hl 1 rfl) ?_
    refine ze_ialdN hX_ hB_ hK hW 22 (f := A 21) rfl (i := k) (by omega) (by decide) dX9_isAhead_30 ?_
    refine lv_aload_n hX_ hB_ dX9_isAhead_31 rfl (lv_at hl 0 rfl) ?_
    refine ze_get (ci := 9) (C := RX9) (T := TX9) (N := 39) (v := .ref (d 22)) S hiX9 hK hW 0 rfl rfl 21 (by decide) rfl w2 dX9_isAhead_32 ?_
    refine lv_iload_n hX_ hB_ dX9_isAhead_35 rfl (lv_at hl 2 rfl) ?_
    refine ze_ialdN hX_ hB_ hK hW 22 (f := A 21) rfl (i := o) (by omega) (by decide) dX9_isAhead_36 ?_
    refine lv_icmp_lt (tgt := 60) hX_ hB_ dX9_isAhead_37 (by decide) (fun c37 => ?_) (fun c37 => ?_)
    · refine lv_iconst (v := 1) hX_ hB_ dX9_isAhead_60 (by decide) ?_
      refine lv_goto (tgt := 65) hX_ hB_ dX9_isAhead_61 (by decide) ?_
      exact ze_iret S hr hlocks hF hK hW rfl dX9_isAhead_65 (Nat.le_of_ble_eq_true rfl) (Nat.le_of_ble_eq_true rfl) (by simp only [ze_b, zf_ahead, eq_true c22, eq_true c37, not_true_eq_false, not_false_eq_true, and_true, true_and, and_false, false_and, or_true, true_or, or_false, false_or, and_self, or_self, Decidable.not_not, if_true, if_false, reduceIte, reduceCtorEq, ne_eq, eq_self, Int32.lt_irrefl, Int32.le_refl, Nat.lt_irrefl]) rfl
    · refine lv_aload_n hX_ hB_ dX9_isAhead_40 rfl (lv_at hl 0 rfl) ?_
      refine ze_get (ci := 9) (C := RX9) (T := TX9) (N := 39) (v := .ref (d 22)) S hiX9 hK hW 0 rfl rfl 21 (by decide) rfl w2 dX9_isAhead_41 ?_
      refine lv_iload_n hX_ hB_ dX9_isAhead_44 rfl (lv_at hl 1 rfl) ?_
      refine ze_ialdN hX_ hB_ hK hW 22 (f := A 21) rfl (i := k) (by omega) (by decide) dX9_isAhead_45 ?_
      refine lv_aload_n hX_ hB_ dX9_isAhead_46 rfl (lv_at hl 0 rfl) ?_
      refine ze_get (ci := 9) (C := RX9) (T := TX9) (N := 39) (v := .ref (d 22)) S hiX9 hK hW 0 rfl rfl 21 (by decide) rfl w2 dX9_isAhead_47 ?_
      refine lv_iload_n hX_ hB_ dX9_isAhead_50 rfl (lv_at hl 2 rfl) ?_
      refine ze_ialdN hX_ hB_ hK hW 22 (f := A 21) rfl (i := o) (by omega) (by decide) dX9_isAhead_51 ?_
      refine lv_icmp_ne (tgt := 64) hX_ hB_ dX9_isAhead_52 (by decide) (fun c52 => ?_) (fun c52 => ?_)
      · refine lv_iconst (v := 0) hX_ hB_ dX9_isAhead_64 (by decide) ?_
        exact ze_iret S hr hlocks hF hK hW rfl dX9_isAhead_65 (Nat.le_of_ble_eq_true rfl) (Nat.le_of_ble_eq_true rfl) (by simp only [ze_b, zf_ahead, eq_true c22, eq_false c37, eq_false c52, not_true_eq_false, not_false_eq_true, and_true, true_and, and_false, false_and, or_true, true_or, or_false, false_or, and_self, or_self, Decidable.not_not, if_true, if_false, reduceIte, reduceCtorEq, ne_eq, eq_self, Int32.lt_irrefl, Int32.le_refl, Nat.lt_irrefl]) rfl
      · refine lv_iload_n hX_ hB_ dX9_isAhead_55 rfl (lv_at hl 1 rfl) ?_
        refine lv_iload_n hX_ hB_ dX9_isAhead_56 rfl (lv_at hl 2 rfl) ?_
        refine lv_icmp_ge (tgt := 64) hX_ hB_ dX9_isAhead_57 (by decide) (fun c57 => ?_) (fun c57 => ?_)
        · have c57 : ¬ k < o := Nat.not_lt.mpr ((nI_leI (a := o) (b := k) (by omega) (by omega)).mp c57)
          refine lv_iconst (v := 0) hX_ hB_ dX9_isAhead_64 (by decide) ?_
          exact ze_iret S hr hlocks hF hK hW rfl dX9_isAhead_65 (Nat.le_of_ble_eq_true rfl) (Nat.le_of_ble_eq_true rfl) (by simp only [ze_b, zf_ahead, eq_true c22, eq_false c37, eq_true c52, eq_false c57, not_true_eq_false, not_false_eq_true, and_true, true_and, and_false, false_and, or_true, true_or, or_false, false_or, and_self, or_self, Decidable.not_not, if_true, if_false, reduceIte, reduceCtorEq, ne_eq, eq_self, Int32.lt_irrefl, Int32.le_refl, Nat.lt_irrefl]) rfl
        · have c57 : k < o := Nat.lt_of_not_le (fun h9 => c57 ((nI_leI (a := o) (b := k) (by omega) (by omega)).mpr h9))
          refine lv_iconst (v := 1) hX_ hB_ dX9_isAhead_60 (by decide) ?_
          refine lv_goto (tgt := 65) hX_ hB_ dX9_isAhead_61 (by decide) ?_
          exact ze_iret S hr hlocks hF hK hW rfl dX9_isAhead_65 (Nat.le_of_ble_eq_true rfl) (Nat.le_of_ble_eq_true rfl) (by simp only [ze_b, zf_ahead, eq_true c22, eq_false c37, eq_true c52, eq_true c57, not_true_eq_false, not_false_eq_true, and_true, true_and, and_false, false_and, or_true, true_or, or_false, false_or, and_self, or_self, Decidable.not_not, if_true, if_false, reduceIte, reduceCtorEq, ne_eq, eq_self, Int32.lt_irrefl, Int32.le_refl, Nat.lt_irrefl]) rfl
set_option maxHeartbeats 4000000 in
set_option maxRecDepth 100000 in
theorem zr_demanded (l : Launch) (D : va_G) (c : Nat → ClassId) (d n : Nat → Nat) (A : Nat → Nat → Int32) (B : Nat → Int64) (mk : Nat → Int32) (th : Int32) (m : Int32) (hN : zf_N n) (hS : zf_S n A) : ze_I l yX9_demanded wsX9_demanded 0 0 0 0 D c (ze_wR c d n A B mk th) [.ref (d 0), .int m] (zf_demanded A mk m (n 4)) (ze_wR c d n A B mk th) := by
  intro sz
  refine ze_start (cc := cX9_demanded) (maxL := 4) (ret := (some .int)) (own := RX9) (by decide) rfl rfl (Nat.le_of_ble_eq_true rfl) ?_
  obtain ⟨hn0, hn1, hn2, hn3, hn4⟩ := id hN
  intro p e s m_ below meth cd F ls hF hsz E0
  obtain ⟨S, hr, hlocks, hK, hW, hA, hl⟩ := E0
  have hX_ := S.1
  have hB_ := S.2.1
  have hts := S.2.2.2.2
  have hl : lv_has ls 4 [(0, .ref (d 0)), (1, .int m)] := hl
  have hiX9 : ∀ w ∈ u_ws RX9 TX9 39, w ∈ wsX9_demanded := fun _ h => (List.mem_cons_of_mem _ (List.mem_append_right _ h))
  have w0 := hts (.fieldLink RX9 108 "IslandgridModel" "loads" "I") (List.mem_cons_of_mem _ (List.mem_append_left _ (List.mem_of_getElem? (i := 0) rfl)))
  have w1 := hts (.fieldLink RX9 13 "IslandgridModel" "mark" "[I") (List.mem_cons_of_mem _ (List.mem_append_left _ (List.mem_of_getElem? (i := 1) rfl)))
  have w2 := hts (.fieldLink RX9 69 "IslandgridModel" "loadSite" "[I") (List.mem_cons_of_mem _ (List.mem_append_left _ (List.mem_of_getElem? (i := 2) rfl)))
  have w3 := hts (.fieldLink RX9 26 "IslandgridModel" "isDark" "[Z") (List.mem_cons_of_mem _ (List.mem_append_left _ (List.mem_of_getElem? (i := 3) rfl)))
  have w4 := hts (.fieldLink RX9 72 "IslandgridModel" "power" "[I") (List.mem_cons_of_mem _ (List.mem_append_left _ (List.mem_of_getElem? (i := 4) rfl)))
  refine lv_iconst (v := 0) hX_ hB_ dX9_demanded_0 (by decide) ?_
  refine lv_istore_n (lv' := [(2, .int 0), (0, .ref (d 0)), (1, .int m)]) hX_ hB_ dX9_demanded_1 rfl hl (by decide) rfl (fun ls hl => ?_)
  refine lv_iconst (v := 0) hX_ hB_ dX9_demanded_2 (by decide) ?_
  refine lv_istore_n (lv' := [(3, .int 0), (2, .int 0), (0, .ref (d 0)), (1, .int m)]) hX_ hB_ dX9_demanded_3 rfl hl (by decide) rfl (fun ls hl => ?_)
  have L4 : ∀ (k4 : Nat) (i4 : Nat), (i4 ≤ n 4) → (n 4 - i4) < k4 → ∀ (H : Heap) (locs : List Loc) (ls : Array Slot), ze_W D (ze_wR c d n A B mk th) F s.heap H locs → lv_has ls 4 [(3, .int (nI i4)), (2, .int (zf_demanded A mk m i4)), (0, .ref (d 0)), (1, .int m)] → W p l e { frames := 0, cells := 0, slots := 0, locals := 0 } s m_ ([.ref (d 0), .int m] : List Value).toArray below meth cd H locs 0 0 (MQ below (ze_Qi D c (ze_wR c d n A B mk th) sz (zf_demanded A mk m (n 4)) (ze_wR c d n A B mk th)) ([.ref (d 0), .int m] : List Value).toArray s 0 0 F) (F0 m_ 4 ls []) := by
    intro k4
    induction k4 with
    | zero =>
      intro i4 h4 hk4
      exact absurd hk4 (Nat.not_lt_zero _)
    | succ k4 ih4 =>
      intro i4 h4 hk4 H locs ls hW hl
      refine lv_iload_n hX_ hB_ dX9_demanded_4 rfl (lv_at hl 0 rfl) ?_
      refine lv_aload_n hX_ hB_ dX9_demanded_5 rfl (lv_at hl 2 rfl) ?_
      refine ze_get (ci := 9) (C := RX9) (T := TX9) (N := 39) (v := .int (nI (n 4))) S hiX9 hK hW 0 rfl rfl 27 (by decide) rfl w0 dX9_demanded_6 ?_
      refine lv_icmp_ge (tgt := 55) hX_ hB_ dX9_demanded_9 (by decide) (fun c9 => ?_) (fun c9 => ?_)
      · have c9 : ¬ i4 < (n 4) := Nat.not_lt.mpr ((nI_leI (a := (n 4)) (b := i4) (by omega) (by omega)).mp c9)
        have e4 : i4 = n 4 := by omega
        subst e4
        refine lv_iload_n hX_ hB_ dX9_demanded_55 rfl (lv_at hl 1 rfl) ?_
        exact ze_iret S hr hlocks hF hK hW rfl dX9_demanded_56 (Nat.le_of_ble_eq_true rfl) (Nat.le_of_ble_eq_true rfl) rfl rfl
      · have c9 : i4 < (n 4) := Nat.lt_of_not_le (fun h9 => c9 ((nI_leI (a := (n 4)) (b := i4) (by omega) (by omega)).mpr h9))
        refine lv_iload_n hX_ hB_ dX9_demanded_12 rfl (lv_at hl 1 rfl) ?_
        refine lv_aload_n hX_ hB_ dX9_demanded_13 rfl (lv_at hl 2 rfl) ?_
        refine ze_get (ci := 9) (C := RX9) (T := TX9) (N := 39) (v := .ref (d 2)) S hiX9 hK hW 0 rfl rfl 1 (by decide) rfl w1 dX9_demanded_14 ?_
        refine lv_aload_n hX_ hB_ dX9_demanded_17 rfl (lv_at hl 2 rfl) ?_
        refine ze_get (ci := 9) (C := RX9) (T := TX9) (N := 39) (v := .ref (d 20)) S hiX9 hK hW 0 rfl rfl 19 (by decide) rfl w2 dX9_demanded_18 ?_
        refine lv_iload_n hX_ hB_ dX9_demanded_21 rfl (lv_at hl 0 rfl) ?_
        refine ze_ialdN hX_ hB_ hK hW 20 (f := A 19) rfl (i := i4) (by omega) (by decide) dX9_demanded_22 ?_
        refine ze_iald hX_ hB_ hK hW 2 (f := mk) rfl (zf_in hN (hS.2.2.2 i4 (by omega))) dX9_demanded_23 ?_
        refine lv_iload_n hX_ hB_ dX9_demanded_24 rfl (lv_at hl 3 rfl) ?_
        refine lv_icmp_ne (tgt := 46) hX_ hB_ dX9_demanded_25 (by decide) (fun c25 => ?_) (fun c25 => ?_)
        · refine lv_iconst (v := 0) hX_ hB_ dX9_demanded_46 (by decide) ?_
          refine lv_iadd hX_ hB_ dX9_demanded_47 ?_
          refine lv_istore_n (lv' := [(2, .int (zf_demanded A mk m i4 + 0)), (3, .int (nI i4)), (0, .ref (d 0)), (1, .int m)]) hX_ hB_ dX9_demanded_48 rfl hl (by decide) rfl (fun ls hl => ?_)
          refine lv_iinc (v := nI (i4 + 1)) (lv' := [(3, .int (nI (i4 + 1))), (2, .int (zf_demanded A mk m i4 + 0)), (0, .ref (d 0)), (1, .int m)]) hX_ hB_ dX9_demanded_49 hl (k := 1) rfl (ze_inc _) (by decide) rfl (fun ls hl => ?_)
          refine lv_goto (tgt := 4) hX_ hB_ dX9_demanded_52 (by decide) ?_
          have eL2 : zf_demanded A mk m i4 + 0 = zf_demanded A mk m (i4 + 1) := (by simp only [ze_b, zf_demanded, ze_sum, eq_true c9, eq_false c25, not_true_eq_false, not_false_eq_true, and_true, true_and, and_false, false_and, or_true, true_or, or_false, false_or, and_self, or_self, Decidable.not_not, if_true, if_false, reduceIte, reduceCtorEq, ne_eq, eq_self, Int32.lt_irrefl, Int32.le_refl, Nat.lt_irrefl])
          have hl : lv_has ls 4 [(3, .int (nI (i4 + 1))), (2, .int (zf_demanded A mk m (i4 + 1))), (0, .ref (d 0)), (1, .int m)] := by
            first | (rw [← eL2]; exact hl) | (simp only [← eL2]; exact hl)
          exact ih4 (i4 + 1) (by omega) (by omega) _ _ ls hW (lv_sub hl [0, 1, 2, 3] rfl)
        · refine lv_aload_n hX_ hB_ dX9_demanded_28 rfl (lv_at hl 2 rfl) ?_
          refine ze_get (ci := 9) (C := RX9) (T := TX9) (N := 39) (v := .ref (d 6)) S hiX9 hK hW 0 rfl rfl 5 (by decide) rfl w3 dX9_demanded_29 ?_
          refine lv_iload_n hX_ hB_ dX9_demanded_32 rfl (lv_at hl 0 rfl) ?_
          refine ze_zaldN hX_ hB_ hK hW 6 (f := A 5) rfl (i := i4) (by omega) (by decide) dX9_demanded_33 ?_
          refine lv_if_ne (tgt := 46) hX_ hB_ dX9_demanded_34 (by decide) (fun c34 => ?_) (fun c34 => ?_)
          · refine lv_iconst (v := 0) hX_ hB_ dX9_demanded_46 (by decide) ?_
            refine lv_iadd hX_ hB_ dX9_demanded_47 ?_
            refine lv_istore_n (lv' := [(2, .int (zf_demanded A mk m i4 + 0)), (3, .int (nI i4)), (0, .ref (d 0)), (1, .int m)]) hX_ hB_ dX9_demanded_48 rfl hl (by decide) rfl (fun ls hl => ?_)
            refine lv_iinc (v := nI (i4 + 1)) (lv' := [(3, .int (nI (i4 + 1))), (2, .int (zf_demanded A mk m i4 + 0)), (0, .ref (d 0)), (1, .int m)]) hX_ hB_ dX9_demanded_49 hl (k := 1) rfl (ze_inc _) (by decide) rfl (fun ls hl => ?_)
            refine lv_goto (tgt := 4) hX_ hB_ dX9_demanded_52 (by decide) ?_
            have eL2 : zf_demanded A mk m i4 + 0 = zf_demanded A mk m (i4 + 1) := (by simp only [ze_b, zf_demanded, ze_sum, eq_true c9, eq_true c25, eq_false c34, not_true_eq_false, not_false_eq_true, and_true, true_and, and_false, false_and, or_true, true_or, or_false, false_or, and_self, or_self, Decidable.not_not, if_true, if_false, reduceIte, reduceCtorEq, ne_eq, eq_self, Int32.lt_irrefl, Int32.le_refl, Nat.lt_irrefl])
            have hl : lv_has ls 4 [(3, .int (nI (i4 + 1))), (2, .int (zf_demanded A mk m (i4 + 1))), (0, .ref (d 0)), (1, .int m)] := by
              first | (rw [← eL2]; exact hl) | (simp only [← eL2]; exact hl)
            exact ih4 (i4 + 1) (by omega) (by omega) _ _ ls hW (lv_sub hl [0, 1, 2, 3] rfl)
          · refine lv_aload_n hX_ hB_ dX9_demanded_37 rfl (lv_at hl 2 rfl) ?_
            refine ze_get (ci := 9) (C := RX9) (T := TX9) (N := 39) (v := .ref (d 21)) S hiX9 hK hW 0 rfl rfl 20 (by decide) rfl w4 dX9_demanded_38 ?_
            refine lv_iload_n hX_ hB_ dX9_demanded_41 rfl (lv_at hl 0 rfl) ?_
            refine ze_ialdN hX_ hB_ hK hW 21 (f := A 20) rfl (i := i4) (by omega) (by decide) dX9_demanded_42 ?_
            refine lv_goto (tgt := 47) hX_ hB_ dX9_demanded_43 (by decide) ?_
            refine lv_iadd hX_ hB_ dX9_demanded_47 ?_
            refine lv_istore_n (lv' := [(2, .int (zf_demanded A mk m i4 + A 20 i4)), (3, .int (nI i4)), (0, .ref (d 0)), (1, .int m)]) hX_ hB_ dX9_demanded_48 rfl hl (by decide) rfl (fun ls hl => ?_)
            refine lv_iinc (v := nI (i4 + 1)) (lv' := [(3, .int (nI (i4 + 1))), (2, .int (zf_demanded A mk m i4 + A 20 i4)), (0, .ref (d 0)), (1, .int m)]) hX_ hB_ dX9_demanded_49 hl (k := 1) rfl (ze_inc _) (by decide) rfl (fun ls hl => ?_)
            refine lv_goto (tgt := 4) hX_ hB_ dX9_demanded_52 (by decide) ?_
            have eL2 : zf_demanded A mk m i4 + A 20 i4 = zf_demanded A mk m (i4 + 1) := (by simp only [ze_b, zf_demanded, ze_sum, eq_true c9, eq_true c25, eq_true c34, not_true_eq_false, not_false_eq_true, and_true, true_and, and_false, false_and, or_true, true_or, or_false, false_or, and_self, or_self, Decidable.not_not, if_true, if_false, reduceIte, reduceCtorEq, ne_eq, eq_self, Int32.lt_irrefl, Int32.le_refl, Nat.lt_irrefl])
            have hl : lv_has ls 4 [(3, .int (nI (i4 + 1))), (2, .int (zf_demanded A mk m (i4 + 1))), (0, .ref (d 0)), (1, .int m)] := by
              first | (rw [← eL2]; exact hl) | (simp only [← eL2]; exact hl)
            exact ih4 (i4 + 1) (by omega) (by omega) _ _ ls hW (lv_sub hl [0, 1, 2, 3] rfl)
  have hl : lv_has ls 4 [(3, .int (nI 0)), (2, .int (zf_demanded A mk m 0)), (0, .ref (d 0)), (1, .int m)] := hl
  have hW : ze_W D (ze_wR c d n A B mk th) F s.heap _ _ := hW
  exact L4 _ 0 (by omega) (Nat.lt_succ_self _) _ _ ls hW (lv_sub hl [0, 1, 2, 3] rfl)
set_option maxHeartbeats 4000000 in
set_option maxRecDepth 100000 in
theorem zr_keeps (l : Launch) (D : va_G) (c : Nat → ClassId) (d n : Nat → Nat) (A : Nat → Nat → Int32) (B : Nat → Int64) (mk : Nat → Int32) (th : Int32) (o : Nat) (hN : zf_N n) (hS : zf_S n A) (ho : o < n 4) : ze_I l yX9_keeps wsX9_keeps 2 45 0 0 D c (ze_wR c d n A B mk th) [.ref (d 0), .int (nI o)] (ze_b (zf_keeps n A mk o)) (ze_wR c d n A B mk th) := by
  intro sz
  refine ze_start (cc := cX9_keeps) (maxL := 5) (ret := (some .boolean)) (own := RX9) (by decide) rfl rfl (Nat.le_of_ble_eq_true rfl) ?_
  obtain ⟨hn0, hn1, hn2, hn3, hn4⟩ := id hN
  intro p e s m_ below meth cd F ls hF hsz E0
  obtain ⟨S, hr, hlocks, hK, hW, hA, hl⟩ := E0
  have hX_ := S.1
  have hB_ := S.2.1
  have hts := S.2.2.2.2
  have hl : lv_has ls 5 [(0, .ref (d 0)), (1, .int (nI o))] := hl
  have hiX9 : ∀ w ∈ u_ws RX9 TX9 39, w ∈ wsX9_keeps := fun _ h => (List.mem_cons_of_mem _ (List.mem_append_right _ h))
  have w0 := hts (.fieldLink RX9 13 "IslandgridModel" "mark" "[I") (List.mem_cons_of_mem _ (List.mem_append_left _ (List.mem_append_left _ (List.mem_of_getElem? (i := 0) rfl))))
  have w1 := hts (.fieldLink RX9 69 "IslandgridModel" "loadSite" "[I") (List.mem_cons_of_mem _ (List.mem_append_left _ (List.mem_append_left _ (List.mem_of_getElem? (i := 1) rfl))))
  have w2 := hts (.fieldLink RX9 72 "IslandgridModel" "power" "[I") (List.mem_cons_of_mem _ (List.mem_append_left _ (List.mem_append_left _ (List.mem_of_getElem? (i := 2) rfl))))
  have w3 := hts (.fieldLink RX9 108 "IslandgridModel" "loads" "I") (List.mem_cons_of_mem _ (List.mem_append_left _ (List.mem_append_left _ (List.mem_of_getElem? (i := 3) rfl))))
  refine lv_aload_n hX_ hB_ dX9_keeps_0 rfl (lv_at hl 0 rfl) ?_
  refine ze_get (ci := 9) (C := RX9) (T := TX9) (N := 39) (v := .ref (d 2)) S hiX9 hK hW 0 rfl rfl 1 (by decide) rfl w0 dX9_keeps_1 ?_
  refine lv_aload_n hX_ hB_ dX9_keeps_4 rfl (lv_at hl 0 rfl) ?_
  refine ze_get (ci := 9) (C := RX9) (T := TX9) (N := 39) (v := .ref (d 20)) S hiX9 hK hW 0 rfl rfl 19 (by decide) rfl w1 dX9_keeps_5 ?_
  refine lv_iload_n hX_ hB_ dX9_keeps_8 rfl (lv_at hl 1 rfl) ?_
  refine ze_ialdN hX_ hB_ hK hW 20 (f := A 19) rfl (i := o) (by omega) (by decide) dX9_keeps_9 ?_
  refine ze_iald hX_ hB_ hK hW 2 (f := mk) rfl (zf_in hN (hS.2.2.2 o ho)) dX9_keeps_10 ?_
  refine lv_istore_n (lv' := [(2, .int (mk (ze_ix (A 19 o)))), (0, .ref (d 0)), (1, .int (nI o))]) hX_ hB_ dX9_keeps_11 rfl hl (by decide) rfl (fun ls hl => ?_)
  refine lv_aload_n hX_ hB_ dX9_keeps_12 rfl (lv_at hl 1 rfl) ?_
  refine ze_get (ci := 9) (C := RX9) (T := TX9) (N := 39) (v := .ref (d 21)) S hiX9 hK hW 0 rfl rfl 20 (by decide) rfl w2 dX9_keeps_13 ?_
  refine lv_iload_n hX_ hB_ dX9_keeps_16 rfl (lv_at hl 2 rfl) ?_
  refine ze_ialdN hX_ hB_ hK hW 21 (f := A 20) rfl (i := o) (by omega) (by decide) dX9_keeps_17 ?_
  refine lv_istore_n (lv' := [(3, .int (A 20 o)), (2, .int (mk (ze_ix (A 19 o)))), (0, .ref (d 0)), (1, .int (nI o))]) hX_ hB_ dX9_keeps_18 rfl hl (by decide) rfl (fun ls hl => ?_)
  refine lv_iconst (v := 0) hX_ hB_ dX9_keeps_19 (by decide) ?_
  refine lv_istore (lv' := [(4, .int 0), (3, .int (A 20 o)), (2, .int (mk (ze_ix (A 19 o)))), (0, .ref (d 0)), (1, .int (nI o))]) hX_ hB_ dX9_keeps_20 hl (by decide) rfl (fun ls hl => ?_)
  have L22 : ∀ (k22 : Nat) (i22 : Nat), (i22 ≤ n 4) → (n 4 - i22) < k22 → ∀ (H : Heap) (locs : List Loc) (ls : Array Slot), ze_W D (ze_wR c d n A B mk th) F s.heap H locs → lv_has ls 5 [(4, .int (nI i22)), (3, .int (zf_upTo A mk o i22)), (2, .int (mk (ze_ix (A 19 o)))), (0, .ref (d 0)), (1, .int (nI o))] → W p l e { frames := 2, cells := 0, slots := 0, locals := 45 } s m_ ([.ref (d 0), .int (nI o)] : List Value).toArray below meth cd H locs 0 0 (MQ below (ze_Qi D c (ze_wR c d n A B mk th) sz (ze_b (zf_keeps n A mk o)) (ze_wR c d n A B mk th)) ([.ref (d 0), .int (nI o)] : List Value).toArray s 0 0 F) (F0 m_ 22 ls []) := by
    intro k22
    induction k22 with
    | zero =>
      intro i22 h22 hk22
      exact absurd hk22 (Nat.not_lt_zero _)
    | succ k22 ih22 =>
      intro i22 h22 hk22 H locs ls hW hl
      refine lv_iload hX_ hB_ dX9_keeps_22 (lv_at hl 0 rfl) ?_
      refine lv_aload_n hX_ hB_ dX9_keeps_24 rfl (lv_at hl 3 rfl) ?_
      refine ze_get (ci := 9) (C := RX9) (T := TX9) (N := 39) (v := .int (nI (n 4))) S hiX9 hK hW 0 rfl rfl 27 (by decide) rfl w3 dX9_keeps_25 ?_
      refine lv_icmp_ge (tgt := 61) hX_ hB_ dX9_keeps_28 (by decide) (fun c28 => ?_) (fun c28 => ?_)
      · have c28 : ¬ i22 < (n 4) := Nat.not_lt.mpr ((nI_leI (a := (n 4)) (b := i22) (by omega) (by omega)).mp c28)
        have e22 : i22 = n 4 := by omega
        subst e22
        refine lv_aload_n hX_ hB_ dX9_keeps_61 rfl (lv_at hl 3 rfl) ?_
        refine lv_iload_n hX_ hB_ dX9_keeps_62 rfl (lv_at hl 2 rfl) ?_
        refine ze_Vi (As := [.int (mk (ze_ix (A 19 o)))]) (rest := []) (ci := 9) (q0 := 0) (k := (RX9, TX9, 39)) S (zr_isTiedOne l D c d n A B mk th (mk (ze_ix (A 19 o)))) (cwV 1 hts gX9_keeps_X9_isTiedOne rfl rfl rfl (by decide +kernel) ⟨Nat.le_of_ble_eq_true rfl, Nat.le_of_ble_eq_true rfl⟩) hK hW hA rfl rfl rfl hl.1 rfl (lv_room (Nat.le_of_ble_eq_true rfl)) dX9_keeps_63 ⟨Nat.le_of_ble_eq_true rfl, Nat.le_of_ble_eq_true rfl⟩ (fun H locs hW => ?_)
        refine lv_if_ne (tgt := 78) hX_ hB_ dX9_keeps_66 (by decide) (fun c66 => ?_) (fun c66 => ?_)
        · have c66 : zf_tied A (mk (ze_ix (A 19 o))) := ze_bt c66
          refine lv_iconst (v := 1) hX_ hB_ dX9_keeps_78 (by decide) ?_
          refine lv_goto (tgt := 83) hX_ hB_ dX9_keeps_79 (by decide) ?_
          exact ze_iret S hr hlocks hF hK hW rfl dX9_keeps_83 (Nat.le_of_ble_eq_true rfl) (Nat.le_of_ble_eq_true rfl) (by simp only [ze_b, zf_keeps, eq_false c28, eq_true c66, not_true_eq_false, not_false_eq_true, and_true, true_and, and_false, false_and, or_true, true_or, or_false, false_or, and_self, or_self, Decidable.not_not, if_true, if_false, reduceIte, reduceCtorEq, ne_eq, eq_self, Int32.lt_irrefl, Int32.le_refl, Nat.lt_irrefl]) rfl
        · have c66 : ¬ (zf_tied A (mk (ze_ix (A 19 o)))) := ze_bf c66
          refine lv_iload_n hX_ hB_ dX9_keeps_69 rfl (lv_at hl 1 rfl) ?_
          refine lv_aload_n hX_ hB_ dX9_keeps_70 rfl (lv_at hl 3 rfl) ?_
          refine lv_iload_n hX_ hB_ dX9_keeps_71 rfl (lv_at hl 2 rfl) ?_
          refine ze_Vi (As := [.int (mk (ze_ix (A 19 o)))]) (rest := [.int (zf_upTo A mk o (n 4))]) (ci := 9) (q0 := 0) (k := (RX9, TX9, 39)) S (zr_bounded l D c d n A B mk th (mk (ze_ix (A 19 o))) hN hS) (cwV 1 hts gX9_keeps_X9_bounded rfl rfl rfl (by decide +kernel) ⟨Nat.le_of_ble_eq_true rfl, Nat.le_of_ble_eq_true rfl⟩) hK hW hA rfl rfl rfl hl.1 rfl (lv_room (Nat.le_of_ble_eq_true rfl)) dX9_keeps_72 ⟨Nat.le_of_ble_eq_true rfl, Nat.le_of_ble_eq_true rfl⟩ (fun H locs hW => ?_)
          refine lv_icmp_gt (tgt := 82) hX_ hB_ dX9_keeps_75 (by decide) (fun c75 => ?_) (fun c75 => ?_)
          · refine lv_iconst (v := 0) hX_ hB_ dX9_keeps_82 (by decide) ?_
            exact ze_iret S hr hlocks hF hK hW rfl dX9_keeps_83 (Nat.le_of_ble_eq_true rfl) (Nat.le_of_ble_eq_true rfl) (by simp only [ze_b, zf_keeps, eq_false c28, eq_false c66, eq_true c75, not_true_eq_false, not_false_eq_true, and_true, true_and, and_false, false_and, or_true, true_or, or_false, false_or, and_self, or_self, Decidable.not_not, if_true, if_false, reduceIte, reduceCtorEq, ne_eq, eq_self, Int32.lt_irrefl, Int32.le_refl, Nat.lt_irrefl]) rfl
          · refine lv_iconst (v := 1) hX_ hB_ dX9_keeps_78 (by decide) ?_
            refine lv_goto (tgt := 83) hX_ hB_ dX9_keeps_79 (by decide) ?_
            exact ze_iret S hr hlocks hF hK hW rfl dX9_keeps_83 (Nat.le_of_ble_eq_true rfl) (Nat.le_of_ble_eq_true rfl) (by simp only [ze_b, zf_keeps, eq_false c28, eq_false c66, eq_false c75, not_true_eq_false, not_false_eq_true, and_true, true_and, and_false, false_and, or_true, true_or, or_false, false_or, and_self, or_self, Decidable.not_not, if_true, if_false, reduceIte, reduceCtorEq, ne_eq, eq_self, Int32.lt_irrefl, Int32.le_refl, Nat.lt_irrefl]) rfl
      · have c28 : i22 < (n 4) := Nat.lt_of_not_le (fun h9 => c28 ((nI_leI (a := (n 4)) (b := i22) (by omega) (by omega)).mpr h9))
        refine lv_iload_n hX_ hB_ dX9_keeps_31 rfl (lv_at hl 1 rfl) ?_
        refine lv_aload_n hX_ hB_ dX9_keeps_32 rfl (lv_at hl 3 rfl) ?_
        refine lv_iload hX_ hB_ dX9_keeps_33 (lv_at hl 0 rfl) ?_
        refine lv_iload_n hX_ hB_ dX9_keeps_35 rfl (lv_at hl 4 rfl) ?_
        refine ze_Vi (As := [.int (nI i22), .int (nI o)]) (rest := [.int (zf_upTo A mk o i22)]) (ci := 9) (q0 := 0) (k := (RX9, TX9, 39)) S (zr_isAhead l D c d n A B mk th i22 o hN hS (by omega) (by omega)) (cwV 2 hts gX9_keeps_X9_isAhead rfl rfl rfl (by decide +kernel) ⟨Nat.le_of_ble_eq_true rfl, Nat.le_of_ble_eq_true rfl⟩) hK hW hA rfl rfl rfl hl.1 rfl (lv_room (Nat.le_of_ble_eq_true rfl)) dX9_keeps_36 ⟨Nat.le_of_ble_eq_true rfl, Nat.le_of_ble_eq_true rfl⟩ (fun H locs hW => ?_)
        refine lv_if_eq (tgt := 52) hX_ hB_ dX9_keeps_39 (by decide) (fun c39 => ?_) (fun c39 => ?_)
        · have c39 : ¬ (zf_ahead A mk i22 o) := ze_bf c39
          refine lv_iconst (v := 0) hX_ hB_ dX9_keeps_52 (by decide) ?_
          refine lv_iadd hX_ hB_ dX9_keeps_53 ?_
          refine lv_istore_n (lv' := [(3, .int (zf_upTo A mk o i22 + 0)), (4, .int (nI i22)), (2, .int (mk (ze_ix (A 19 o)))), (0, .ref (d 0)), (1, .int (nI o))]) hX_ hB_ dX9_keeps_54 rfl hl (by decide) rfl (fun ls hl => ?_)
          refine lv_iinc (v := nI (i22 + 1)) (lv' := [(4, .int (nI (i22 + 1))), (3, .int (zf_upTo A mk o i22 + 0)), (2, .int (mk (ze_ix (A 19 o)))), (0, .ref (d 0)), (1, .int (nI o))]) hX_ hB_ dX9_keeps_55 hl (k := 1) rfl (ze_inc _) (by decide) rfl (fun ls hl => ?_)
          refine lv_goto (tgt := 22) hX_ hB_ dX9_keeps_58 (by decide) ?_
          have eL3 : zf_upTo A mk o i22 + 0 = zf_upTo A mk o (i22 + 1) := (by simp only [ze_b, zf_upTo, ze_sum, eq_true c28, eq_false c39, not_true_eq_false, not_false_eq_true, and_true, true_and, and_false, false_and, or_true, true_or, or_false, false_or, and_self, or_self, Decidable.not_not, if_true, if_false, reduceIte, reduceCtorEq, ne_eq, eq_self, Int32.lt_irrefl, Int32.le_refl, Nat.lt_irrefl])
          have hl : lv_has ls 5 [(4, .int (nI (i22 + 1))), (3, .int (zf_upTo A mk o (i22 + 1))), (2, .int (mk (ze_ix (A 19 o)))), (0, .ref (d 0)), (1, .int (nI o))] := by
            first | (rw [← eL3]; exact hl) | (simp only [← eL3]; exact hl)
          exact ih22 (i22 + 1) (by omega) (by omega) _ _ ls hW (lv_sub hl [0, 1, 2, 3, 4] rfl)
        · have c39 : zf_ahead A mk i22 o := ze_bt c39
          refine lv_aload_n hX_ hB_ dX9_keeps_42 rfl (lv_at hl 3 rfl) ?_
          refine ze_get (ci := 9) (C := RX9) (T := TX9) (N := 39) (v := .ref (d 21)) S hiX9 hK hW 0 rfl rfl 20 (by decide) rfl w2 dX9_keeps_43 ?_
          refine lv_iload hX_ hB_ dX9_keeps_46 (lv_at hl 0 rfl) ?_
          refine ze_ialdN hX_ hB_ hK hW 21 (f := A 20) rfl (i := i22) (by omega) (by decide) dX9_keeps_48 ?_
          refine lv_goto (tgt := 53) hX_ hB_ dX9_keeps_49 (by decide) ?_
          refine lv_iadd hX_ hB_ dX9_keeps_53 ?_
          refine lv_istore_n (lv' := [(3, .int (zf_upTo A mk o i22 + A 20 i22)), (4, .int (nI i22)), (2, .int (mk (ze_ix (A 19 o)))), (0, .ref (d 0)), (1, .int (nI o))]) hX_ hB_ dX9_keeps_54 rfl hl (by decide) rfl (fun ls hl => ?_)
          refine lv_iinc (v := nI (i22 + 1)) (lv' := [(4, .int (nI (i22 + 1))), (3, .int (zf_upTo A mk o i22 + A 20 i22)), (2, .int (mk (ze_ix (A 19 o)))), (0, .ref (d 0)), (1, .int (nI o))]) hX_ hB_ dX9_keeps_55 hl (k := 1) rfl (ze_inc _) (by decide) rfl (fun ls hl => ?_)
          refine lv_goto (tgt := 22) hX_ hB_ dX9_keeps_58 (by decide) ?_
          have eL3 : zf_upTo A mk o i22 + A 20 i22 = zf_upTo A mk o (i22 + 1) := (by simp only [ze_b, zf_upTo, ze_sum, eq_true c28, eq_true c39, not_true_eq_false, not_false_eq_true, and_true, true_and, and_false, false_and, or_true, true_or, or_false, false_or, and_self, or_self, Decidable.not_not, if_true, if_false, reduceIte, reduceCtorEq, ne_eq, eq_self, Int32.lt_irrefl, Int32.le_refl, Nat.lt_irrefl])
          have hl : lv_has ls 5 [(4, .int (nI (i22 + 1))), (3, .int (zf_upTo A mk o (i22 + 1))), (2, .int (mk (ze_ix (A 19 o)))), (0, .ref (d 0)), (1, .int (nI o))] := by
            first | (rw [← eL3]; exact hl) | (simp only [← eL3]; exact hl)
          exact ih22 (i22 + 1) (by omega) (by omega) _ _ ls hW (lv_sub hl [0, 1, 2, 3, 4] rfl)
  have hl : lv_has ls 5 [(4, .int (nI 0)), (3, .int (zf_upTo A mk o 0)), (2, .int (mk (ze_ix (A 19 o)))), (0, .ref (d 0)), (1, .int (nI o))] := hl
  have hW : ze_W D (ze_wR c d n A B mk th) F s.heap _ _ := hW
  exact L22 _ 0 (by omega) (Nat.lt_succ_self _) _ _ ls hW (lv_sub hl [0, 1, 2, 3, 4] rfl)
set_option maxHeartbeats 4000000 in
set_option maxRecDepth 100000 in
theorem zr_firstOff (l : Launch) (D : va_G) (c : Nat → ClassId) (d n : Nat → Nat) (A : Nat → Nat → Int32) (B : Nat → Int64) (mk : Nat → Int32) (th : Int32) (o : Nat) (hN : zf_N n) (hS : zf_S n A) (ho : o < n 4) : ze_I l yX9_firstOff wsX9_firstOff 3 69 0 0 D c (ze_wR c d n A B mk th) [.ref (d 0), .int (nI o)] (nI (zf_off n A mk o (n 4))) (ze_wR c d n A B mk th) := by
  intro sz
  refine ze_start (cc := cX9_firstOff) (maxL := 4) (ret := (some .int)) (own := RX9) (by decide) rfl rfl (Nat.le_of_ble_eq_true rfl) ?_
  obtain ⟨hn0, hn1, hn2, hn3, hn4⟩ := id hN
  intro p e s m_ below meth cd F ls hF hsz E0
  obtain ⟨S, hr, hlocks, hK, hW, hA, hl⟩ := E0
  have hX_ := S.1
  have hB_ := S.2.1
  have hts := S.2.2.2.2
  have hl : lv_has ls 4 [(0, .ref (d 0)), (1, .int (nI o))] := hl
  have hiX9 : ∀ w ∈ u_ws RX9 TX9 39, w ∈ wsX9_firstOff := fun _ h => (List.mem_cons_of_mem _ (List.mem_append_right _ h))
  have w0 := hts (.fieldLink RX9 108 "IslandgridModel" "loads" "I") (List.mem_cons_of_mem _ (List.mem_append_left _ (List.mem_append_left _ (List.mem_of_getElem? (i := 0) rfl))))
  have w1 := hts (.fieldLink RX9 13 "IslandgridModel" "mark" "[I") (List.mem_cons_of_mem _ (List.mem_append_left _ (List.mem_append_left _ (List.mem_of_getElem? (i := 1) rfl))))
  have w2 := hts (.fieldLink RX9 69 "IslandgridModel" "loadSite" "[I") (List.mem_cons_of_mem _ (List.mem_append_left _ (List.mem_append_left _ (List.mem_of_getElem? (i := 2) rfl))))
  refine lv_iload_n hX_ hB_ dX9_firstOff_0 rfl (lv_at hl 1 rfl) ?_
  refine lv_istore_n (lv' := [(2, .int (nI o)), (0, .ref (d 0)), (1, .int (nI o))]) hX_ hB_ dX9_firstOff_1 rfl hl (by decide) rfl (fun ls hl => ?_)
  refine lv_iconst (v := 0) hX_ hB_ dX9_firstOff_2 (by decide) ?_
  refine lv_istore_n (lv' := [(3, .int 0), (2, .int (nI o)), (0, .ref (d 0)), (1, .int (nI o))]) hX_ hB_ dX9_firstOff_3 rfl hl (by decide) rfl (fun ls hl => ?_)
  have L4 : ∀ (k4 : Nat) (i4 : Nat), (i4 ≤ n 4) → (n 4 - i4) < k4 → ∀ (H : Heap) (locs : List Loc) (ls : Array Slot), ze_W D (ze_wR c d n A B mk th) F s.heap H locs → lv_has ls 4 [(3, .int (nI i4)), (2, .int (nI (zf_off n A mk o i4))), (0, .ref (d 0)), (1, .int (nI o))] → W p l e { frames := 3, cells := 0, slots := 0, locals := 69 } s m_ ([.ref (d 0), .int (nI o)] : List Value).toArray below meth cd H locs 0 0 (MQ below (ze_Qi D c (ze_wR c d n A B mk th) sz (nI (zf_off n A mk o (n 4))) (ze_wR c d n A B mk th)) ([.ref (d 0), .int (nI o)] : List Value).toArray s 0 0 F) (F0 m_ 4 ls []) := by
    intro k4
    induction k4 with
    | zero =>
      intro i4 h4 hk4
      exact absurd hk4 (Nat.not_lt_zero _)
    | succ k4 ih4 =>
      intro i4 h4 hk4 H locs ls hW hl
      have hb4 := zf_offlt n A mk ho (k := i4) h4
      refine lv_iload_n hX_ hB_ dX9_firstOff_4 rfl (lv_at hl 0 rfl) ?_
      refine lv_aload_n hX_ hB_ dX9_firstOff_5 rfl (lv_at hl 2 rfl) ?_
      refine ze_get (ci := 9) (C := RX9) (T := TX9) (N := 39) (v := .int (nI (n 4))) S hiX9 hK hW 0 rfl rfl 27 (by decide) rfl w0 dX9_firstOff_6 ?_
      refine lv_icmp_ge (tgt := 66) hX_ hB_ dX9_firstOff_9 (by decide) (fun c9 => ?_) (fun c9 => ?_)
      · have c9 : ¬ i4 < (n 4) := Nat.not_lt.mpr ((nI_leI (a := (n 4)) (b := i4) (by omega) (by omega)).mp c9)
        have e4 : i4 = n 4 := by omega
        subst e4
        refine lv_iload_n hX_ hB_ dX9_firstOff_66 rfl (lv_at hl 1 rfl) ?_
        exact ze_iret S hr hlocks hF hK hW rfl dX9_firstOff_67 (Nat.le_of_ble_eq_true rfl) (Nat.le_of_ble_eq_true rfl) rfl rfl
      · have c9 : i4 < (n 4) := Nat.lt_of_not_le (fun h9 => c9 ((nI_leI (a := (n 4)) (b := i4) (by omega) (by omega)).mpr h9))
        refine lv_aload_n hX_ hB_ dX9_firstOff_12 rfl (lv_at hl 2 rfl) ?_
        refine ze_get (ci := 9) (C := RX9) (T := TX9) (N := 39) (v := .ref (d 2)) S hiX9 hK hW 0 rfl rfl 1 (by decide) rfl w1 dX9_firstOff_13 ?_
        refine lv_aload_n hX_ hB_ dX9_firstOff_16 rfl (lv_at hl 2 rfl) ?_
        refine ze_get (ci := 9) (C := RX9) (T := TX9) (N := 39) (v := .ref (d 20)) S hiX9 hK hW 0 rfl rfl 19 (by decide) rfl w2 dX9_firstOff_17 ?_
        refine lv_iload_n hX_ hB_ dX9_firstOff_20 rfl (lv_at hl 0 rfl) ?_
        refine ze_ialdN hX_ hB_ hK hW 20 (f := A 19) rfl (i := i4) (by omega) (by decide) dX9_firstOff_21 ?_
        refine ze_iald hX_ hB_ hK hW 2 (f := mk) rfl (zf_in hN (hS.2.2.2 i4 (by omega))) dX9_firstOff_22 ?_
        refine lv_aload_n hX_ hB_ dX9_firstOff_23 rfl (lv_at hl 2 rfl) ?_
        refine ze_get (ci := 9) (C := RX9) (T := TX9) (N := 39) (v := .ref (d 2)) S hiX9 hK hW 0 rfl rfl 1 (by decide) rfl w1 dX9_firstOff_24 ?_
        refine lv_aload_n hX_ hB_ dX9_firstOff_27 rfl (lv_at hl 2 rfl) ?_
        refine ze_get (ci := 9) (C := RX9) (T := TX9) (N := 39) (v := .ref (d 20)) S hiX9 hK hW 0 rfl rfl 19 (by decide) rfl w2 dX9_firstOff_28 ?_
        refine lv_iload_n hX_ hB_ dX9_firstOff_31 rfl (lv_at hl 3 rfl) ?_
        refine ze_ialdN hX_ hB_ hK hW 20 (f := A 19) rfl (i := o) (by omega) (by decide) dX9_firstOff_32 ?_
        refine ze_iald hX_ hB_ hK hW 2 (f := mk) rfl (zf_in hN (hS.2.2.2 o ho)) dX9_firstOff_33 ?_
        refine lv_icmp_ne (tgt := 58) hX_ hB_ dX9_firstOff_34 (by decide) (fun c34 => ?_) (fun c34 => ?_)
        · refine lv_iload_n hX_ hB_ dX9_firstOff_58 rfl (lv_at hl 1 rfl) ?_
          refine lv_istore_n (lv' := [(2, .int (nI (zf_off n A mk o i4))), (3, .int (nI i4)), (0, .ref (d 0)), (1, .int (nI o))]) hX_ hB_ dX9_firstOff_59 rfl hl (by decide) rfl (fun ls hl => ?_)
          refine lv_iinc (v := nI (i4 + 1)) (lv' := [(3, .int (nI (i4 + 1))), (2, .int (nI (zf_off n A mk o i4))), (0, .ref (d 0)), (1, .int (nI o))]) hX_ hB_ dX9_firstOff_60 hl (k := 1) rfl (ze_inc _) (by decide) rfl (fun ls hl => ?_)
          refine lv_goto (tgt := 4) hX_ hB_ dX9_firstOff_63 (by decide) ?_
          have eL2 : nI (zf_off n A mk o i4) = nI (zf_off n A mk o (i4 + 1)) := (by simp only [ze_b, zf_off, eq_true c9, eq_false c34, not_true_eq_false, not_false_eq_true, and_true, true_and, and_false, false_and, or_true, true_or, or_false, false_or, and_self, or_self, Decidable.not_not, if_true, if_false, reduceIte, reduceCtorEq, ne_eq, eq_self, Int32.lt_irrefl, Int32.le_refl, Nat.lt_irrefl])
          have hl : lv_has ls 4 [(3, .int (nI (i4 + 1))), (2, .int (nI (zf_off n A mk o (i4 + 1)))), (0, .ref (d 0)), (1, .int (nI o))] := by
            first | (rw [← eL2]; exact hl) | (simp only [← eL2]; exact hl)
          exact ih4 (i4 + 1) (by omega) (by omega) _ _ ls hW (lv_sub hl [0, 1, 2, 3] rfl)
        · refine lv_aload_n hX_ hB_ dX9_firstOff_37 rfl (lv_at hl 2 rfl) ?_
          refine lv_iload_n hX_ hB_ dX9_firstOff_38 rfl (lv_at hl 0 rfl) ?_
          refine ze_Vi (As := [.int (nI i4)]) (rest := []) (ci := 9) (q0 := 0) (k := (RX9, TX9, 39)) S (zr_keeps l D c d n A B mk th i4 hN hS (by omega)) (cwV 1 hts gX9_firstOff_X9_keeps rfl rfl rfl (by decide +kernel) ⟨Nat.le_of_ble_eq_true rfl, Nat.le_of_ble_eq_true rfl⟩) hK hW hA rfl rfl rfl hl.1 rfl (lv_room (Nat.le_of_ble_eq_true rfl)) dX9_firstOff_39 ⟨Nat.le_of_ble_eq_true rfl, Nat.le_of_ble_eq_true rfl⟩ (fun H locs hW => ?_)
          refine lv_if_ne (tgt := 58) hX_ hB_ dX9_firstOff_42 (by decide) (fun c42 => ?_) (fun c42 => ?_)
          · have c42 : zf_keeps n A mk i4 := ze_bt c42
            refine lv_iload_n hX_ hB_ dX9_firstOff_58 rfl (lv_at hl 1 rfl) ?_
            refine lv_istore_n (lv' := [(2, .int (nI (zf_off n A mk o i4))), (3, .int (nI i4)), (0, .ref (d 0)), (1, .int (nI o))]) hX_ hB_ dX9_firstOff_59 rfl hl (by decide) rfl (fun ls hl => ?_)
            refine lv_iinc (v := nI (i4 + 1)) (lv' := [(3, .int (nI (i4 + 1))), (2, .int (nI (zf_off n A mk o i4))), (0, .ref (d 0)), (1, .int (nI o))]) hX_ hB_ dX9_firstOff_60 hl (k := 1) rfl (ze_inc _) (by decide) rfl (fun ls hl => ?_)
            refine lv_goto (tgt := 4) hX_ hB_ dX9_firstOff_63 (by decide) ?_
            have eL2 : nI (zf_off n A mk o i4) = nI (zf_off n A mk o (i4 + 1)) := (by simp only [ze_b, zf_off, eq_true c9, eq_true c34, eq_true c42, not_true_eq_false, not_false_eq_true, and_true, true_and, and_false, false_and, or_true, true_or, or_false, false_or, and_self, or_self, Decidable.not_not, if_true, if_false, reduceIte, reduceCtorEq, ne_eq, eq_self, Int32.lt_irrefl, Int32.le_refl, Nat.lt_irrefl])
            have hl : lv_has ls 4 [(3, .int (nI (i4 + 1))), (2, .int (nI (zf_off n A mk o (i4 + 1)))), (0, .ref (d 0)), (1, .int (nI o))] := by
              first | (rw [← eL2]; exact hl) | (simp only [← eL2]; exact hl)
            exact ih4 (i4 + 1) (by omega) (by omega) _ _ ls hW (lv_sub hl [0, 1, 2, 3] rfl)
          · have c42 : ¬ (zf_keeps n A mk i4) := ze_bf c42
            refine lv_aload_n hX_ hB_ dX9_firstOff_45 rfl (lv_at hl 2 rfl) ?_
            refine lv_iload_n hX_ hB_ dX9_firstOff_46 rfl (lv_at hl 0 rfl) ?_
            refine lv_iload_n hX_ hB_ dX9_firstOff_47 rfl (lv_at hl 1 rfl) ?_
            refine ze_Vi (As := [.int (nI i4), .int (nI (zf_off n A mk o i4))]) (rest := []) (ci := 9) (q0 := 0) (k := (RX9, TX9, 39)) S (zr_isAhead l D c d n A B mk th i4 (zf_off n A mk o i4) hN hS (by omega) (by omega)) (cwV 2 hts gX9_firstOff_X9_isAhead rfl rfl rfl (by decide +kernel) ⟨Nat.le_of_ble_eq_true rfl, Nat.le_of_ble_eq_true rfl⟩) hK hW hA rfl rfl rfl hl.1 rfl (lv_room (Nat.le_of_ble_eq_true rfl)) dX9_firstOff_48 ⟨Nat.le_of_ble_eq_true rfl, Nat.le_of_ble_eq_true rfl⟩ (fun H locs hW => ?_)
            refine lv_if_eq (tgt := 58) hX_ hB_ dX9_firstOff_51 (by decide) (fun c51 => ?_) (fun c51 => ?_)
            · have c51 : ¬ (zf_ahead A mk i4 (zf_off n A mk o i4)) := ze_bf c51
              refine lv_iload_n hX_ hB_ dX9_firstOff_58 rfl (lv_at hl 1 rfl) ?_
              refine lv_istore_n (lv' := [(2, .int (nI (zf_off n A mk o i4))), (3, .int (nI i4)), (0, .ref (d 0)), (1, .int (nI o))]) hX_ hB_ dX9_firstOff_59 rfl hl (by decide) rfl (fun ls hl => ?_)
              refine lv_iinc (v := nI (i4 + 1)) (lv' := [(3, .int (nI (i4 + 1))), (2, .int (nI (zf_off n A mk o i4))), (0, .ref (d 0)), (1, .int (nI o))]) hX_ hB_ dX9_firstOff_60 hl (k := 1) rfl (ze_inc _) (by decide) rfl (fun ls hl => ?_)
              refine lv_goto (tgt := 4) hX_ hB_ dX9_firstOff_63 (by decide) ?_
              have eL2 : nI (zf_off n A mk o i4) = nI (zf_off n A mk o (i4 + 1)) := (by simp only [ze_b, zf_off, eq_true c9, eq_true c34, eq_false c42, eq_false c51, not_true_eq_false, not_false_eq_true, and_true, true_and, and_false, false_and, or_true, true_or, or_false, false_or, and_self, or_self, Decidable.not_not, if_true, if_false, reduceIte, reduceCtorEq, ne_eq, eq_self, Int32.lt_irrefl, Int32.le_refl, Nat.lt_irrefl])
              have hl : lv_has ls 4 [(3, .int (nI (i4 + 1))), (2, .int (nI (zf_off n A mk o (i4 + 1)))), (0, .ref (d 0)), (1, .int (nI o))] := by
                first | (rw [← eL2]; exact hl) | (simp only [← eL2]; exact hl)
              exact ih4 (i4 + 1) (by omega) (by omega) _ _ ls hW (lv_sub hl [0, 1, 2, 3] rfl)
            · have c51 : zf_ahead A mk i4 (zf_off n A mk o i4) := ze_bt c51
              refine lv_iload_n hX_ hB_ dX9_firstOff_54 rfl (lv_at hl 0 rfl) ?_
              refine lv_goto (tgt := 59) hX_ hB_ dX9_firstOff_55 (by decide) ?_
              refine lv_istore_n (lv' := [(2, .int (nI i4)), (3, .int (nI i4)), (0, .ref (d 0)), (1, .int (nI o))]) hX_ hB_ dX9_firstOff_59 rfl hl (by decide) rfl (fun ls hl => ?_)
              refine lv_iinc (v := nI (i4 + 1)) (lv' := [(3, .int (nI (i4 + 1))), (2, .int (nI i4)), (0, .ref (d 0)), (1, .int (nI o))]) hX_ hB_ dX9_firstOff_60 hl (k := 1) rfl (ze_inc _) (by decide) rfl (fun ls hl => ?_)
              refine lv_goto (tgt := 4) hX_ hB_ dX9_firstOff_63 (by decide) ?_
              have eL2 : nI i4 = nI (zf_off n A mk o (i4 + 1)) := (by simp only [ze_b, zf_off, eq_true c9, eq_true c34, eq_false c42, eq_true c51, not_true_eq_false, not_false_eq_true, and_true, true_and, and_false, false_and, or_true, true_or, or_false, false_or, and_self, or_self, Decidable.not_not, if_true, if_false, reduceIte, reduceCtorEq, ne_eq, eq_self, Int32.lt_irrefl, Int32.le_refl, Nat.lt_irrefl])
              have hl : lv_has ls 4 [(3, .int (nI (i4 + 1))), (2, .int (nI (zf_off n A mk o (i4 + 1)))), (0, .ref (d 0)), (1, .int (nI o))] := by
                first | (rw [← eL2]; exact hl) | (simp only [← eL2]; exact hl)
              exact ih4 (i4 + 1) (by omega) (by omega) _ _ ls hW (lv_sub hl [0, 1, 2, 3] rfl)
  have hl : lv_has ls 4 [(3, .int (nI 0)), (2, .int (nI (zf_off n A mk o 0))), (0, .ref (d 0)), (1, .int (nI o))] := hl
  have hW : ze_W D (ze_wR c d n A B mk th) F s.heap _ _ := hW
  exact L4 _ 0 (by omega) (Nat.lt_succ_self _) _ _ ls hW (lv_sub hl [0, 1, 2, 3] rfl)
set_option maxHeartbeats 4000000 in
set_option maxRecDepth 100000 in
theorem zr_isLess (l : Launch) (D : va_G) (c : Nat → ClassId) (d n : Nat → Nat) (A : Nat → Nat → Int32) (B : Nat → Int64) (mk : Nat → Int32) (th : Int32) (g t : Nat) (hN : zf_N n) (hg : g < n 2) (ht : t < n 2) : ze_I l yX9_isLess wsX9_isLess 1 13 0 0 D c (ze_wR c d n A B mk th) [.ref (d 0), .int (nI g), .int (nI t)] (ze_b (zf_less A (A 12) g t)) (ze_wR c d n A B mk th) := by
  intro sz
  refine ze_start (cc := cX9_isLess) (maxL := 5) (ret := (some .boolean)) (own := RX9) (by decide) rfl rfl (Nat.le_of_ble_eq_true rfl) ?_
  obtain ⟨hn0, hn1, hn2, hn3, hn4⟩ := id hN
  intro p e s m_ below meth cd F ls hF hsz E0
  obtain ⟨S, hr, hlocks, hK, hW, hA, hl⟩ := E0
  have hX_ := S.1
  have hB_ := S.2.1
  have hts := S.2.2.2.2
  have hl : lv_has ls 5 [(0, .ref (d 0)), (1, .int (nI g)), (2, .int (nI t))] := hl
  have hiX9 : ∀ w ∈ u_ws RX9 TX9 39, w ∈ wsX9_isLess := fun _ h => (List.mem_cons_of_mem _ (List.mem_append_right _ h))
  have w0 := hts (.fieldLink RX9 35 "IslandgridModel" "greatest" "[I") (List.mem_cons_of_mem _ (List.mem_append_left _ (List.mem_of_getElem? (i := 0) rfl)))
  have w1 := hts (.fieldLink RX9 41 "IslandgridModel" "fuel" "[I") (List.mem_cons_of_mem _ (List.mem_append_left _ (List.mem_of_getElem? (i := 1) rfl)))
  have w2 := hts (.methodLink RX9 115 Lib.Math.min.name) (List.mem_cons_of_mem _ (List.mem_append_left _ (List.mem_of_getElem? (i := 2) rfl)))
  have w3 := hts (.static Lib.Math.min.name) (List.mem_cons_of_mem _ (List.mem_append_left _ (List.mem_of_getElem? (i := 3) rfl)))
  have w4 := hts (.initialized "java/lang/Math") (List.mem_cons_of_mem _ (List.mem_append_left _ (List.mem_of_getElem? (i := 4) rfl)))
  have w5 := hts (.code Lib.Math.min.name Lib.Math.min.code 2 (some .int)) (List.mem_cons_of_mem _ (List.mem_append_left _ (List.mem_of_getElem? (i := 5) rfl)))
  have w6 := hts (.fieldLink RX9 32 "IslandgridModel" "least" "[I") (List.mem_cons_of_mem _ (List.mem_append_left _ (List.mem_of_getElem? (i := 6) rfl)))
  have w7 := hts (.fieldLink RX9 47 "IslandgridModel" "given" "[I") (List.mem_cons_of_mem _ (List.mem_append_left _ (List.mem_of_getElem? (i := 7) rfl)))
  refine lv_aload_n hX_ hB_ dX9_isLess_0 rfl (lv_at hl 0 rfl) ?_
  refine ze_get (ci := 9) (C := RX9) (T := TX9) (N := 39) (v := .ref (d 9)) S hiX9 hK hW 0 rfl rfl 8 (by decide) rfl w0 dX9_isLess_1 ?_
  refine lv_iload_n hX_ hB_ dX9_isLess_4 rfl (lv_at hl 1 rfl) ?_
  refine ze_ialdN hX_ hB_ hK hW 9 (f := A 8) rfl (i := g) (by omega) (by decide) dX9_isLess_5 ?_
  refine lv_aload_n hX_ hB_ dX9_isLess_6 rfl (lv_at hl 0 rfl) ?_
  refine ze_get (ci := 9) (C := RX9) (T := TX9) (N := 39) (v := .ref (d 11)) S hiX9 hK hW 0 rfl rfl 10 (by decide) rfl w1 dX9_isLess_7 ?_
  refine lv_iload_n hX_ hB_ dX9_isLess_10 rfl (lv_at hl 1 rfl) ?_
  refine ze_ialdN hX_ hB_ hK hW 11 (f := A 10) rfl (i := g) (by omega) (by decide) dX9_isLess_11 ?_
  refine ze_min S hl.1 w2 w3 w4 w5 ⟨Nat.le_of_ble_eq_true rfl, Nat.le_of_ble_eq_true rfl, Nat.le_of_ble_eq_true rfl, Nat.le_of_ble_eq_true rfl⟩ dX9_isLess_12 ?_
  refine lv_aload_n hX_ hB_ dX9_isLess_15 rfl (lv_at hl 0 rfl) ?_
  refine ze_get (ci := 9) (C := RX9) (T := TX9) (N := 39) (v := .ref (d 8)) S hiX9 hK hW 0 rfl rfl 7 (by decide) rfl w6 dX9_isLess_16 ?_
  refine lv_iload_n hX_ hB_ dX9_isLess_19 rfl (lv_at hl 1 rfl) ?_
  refine ze_ialdN hX_ hB_ hK hW 8 (f := A 7) rfl (i := g) (by omega) (by decide) dX9_isLess_20 ?_
  refine lv_isub hX_ hB_ dX9_isLess_21 ?_
  refine lv_istore_n (lv' := [(3, .int (ze_mn (A 8 g) (A 10 g) - A 7 g)), (0, .ref (d 0)), (1, .int (nI g)), (2, .int (nI t))]) hX_ hB_ dX9_isLess_22 rfl hl (by decide) rfl (fun ls hl => ?_)
  refine lv_aload_n hX_ hB_ dX9_isLess_23 rfl (lv_at hl 1 rfl) ?_
  refine ze_get (ci := 9) (C := RX9) (T := TX9) (N := 39) (v := .ref (d 9)) S hiX9 hK hW 0 rfl rfl 8 (by decide) rfl w0 dX9_isLess_24 ?_
  refine lv_iload_n hX_ hB_ dX9_isLess_27 rfl (lv_at hl 3 rfl) ?_
  refine ze_ialdN hX_ hB_ hK hW 9 (f := A 8) rfl (i := t) (by omega) (by decide) dX9_isLess_28 ?_
  refine lv_aload_n hX_ hB_ dX9_isLess_29 rfl (lv_at hl 1 rfl) ?_
  refine ze_get (ci := 9) (C := RX9) (T := TX9) (N := 39) (v := .ref (d 11)) S hiX9 hK hW 0 rfl rfl 10 (by decide) rfl w1 dX9_isLess_30 ?_
  refine lv_iload_n hX_ hB_ dX9_isLess_33 rfl (lv_at hl 3 rfl) ?_
  refine ze_ialdN hX_ hB_ hK hW 11 (f := A 10) rfl (i := t) (by omega) (by decide) dX9_isLess_34 ?_
  refine ze_min S hl.1 w2 w3 w4 w5 ⟨Nat.le_of_ble_eq_true rfl, Nat.le_of_ble_eq_true rfl, Nat.le_of_ble_eq_true rfl, Nat.le_of_ble_eq_true rfl⟩ dX9_isLess_35 ?_
  refine lv_aload_n hX_ hB_ dX9_isLess_38 rfl (lv_at hl 1 rfl) ?_
  refine ze_get (ci := 9) (C := RX9) (T := TX9) (N := 39) (v := .ref (d 8)) S hiX9 hK hW 0 rfl rfl 7 (by decide) rfl w6 dX9_isLess_39 ?_
  refine lv_iload_n hX_ hB_ dX9_isLess_42 rfl (lv_at hl 3 rfl) ?_
  refine ze_ialdN hX_ hB_ hK hW 8 (f := A 7) rfl (i := t) (by omega) (by decide) dX9_isLess_43 ?_
  refine lv_isub hX_ hB_ dX9_isLess_44 ?_
  refine lv_istore (lv' := [(4, .int (ze_mn (A 8 t) (A 10 t) - A 7 t)), (3, .int (ze_mn (A 8 g) (A 10 g) - A 7 g)), (0, .ref (d 0)), (1, .int (nI g)), (2, .int (nI t))]) hX_ hB_ dX9_isLess_45 hl (by decide) rfl (fun ls hl => ?_)
  refine lv_aload_n hX_ hB_ dX9_isLess_47 rfl (lv_at hl 2 rfl) ?_
  refine ze_get (ci := 9) (C := RX9) (T := TX9) (N := 39) (v := .ref (d 13)) S hiX9 hK hW 0 rfl rfl 12 (by decide) rfl w7 dX9_isLess_48 ?_
  refine lv_iload_n hX_ hB_ dX9_isLess_51 rfl (lv_at hl 3 rfl) ?_
  refine ze_ialdN hX_ hB_ hK hW 13 (f := A 12) rfl (i := g) (by omega) (by decide) dX9_isLess_52 ?_
  refine lv_aload_n hX_ hB_ dX9_isLess_53 rfl (lv_at hl 2 rfl) ?_
  refine ze_get (ci := 9) (C := RX9) (T := TX9) (N := 39) (v := .ref (d 8)) S hiX9 hK hW 0 rfl rfl 7 (by decide) rfl w6 dX9_isLess_54 ?_
  refine lv_iload_n hX_ hB_ dX9_isLess_57 rfl (lv_at hl 3 rfl) ?_
  refine ze_ialdN hX_ hB_ hK hW 8 (f := A 7) rfl (i := g) (by omega) (by decide) dX9_isLess_58 ?_
  refine lv_isub hX_ hB_ dX9_isLess_59 ?_
  refine lv_iload hX_ hB_ dX9_isLess_60 (lv_at hl 0 rfl) ?_
  refine lv_imul hX_ hB_ dX9_isLess_62 ?_
  refine lv_aload_n hX_ hB_ dX9_isLess_63 rfl (lv_at hl 2 rfl) ?_
  refine ze_get (ci := 9) (C := RX9) (T := TX9) (N := 39) (v := .ref (d 13)) S hiX9 hK hW 0 rfl rfl 12 (by decide) rfl w7 dX9_isLess_64 ?_
  refine lv_iload_n hX_ hB_ dX9_isLess_67 rfl (lv_at hl 4 rfl) ?_
  refine ze_ialdN hX_ hB_ hK hW 13 (f := A 12) rfl (i := t) (by omega) (by decide) dX9_isLess_68 ?_
  refine lv_aload_n hX_ hB_ dX9_isLess_69 rfl (lv_at hl 2 rfl) ?_
  refine ze_get (ci := 9) (C := RX9) (T := TX9) (N := 39) (v := .ref (d 8)) S hiX9 hK hW 0 rfl rfl 7 (by decide) rfl w6 dX9_isLess_70 ?_
  refine lv_iload_n hX_ hB_ dX9_isLess_73 rfl (lv_at hl 4 rfl) ?_
  refine ze_ialdN hX_ hB_ hK hW 8 (f := A 7) rfl (i := t) (by omega) (by decide) dX9_isLess_74 ?_
  refine lv_isub hX_ hB_ dX9_isLess_75 ?_
  refine lv_iload_n hX_ hB_ dX9_isLess_76 rfl (lv_at hl 1 rfl) ?_
  refine lv_imul hX_ hB_ dX9_isLess_77 ?_
  refine lv_icmp_ge (tgt := 85) hX_ hB_ dX9_isLess_78 (by decide) (fun c78 => ?_) (fun c78 => ?_)
  · refine lv_iconst (v := 0) hX_ hB_ dX9_isLess_85 (by decide) ?_
    exact ze_iret S hr hlocks hF hK hW rfl dX9_isLess_86 (Nat.le_of_ble_eq_true rfl) (Nat.le_of_ble_eq_true rfl) (by simp only [ze_b, zf_less, zf_can, eq_true c78, not_true_eq_false, not_false_eq_true, and_true, true_and, and_false, false_and, or_true, true_or, or_false, false_or, and_self, or_self, Decidable.not_not, if_true, if_false, reduceIte, reduceCtorEq, ne_eq, eq_self, Int32.lt_irrefl, Int32.le_refl, Nat.lt_irrefl]) rfl
  · refine lv_iconst (v := 1) hX_ hB_ dX9_isLess_81 (by decide) ?_
    refine lv_goto (tgt := 86) hX_ hB_ dX9_isLess_82 (by decide) ?_
    exact ze_iret S hr hlocks hF hK hW rfl dX9_isLess_86 (Nat.le_of_ble_eq_true rfl) (Nat.le_of_ble_eq_true rfl) (by simp only [ze_b, zf_less, zf_can, eq_false c78, not_true_eq_false, not_false_eq_true, and_true, true_and, and_false, false_and, or_true, true_or, or_false, false_or, and_self, or_self, Decidable.not_not, if_true, if_false, reduceIte, reduceCtorEq, ne_eq, eq_self, Int32.lt_irrefl, Int32.le_refl, Nat.lt_irrefl]) rfl
set_option maxHeartbeats 4000000 in
set_option maxRecDepth 100000 in
theorem zr_gives (l : Launch) (D : va_G) (c : Nat → ClassId) (d n : Nat → Nat) (A : Nat → Nat → Int32) (B : Nat → Int64) (mk : Nat → Int32) (th : Int32) (m t : Int32) (hN : zf_N n) (hS : zf_S n A) : ze_I l yX9_gives wsX9_gives 2 37 0 0 D c (ze_wR c d n A B mk th) [.ref (d 0), .int m, .int t] ((zf_gives n A mk m t).1) (ze_wR c d n (ze_sA A 12 ((zf_gives n A mk m t).2)) B mk th) := by
  intro sz
  refine ze_start (cc := cX9_gives) (maxL := 7) (ret := (some .int)) (own := RX9) (by decide) rfl rfl (Nat.le_of_ble_eq_true rfl) ?_
  obtain ⟨hn0, hn1, hn2, hn3, hn4⟩ := id hN
  intro p e s m_ below meth cd F ls hF hsz E0
  obtain ⟨S, hr, hlocks, hK, hW, hA, hl⟩ := E0
  have hX_ := S.1
  have hB_ := S.2.1
  have hts := S.2.2.2.2
  have hl : lv_has ls 7 [(0, .ref (d 0)), (1, .int m), (2, .int t)] := hl
  have hiX9 : ∀ w ∈ u_ws RX9 TX9 39, w ∈ wsX9_gives := fun _ h => (List.mem_cons_of_mem _ (List.mem_append_right _ h))
  have w0 := hts (.fieldLink RX9 102 "IslandgridModel" "generators" "I") (List.mem_cons_of_mem _ (List.mem_append_left _ (List.mem_of_getElem? (i := 0) rfl)))
  have w1 := hts (.fieldLink RX9 47 "IslandgridModel" "given" "[I") (List.mem_cons_of_mem _ (List.mem_append_left _ (List.mem_of_getElem? (i := 1) rfl)))
  have w2 := hts (.fieldLink RX9 35 "IslandgridModel" "greatest" "[I") (List.mem_cons_of_mem _ (List.mem_append_left _ (List.mem_of_getElem? (i := 3) rfl)))
  have w3 := hts (.fieldLink RX9 41 "IslandgridModel" "fuel" "[I") (List.mem_cons_of_mem _ (List.mem_append_left _ (List.mem_of_getElem? (i := 4) rfl)))
  have w4 := hts (.methodLink RX9 115 Lib.Math.min.name) (List.mem_cons_of_mem _ (List.mem_append_left _ (List.mem_of_getElem? (i := 5) rfl)))
  have w5 := hts (.static Lib.Math.min.name) (List.mem_cons_of_mem _ (List.mem_append_left _ (List.mem_of_getElem? (i := 6) rfl)))
  have w6 := hts (.initialized "java/lang/Math") (List.mem_cons_of_mem _ (List.mem_append_left _ (List.mem_of_getElem? (i := 7) rfl)))
  have w7 := hts (.code Lib.Math.min.name Lib.Math.min.code 2 (some .int)) (List.mem_cons_of_mem _ (List.mem_append_left _ (List.mem_of_getElem? (i := 8) rfl)))
  have w8 := hts (.fieldLink RX9 32 "IslandgridModel" "least" "[I") (List.mem_cons_of_mem _ (List.mem_append_left _ (List.mem_of_getElem? (i := 2) rfl)))
  refine lv_iconst (v := 0) hX_ hB_ dX9_gives_0 (by decide) ?_
  refine lv_istore_n (lv' := [(3, .int 0), (0, .ref (d 0)), (1, .int m), (2, .int t)]) hX_ hB_ dX9_gives_1 rfl hl (by decide) rfl (fun ls hl => ?_)
  refine lv_iconst (v := 0) hX_ hB_ dX9_gives_2 (by decide) ?_
  refine lv_istore (lv' := [(4, .int 0), (3, .int 0), (0, .ref (d 0)), (1, .int m), (2, .int t)]) hX_ hB_ dX9_gives_3 hl (by decide) rfl (fun ls hl => ?_)
  have L5 : ∀ (k5 : Nat) (i5 : Nat), (i5 ≤ n 2) → (n 2 - i5) < k5 → ∀ (H : Heap) (locs : List Loc) (ls : Array Slot), ze_W D (ze_wR c d n (ze_sA A 12 (ze_up (zf_g1 A mk m) (A 12) i5)) B mk th) F s.heap H locs → lv_has ls 7 [(4, .int (nI i5)), (3, .int (zf_gs A mk m i5)), (0, .ref (d 0)), (1, .int m), (2, .int t)] → W p l e { frames := 2, cells := 0, slots := 0, locals := 37 } s m_ ([.ref (d 0), .int m, .int t] : List Value).toArray below meth cd H locs 0 0 (MQ below (ze_Qi D c (ze_wR c d n A B mk th) sz ((zf_gives n A mk m t).1) (ze_wR c d n (ze_sA A 12 ((zf_gives n A mk m t).2)) B mk th)) ([.ref (d 0), .int m, .int t] : List Value).toArray s 0 0 F) (F0 m_ 5 ls []) := by
    intro k5
    induction k5 with
    | zero =>
      intro i5 h5 hk5
      exact absurd hk5 (Nat.not_lt_zero _)
    | succ k5 ih5 =>
      intro i5 h5 hk5 H locs ls hW hl
      refine lv_iload hX_ hB_ dX9_gives_5 (lv_at hl 0 rfl) ?_
      refine lv_aload_n hX_ hB_ dX9_gives_7 rfl (lv_at hl 2 rfl) ?_
      refine ze_get (ci := 9) (C := RX9) (T := TX9) (N := 39) (v := .int (nI (n 2))) S hiX9 hK hW 0 rfl rfl 25 (by decide) rfl w0 dX9_gives_8 ?_
      refine lv_icmp_ge (tgt := 54) hX_ hB_ dX9_gives_11 (by decide) (fun c11 => ?_) (fun c11 => ?_)
      · have c11 : ¬ i5 < (n 2) := Nat.not_lt.mpr ((nI_leI (a := (n 2)) (b := i5) (by omega) (by omega)).mp c11)
        have e5 : i5 = n 2 := by omega
        subst e5
        refine lv_iconst (v := 0) hX_ hB_ dX9_gives_54 (by decide) ?_
        refine lv_istore (lv' := [(4, .int 0), (3, .int (zf_gs A mk m (n 2))), (0, .ref (d 0)), (1, .int m), (2, .int t)]) hX_ hB_ dX9_gives_55 hl (by decide) rfl (fun ls hl => ?_)
        have L57 : ∀ (k57 : Nat) (q : Nat) (sm : Int32) (gv : Nat → Int32), (q < 7) → (zf_gl A mk m (n 2) (zf_fu sm t) sm gv = zf_gives n A mk m t) → (zf_fu sm t) < k57 → ∀ (H : Heap) (locs : List Loc) (ls : Array Slot), ze_W D (ze_wR c d n (ze_sA A 12 gv) B mk th) F s.heap H locs → lv_has ls 7 [(4, .int (nI q)), (3, .int sm), (0, .ref (d 0)), (1, .int m), (2, .int t)] → W p l e { frames := 2, cells := 0, slots := 0, locals := 37 } s m_ ([.ref (d 0), .int m, .int t] : List Value).toArray below meth cd H locs 0 0 (MQ below (ze_Qi D c (ze_wR c d n A B mk th) sz ((zf_gives n A mk m t).1) (ze_wR c d n (ze_sA A 12 ((zf_gives n A mk m t).2)) B mk th)) ([.ref (d 0), .int m, .int t] : List Value).toArray s 0 0 F) (F0 m_ 57 ls []) := by
          intro k57
          induction k57 with
          | zero =>
            intro q sm gv hq hres hk57
            exact absurd hk57 (Nat.not_lt_zero _)
          | succ k57 ih57 =>
            intro q sm gv hq hres hk57 H locs ls hW hl
            refine lv_iload_n hX_ hB_ dX9_gives_57 rfl (lv_at hl 1 rfl) ?_
            refine lv_iload_n hX_ hB_ dX9_gives_58 rfl (lv_at hl 4 rfl) ?_
            refine lv_icmp_ge (tgt := 171) hX_ hB_ dX9_gives_59 (by decide) (fun c59 => ?_) (fun c59 => ?_)
            · have hz0 : (sm, gv) = zf_gives n A mk m t := by
                rw [← hres, zf_fu0 c59]
                rfl
              refine lv_iload_n hX_ hB_ dX9_gives_171 rfl (lv_at hl 1 rfl) ?_
              exact ze_iret S hr hlocks hF hK hW rfl dX9_gives_172 (Nat.le_of_ble_eq_true rfl) (Nat.le_of_ble_eq_true rfl) (by rw [← hz0]) (by rw [← hz0])
            · refine lv_iload hX_ hB_ dX9_gives_62 (lv_at hl 0 rfl) ?_
              refine lv_if_lt (tgt := 171) hX_ hB_ dX9_gives_64 (by decide) (fun c64 => ?_) (fun c64 => ?_)
              · exact absurd c64 (nI_pos (by omega))
              · refine lv_iconst (v := (-1)) hX_ hB_ dX9_gives_67 (by decide) ?_
                refine lv_istore (lv' := [(4, .int (-1)), (3, .int sm), (0, .ref (d 0)), (1, .int m), (2, .int t)]) hX_ hB_ dX9_gives_68 hl (by decide) rfl (fun ls hl => ?_)
                refine lv_iconst (v := 0) hX_ hB_ dX9_gives_70 (by decide) ?_
                refine lv_istore (lv' := [(5, .int 0), (4, .int (-1)), (3, .int sm), (0, .ref (d 0)), (1, .int m), (2, .int t)]) hX_ hB_ dX9_gives_71 hl (by decide) rfl (fun ls hl => ?_)
                have L73 : ∀ (k73 : Nat) (i73 : Nat), (i73 ≤ n 2) → (n 2 - i73) < k73 → ∀ (H : Heap) (locs : List Loc) (ls : Array Slot), ze_W D (ze_wR c d n (ze_sA A 12 gv) B mk th) F s.heap H locs → lv_has ls 7 [(5, .int (nI i73)), (4, .int (zf_on (zf_pick A mk m gv i73))), (3, .int sm), (0, .ref (d 0)), (1, .int m), (2, .int t)] → W p l e { frames := 2, cells := 0, slots := 0, locals := 37 } s m_ ([.ref (d 0), .int m, .int t] : List Value).toArray below meth cd H locs 0 0 (MQ below (ze_Qi D c (ze_wR c d n A B mk th) sz ((zf_gives n A mk m t).1) (ze_wR c d n (ze_sA A 12 ((zf_gives n A mk m t).2)) B mk th)) ([.ref (d 0), .int m, .int t] : List Value).toArray s 0 0 F) (F0 m_ 73 ls []) := by
                  intro k73
                  induction k73 with
                  | zero =>
                    intro i73 h73 hk73
                    exact absurd hk73 (Nat.not_lt_zero _)
                  | succ k73 ih73 =>
                    intro i73 h73 hk73 H locs ls hW hl
                    refine lv_iload hX_ hB_ dX9_gives_73 (lv_at hl 0 rfl) ?_
                    refine lv_aload_n hX_ hB_ dX9_gives_75 rfl (lv_at hl 3 rfl) ?_
                    refine ze_get (ci := 9) (C := RX9) (T := TX9) (N := 39) (v := .int (nI (n 2))) S hiX9 hK hW 0 rfl rfl 25 (by decide) rfl w0 dX9_gives_76 ?_
                    refine lv_icmp_ge (tgt := 149) hX_ hB_ dX9_gives_79 (by decide) (fun c79 => ?_) (fun c79 => ?_)
                    · have c79 : ¬ i73 < (n 2) := Nat.not_lt.mpr ((nI_leI (a := (n 2)) (b := i73) (by omega) (by omega)).mp c79)
                      have e73 : i73 = n 2 := by omega
                      subst e73
                      rcases hpk : zf_pick A mk m gv (n 2) with _ | b
                      · have hl : lv_has ls 7 [(5, .int (nI (n 2))), (4, .int (-1)), (3, .int sm), (0, .ref (d 0)), (1, .int m), (2, .int t)] := by
                          rw [hpk] at hl
                          exact hl
                        have hz0 : (sm, gv) = zf_gives n A mk m t := by
                          rw [← hres, zf_fu1 c59]
                          simp only [zf_gl, hpk]
                        refine lv_iload hX_ hB_ dX9_gives_149 (lv_at hl 1 rfl) ?_
                        refine lv_if_lt (tgt := 57) hX_ hB_ dX9_gives_151 (by decide) (fun c151 => ?_) (fun c151 => ?_)
                        · refine lv_iload_n hX_ hB_ dX9_gives_57 rfl (lv_at hl 2 rfl) ?_
                          refine lv_iload_n hX_ hB_ dX9_gives_58 rfl (lv_at hl 5 rfl) ?_
                          refine lv_icmp_ge (tgt := 171) hX_ hB_ dX9_gives_59 (by decide) (fun c59' => ?_) (fun c59' => ?_)
                          · exact absurd c59' c59
                          · refine lv_iload hX_ hB_ dX9_gives_62 (lv_at hl 1 rfl) ?_
                            refine lv_if_lt (tgt := 171) hX_ hB_ dX9_gives_64 (by decide) (fun c64' => ?_) (fun c64' => ?_)
                            · refine lv_iload_n hX_ hB_ dX9_gives_171 rfl (lv_at hl 2 rfl) ?_
                              exact ze_iret S hr hlocks hF hK hW rfl dX9_gives_172 (Nat.le_of_ble_eq_true rfl) (Nat.le_of_ble_eq_true rfl) (by rw [← hz0]) (by rw [← hz0])
                            · exact absurd c64' (by decide)
                        · exact absurd c151 (by decide)
                      · have hl : lv_has ls 7 [(5, .int (nI (n 2))), (4, .int (nI b)), (3, .int sm), (0, .ref (d 0)), (1, .int m), (2, .int t)] := by
                          rw [hpk] at hl
                          exact hl
                        have hb9 : b < n 2 := zf_picklt (by omega) hpk
                        refine lv_iload hX_ hB_ dX9_gives_149 (lv_at hl 1 rfl) ?_
                        refine lv_if_lt (tgt := 57) hX_ hB_ dX9_gives_151 (by decide) (fun c151 => ?_) (fun c151 => ?_)
                        · exact absurd c151 (nI_pos (by omega))
                        · refine lv_aload_n hX_ hB_ dX9_gives_154 rfl (lv_at hl 3 rfl) ?_
                          refine ze_get (ci := 9) (C := RX9) (T := TX9) (N := 39) (v := .ref (d 13)) S hiX9 hK hW 0 rfl rfl 12 (by decide) rfl w1 dX9_gives_155 ?_
                          refine lv_iload hX_ hB_ dX9_gives_158 (lv_at hl 1 rfl) ?_
                          refine lv_dup2_11 hX_ hB_ dX9_gives_160 rfl rfl ?_
                          refine ze_ialdN hX_ hB_ hK hW 13 (f := gv) rfl (i := b) (by omega) (by decide) dX9_gives_161 ?_
                          refine lv_iconst (v := 1) hX_ hB_ dX9_gives_162 (by decide) ?_
                          refine lv_iadd hX_ hB_ dX9_gives_163 ?_
                          refine ze_iastN hX_ hB_ hK hW 13 (f := gv) rfl (i := b) (by omega) (by decide) dX9_gives_164 (ze_qR12 b (gv b + 1) _ _ _ _ _ _ _) (fun H locs hW => ?_)
                          have hW : ze_W D (ze_wR c d n (ze_sE (ze_sA A 12 gv) 12 b (gv b + 1)) B mk th) F s.heap _ _ := hW
                          refine lv_iinc (v := sm + 1) (lv' := [(3, .int (sm + 1)), (5, .int (nI (n 2))), (4, .int (nI b)), (0, .ref (d 0)), (1, .int m), (2, .int t)]) hX_ hB_ dX9_gives_165 hl (k := 2) rfl rfl (by decide) rfl (fun ls hl => ?_)
                          refine lv_goto (tgt := 57) hX_ hB_ dX9_gives_168 (by decide) ?_
                          rw [ze_e1] at hW
                          exact ih57 b (sm + 1) (upd gv b (gv b + 1)) (by omega) (by rw [← hres, zf_fu1 c59]; simp only [zf_gl, hpk]) (by have := zf_fu1 c59; omega) _ _ ls hW (lv_sub hl [2, 0, 3, 4, 5] rfl)
                    · have c79 : i73 < (n 2) := Nat.lt_of_not_le (fun h9 => c79 ((nI_leI (a := (n 2)) (b := i73) (by omega) (by omega)).mpr h9))
                      refine lv_aload_n hX_ hB_ dX9_gives_82 rfl (lv_at hl 3 rfl) ?_
                      refine ze_get (ci := 9) (C := RX9) (T := TX9) (N := 39) (v := .ref (d 9)) S hiX9 hK hW 0 rfl rfl 8 (by decide) rfl w2 dX9_gives_83 ?_
                      refine lv_iload hX_ hB_ dX9_gives_86 (lv_at hl 0 rfl) ?_
                      refine ze_ialdN hX_ hB_ hK hW 9 (f := A 8) rfl (i := i73) (by omega) (by decide) dX9_gives_88 ?_
                      refine lv_aload_n hX_ hB_ dX9_gives_89 rfl (lv_at hl 3 rfl) ?_
                      refine ze_get (ci := 9) (C := RX9) (T := TX9) (N := 39) (v := .ref (d 11)) S hiX9 hK hW 0 rfl rfl 10 (by decide) rfl w3 dX9_gives_90 ?_
                      refine lv_iload hX_ hB_ dX9_gives_93 (lv_at hl 0 rfl) ?_
                      refine ze_ialdN hX_ hB_ hK hW 11 (f := A 10) rfl (i := i73) (by omega) (by decide) dX9_gives_95 ?_
                      refine ze_min S hl.1 w4 w5 w6 w7 ⟨Nat.le_of_ble_eq_true rfl, Nat.le_of_ble_eq_true rfl, Nat.le_of_ble_eq_true rfl, Nat.le_of_ble_eq_true rfl⟩ dX9_gives_96 ?_
                      refine lv_istore (lv' := [(6, .int (ze_mn (A 8 i73) (A 10 i73))), (5, .int (nI i73)), (4, .int (zf_on (zf_pick A mk m gv i73))), (3, .int sm), (0, .ref (d 0)), (1, .int m), (2, .int t)]) hX_ hB_ dX9_gives_99 hl (by decide) rfl (fun ls hl => ?_)
                      refine lv_aload_n hX_ hB_ dX9_gives_101 rfl (lv_at hl 4 rfl) ?_
                      refine lv_iload hX_ hB_ dX9_gives_102 (lv_at hl 1 rfl) ?_
                      refine lv_iload_n hX_ hB_ dX9_gives_104 rfl (lv_at hl 5 rfl) ?_
                      refine ze_Vi (As := [.int (nI i73), .int m]) (rest := []) (ci := 9) (q0 := 0) (k := (RX9, TX9, 39)) S (zr_runs l D c d n (ze_sA A 12 gv) B mk th i73 m hN hS (by omega)) (cwV 2 hts gX9_gives_X9_runs rfl rfl rfl (by decide +kernel) ⟨Nat.le_of_ble_eq_true rfl, Nat.le_of_ble_eq_true rfl⟩) hK hW hA rfl rfl rfl hl.1 rfl (lv_room (Nat.le_of_ble_eq_true rfl)) dX9_gives_105 ⟨Nat.le_of_ble_eq_true rfl, Nat.le_of_ble_eq_true rfl⟩ (fun H locs hW => ?_)
                      refine lv_if_eq (tgt := 143) hX_ hB_ dX9_gives_108 (by decide) (fun c108 => ?_) (fun c108 => ?_)
                      · have c108 : ¬ (zf_runs A mk i73 m) := ze_bf c108
                        refine lv_iinc (v := nI (i73 + 1)) (lv' := [(5, .int (nI (i73 + 1))), (6, .int (ze_mn (A 8 i73) (A 10 i73))), (4, .int (zf_on (zf_pick A mk m gv i73))), (3, .int sm), (0, .ref (d 0)), (1, .int m), (2, .int t)]) hX_ hB_ dX9_gives_143 hl (k := 1) rfl (ze_inc _) (by decide) rfl (fun ls hl => ?_)
                        refine lv_goto (tgt := 73) hX_ hB_ dX9_gives_146 (by decide) ?_
                        have eL4 : zf_on (zf_pick A mk m gv i73) = zf_on (zf_pick A mk m gv (i73 + 1)) := (by simp only [ze_b, zf_pick, zf_lessO, zf_on, zf_can, eq_false c11, eq_false c59, eq_false c64, eq_true c79, eq_false c108, not_true_eq_false, not_false_eq_true, and_true, true_and, and_false, false_and, or_true, true_or, or_false, false_or, and_self, or_self, Decidable.not_not, if_true, if_false, reduceIte, reduceCtorEq, ne_eq, eq_self, Int32.lt_irrefl, Int32.le_refl, Nat.lt_irrefl, decide_true, decide_false, Bool.false_eq_true])
                        have hl : lv_has ls 7 [(5, .int (nI (i73 + 1))), (6, .int (ze_mn (A 8 i73) (A 10 i73))), (4, .int (zf_on (zf_pick A mk m gv (i73 + 1)))), (3, .int sm), (0, .ref (d 0)), (1, .int m), (2, .int t)] := by
                          first | (rw [← eL4]; exact hl) | (simp only [← eL4]; exact hl)
                        exact ih73 (i73 + 1) (by omega) (by omega) _ _ ls hW (lv_sub hl [0, 2, 3, 4, 5, 6] rfl)
                      · have c108 : zf_runs A mk i73 m := ze_bt c108
                        refine lv_aload_n hX_ hB_ dX9_gives_111 rfl (lv_at hl 4 rfl) ?_
                        refine ze_get (ci := 9) (C := RX9) (T := TX9) (N := 39) (v := .ref (d 13)) S hiX9 hK hW 0 rfl rfl 12 (by decide) rfl w1 dX9_gives_112 ?_
                        refine lv_iload hX_ hB_ dX9_gives_115 (lv_at hl 1 rfl) ?_
                        refine ze_ialdN hX_ hB_ hK hW 13 (f := gv) rfl (i := i73) (by omega) (by decide) dX9_gives_117 ?_
                        refine lv_iload hX_ hB_ dX9_gives_118 (lv_at hl 0 rfl) ?_
                        refine lv_icmp_ge (tgt := 143) hX_ hB_ dX9_gives_120 (by decide) (fun c120 => ?_) (fun c120 => ?_)
                        · refine lv_iinc (v := nI (i73 + 1)) (lv' := [(5, .int (nI (i73 + 1))), (6, .int (ze_mn (A 8 i73) (A 10 i73))), (4, .int (zf_on (zf_pick A mk m gv i73))), (3, .int sm), (0, .ref (d 0)), (1, .int m), (2, .int t)]) hX_ hB_ dX9_gives_143 hl (k := 1) rfl (ze_inc _) (by decide) rfl (fun ls hl => ?_)
                          refine lv_goto (tgt := 73) hX_ hB_ dX9_gives_146 (by decide) ?_
                          have eL4 : zf_on (zf_pick A mk m gv i73) = zf_on (zf_pick A mk m gv (i73 + 1)) := (by simp only [ze_b, zf_pick, zf_lessO, zf_on, zf_can, eq_false c11, eq_false c59, eq_false c64, eq_true c79, eq_true c108, eq_true c120, not_true_eq_false, not_false_eq_true, and_true, true_and, and_false, false_and, or_true, true_or, or_false, false_or, and_self, or_self, Decidable.not_not, if_true, if_false, reduceIte, reduceCtorEq, ne_eq, eq_self, Int32.lt_irrefl, Int32.le_refl, Nat.lt_irrefl, decide_true, decide_false, Bool.false_eq_true])
                          have hl : lv_has ls 7 [(5, .int (nI (i73 + 1))), (6, .int (ze_mn (A 8 i73) (A 10 i73))), (4, .int (zf_on (zf_pick A mk m gv (i73 + 1)))), (3, .int sm), (0, .ref (d 0)), (1, .int m), (2, .int t)] := by
                            first | (rw [← eL4]; exact hl) | (simp only [← eL4]; exact hl)
                          exact ih73 (i73 + 1) (by omega) (by omega) _ _ ls hW (lv_sub hl [0, 2, 3, 4, 5, 6] rfl)
                        · rcases hpk : zf_pick A mk m gv i73 with _ | b
                          · have hl : lv_has ls 7 [(6, .int (ze_mn (A 8 i73) (A 10 i73))), (5, .int (nI i73)), (4, .int (-1)), (3, .int sm), (0, .ref (d 0)), (1, .int m), (2, .int t)] := by
                              rw [hpk] at hl
                              exact hl
                            refine lv_iload hX_ hB_ dX9_gives_123 (lv_at hl 2 rfl) ?_
                            refine lv_if_lt (tgt := 139) hX_ hB_ dX9_gives_125 (by decide) (fun c125 => ?_) (fun c125 => ?_)
                            · refine lv_iload hX_ hB_ dX9_gives_139 (lv_at hl 1 rfl) ?_
                              refine lv_istore (lv' := [(4, .int (nI i73)), (6, .int (ze_mn (A 8 i73) (A 10 i73))), (5, .int (nI i73)), (3, .int sm), (0, .ref (d 0)), (1, .int m), (2, .int t)]) hX_ hB_ dX9_gives_141 hl (by decide) rfl (fun ls hl => ?_)
                              refine lv_iinc (v := nI (i73 + 1)) (lv' := [(5, .int (nI (i73 + 1))), (4, .int (nI i73)), (6, .int (ze_mn (A 8 i73) (A 10 i73))), (3, .int sm), (0, .ref (d 0)), (1, .int m), (2, .int t)]) hX_ hB_ dX9_gives_143 hl (k := 2) rfl (ze_inc _) (by decide) rfl (fun ls hl => ?_)
                              refine lv_goto (tgt := 73) hX_ hB_ dX9_gives_146 (by decide) ?_
                              have eL4 : nI i73 = zf_on (zf_pick A mk m gv (i73 + 1)) := (by simp only [ze_b, zf_pick, zf_lessO, zf_on, zf_can, eq_false c11, eq_false c59, eq_false c64, eq_true c79, eq_true c108, eq_false c120, hpk, eq_true c125, not_true_eq_false, not_false_eq_true, and_true, true_and, and_false, false_and, or_true, true_or, or_false, false_or, and_self, or_self, Decidable.not_not, if_true, if_false, reduceIte, reduceCtorEq, ne_eq, eq_self, Int32.lt_irrefl, Int32.le_refl, Nat.lt_irrefl, decide_true, decide_false, Bool.false_eq_true])
                              have hl : lv_has ls 7 [(5, .int (nI (i73 + 1))), (4, .int (zf_on (zf_pick A mk m gv (i73 + 1)))), (6, .int (ze_mn (A 8 i73) (A 10 i73))), (3, .int sm), (0, .ref (d 0)), (1, .int m), (2, .int t)] := by
                                first | (rw [← eL4]; exact hl) | (simp only [← eL4]; exact hl)
                              exact ih73 (i73 + 1) (by omega) (by omega) _ _ ls hW (lv_sub hl [0, 1, 3, 4, 5, 6] rfl)
                            · exact absurd c125 (by decide)
                          · have hl : lv_has ls 7 [(6, .int (ze_mn (A 8 i73) (A 10 i73))), (5, .int (nI i73)), (4, .int (nI b)), (3, .int sm), (0, .ref (d 0)), (1, .int m), (2, .int t)] := by
                              rw [hpk] at hl
                              exact hl
                            have hb9 : b < n 2 := zf_picklt (by omega) hpk
                            refine lv_iload hX_ hB_ dX9_gives_123 (lv_at hl 2 rfl) ?_
                            refine lv_if_lt (tgt := 139) hX_ hB_ dX9_gives_125 (by decide) (fun c125 => ?_) (fun c125 => ?_)
                            · exact absurd c125 (nI_pos (by omega))
                            · refine lv_aload_n hX_ hB_ dX9_gives_128 rfl (lv_at hl 4 rfl) ?_
                              refine lv_iload hX_ hB_ dX9_gives_129 (lv_at hl 1 rfl) ?_
                              refine lv_iload hX_ hB_ dX9_gives_131 (lv_at hl 2 rfl) ?_
                              refine ze_Vi (As := [.int (nI i73), .int (nI b)]) (rest := []) (ci := 9) (q0 := 0) (k := (RX9, TX9, 39)) S (zr_isLess l D c d n (ze_sA A 12 gv) B mk th i73 b hN (by omega) (by omega)) (cwV 2 hts gX9_gives_X9_isLess rfl rfl rfl (by decide +kernel) ⟨Nat.le_of_ble_eq_true rfl, Nat.le_of_ble_eq_true rfl⟩) hK hW hA rfl rfl rfl hl.1 rfl (lv_room (Nat.le_of_ble_eq_true rfl)) dX9_gives_133 ⟨Nat.le_of_ble_eq_true rfl, Nat.le_of_ble_eq_true rfl⟩ (fun H locs hW => ?_)
                              refine lv_if_eq (tgt := 143) hX_ hB_ dX9_gives_136 (by decide) (fun c136 => ?_) (fun c136 => ?_)
                              · have c136 : ¬ (zf_less A gv i73 b) := ze_bf c136
                                refine lv_iinc (v := nI (i73 + 1)) (lv' := [(5, .int (nI (i73 + 1))), (6, .int (ze_mn (A 8 i73) (A 10 i73))), (4, .int (nI b)), (3, .int sm), (0, .ref (d 0)), (1, .int m), (2, .int t)]) hX_ hB_ dX9_gives_143 hl (k := 1) rfl (ze_inc _) (by decide) rfl (fun ls hl => ?_)
                                refine lv_goto (tgt := 73) hX_ hB_ dX9_gives_146 (by decide) ?_
                                have eL4 : nI b = zf_on (zf_pick A mk m gv (i73 + 1)) := (by simp only [ze_b, zf_pick, zf_lessO, zf_on, zf_can, eq_false c11, eq_false c59, eq_false c64, eq_true c79, eq_true c108, eq_false c120, hpk, eq_false c125, eq_false c136, not_true_eq_false, not_false_eq_true, and_true, true_and, and_false, false_and, or_true, true_or, or_false, false_or, and_self, or_self, Decidable.not_not, if_true, if_false, reduceIte, reduceCtorEq, ne_eq, eq_self, Int32.lt_irrefl, Int32.le_refl, Nat.lt_irrefl, decide_true, decide_false, Bool.false_eq_true])
                                have hl : lv_has ls 7 [(5, .int (nI (i73 + 1))), (6, .int (ze_mn (A 8 i73) (A 10 i73))), (4, .int (zf_on (zf_pick A mk m gv (i73 + 1)))), (3, .int sm), (0, .ref (d 0)), (1, .int m), (2, .int t)] := by
                                  first | (rw [← eL4]; exact hl) | (simp only [← eL4]; exact hl)
                                exact ih73 (i73 + 1) (by omega) (by omega) _ _ ls hW (lv_sub hl [0, 2, 3, 4, 5, 6] rfl)
                              · have c136 : zf_less A gv i73 b := ze_bt c136
                                refine lv_iload hX_ hB_ dX9_gives_139 (lv_at hl 1 rfl) ?_
                                refine lv_istore (lv' := [(4, .int (nI i73)), (6, .int (ze_mn (A 8 i73) (A 10 i73))), (5, .int (nI i73)), (3, .int sm), (0, .ref (d 0)), (1, .int m), (2, .int t)]) hX_ hB_ dX9_gives_141 hl (by decide) rfl (fun ls hl => ?_)
                                refine lv_iinc (v := nI (i73 + 1)) (lv' := [(5, .int (nI (i73 + 1))), (4, .int (nI i73)), (6, .int (ze_mn (A 8 i73) (A 10 i73))), (3, .int sm), (0, .ref (d 0)), (1, .int m), (2, .int t)]) hX_ hB_ dX9_gives_143 hl (k := 2) rfl (ze_inc _) (by decide) rfl (fun ls hl => ?_)
                                refine lv_goto (tgt := 73) hX_ hB_ dX9_gives_146 (by decide) ?_
                                have eL4 : nI i73 = zf_on (zf_pick A mk m gv (i73 + 1)) := (by simp only [ze_b, zf_pick, zf_lessO, zf_on, zf_can, eq_false c11, eq_false c59, eq_false c64, eq_true c79, eq_true c108, eq_false c120, hpk, eq_false c125, eq_true c136, not_true_eq_false, not_false_eq_true, and_true, true_and, and_false, false_and, or_true, true_or, or_false, false_or, and_self, or_self, Decidable.not_not, if_true, if_false, reduceIte, reduceCtorEq, ne_eq, eq_self, Int32.lt_irrefl, Int32.le_refl, Nat.lt_irrefl, decide_true, decide_false, Bool.false_eq_true])
                                have hl : lv_has ls 7 [(5, .int (nI (i73 + 1))), (4, .int (zf_on (zf_pick A mk m gv (i73 + 1)))), (6, .int (ze_mn (A 8 i73) (A 10 i73))), (3, .int sm), (0, .ref (d 0)), (1, .int m), (2, .int t)] := by
                                  first | (rw [← eL4]; exact hl) | (simp only [← eL4]; exact hl)
                                exact ih73 (i73 + 1) (by omega) (by omega) _ _ ls hW (lv_sub hl [0, 1, 3, 4, 5, 6] rfl)
                have hl : lv_has ls 7 [(5, .int (nI 0)), (4, .int (zf_on (zf_pick A mk m gv 0))), (3, .int sm), (0, .ref (d 0)), (1, .int m), (2, .int t)] := hl
                have hW : ze_W D (ze_wR c d n (ze_sA A 12 gv) B mk th) F s.heap _ _ := hW
                exact L73 _ 0 (by omega) (Nat.lt_succ_self _) _ _ ls hW (lv_sub hl [0, 1, 2, 3, 4, 5] rfl)
        have hl : lv_has ls 7 [(4, .int (nI 0)), (3, .int (zf_gs A mk m (n 2))), (0, .ref (d 0)), (1, .int m), (2, .int t)] := hl
        exact L57 _ 0 _ _ (by decide) rfl (Nat.lt_succ_self _) _ _ ls hW (lv_sub hl [0, 1, 2, 3, 4] rfl)
      · have c11 : i5 < (n 2) := Nat.lt_of_not_le (fun h9 => c11 ((nI_leI (a := (n 2)) (b := i5) (by omega) (by omega)).mpr h9))
        refine lv_aload_n hX_ hB_ dX9_gives_14 rfl (lv_at hl 2 rfl) ?_
        refine lv_iload hX_ hB_ dX9_gives_15 (lv_at hl 0 rfl) ?_
        refine lv_iload_n hX_ hB_ dX9_gives_17 rfl (lv_at hl 3 rfl) ?_
        refine ze_Vi (As := [.int (nI i5), .int m]) (rest := []) (ci := 9) (q0 := 0) (k := (RX9, TX9, 39)) S (zr_runs l D c d n (ze_sA A 12 (ze_up (zf_g1 A mk m) (A 12) i5)) B mk th i5 m hN hS (by omega)) (cwV 2 hts gX9_gives_X9_runs rfl rfl rfl (by decide +kernel) ⟨Nat.le_of_ble_eq_true rfl, Nat.le_of_ble_eq_true rfl⟩) hK hW hA rfl rfl rfl hl.1 rfl (lv_room (Nat.le_of_ble_eq_true rfl)) dX9_gives_18 ⟨Nat.le_of_ble_eq_true rfl, Nat.le_of_ble_eq_true rfl⟩ (fun H locs hW => ?_)
        refine lv_if_eq (tgt := 48) hX_ hB_ dX9_gives_21 (by decide) (fun c21 => ?_) (fun c21 => ?_)
        · have c21 : ¬ (zf_runs A mk i5 m) := ze_bf c21
          refine lv_iinc (v := nI (i5 + 1)) (lv' := [(4, .int (nI (i5 + 1))), (3, .int (zf_gs A mk m i5)), (0, .ref (d 0)), (1, .int m), (2, .int t)]) hX_ hB_ dX9_gives_48 hl (k := 0) rfl (ze_inc _) (by decide) rfl (fun ls hl => ?_)
          refine lv_goto (tgt := 5) hX_ hB_ dX9_gives_51 (by decide) ?_
          have eL3 : zf_gs A mk m i5 = zf_gs A mk m (i5 + 1) := (by simp only [ze_b, zf_gs, ze_sum, eq_true c11, eq_false c21, not_true_eq_false, not_false_eq_true, and_true, true_and, and_false, false_and, or_true, true_or, or_false, false_or, and_self, or_self, Decidable.not_not, if_true, if_false, reduceIte, reduceCtorEq, ne_eq, eq_self, Int32.lt_irrefl, Int32.le_refl, Nat.lt_irrefl, Int32.add_zero])
          have hl : lv_has ls 7 [(4, .int (nI (i5 + 1))), (3, .int (zf_gs A mk m (i5 + 1))), (0, .ref (d 0)), (1, .int m), (2, .int t)] := by
            first | (rw [← eL3]; exact hl) | (simp only [← eL3]; exact hl)
          have eW : (ze_wR c d n (ze_sA A 12 (ze_up (zf_g1 A mk m) (A 12) i5)) B mk th) = (ze_wR c d n (ze_sA A 12 (ze_up (zf_g1 A mk m) (A 12) (i5 + 1))) B mk th) := (by rw [ze_up_k (by simp only [ze_b, zf_g1, eq_true c11, eq_false c21, not_true_eq_false, not_false_eq_true, and_true, true_and, and_false, false_and, or_true, true_or, or_false, false_or, and_self, or_self, Decidable.not_not, if_true, if_false, reduceIte, reduceCtorEq, ne_eq, eq_self, Int32.lt_irrefl, Int32.le_refl, Nat.lt_irrefl])])
          rw [eW] at hW
          exact ih5 (i5 + 1) (by omega) (by omega) _ _ ls hW (lv_sub hl [0, 1, 2, 3, 4] rfl)
        · have c21 : zf_runs A mk i5 m := ze_bt c21
          refine lv_aload_n hX_ hB_ dX9_gives_24 rfl (lv_at hl 2 rfl) ?_
          refine ze_get (ci := 9) (C := RX9) (T := TX9) (N := 39) (v := .ref (d 13)) S hiX9 hK hW 0 rfl rfl 12 (by decide) rfl w1 dX9_gives_25 ?_
          refine lv_iload hX_ hB_ dX9_gives_28 (lv_at hl 0 rfl) ?_
          refine lv_aload_n hX_ hB_ dX9_gives_30 rfl (lv_at hl 2 rfl) ?_
          refine ze_get (ci := 9) (C := RX9) (T := TX9) (N := 39) (v := .ref (d 8)) S hiX9 hK hW 0 rfl rfl 7 (by decide) rfl w8 dX9_gives_31 ?_
          refine lv_iload hX_ hB_ dX9_gives_34 (lv_at hl 0 rfl) ?_
          refine ze_ialdN hX_ hB_ hK hW 8 (f := A 7) rfl (i := i5) (by omega) (by decide) dX9_gives_36 ?_
          refine ze_iastN hX_ hB_ hK hW 13 (f := (ze_up (zf_g1 A mk m) (A 12) i5)) rfl (i := i5) (by omega) (by decide) dX9_gives_37 (ze_qR12 i5 (A 7 i5) _ _ _ _ _ _ _) (fun H locs hW => ?_)
          have hW : ze_W D (ze_wR c d n (ze_sE (ze_sA A 12 (ze_up (zf_g1 A mk m) (A 12) i5)) 12 i5 (A 7 i5)) B mk th) F s.heap _ _ := hW
          refine lv_iload_n hX_ hB_ dX9_gives_38 rfl (lv_at hl 1 rfl) ?_
          refine lv_aload_n hX_ hB_ dX9_gives_39 rfl (lv_at hl 2 rfl) ?_
          refine ze_get (ci := 9) (C := RX9) (T := TX9) (N := 39) (v := .ref (d 8)) S hiX9 hK hW 0 rfl rfl 7 (by decide) rfl w8 dX9_gives_40 ?_
          refine lv_iload hX_ hB_ dX9_gives_43 (lv_at hl 0 rfl) ?_
          refine ze_ialdN hX_ hB_ hK hW 8 (f := A 7) rfl (i := i5) (by omega) (by decide) dX9_gives_45 ?_
          refine lv_iadd hX_ hB_ dX9_gives_46 ?_
          refine lv_istore_n (lv' := [(3, .int (zf_gs A mk m i5 + A 7 i5)), (4, .int (nI i5)), (0, .ref (d 0)), (1, .int m), (2, .int t)]) hX_ hB_ dX9_gives_47 rfl hl (by decide) rfl (fun ls hl => ?_)
          refine lv_iinc (v := nI (i5 + 1)) (lv' := [(4, .int (nI (i5 + 1))), (3, .int (zf_gs A mk m i5 + A 7 i5)), (0, .ref (d 0)), (1, .int m), (2, .int t)]) hX_ hB_ dX9_gives_48 hl (k := 1) rfl (ze_inc _) (by decide) rfl (fun ls hl => ?_)
          refine lv_goto (tgt := 5) hX_ hB_ dX9_gives_51 (by decide) ?_
          have eL3 : zf_gs A mk m i5 + A 7 i5 = zf_gs A mk m (i5 + 1) := (by simp only [ze_b, zf_gs, ze_sum, eq_true c11, eq_true c21, not_true_eq_false, not_false_eq_true, and_true, true_and, and_false, false_and, or_true, true_or, or_false, false_or, and_self, or_self, Decidable.not_not, if_true, if_false, reduceIte, reduceCtorEq, ne_eq, eq_self, Int32.lt_irrefl, Int32.le_refl, Nat.lt_irrefl, Int32.add_zero])
          have hl : lv_has ls 7 [(4, .int (nI (i5 + 1))), (3, .int (zf_gs A mk m (i5 + 1))), (0, .ref (d 0)), (1, .int m), (2, .int t)] := by
            first | (rw [← eL3]; exact hl) | (simp only [← eL3]; exact hl)
          have eW : (ze_wR c d n (ze_sE (ze_sA A 12 (ze_up (zf_g1 A mk m) (A 12) i5)) 12 i5 (A 7 i5)) B mk th) = (ze_wR c d n (ze_sA A 12 (ze_up (zf_g1 A mk m) (A 12) (i5 + 1))) B mk th) := (by rw [ze_e1, ze_up_s (by simp only [ze_b, zf_g1, eq_true c11, eq_true c21, not_true_eq_false, not_false_eq_true, and_true, true_and, and_false, false_and, or_true, true_or, or_false, false_or, and_self, or_self, Decidable.not_not, if_true, if_false, reduceIte, reduceCtorEq, ne_eq, eq_self, Int32.lt_irrefl, Int32.le_refl, Nat.lt_irrefl])])
          rw [eW] at hW
          exact ih5 (i5 + 1) (by omega) (by omega) _ _ ls hW (lv_sub hl [0, 1, 2, 3, 4] rfl)
  have hl : lv_has ls 7 [(4, .int (nI 0)), (3, .int (zf_gs A mk m 0)), (0, .ref (d 0)), (1, .int m), (2, .int t)] := hl
  have hW : ze_W D (ze_wR c d n (ze_sA A 12 (ze_up (zf_g1 A mk m) (A 12) 0)) B mk th) F s.heap _ _ := (by rw [ze_up_0, ze_sAid]; exact hW)
  exact L5 _ 0 (by omega) (Nat.lt_succ_self _) _ _ ls hW (lv_sub hl [0, 1, 2, 3, 4] rfl)
