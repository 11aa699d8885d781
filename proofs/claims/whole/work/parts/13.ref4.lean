set_option maxHeartbeats 4000000 in
set_option maxRecDepth 100000 in
theorem zr_addSite_t1 (l : Launch) (D : va_G) (c : Nat → ClassId) (d n : Nat → Nat) (A : Nat → Nat → Int32) (B : Nat → Int64) (mk : Nat → Int32) (th : Int32) (hN : zf_N n) (h : n 0 = 6) : ze_I l yX9_addSite wsX9_addSite 1 22 0 0 D c (ze_wR c d n A B mk th) [.ref (d 0)] 0 (ze_wR c d n A B mk 1) := by
  intro sz
  refine ze_start (cc := cX9_addSite) (maxL := 1) (ret := (some .int)) (own := RX9) (by decide) rfl rfl (Nat.le_of_ble_eq_true rfl) ?_
  obtain ⟨hn0, hn1, hn2, hn3, hn4⟩ := id hN
  intro p e s m_ below meth cd F ls hF hsz E0
  obtain ⟨S, hr, hlocks, hK, hW, hA, hl⟩ := E0
  have hX_ := S.1
  have hB_ := S.2.1
  have hts := S.2.2.2.2
  have hl : lv_has ls 1 [(0, .ref (d 0))] := hl
  have hiX9 : ∀ w ∈ u_ws RX9 TX9 39, w ∈ wsX9_addSite := fun _ h => (List.mem_cons_of_mem _ (List.mem_append_right _ h))
  have w0 := hts (.fieldLink RX9 88 "IslandgridModel" "sites" "I") (List.mem_cons_of_mem _ (List.mem_append_left _ (List.mem_of_getElem? (i := 0) rfl)))
  refine lv_aload_n hX_ hB_ dX9_addSite_0 rfl (lv_at hl 0 rfl) ?_
  refine lv_aload_n hX_ hB_ dX9_addSite_1 rfl (lv_at hl 0 rfl) ?_
  refine ze_get (ci := 9) (C := RX9) (T := TX9) (N := 39) (v := .int (nI (n 0))) S hiX9 hK hW 0 rfl rfl 23 (by decide) rfl w0 dX9_addSite_2 ?_
  refine lv_bipush (v := 6) hX_ hB_ dX9_addSite_5 (by decide) ?_
  refine lv_icmp_ne (tgt := 14) hX_ hB_ dX9_addSite_7 (by decide) (fun c7 => ?_) (fun c7 => ?_)
  · have c7 : ¬ (n 0) = 6 := fun h9 => c7 ((nI_eq (a := (n 0)) (b := 6) (by omega) (by omega)).mpr h9)
    exact absurd h c7
  · have c7 : (n 0) = 6 := (nI_eq (a := (n 0)) (b := 6) (by omega) (by omega)).mp c7
    refine lv_iconst (v := 1) hX_ hB_ dX9_addSite_10 (by decide) ?_
    refine lv_goto (tgt := 15) hX_ hB_ dX9_addSite_11 (by decide) ?_
    refine lv_iconst (v := 1) hX_ hB_ dX9_addSite_15 (by decide) ?_
    refine ze_Vi (As := [.int 1, .int 1]) (rest := []) (ci := 9) (q0 := 0) (k := (RX9, TX9, 39)) S (zr_isThrown l D c d n A B mk th 1 1 1 rfl (if_neg (by decide))) (cwV 2 hts gX9_addSite_X9_isThrown rfl rfl rfl (by decide +kernel) ⟨Nat.le_of_ble_eq_true rfl, Nat.le_of_ble_eq_true rfl⟩) hK hW hA rfl rfl rfl hl.1 rfl (lv_room (Nat.le_of_ble_eq_true rfl)) dX9_addSite_16 ⟨Nat.le_of_ble_eq_true rfl, Nat.le_of_ble_eq_true rfl⟩ (fun H locs hW => ?_)
    have hW : ze_W D (ze_wR c d n A B mk 1) F s.heap _ _ := hW
    refine lv_if_eq (tgt := 24) hX_ hB_ dX9_addSite_19 (by decide) (fun c19 => ?_) (fun c19 => ?_)
    · exact absurd c19 (by decide)
    · refine lv_iconst (v := 0) hX_ hB_ dX9_addSite_22 (by decide) ?_
      exact ze_iret S hr hlocks hF hK hW rfl dX9_addSite_23 (Nat.le_of_ble_eq_true rfl) (Nat.le_of_ble_eq_true rfl) rfl rfl
set_option maxHeartbeats 4000000 in
set_option maxRecDepth 100000 in
theorem zr_addSite_f (l : Launch) (D : va_G) (c : Nat → ClassId) (d n : Nat → Nat) (A : Nat → Nat → Int32) (B : Nat → Int64) (mk : Nat → Int32) (th : Int32) (hN : zf_N n) (h : ¬ n 0 = 6) : ze_I l yX9_addSite wsX9_addSite 1 22 0 0 D c (ze_wR c d n A B mk th) [.ref (d 0)] (nI (n 0)) (ze_wR c d (ze_sn n 0 (n 0 + 1)) A B mk 0) := by
  intro sz
  refine ze_start (cc := cX9_addSite) (maxL := 1) (ret := (some .int)) (own := RX9) (by decide) rfl rfl (Nat.le_of_ble_eq_true rfl) ?_
  obtain ⟨hn0, hn1, hn2, hn3, hn4⟩ := id hN
  intro p e s m_ below meth cd F ls hF hsz E0
  obtain ⟨S, hr, hlocks, hK, hW, hA, hl⟩ := E0
  have hX_ := S.1
  have hB_ := S.2.1
  have hts := S.2.2.2.2
  have hl : lv_has ls 1 [(0, .ref (d 0))] := hl
  have hiX9 : ∀ w ∈ u_ws RX9 TX9 39, w ∈ wsX9_addSite := fun _ h => (List.mem_cons_of_mem _ (List.mem_append_right _ h))
  have w0 := hts (.fieldLink RX9 88 "IslandgridModel" "sites" "I") (List.mem_cons_of_mem _ (List.mem_append_left _ (List.mem_of_getElem? (i := 0) rfl)))
  refine lv_aload_n hX_ hB_ dX9_addSite_0 rfl (lv_at hl 0 rfl) ?_
  refine lv_aload_n hX_ hB_ dX9_addSite_1 rfl (lv_at hl 0 rfl) ?_
  refine ze_get (ci := 9) (C := RX9) (T := TX9) (N := 39) (v := .int (nI (n 0))) S hiX9 hK hW 0 rfl rfl 23 (by decide) rfl w0 dX9_addSite_2 ?_
  refine lv_bipush (v := 6) hX_ hB_ dX9_addSite_5 (by decide) ?_
  refine lv_icmp_ne (tgt := 14) hX_ hB_ dX9_addSite_7 (by decide) (fun c7 => ?_) (fun c7 => ?_)
  · have c7 : ¬ (n 0) = 6 := fun h9 => c7 ((nI_eq (a := (n 0)) (b := 6) (by omega) (by omega)).mpr h9)
    refine lv_iconst (v := 0) hX_ hB_ dX9_addSite_14 (by decide) ?_
    refine lv_iconst (v := 1) hX_ hB_ dX9_addSite_15 (by decide) ?_
    refine ze_Vi (As := [.int 0, .int 1]) (rest := []) (ci := 9) (q0 := 0) (k := (RX9, TX9, 39)) S (zr_isThrown l D c d n A B mk th 0 1 0 rfl (if_pos rfl)) (cwV 2 hts gX9_addSite_X9_isThrown rfl rfl rfl (by decide +kernel) ⟨Nat.le_of_ble_eq_true rfl, Nat.le_of_ble_eq_true rfl⟩) hK hW hA rfl rfl rfl hl.1 rfl (lv_room (Nat.le_of_ble_eq_true rfl)) dX9_addSite_16 ⟨Nat.le_of_ble_eq_true rfl, Nat.le_of_ble_eq_true rfl⟩ (fun H locs hW => ?_)
    have hW : ze_W D (ze_wR c d n A B mk 0) F s.heap _ _ := hW
    refine lv_if_eq (tgt := 24) hX_ hB_ dX9_addSite_19 (by decide) (fun c19 => ?_) (fun c19 => ?_)
    · refine lv_aload_n hX_ hB_ dX9_addSite_24 rfl (lv_at hl 0 rfl) ?_
      refine lv_dup hX_ hB_ dX9_addSite_25 rfl ?_
      refine ze_get (ci := 9) (C := RX9) (T := TX9) (N := 39) (v := .int (nI (n 0))) S hiX9 hK hW 0 rfl rfl 23 (by decide) rfl w0 dX9_addSite_26 ?_
      refine lv_iconst (v := 1) hX_ hB_ dX9_addSite_29 (by decide) ?_
      refine lv_iadd hX_ hB_ dX9_addSite_30 ?_
      refine ze_top (nI_add (n 0) 1) ?_
      refine ze_put (ci := 9) (C := RX9) (T := TX9) (N := 39) (v := .int (nI (n 0 + 1))) S hiX9 tyX9 tyX9_ok nmX9 hK hW 0 rfl rfl 23 (by decide) (Nat.le_of_ble_eq_true rfl) rfl rfl rfl w0 dX9_addSite_31 (ze_pR23 (n 0 + 1) _ _ _ _ _ _ _) (fun H locs hW => ?_)
      have hW : ze_W D (ze_wR c d (ze_sn n 0 (n 0 + 1)) A B mk 0) F s.heap _ _ := hW
      refine lv_aload_n hX_ hB_ dX9_addSite_34 rfl (lv_at hl 0 rfl) ?_
      refine ze_get (ci := 9) (C := RX9) (T := TX9) (N := 39) (v := .int (nI (n 0 + 1))) S hiX9 hK hW 0 rfl rfl 23 (by decide) rfl w0 dX9_addSite_35 ?_
      refine lv_iconst (v := 1) hX_ hB_ dX9_addSite_38 (by decide) ?_
      refine lv_isub hX_ hB_ dX9_addSite_39 ?_
      refine ze_top (nI_pred (n 0)) ?_
      exact ze_iret S hr hlocks hF hK hW rfl dX9_addSite_40 (Nat.le_of_ble_eq_true rfl) (Nat.le_of_ble_eq_true rfl) rfl rfl
    · exact absurd c19 (by decide)
  · have c7 : (n 0) = 6 := (nI_eq (a := (n 0)) (b := 6) (by omega) (by omega)).mp c7
    exact absurd c7 h
set_option maxHeartbeats 4000000 in
set_option maxRecDepth 100000 in
theorem zr_setPhase_t1 (l : Launch) (D : va_G) (c : Nat → ClassId) (d n : Nat → Nat) (A : Nat → Nat → Int32) (B : Nat → Int64) (mk : Nat → Int32) (th : Int32) (x : Int32) (hN : zf_N n) (hx : ¬ zf_isIn x 0 (nI (n 0) - 1)) (y : Int32) : ze_I l yX9_setPhase wsX9_setPhase 2 43 0 0 D c (ze_wR c d n A B mk th) [.ref (d 0), .int x, .int y] 0 (ze_wR c d n A B mk 1) := by
  intro sz
  refine ze_start (cc := cX9_setPhase) (maxL := 4) (ret := (some .int)) (own := RX9) (by decide) rfl rfl (Nat.le_of_ble_eq_true rfl) ?_
  obtain ⟨hn0, hn1, hn2, hn3, hn4⟩ := id hN
  intro p e s m_ below meth cd F ls hF hsz E0
  obtain ⟨S, hr, hlocks, hK, hW, hA, hl⟩ := E0
  have hX_ := S.1
  have hB_ := S.2.1
  have hts := S.2.2.2.2
  have hl : lv_has ls 4 [(0, .ref (d 0)), (1, .int x), (2, .int y)] := hl
  refine lv_aload_n hX_ hB_ dX9_setPhase_0 rfl (lv_at hl 0 rfl) ?_
  refine lv_iload_n hX_ hB_ dX9_setPhase_1 rfl (lv_at hl 1 rfl) ?_
  refine ze_Vi (As := [.int x]) (rest := []) (ci := 9) (q0 := 0) (k := (RX9, TX9, 39)) S (zr_isNoSite l D c d n A B mk th x) (cwV 1 hts gX9_setPhase_X9_isNoSite rfl rfl rfl (by decide +kernel) ⟨Nat.le_of_ble_eq_true rfl, Nat.le_of_ble_eq_true rfl⟩) hK hW hA rfl rfl rfl hl.1 rfl (lv_room (Nat.le_of_ble_eq_true rfl)) dX9_setPhase_2 ⟨Nat.le_of_ble_eq_true rfl, Nat.le_of_ble_eq_true rfl⟩ (fun H locs hW => ?_)
  have hW : ze_W D (ze_wR c d n A B mk (if zf_isIn x 0 (nI (n 0) - 1) then 0 else 1)) F s.heap _ _ := hW
  refine lv_if_ne (tgt := 32) hX_ hB_ dX9_setPhase_5 (by decide) (fun c5 => ?_) (fun c5 => ?_)
  · have c5 : ¬ zf_isIn x 0 (nI (n 0) - 1) := ze_bt c5
    refine lv_iconst (v := 0) hX_ hB_ dX9_setPhase_32 (by decide) ?_
    exact ze_iret S hr hlocks hF hK hW rfl dX9_setPhase_33 (Nat.le_of_ble_eq_true rfl) (Nat.le_of_ble_eq_true rfl) rfl (by simp only [ze_b, eq_false hx, eq_false c5, not_true_eq_false, not_false_eq_true, and_true, true_and, and_false, false_and, or_true, true_or, or_false, false_or, and_self, or_self, Decidable.not_not, if_true, if_false, reduceIte, reduceCtorEq, ne_eq, eq_self, Int32.lt_irrefl, Int32.le_refl, Nat.lt_irrefl])
  · have c5 : ¬ (¬ zf_isIn x 0 (nI (n 0) - 1)) := ze_bf c5
    have c5 : zf_isIn x 0 (nI (n 0) - 1) := Decidable.of_not_not c5
    exact absurd c5 hx
set_option maxHeartbeats 4000000 in
set_option maxRecDepth 100000 in
theorem zr_setPhase_t2 (l : Launch) (D : va_G) (c : Nat → ClassId) (d n : Nat → Nat) (A : Nat → Nat → Int32) (B : Nat → Int64) (mk : Nat → Int32) (th : Int32) (j : Nat) (hN : zf_N n) (hj : j < n 0) (y : Int32) (hy : ¬ zf_isIn y 0 359) : ze_I l yX9_setPhase wsX9_setPhase 2 43 0 0 D c (ze_wR c d n A B mk th) [.ref (d 0), .int (nI j), .int y] 0 (ze_wR c d n A B mk 2) := by
  intro sz
  refine ze_start (cc := cX9_setPhase) (maxL := 4) (ret := (some .int)) (own := RX9) (by decide) rfl rfl (Nat.le_of_ble_eq_true rfl) ?_
  obtain ⟨hn0, hn1, hn2, hn3, hn4⟩ := id hN
  have hinj : zf_isIn (nI j) 0 (nI (n 0) - 1) := zf_isInN hj (by omega)
  intro p e s m_ below meth cd F ls hF hsz E0
  obtain ⟨S, hr, hlocks, hK, hW, hA, hl⟩ := E0
  have hX_ := S.1
  have hB_ := S.2.1
  have hts := S.2.2.2.2
  have hl : lv_has ls 4 [(0, .ref (d 0)), (1, .int (nI j)), (2, .int y)] := hl
  refine lv_aload_n hX_ hB_ dX9_setPhase_0 rfl (lv_at hl 0 rfl) ?_
  refine lv_iload_n hX_ hB_ dX9_setPhase_1 rfl (lv_at hl 1 rfl) ?_
  refine ze_Vi (As := [.int (nI j)]) (rest := []) (ci := 9) (q0 := 0) (k := (RX9, TX9, 39)) S (zr_isNoSite l D c d n A B mk th (nI j)) (cwV 1 hts gX9_setPhase_X9_isNoSite rfl rfl rfl (by decide +kernel) ⟨Nat.le_of_ble_eq_true rfl, Nat.le_of_ble_eq_true rfl⟩) hK hW hA rfl rfl rfl hl.1 rfl (lv_room (Nat.le_of_ble_eq_true rfl)) dX9_setPhase_2 ⟨Nat.le_of_ble_eq_true rfl, Nat.le_of_ble_eq_true rfl⟩ (fun H locs hW => ?_)
  have hW : ze_W D (ze_wR c d n A B mk (if zf_isIn (nI j) 0 (nI (n 0) - 1) then 0 else 1)) F s.heap _ _ := hW
  refine lv_if_ne (tgt := 32) hX_ hB_ dX9_setPhase_5 (by decide) (fun c5 => ?_) (fun c5 => ?_)
  · have c5 : ¬ zf_isIn (nI j) 0 (nI (n 0) - 1) := ze_bt c5
    exact absurd hinj c5
  · have c5 : ¬ (¬ zf_isIn (nI j) 0 (nI (n 0) - 1)) := ze_bf c5
    have c5 : zf_isIn (nI j) 0 (nI (n 0) - 1) := Decidable.of_not_not c5
    refine lv_aload_n hX_ hB_ dX9_setPhase_8 rfl (lv_at hl 0 rfl) ?_
    refine lv_iload_n hX_ hB_ dX9_setPhase_9 rfl (lv_at hl 2 rfl) ?_
    refine lv_iconst (v := 0) hX_ hB_ dX9_setPhase_10 (by decide) ?_
    refine lv_sipush (v := 359) hX_ hB_ dX9_setPhase_11 (by decide) ?_
    refine ze_Si (As := [.int y, .int 0, .int 359]) (rest := [.ref (d 0)]) S (zr_isIn l D c (ze_wR c d n A B mk (if zf_isIn (nI j) 0 (nI (n 0) - 1) then 0 else 1)) y 0 359) (va_cwS 3 hts gX9_setPhase_X9_isIn rfl rfl rfl (by decide +kernel) ⟨Nat.le_of_ble_eq_true rfl, Nat.le_of_ble_eq_true rfl⟩) hK hW hA rfl hl.1 rfl (lv_room (Nat.le_of_ble_eq_true rfl)) dX9_setPhase_14 ⟨Nat.le_of_ble_eq_true rfl, Nat.le_of_ble_eq_true rfl⟩ (fun H locs hW => ?_)
    refine lv_if_ne (tgt := 24) hX_ hB_ dX9_setPhase_17 (by decide) (fun c17 => ?_) (fun c17 => ?_)
    · have c17 : zf_isIn y 0 359 := ze_bt c17
      exact absurd c17 hy
    · have c17 : ¬ (zf_isIn y 0 359) := ze_bf c17
      refine lv_iconst (v := 1) hX_ hB_ dX9_setPhase_20 (by decide) ?_
      refine lv_goto (tgt := 25) hX_ hB_ dX9_setPhase_21 (by decide) ?_
      refine lv_iconst (v := 2) hX_ hB_ dX9_setPhase_25 (by decide) ?_
      refine ze_Vi (As := [.int 1, .int 2]) (rest := []) (ci := 9) (q0 := 0) (k := (RX9, TX9, 39)) S (zr_isThrown l D c d n A B mk (if zf_isIn (nI j) 0 (nI (n 0) - 1) then 0 else 1) 1 2 2 rfl (if_neg (by decide))) (cwV 2 hts gX9_setPhase_X9_isThrown rfl rfl rfl (by decide +kernel) ⟨Nat.le_of_ble_eq_true rfl, Nat.le_of_ble_eq_true rfl⟩) hK hW hA rfl rfl rfl hl.1 rfl (lv_room (Nat.le_of_ble_eq_true rfl)) dX9_setPhase_26 ⟨Nat.le_of_ble_eq_true rfl, Nat.le_of_ble_eq_true rfl⟩ (fun H locs hW => ?_)
      have hW : ze_W D (ze_wR c d n A B mk 2) F s.heap _ _ := hW
      refine lv_if_eq (tgt := 34) hX_ hB_ dX9_setPhase_29 (by decide) (fun c29 => ?_) (fun c29 => ?_)
      · exact absurd c29 (by decide)
      · refine lv_iconst (v := 0) hX_ hB_ dX9_setPhase_32 (by decide) ?_
        exact ze_iret S hr hlocks hF hK hW rfl dX9_setPhase_33 (Nat.le_of_ble_eq_true rfl) (Nat.le_of_ble_eq_true rfl) rfl rfl
set_option maxHeartbeats 4000000 in
set_option maxRecDepth 100000 in
theorem zr_setPhase_f (l : Launch) (D : va_G) (c : Nat → ClassId) (d n : Nat → Nat) (A : Nat → Nat → Int32) (B : Nat → Int64) (mk : Nat → Int32) (th : Int32) (j : Nat) (hN : zf_N n) (hj : j < n 0) (y : Int32) (hy : zf_isIn y 0 359) : ze_I l yX9_setPhase wsX9_setPhase 2 43 0 0 D c (ze_wR c d n A B mk th) [.ref (d 0), .int (nI j), .int y] (A 0 j) (ze_wR c d n (ze_sE A 0 j y) B mk 0) := by
  intro sz
  refine ze_start (cc := cX9_setPhase) (maxL := 4) (ret := (some .int)) (own := RX9) (by decide) rfl rfl (Nat.le_of_ble_eq_true rfl) ?_
  obtain ⟨hn0, hn1, hn2, hn3, hn4⟩ := id hN
  have hinj : zf_isIn (nI j) 0 (nI (n 0) - 1) := zf_isInN hj (by omega)
  intro p e s m_ below meth cd F ls hF hsz E0
  obtain ⟨S, hr, hlocks, hK, hW, hA, hl⟩ := E0
  have hX_ := S.1
  have hB_ := S.2.1
  have hts := S.2.2.2.2
  have hl : lv_has ls 4 [(0, .ref (d 0)), (1, .int (nI j)), (2, .int y)] := hl
  have hiX9 : ∀ w ∈ u_ws RX9 TX9 39, w ∈ wsX9_setPhase := fun _ h => (List.mem_cons_of_mem _ (List.mem_append_right _ h))
  have w0 := hts (.fieldLink RX9 9 "IslandgridModel" "phase" "[I") (List.mem_cons_of_mem _ (List.mem_append_left _ (List.mem_of_getElem? (i := 0) rfl)))
  refine lv_aload_n hX_ hB_ dX9_setPhase_0 rfl (lv_at hl 0 rfl) ?_
  refine lv_iload_n hX_ hB_ dX9_setPhase_1 rfl (lv_at hl 1 rfl) ?_
  refine ze_Vi (As := [.int (nI j)]) (rest := []) (ci := 9) (q0 := 0) (k := (RX9, TX9, 39)) S (zr_isNoSite l D c d n A B mk th (nI j)) (cwV 1 hts gX9_setPhase_X9_isNoSite rfl rfl rfl (by decide +kernel) ⟨Nat.le_of_ble_eq_true rfl, Nat.le_of_ble_eq_true rfl⟩) hK hW hA rfl rfl rfl hl.1 rfl (lv_room (Nat.le_of_ble_eq_true rfl)) dX9_setPhase_2 ⟨Nat.le_of_ble_eq_true rfl, Nat.le_of_ble_eq_true rfl⟩ (fun H locs hW => ?_)
  have hW : ze_W D (ze_wR c d n A B mk (if zf_isIn (nI j) 0 (nI (n 0) - 1) then 0 else 1)) F s.heap _ _ := hW
  refine lv_if_ne (tgt := 32) hX_ hB_ dX9_setPhase_5 (by decide) (fun c5 => ?_) (fun c5 => ?_)
  · have c5 : ¬ zf_isIn (nI j) 0 (nI (n 0) - 1) := ze_bt c5
    exact absurd hinj c5
  · have c5 : ¬ (¬ zf_isIn (nI j) 0 (nI (n 0) - 1)) := ze_bf c5
    have c5 : zf_isIn (nI j) 0 (nI (n 0) - 1) := Decidable.of_not_not c5
    refine lv_aload_n hX_ hB_ dX9_setPhase_8 rfl (lv_at hl 0 rfl) ?_
    refine lv_iload_n hX_ hB_ dX9_setPhase_9 rfl (lv_at hl 2 rfl) ?_
    refine lv_iconst (v := 0) hX_ hB_ dX9_setPhase_10 (by decide) ?_
    refine lv_sipush (v := 359) hX_ hB_ dX9_setPhase_11 (by decide) ?_
    refine ze_Si (As := [.int y, .int 0, .int 359]) (rest := [.ref (d 0)]) S (zr_isIn l D c (ze_wR c d n A B mk (if zf_isIn (nI j) 0 (nI (n 0) - 1) then 0 else 1)) y 0 359) (va_cwS 3 hts gX9_setPhase_X9_isIn rfl rfl rfl (by decide +kernel) ⟨Nat.le_of_ble_eq_true rfl, Nat.le_of_ble_eq_true rfl⟩) hK hW hA rfl hl.1 rfl (lv_room (Nat.le_of_ble_eq_true rfl)) dX9_setPhase_14 ⟨Nat.le_of_ble_eq_true rfl, Nat.le_of_ble_eq_true rfl⟩ (fun H locs hW => ?_)
    refine lv_if_ne (tgt := 24) hX_ hB_ dX9_setPhase_17 (by decide) (fun c17 => ?_) (fun c17 => ?_)
    · have c17 : zf_isIn y 0 359 := ze_bt c17
      refine lv_iconst (v := 0) hX_ hB_ dX9_setPhase_24 (by decide) ?_
      refine lv_iconst (v := 2) hX_ hB_ dX9_setPhase_25 (by decide) ?_
      refine ze_Vi (As := [.int 0, .int 2]) (rest := []) (ci := 9) (q0 := 0) (k := (RX9, TX9, 39)) S (zr_isThrown l D c d n A B mk (if zf_isIn (nI j) 0 (nI (n 0) - 1) then 0 else 1) 0 2 0 rfl (if_pos rfl)) (cwV 2 hts gX9_setPhase_X9_isThrown rfl rfl rfl (by decide +kernel) ⟨Nat.le_of_ble_eq_true rfl, Nat.le_of_ble_eq_true rfl⟩) hK hW hA rfl rfl rfl hl.1 rfl (lv_room (Nat.le_of_ble_eq_true rfl)) dX9_setPhase_26 ⟨Nat.le_of_ble_eq_true rfl, Nat.le_of_ble_eq_true rfl⟩ (fun H locs hW => ?_)
      have hW : ze_W D (ze_wR c d n A B mk 0) F s.heap _ _ := hW
      refine lv_if_eq (tgt := 34) hX_ hB_ dX9_setPhase_29 (by decide) (fun c29 => ?_) (fun c29 => ?_)
      · refine lv_aload_n hX_ hB_ dX9_setPhase_34 rfl (lv_at hl 0 rfl) ?_
        refine ze_get (ci := 9) (C := RX9) (T := TX9) (N := 39) (v := .ref (d 1)) S hiX9 hK hW 0 rfl rfl 0 (by decide) rfl w0 dX9_setPhase_35 ?_
        refine lv_iload_n hX_ hB_ dX9_setPhase_38 rfl (lv_at hl 1 rfl) ?_
        refine ze_ialdN hX_ hB_ hK hW 1 (f := A 0) rfl (i := j) (by omega) (by decide) dX9_setPhase_39 ?_
        refine lv_istore_n (lv' := [(3, .int (A 0 j)), (0, .ref (d 0)), (1, .int (nI j)), (2, .int y)]) hX_ hB_ dX9_setPhase_40 rfl hl (by decide) rfl (fun ls hl => ?_)
        refine lv_aload_n hX_ hB_ dX9_setPhase_41 rfl (lv_at hl 1 rfl) ?_
        refine ze_get (ci := 9) (C := RX9) (T := TX9) (N := 39) (v := .ref (d 1)) S hiX9 hK hW 0 rfl rfl 0 (by decide) rfl w0 dX9_setPhase_42 ?_
        refine lv_iload_n hX_ hB_ dX9_setPhase_45 rfl (lv_at hl 2 rfl) ?_
        refine lv_iload_n hX_ hB_ dX9_setPhase_46 rfl (lv_at hl 3 rfl) ?_
        refine ze_iastN hX_ hB_ hK hW 1 (f := A 0) rfl (i := j) (by omega) (by decide) dX9_setPhase_47 (ze_qR0 j y _ _ _ _ _ _ _) (fun H locs hW => ?_)
        have hW : ze_W D (ze_wR c d n (ze_sE A 0 j y) B mk 0) F s.heap _ _ := hW
        refine lv_iload_n hX_ hB_ dX9_setPhase_48 rfl (lv_at hl 0 rfl) ?_
        exact ze_iret S hr hlocks hF hK hW rfl dX9_setPhase_49 (Nat.le_of_ble_eq_true rfl) (Nat.le_of_ble_eq_true rfl) rfl rfl
      · exact absurd c29 (by decide)
    · have c17 : ¬ (zf_isIn y 0 359) := ze_bf c17
      exact absurd hy c17
set_option maxHeartbeats 4000000 in
set_option maxRecDepth 100000 in
theorem zr_addLine_t1a (l : Launch) (D : va_G) (c : Nat → ClassId) (d n : Nat → Nat) (A : Nat → Nat → Int32) (B : Nat → Int64) (mk : Nat → Int32) (th : Int32) (x : Int32) (hN : zf_N n) (hx : ¬ zf_isIn x 0 (nI (n 0) - 1)) (y : Int32) : ze_I l yX9_addLine wsX9_addLine 1 22 0 0 D c (ze_wR c d n A B mk th) [.ref (d 0), .int x, .int y] 0 (ze_wR c d n A B mk 1) := by
  intro sz
  refine ze_start (cc := cX9_addLine) (maxL := 3) (ret := (some .int)) (own := RX9) (by decide) rfl rfl (Nat.le_of_ble_eq_true rfl) ?_
  obtain ⟨hn0, hn1, hn2, hn3, hn4⟩ := id hN
  intro p e s m_ below meth cd F ls hF hsz E0
  obtain ⟨S, hr, hlocks, hK, hW, hA, hl⟩ := E0
  have hX_ := S.1
  have hB_ := S.2.1
  have hts := S.2.2.2.2
  have hl : lv_has ls 3 [(0, .ref (d 0)), (1, .int x), (2, .int y)] := hl
  have hiX9 : ∀ w ∈ u_ws RX9 TX9 39, w ∈ wsX9_addLine := fun _ h => (List.mem_cons_of_mem _ (List.mem_append_right _ h))
  have w0 := hts (.fieldLink RX9 88 "IslandgridModel" "sites" "I") (List.mem_cons_of_mem _ (List.mem_append_left _ (List.mem_of_getElem? (i := 0) rfl)))
  refine lv_aload_n hX_ hB_ dX9_addLine_0 rfl (lv_at hl 0 rfl) ?_
  refine lv_iload_n hX_ hB_ dX9_addLine_1 rfl (lv_at hl 1 rfl) ?_
  refine lv_iconst (v := 0) hX_ hB_ dX9_addLine_2 (by decide) ?_
  refine lv_aload_n hX_ hB_ dX9_addLine_3 rfl (lv_at hl 0 rfl) ?_
  refine ze_get (ci := 9) (C := RX9) (T := TX9) (N := 39) (v := .int (nI (n 0))) S hiX9 hK hW 0 rfl rfl 23 (by decide) rfl w0 dX9_addLine_4 ?_
  refine lv_iconst (v := 1) hX_ hB_ dX9_addLine_7 (by decide) ?_
  refine lv_isub hX_ hB_ dX9_addLine_8 ?_
  refine ze_Si (As := [.int x, .int 0, .int (nI (n 0) - 1)]) (rest := [.ref (d 0)]) S (zr_isIn l D c (ze_wR c d n A B mk th) x 0 (nI (n 0) - 1)) (va_cwS 3 hts gX9_addLine_X9_isIn rfl rfl rfl (by decide +kernel) ⟨Nat.le_of_ble_eq_true rfl, Nat.le_of_ble_eq_true rfl⟩) hK hW hA rfl hl.1 rfl (lv_room (Nat.le_of_ble_eq_true rfl)) dX9_addLine_9 ⟨Nat.le_of_ble_eq_true rfl, Nat.le_of_ble_eq_true rfl⟩ (fun H locs hW => ?_)
  refine lv_if_eq (tgt := 29) hX_ hB_ dX9_addLine_12 (by decide) (fun c12 => ?_) (fun c12 => ?_)
  · have c12 : ¬ (zf_isIn x 0 (nI (n 0) - 1)) := ze_bf c12
    refine lv_iconst (v := 1) hX_ hB_ dX9_addLine_29 (by decide) ?_
    refine lv_goto (tgt := 34) hX_ hB_ dX9_addLine_30 (by decide) ?_
    refine lv_iconst (v := 1) hX_ hB_ dX9_addLine_34 (by decide) ?_
    refine ze_Vi (As := [.int 1, .int 1]) (rest := []) (ci := 9) (q0 := 0) (k := (RX9, TX9, 39)) S (zr_isThrown l D c d n A B mk th 1 1 1 rfl (if_neg (by decide))) (cwV 2 hts gX9_addLine_X9_isThrown rfl rfl rfl (by decide +kernel) ⟨Nat.le_of_ble_eq_true rfl, Nat.le_of_ble_eq_true rfl⟩) hK hW hA rfl rfl rfl hl.1 rfl (lv_room (Nat.le_of_ble_eq_true rfl)) dX9_addLine_35 ⟨Nat.le_of_ble_eq_true rfl, Nat.le_of_ble_eq_true rfl⟩ (fun H locs hW => ?_)
    have hW : ze_W D (ze_wR c d n A B mk 1) F s.heap _ _ := hW
    refine lv_if_ne (tgt := 81) hX_ hB_ dX9_addLine_38 (by decide) (fun c38 => ?_) (fun c38 => ?_)
    · refine lv_iconst (v := 0) hX_ hB_ dX9_addLine_81 (by decide) ?_
      exact ze_iret S hr hlocks hF hK hW rfl dX9_addLine_82 (Nat.le_of_ble_eq_true rfl) (Nat.le_of_ble_eq_true rfl) rfl rfl
    · exact absurd c38 (by decide)
  · have c12 : zf_isIn x 0 (nI (n 0) - 1) := ze_bt c12
    exact absurd c12 hx
set_option maxHeartbeats 4000000 in
set_option maxRecDepth 100000 in
theorem zr_addLine_t1b (l : Launch) (D : va_G) (c : Nat → ClassId) (d n : Nat → Nat) (A : Nat → Nat → Int32) (B : Nat → Int64) (mk : Nat → Int32) (th : Int32) (j : Nat) (hN : zf_N n) (hj : j < n 0) (y : Int32) (hy : ¬ zf_isIn y 0 (nI (n 0) - 1)) : ze_I l yX9_addLine wsX9_addLine 1 22 0 0 D c (ze_wR c d n A B mk th) [.ref (d 0), .int (nI j), .int y] 0 (ze_wR c d n A B mk 1) := by
  intro sz
  refine ze_start (cc := cX9_addLine) (maxL := 3) (ret := (some .int)) (own := RX9) (by decide) rfl rfl (Nat.le_of_ble_eq_true rfl) ?_
  obtain ⟨hn0, hn1, hn2, hn3, hn4⟩ := id hN
  have hinj : zf_isIn (nI j) 0 (nI (n 0) - 1) := zf_isInN hj (by omega)
  intro p e s m_ below meth cd F ls hF hsz E0
  obtain ⟨S, hr, hlocks, hK, hW, hA, hl⟩ := E0
  have hX_ := S.1
  have hB_ := S.2.1
  have hts := S.2.2.2.2
  have hl : lv_has ls 3 [(0, .ref (d 0)), (1, .int (nI j)), (2, .int y)] := hl
  have hiX9 : ∀ w ∈ u_ws RX9 TX9 39, w ∈ wsX9_addLine := fun _ h => (List.mem_cons_of_mem _ (List.mem_append_right _ h))
  have w0 := hts (.fieldLink RX9 88 "IslandgridModel" "sites" "I") (List.mem_cons_of_mem _ (List.mem_append_left _ (List.mem_of_getElem? (i := 0) rfl)))
  refine lv_aload_n hX_ hB_ dX9_addLine_0 rfl (lv_at hl 0 rfl) ?_
  refine lv_iload_n hX_ hB_ dX9_addLine_1 rfl (lv_at hl 1 rfl) ?_
  refine lv_iconst (v := 0) hX_ hB_ dX9_addLine_2 (by decide) ?_
  refine lv_aload_n hX_ hB_ dX9_addLine_3 rfl (lv_at hl 0 rfl) ?_
  refine ze_get (ci := 9) (C := RX9) (T := TX9) (N := 39) (v := .int (nI (n 0))) S hiX9 hK hW 0 rfl rfl 23 (by decide) rfl w0 dX9_addLine_4 ?_
  refine lv_iconst (v := 1) hX_ hB_ dX9_addLine_7 (by decide) ?_
  refine lv_isub hX_ hB_ dX9_addLine_8 ?_
  refine ze_Si (As := [.int (nI j), .int 0, .int (nI (n 0) - 1)]) (rest := [.ref (d 0)]) S (zr_isIn l D c (ze_wR c d n A B mk th) (nI j) 0 (nI (n 0) - 1)) (va_cwS 3 hts gX9_addLine_X9_isIn rfl rfl rfl (by decide +kernel) ⟨Nat.le_of_ble_eq_true rfl, Nat.le_of_ble_eq_true rfl⟩) hK hW hA rfl hl.1 rfl (lv_room (Nat.le_of_ble_eq_true rfl)) dX9_addLine_9 ⟨Nat.le_of_ble_eq_true rfl, Nat.le_of_ble_eq_true rfl⟩ (fun H locs hW => ?_)
  refine lv_if_eq (tgt := 29) hX_ hB_ dX9_addLine_12 (by decide) (fun c12 => ?_) (fun c12 => ?_)
  · have c12 : ¬ (zf_isIn (nI j) 0 (nI (n 0) - 1)) := ze_bf c12
    exact absurd hinj c12
  · have c12 : zf_isIn (nI j) 0 (nI (n 0) - 1) := ze_bt c12
    refine lv_iload_n hX_ hB_ dX9_addLine_15 rfl (lv_at hl 2 rfl) ?_
    refine lv_iconst (v := 0) hX_ hB_ dX9_addLine_16 (by decide) ?_
    refine lv_aload_n hX_ hB_ dX9_addLine_17 rfl (lv_at hl 0 rfl) ?_
    refine ze_get (ci := 9) (C := RX9) (T := TX9) (N := 39) (v := .int (nI (n 0))) S hiX9 hK hW 0 rfl rfl 23 (by decide) rfl w0 dX9_addLine_18 ?_
    refine lv_iconst (v := 1) hX_ hB_ dX9_addLine_21 (by decide) ?_
    refine lv_isub hX_ hB_ dX9_addLine_22 ?_
    refine ze_Si (As := [.int y, .int 0, .int (nI (n 0) - 1)]) (rest := [.ref (d 0)]) S (zr_isIn l D c (ze_wR c d n A B mk th) y 0 (nI (n 0) - 1)) (va_cwS 3 hts gX9_addLine_X9_isIn rfl rfl rfl (by decide +kernel) ⟨Nat.le_of_ble_eq_true rfl, Nat.le_of_ble_eq_true rfl⟩) hK hW hA rfl hl.1 rfl (lv_room (Nat.le_of_ble_eq_true rfl)) dX9_addLine_23 ⟨Nat.le_of_ble_eq_true rfl, Nat.le_of_ble_eq_true rfl⟩ (fun H locs hW => ?_)
    refine lv_if_ne (tgt := 33) hX_ hB_ dX9_addLine_26 (by decide) (fun c26 => ?_) (fun c26 => ?_)
    · have c26 : zf_isIn y 0 (nI (n 0) - 1) := ze_bt c26
      exact absurd c26 hy
    · have c26 : ¬ (zf_isIn y 0 (nI (n 0) - 1)) := ze_bf c26
      refine lv_iconst (v := 1) hX_ hB_ dX9_addLine_29 (by decide) ?_
      refine lv_goto (tgt := 34) hX_ hB_ dX9_addLine_30 (by decide) ?_
      refine lv_iconst (v := 1) hX_ hB_ dX9_addLine_34 (by decide) ?_
      refine ze_Vi (As := [.int 1, .int 1]) (rest := []) (ci := 9) (q0 := 0) (k := (RX9, TX9, 39)) S (zr_isThrown l D c d n A B mk th 1 1 1 rfl (if_neg (by decide))) (cwV 2 hts gX9_addLine_X9_isThrown rfl rfl rfl (by decide +kernel) ⟨Nat.le_of_ble_eq_true rfl, Nat.le_of_ble_eq_true rfl⟩) hK hW hA rfl rfl rfl hl.1 rfl (lv_room (Nat.le_of_ble_eq_true rfl)) dX9_addLine_35 ⟨Nat.le_of_ble_eq_true rfl, Nat.le_of_ble_eq_true rfl⟩ (fun H locs hW => ?_)
      have hW : ze_W D (ze_wR c d n A B mk 1) F s.heap _ _ := hW
      refine lv_if_ne (tgt := 81) hX_ hB_ dX9_addLine_38 (by decide) (fun c38 => ?_) (fun c38 => ?_)
      · refine lv_iconst (v := 0) hX_ hB_ dX9_addLine_81 (by decide) ?_
        exact ze_iret S hr hlocks hF hK hW rfl dX9_addLine_82 (Nat.le_of_ble_eq_true rfl) (Nat.le_of_ble_eq_true rfl) rfl rfl
      · exact absurd c38 (by decide)
set_option maxHeartbeats 4000000 in
set_option maxRecDepth 100000 in
theorem zr_addLine_t2 (l : Launch) (D : va_G) (c : Nat → ClassId) (d n : Nat → Nat) (A : Nat → Nat → Int32) (B : Nat → Int64) (mk : Nat → Int32) (th : Int32) (j : Nat) (hN : zf_N n) (hj : j < n 0) (k : Nat) (hk : k < n 0) (h : j = k) : ze_I l yX9_addLine wsX9_addLine 1 22 0 0 D c (ze_wR c d n A B mk th) [.ref (d 0), .int (nI j), .int (nI k)] 0 (ze_wR c d n A B mk 2) := by
  intro sz
  refine ze_start (cc := cX9_addLine) (maxL := 3) (ret := (some .int)) (own := RX9) (by decide) rfl rfl (Nat.le_of_ble_eq_true rfl) ?_
  obtain ⟨hn0, hn1, hn2, hn3, hn4⟩ := id hN
  have hinj : zf_isIn (nI j) 0 (nI (n 0) - 1) := zf_isInN hj (by omega)
  have hink : zf_isIn (nI k) 0 (nI (n 0) - 1) := zf_isInN hk (by omega)
  intro p e s m_ below meth cd F ls hF hsz E0
  obtain ⟨S, hr, hlocks, hK, hW, hA, hl⟩ := E0
  have hX_ := S.1
  have hB_ := S.2.1
  have hts := S.2.2.2.2
  have hl : lv_has ls 3 [(0, .ref (d 0)), (1, .int (nI j)), (2, .int (nI k))] := hl
  have hiX9 : ∀ w ∈ u_ws RX9 TX9 39, w ∈ wsX9_addLine := fun _ h => (List.mem_cons_of_mem _ (List.mem_append_right _ h))
  have w0 := hts (.fieldLink RX9 88 "IslandgridModel" "sites" "I") (List.mem_cons_of_mem _ (List.mem_append_left _ (List.mem_of_getElem? (i := 0) rfl)))
  refine lv_aload_n hX_ hB_ dX9_addLine_0 rfl (lv_at hl 0 rfl) ?_
  refine lv_iload_n hX_ hB_ dX9_addLine_1 rfl (lv_at hl 1 rfl) ?_
  refine lv_iconst (v := 0) hX_ hB_ dX9_addLine_2 (by decide) ?_
  refine lv_aload_n hX_ hB_ dX9_addLine_3 rfl (lv_at hl 0 rfl) ?_
  refine ze_get (ci := 9) (C := RX9) (T := TX9) (N := 39) (v := .int (nI (n 0))) S hiX9 hK hW 0 rfl rfl 23 (by decide) rfl w0 dX9_addLine_4 ?_
  refine lv_iconst (v := 1) hX_ hB_ dX9_addLine_7 (by decide) ?_
  refine lv_isub hX_ hB_ dX9_addLine_8 ?_
  refine ze_Si (As := [.int (nI j), .int 0, .int (nI (n 0) - 1)]) (rest := [.ref (d 0)]) S (zr_isIn l D c (ze_wR c d n A B mk th) (nI j) 0 (nI (n 0) - 1)) (va_cwS 3 hts gX9_addLine_X9_isIn rfl rfl rfl (by decide +kernel) ⟨Nat.le_of_ble_eq_true rfl, Nat.le_of_ble_eq_true rfl⟩) hK hW hA rfl hl.1 rfl (lv_room (Nat.le_of_ble_eq_true rfl)) dX9_addLine_9 ⟨Nat.le_of_ble_eq_true rfl, Nat.le_of_ble_eq_true rfl⟩ (fun H locs hW => ?_)
  refine lv_if_eq (tgt := 29) hX_ hB_ dX9_addLine_12 (by decide) (fun c12 => ?_) (fun c12 => ?_)
  · have c12 : ¬ (zf_isIn (nI j) 0 (nI (n 0) - 1)) := ze_bf c12
    exact absurd hinj c12
  · have c12 : zf_isIn (nI j) 0 (nI (n 0) - 1) := ze_bt c12
    refine lv_iload_n hX_ hB_ dX9_addLine_15 rfl (lv_at hl 2 rfl) ?_
    refine lv_iconst (v := 0) hX_ hB_ dX9_addLine_16 (by decide) ?_
    refine lv_aload_n hX_ hB_ dX9_addLine_17 rfl (lv_at hl 0 rfl) ?_
    refine ze_get (ci := 9) (C := RX9) (T := TX9) (N := 39) (v := .int (nI (n 0))) S hiX9 hK hW 0 rfl rfl 23 (by decide) rfl w0 dX9_addLine_18 ?_
    refine lv_iconst (v := 1) hX_ hB_ dX9_addLine_21 (by decide) ?_
    refine lv_isub hX_ hB_ dX9_addLine_22 ?_
    refine ze_Si (As := [.int (nI k), .int 0, .int (nI (n 0) - 1)]) (rest := [.ref (d 0)]) S (zr_isIn l D c (ze_wR c d n A B mk th) (nI k) 0 (nI (n 0) - 1)) (va_cwS 3 hts gX9_addLine_X9_isIn rfl rfl rfl (by decide +kernel) ⟨Nat.le_of_ble_eq_true rfl, Nat.le_of_ble_eq_true rfl⟩) hK hW hA rfl hl.1 rfl (lv_room (Nat.le_of_ble_eq_true rfl)) dX9_addLine_23 ⟨Nat.le_of_ble_eq_true rfl, Nat.le_of_ble_eq_true rfl⟩ (fun H locs hW => ?_)
    refine lv_if_ne (tgt := 33) hX_ hB_ dX9_addLine_26 (by decide) (fun c26 => ?_) (fun c26 => ?_)
    · have c26 : zf_isIn (nI k) 0 (nI (n 0) - 1) := ze_bt c26
      refine lv_iconst (v := 0) hX_ hB_ dX9_addLine_33 (by decide) ?_
      refine lv_iconst (v := 1) hX_ hB_ dX9_addLine_34 (by decide) ?_
      refine ze_Vi (As := [.int 0, .int 1]) (rest := []) (ci := 9) (q0 := 0) (k := (RX9, TX9, 39)) S (zr_isThrown l D c d n A B mk th 0 1 0 rfl (if_pos rfl)) (cwV 2 hts gX9_addLine_X9_isThrown rfl rfl rfl (by decide +kernel) ⟨Nat.le_of_ble_eq_true rfl, Nat.le_of_ble_eq_true rfl⟩) hK hW hA rfl rfl rfl hl.1 rfl (lv_room (Nat.le_of_ble_eq_true rfl)) dX9_addLine_35 ⟨Nat.le_of_ble_eq_true rfl, Nat.le_of_ble_eq_true rfl⟩ (fun H locs hW => ?_)
      have hW : ze_W D (ze_wR c d n A B mk 0) F s.heap _ _ := hW
      refine lv_if_ne (tgt := 81) hX_ hB_ dX9_addLine_38 (by decide) (fun c38 => ?_) (fun c38 => ?_)
      · exact absurd c38 (by decide)
      · refine lv_aload_n hX_ hB_ dX9_addLine_41 rfl (lv_at hl 0 rfl) ?_
        refine lv_iload_n hX_ hB_ dX9_addLine_42 rfl (lv_at hl 1 rfl) ?_
        refine lv_iload_n hX_ hB_ dX9_addLine_43 rfl (lv_at hl 2 rfl) ?_
        refine lv_icmp_ne (tgt := 51) hX_ hB_ dX9_addLine_44 (by decide) (fun c44 => ?_) (fun c44 => ?_)
        · have c44 : ¬ j = k := fun h9 => c44 ((nI_eq (a := j) (b := k) (by omega) (by omega)).mpr h9)
          exact absurd h c44
        · have c44 : j = k := (nI_eq (a := j) (b := k) (by omega) (by omega)).mp c44
          refine lv_iconst (v := 1) hX_ hB_ dX9_addLine_47 (by decide) ?_
          refine lv_goto (tgt := 52) hX_ hB_ dX9_addLine_48 (by decide) ?_
          refine lv_iconst (v := 2) hX_ hB_ dX9_addLine_52 (by decide) ?_
          refine ze_Vi (As := [.int 1, .int 2]) (rest := []) (ci := 9) (q0 := 0) (k := (RX9, TX9, 39)) S (zr_isThrown l D c d n A B mk 0 1 2 2 rfl (if_neg (by decide))) (cwV 2 hts gX9_addLine_X9_isThrown rfl rfl rfl (by decide +kernel) ⟨Nat.le_of_ble_eq_true rfl, Nat.le_of_ble_eq_true rfl⟩) hK hW hA rfl rfl rfl hl.1 rfl (lv_room (Nat.le_of_ble_eq_true rfl)) dX9_addLine_53 ⟨Nat.le_of_ble_eq_true rfl, Nat.le_of_ble_eq_true rfl⟩ (fun H locs hW => ?_)
          have hW : ze_W D (ze_wR c d n A B mk 2) F s.heap _ _ := hW
          refine lv_if_ne (tgt := 81) hX_ hB_ dX9_addLine_56 (by decide) (fun c56 => ?_) (fun c56 => ?_)
          · refine lv_iconst (v := 0) hX_ hB_ dX9_addLine_81 (by decide) ?_
            exact ze_iret S hr hlocks hF hK hW rfl dX9_addLine_82 (Nat.le_of_ble_eq_true rfl) (Nat.le_of_ble_eq_true rfl) rfl rfl
          · exact absurd c56 (by decide)
    · have c26 : ¬ (zf_isIn (nI k) 0 (nI (n 0) - 1)) := ze_bf c26
      exact absurd hink c26
set_option maxHeartbeats 4000000 in
set_option maxRecDepth 100000 in
theorem zr_addLine_t3 (l : Launch) (D : va_G) (c : Nat → ClassId) (d n : Nat → Nat) (A : Nat → Nat → Int32) (B : Nat → Int64) (mk : Nat → Int32) (th : Int32) (j : Nat) (hN : zf_N n) (hj : j < n 0) (k : Nat) (hk : k < n 0) (h : ¬ j = k) (h8 : n 1 = 8) : ze_I l yX9_addLine wsX9_addLine 1 22 0 0 D c (ze_wR c d n A B mk th) [.ref (d 0), .int (nI j), .int (nI k)] 0 (ze_wR c d n A B mk 3) := by
  intro sz
  refine ze_start (cc := cX9_addLine) (maxL := 3) (ret := (some .int)) (own := RX9) (by decide) rfl rfl (Nat.le_of_ble_eq_true rfl) ?_
  obtain ⟨hn0, hn1, hn2, hn3, hn4⟩ := id hN
  have hinj : zf_isIn (nI j) 0 (nI (n 0) - 1) := zf_isInN hj (by omega)
  have hink : zf_isIn (nI k) 0 (nI (n 0) - 1) := zf_isInN hk (by omega)
  intro p e s m_ below meth cd F ls hF hsz E0
  obtain ⟨S, hr, hlocks, hK, hW, hA, hl⟩ := E0
  have hX_ := S.1
  have hB_ := S.2.1
  have hts := S.2.2.2.2
  have hl : lv_has ls 3 [(0, .ref (d 0)), (1, .int (nI j)), (2, .int (nI k))] := hl
  have hiX9 : ∀ w ∈ u_ws RX9 TX9 39, w ∈ wsX9_addLine := fun _ h => (List.mem_cons_of_mem _ (List.mem_append_right _ h))
  have w0 := hts (.fieldLink RX9 88 "IslandgridModel" "sites" "I") (List.mem_cons_of_mem _ (List.mem_append_left _ (List.mem_of_getElem? (i := 0) rfl)))
  have w1 := hts (.fieldLink RX9 99 "IslandgridModel" "lines" "I") (List.mem_cons_of_mem _ (List.mem_append_left _ (List.mem_of_getElem? (i := 1) rfl)))
  refine lv_aload_n hX_ hB_ dX9_addLine_0 rfl (lv_at hl 0 rfl) ?_
  refine lv_iload_n hX_ hB_ dX9_addLine_1 rfl (lv_at hl 1 rfl) ?_
  refine lv_iconst (v := 0) hX_ hB_ dX9_addLine_2 (by decide) ?_
  refine lv_aload_n hX_ hB_ dX9_addLine_3 rfl (lv_at hl 0 rfl) ?_
  refine ze_get (ci := 9) (C := RX9) (T := TX9) (N := 39) (v := .int (nI (n 0))) S hiX9 hK hW 0 rfl rfl 23 (by decide) rfl w0 dX9_addLine_4 ?_
  refine lv_iconst (v := 1) hX_ hB_ dX9_addLine_7 (by decide) ?_
  refine lv_isub hX_ hB_ dX9_addLine_8 ?_
  refine ze_Si (As := [.int (nI j), .int 0, .int (nI (n 0) - 1)]) (rest := [.ref (d 0)]) S (zr_isIn l D c (ze_wR c d n A B mk th) (nI j) 0 (nI (n 0) - 1)) (va_cwS 3 hts gX9_addLine_X9_isIn rfl rfl rfl (by decide +kernel) ⟨Nat.le_of_ble_eq_true rfl, Nat.le_of_ble_eq_true rfl⟩) hK hW hA rfl hl.1 rfl (lv_room (Nat.le_of_ble_eq_true rfl)) dX9_addLine_9 ⟨Nat.le_of_ble_eq_true rfl, Nat.le_of_ble_eq_true rfl⟩ (fun H locs hW => ?_)
  refine lv_if_eq (tgt := 29) hX_ hB_ dX9_addLine_12 (by decide) (fun c12 => ?_) (fun c12 => ?_)
  · have c12 : ¬ (zf_isIn (nI j) 0 (nI (n 0) - 1)) := ze_bf c12
    exact absurd hinj c12
  · have c12 : zf_isIn (nI j) 0 (nI (n 0) - 1) := ze_bt c12
    refine lv_iload_n hX_ hB_ dX9_addLine_15 rfl (lv_at hl 2 rfl) ?_
    refine lv_iconst (v := 0) hX_ hB_ dX9_addLine_16 (by decide) ?_
    refine lv_aload_n hX_ hB_ dX9_addLine_17 rfl (lv_at hl 0 rfl) ?_
    refine ze_get (ci := 9) (C := RX9) (T := TX9) (N := 39) (v := .int (nI (n 0))) S hiX9 hK hW 0 rfl rfl 23 (by decide) rfl w0 dX9_addLine_18 ?_
    refine lv_iconst (v := 1) hX_ hB_ dX9_addLine_21 (by decide) ?_
    refine lv_isub hX_ hB_ dX9_addLine_22 ?_
    refine ze_Si (As := [.int (nI k), .int 0, .int (nI (n 0) - 1)]) (rest := [.ref (d 0)]) S (zr_isIn l D c (ze_wR c d n A B mk th) (nI k) 0 (nI (n 0) - 1)) (va_cwS 3 hts gX9_addLine_X9_isIn rfl rfl rfl (by decide +kernel) ⟨Nat.le_of_ble_eq_true rfl, Nat.le_of_ble_eq_true rfl⟩) hK hW hA rfl hl.1 rfl (lv_room (Nat.le_of_ble_eq_true rfl)) dX9_addLine_23 ⟨Nat.le_of_ble_eq_true rfl, Nat.le_of_ble_eq_true rfl⟩ (fun H locs hW => ?_)
    refine lv_if_ne (tgt := 33) hX_ hB_ dX9_addLine_26 (by decide) (fun c26 => ?_) (fun c26 => ?_)
    · have c26 : zf_isIn (nI k) 0 (nI (n 0) - 1) := ze_bt c26
      refine lv_iconst (v := 0) hX_ hB_ dX9_addLine_33 (by decide) ?_
      refine lv_iconst (v := 1) hX_ hB_ dX9_addLine_34 (by decide) ?_
      refine ze_Vi (As := [.int 0, .int 1]) (rest := []) (ci := 9) (q0 := 0) (k := (RX9, TX9, 39)) S (zr_isThrown l D c d n A B mk th 0 1 0 rfl (if_pos rfl)) (cwV 2 hts gX9_addLine_X9_isThrown rfl rfl rfl (by decide +kernel) ⟨Nat.le_of_ble_eq_true rfl, Nat.le_of_ble_eq_true rfl⟩) hK hW hA rfl rfl rfl hl.1 rfl (lv_room (Nat.le_of_ble_eq_true rfl)) dX9_addLine_35 ⟨Nat.le_of_ble_eq_true rfl, Nat.le_of_ble_eq_true rfl⟩ (fun H locs hW => ?_)
      have hW : ze_W D (ze_wR c d n A B mk 0) F s.heap _ _ := hW
      refine lv_if_ne (tgt := 81) hX_ hB_ dX9_addLine_38 (by decide) (fun c38 => ?_) (fun c38 => ?_)
      · exact absurd c38 (by decide)
      · refine lv_aload_n hX_ hB_ dX9_addLine_41 rfl (lv_at hl 0 rfl) ?_
        refine lv_iload_n hX_ hB_ dX9_addLine_42 rfl (lv_at hl 1 rfl) ?_
        refine lv_iload_n hX_ hB_ dX9_addLine_43 rfl (lv_at hl 2 rfl) ?_
        refine lv_icmp_ne (tgt := 51) hX_ hB_ dX9_addLine_44 (by decide) (fun c44 => ?_) (fun c44 => ?_)
        · have c44 : ¬ j = k := fun h9 => c44 ((nI_eq (a := j) (b := k) (by omega) (by omega)).mpr h9)
          refine lv_iconst (v := 0) hX_ hB_ dX9_addLine_51 (by decide) ?_
          refine lv_iconst (v := 2) hX_ hB_ dX9_addLine_52 (by decide) ?_
          refine ze_Vi (As := [.int 0, .int 2]) (rest := []) (ci := 9) (q0 := 0) (k := (RX9, TX9, 39)) S (zr_isThrown l D c d n A B mk 0 0 2 0 rfl (if_pos rfl)) (cwV 2 hts gX9_addLine_X9_isThrown rfl rfl rfl (by decide +kernel) ⟨Nat.le_of_ble_eq_true rfl, Nat.le_of_ble_eq_true rfl⟩) hK hW hA rfl rfl rfl hl.1 rfl (lv_room (Nat.le_of_ble_eq_true rfl)) dX9_addLine_53 ⟨Nat.le_of_ble_eq_true rfl, Nat.le_of_ble_eq_true rfl⟩ (fun H locs hW => ?_)
          refine lv_if_ne (tgt := 81) hX_ hB_ dX9_addLine_56 (by decide) (fun c56 => ?_) (fun c56 => ?_)
          · exact absurd c56 (by decide)
          · refine lv_aload_n hX_ hB_ dX9_addLine_59 rfl (lv_at hl 0 rfl) ?_
            refine lv_aload_n hX_ hB_ dX9_addLine_60 rfl (lv_at hl 0 rfl) ?_
            refine ze_get (ci := 9) (C := RX9) (T := TX9) (N := 39) (v := .int (nI (n 1))) S hiX9 hK hW 0 rfl rfl 24 (by decide) rfl w1 dX9_addLine_61 ?_
            refine lv_bipush (v := 8) hX_ hB_ dX9_addLine_64 (by decide) ?_
            refine lv_icmp_ne (tgt := 73) hX_ hB_ dX9_addLine_66 (by decide) (fun c66 => ?_) (fun c66 => ?_)
            · have c66 : ¬ (n 1) = 8 := fun h9 => c66 ((nI_eq (a := (n 1)) (b := 8) (by omega) (by omega)).mpr h9)
              exact absurd h8 c66
            · have c66 : (n 1) = 8 := (nI_eq (a := (n 1)) (b := 8) (by omega) (by omega)).mp c66
              refine lv_iconst (v := 1) hX_ hB_ dX9_addLine_69 (by decide) ?_
              refine lv_goto (tgt := 74) hX_ hB_ dX9_addLine_70 (by decide) ?_
              refine lv_iconst (v := 3) hX_ hB_ dX9_addLine_74 (by decide) ?_
              refine ze_Vi (As := [.int 1, .int 3]) (rest := []) (ci := 9) (q0 := 0) (k := (RX9, TX9, 39)) S (zr_isThrown l D c d n A B mk 0 1 3 3 rfl (if_neg (by decide))) (cwV 2 hts gX9_addLine_X9_isThrown rfl rfl rfl (by decide +kernel) ⟨Nat.le_of_ble_eq_true rfl, Nat.le_of_ble_eq_true rfl⟩) hK hW hA rfl rfl rfl hl.1 rfl (lv_room (Nat.le_of_ble_eq_true rfl)) dX9_addLine_75 ⟨Nat.le_of_ble_eq_true rfl, Nat.le_of_ble_eq_true rfl⟩ (fun H locs hW => ?_)
              have hW : ze_W D (ze_wR c d n A B mk 3) F s.heap _ _ := hW
              refine lv_if_eq (tgt := 83) hX_ hB_ dX9_addLine_78 (by decide) (fun c78 => ?_) (fun c78 => ?_)
              · exact absurd c78 (by decide)
              · refine lv_iconst (v := 0) hX_ hB_ dX9_addLine_81 (by decide) ?_
                exact ze_iret S hr hlocks hF hK hW rfl dX9_addLine_82 (Nat.le_of_ble_eq_true rfl) (Nat.le_of_ble_eq_true rfl) rfl rfl
        · have c44 : j = k := (nI_eq (a := j) (b := k) (by omega) (by omega)).mp c44
          exact absurd c44 h
    · have c26 : ¬ (zf_isIn (nI k) 0 (nI (n 0) - 1)) := ze_bf c26
      exact absurd hink c26
set_option maxHeartbeats 4000000 in
set_option maxRecDepth 100000 in
theorem zr_addLine_f (l : Launch) (D : va_G) (c : Nat → ClassId) (d n : Nat → Nat) (A : Nat → Nat → Int32) (B : Nat → Int64) (mk : Nat → Int32) (th : Int32) (j : Nat) (hN : zf_N n) (hj : j < n 0) (k : Nat) (hk : k < n 0) (h : ¬ j = k) (h8 : ¬ n 1 = 8) : ze_I l yX9_addLine wsX9_addLine 1 22 0 0 D c (ze_wR c d n A B mk th) [.ref (d 0), .int (nI j), .int (nI k)] (nI (n 1)) (ze_wR c d (ze_sn n 1 (n 1 + 1)) (ze_sE (ze_sE A 2 (n 1) (nI j)) 3 (n 1) (nI k)) B mk 0) := by
  intro sz
  refine ze_start (cc := cX9_addLine) (maxL := 3) (ret := (some .int)) (own := RX9) (by decide) rfl rfl (Nat.le_of_ble_eq_true rfl) ?_
  obtain ⟨hn0, hn1, hn2, hn3, hn4⟩ := id hN
  have hinj : zf_isIn (nI j) 0 (nI (n 0) - 1) := zf_isInN hj (by omega)
  have hink : zf_isIn (nI k) 0 (nI (n 0) - 1) := zf_isInN hk (by omega)
  intro p e s m_ below meth cd F ls hF hsz E0
  obtain ⟨S, hr, hlocks, hK, hW, hA, hl⟩ := E0
  have hX_ := S.1
  have hB_ := S.2.1
  have hts := S.2.2.2.2
  have hl : lv_has ls 3 [(0, .ref (d 0)), (1, .int (nI j)), (2, .int (nI k))] := hl
  have hiX9 : ∀ w ∈ u_ws RX9 TX9 39, w ∈ wsX9_addLine := fun _ h => (List.mem_cons_of_mem _ (List.mem_append_right _ h))
  have w0 := hts (.fieldLink RX9 88 "IslandgridModel" "sites" "I") (List.mem_cons_of_mem _ (List.mem_append_left _ (List.mem_of_getElem? (i := 0) rfl)))
  have w1 := hts (.fieldLink RX9 99 "IslandgridModel" "lines" "I") (List.mem_cons_of_mem _ (List.mem_append_left _ (List.mem_of_getElem? (i := 1) rfl)))
  have w2 := hts (.fieldLink RX9 16 "IslandgridModel" "one" "[I") (List.mem_cons_of_mem _ (List.mem_append_left _ (List.mem_of_getElem? (i := 2) rfl)))
  have w3 := hts (.fieldLink RX9 19 "IslandgridModel" "other" "[I") (List.mem_cons_of_mem _ (List.mem_append_left _ (List.mem_of_getElem? (i := 3) rfl)))
  refine lv_aload_n hX_ hB_ dX9_addLine_0 rfl (lv_at hl 0 rfl) ?_
  refine lv_iload_n hX_ hB_ dX9_addLine_1 rfl (lv_at hl 1 rfl) ?_
  refine lv_iconst (v := 0) hX_ hB_ dX9_addLine_2 (by decide) ?_
  refine lv_aload_n hX_ hB_ dX9_addLine_3 rfl (lv_at hl 0 rfl) ?_
  refine ze_get (ci := 9) (C := RX9) (T := TX9) (N := 39) (v := .int (nI (n 0))) S hiX9 hK hW 0 rfl rfl 23 (by decide) rfl w0 dX9_addLine_4 ?_
  refine lv_iconst (v := 1) hX_ hB_ dX9_addLine_7 (by decide) ?_
  refine lv_isub hX_ hB_ dX9_addLine_8 ?_
  refine ze_Si (As := [.int (nI j), .int 0, .int (nI (n 0) - 1)]) (rest := [.ref (d 0)]) S (zr_isIn l D c (ze_wR c d n A B mk th) (nI j) 0 (nI (n 0) - 1)) (va_cwS 3 hts gX9_addLine_X9_isIn rfl rfl rfl (by decide +kernel) ⟨Nat.le_of_ble_eq_true rfl, Nat.le_of_ble_eq_true rfl⟩) hK hW hA rfl hl.1 rfl (lv_room (Nat.le_of_ble_eq_true rfl)) dX9_addLine_9 ⟨Nat.le_of_ble_eq_true rfl, Nat.le_of_ble_eq_true rfl⟩ (fun H locs hW => ?_)
  refine lv_if_eq (tgt := 29) hX_ hB_ dX9_addLine_12 (by decide) (fun c12 => ?_) (fun c12 => ?_)
  · have c12 : ¬ (zf_isIn (nI j) 0 (nI (n 0) - 1)) := ze_bf c12
    exact absurd hinj c12
  · have c12 : zf_isIn (nI j) 0 (nI (n 0) - 1) := ze_bt c12
    refine lv_iload_n hX_ hB_ dX9_addLine_15 rfl (lv_at hl 2 rfl) ?_
    refine lv_iconst (v := 0) hX_ hB_ dX9_addLine_16 (by decide) ?_
    refine lv_aload_n hX_ hB_ dX9_addLine_17 rfl (lv_at hl 0 rfl) ?_
    refine ze_get (ci := 9) (C := RX9) (T := TX9) (N := 39) (v := .int (nI (n 0))) S hiX9 hK hW 0 rfl rfl 23 (by decide) rfl w0 dX9_addLine_18 ?_
    refine lv_iconst (v := 1) hX_ hB_ dX9_addLine_21 (by decide) ?_
    refine lv_isub hX_ hB_ dX9_addLine_22 ?_
    refine ze_Si (As := [.int (nI k), .int 0, .int (nI (n 0) - 1)]) (rest := [.ref (d 0)]) S (zr_isIn l D c (ze_wR c d n A B mk th) (nI k) 0 (nI (n 0) - 1)) (va_cwS 3 hts gX9_addLine_X9_isIn rfl rfl rfl (by decide +kernel) ⟨Nat.le_of_ble_eq_true rfl, Nat.le_of_ble_eq_true rfl⟩) hK hW hA rfl hl.1 rfl (lv_room (Nat.le_of_ble_eq_true rfl)) dX9_addLine_23 ⟨Nat.le_of_ble_eq_true rfl, Nat.le_of_ble_eq_true rfl⟩ (fun H locs hW => ?_)
    refine lv_if_ne (tgt := 33) hX_ hB_ dX9_addLine_26 (by decide) (fun c26 => ?_) (fun c26 => ?_)
    · have c26 : zf_isIn (nI k) 0 (nI (n 0) - 1) := ze_bt c26
      refine lv_iconst (v := 0) hX_ hB_ dX9_addLine_33 (by decide) ?_
      refine lv_iconst (v := 1) hX_ hB_ dX9_addLine_34 (by decide) ?_
      refine ze_Vi (As := [.int 0, .int 1]) (rest := []) (ci := 9) (q0 := 0) (k := (RX9, TX9, 39)) S (zr_isThrown l D c d n A B mk th 0 1 0 rfl (if_pos rfl)) (cwV 2 hts gX9_addLine_X9_isThrown rfl rfl rfl (by decide +kernel) ⟨Nat.le_of_ble_eq_true rfl, Nat.le_of_ble_eq_true rfl⟩) hK hW hA rfl rfl rfl hl.1 rfl (lv_room (Nat.le_of_ble_eq_true rfl)) dX9_addLine_35 ⟨Nat.le_of_ble_eq_true rfl, Nat.le_of_ble_eq_true rfl⟩ (fun H locs hW => ?_)
      have hW : ze_W D (ze_wR c d n A B mk 0) F s.heap _ _ := hW
      refine lv_if_ne (tgt := 81) hX_ hB_ dX9_addLine_38 (by decide) (fun c38 => ?_) (fun c38 => ?_)
      · exact absurd c38 (by decide)
      · refine lv_aload_n hX_ hB_ dX9_addLine_41 rfl (lv_at hl 0 rfl) ?_
        refine lv_iload_n hX_ hB_ dX9_addLine_42 rfl (lv_at hl 1 rfl) ?_
        refine lv_iload_n hX_ hB_ dX9_addLine_43 rfl (lv_at hl 2 rfl) ?_
        refine lv_icmp_ne (tgt := 51) hX_ hB_ dX9_addLine_44 (by decide) (fun c44 => ?_) (fun c44 => ?_)
        · have c44 : ¬ j = k := fun h9 => c44 ((nI_eq (a := j) (b := k) (by omega) (by omega)).mpr h9)
          refine lv_iconst (v := 0) hX_ hB_ dX9_addLine_51 (by decide) ?_
          refine lv_iconst (v := 2) hX_ hB_ dX9_addLine_52 (by decide) ?_
          refine ze_Vi (As := [.int 0, .int 2]) (rest := []) (ci := 9) (q0 := 0) (k := (RX9, TX9, 39)) S (zr_isThrown l D c d n A B mk 0 0 2 0 rfl (if_pos rfl)) (cwV 2 hts gX9_addLine_X9_isThrown rfl rfl rfl (by decide +kernel) ⟨Nat.le_of_ble_eq_true rfl, Nat.le_of_ble_eq_true rfl⟩) hK hW hA rfl rfl rfl hl.1 rfl (lv_room (Nat.le_of_ble_eq_true rfl)) dX9_addLine_53 ⟨Nat.le_of_ble_eq_true rfl, Nat.le_of_ble_eq_true rfl⟩ (fun H locs hW => ?_)
          refine lv_if_ne (tgt := 81) hX_ hB_ dX9_addLine_56 (by decide) (fun c56 => ?_) (fun c56 => ?_)
          · exact absurd c56 (by decide)
          · refine lv_aload_n hX_ hB_ dX9_addLine_59 rfl (lv_at hl 0 rfl) ?_
            refine lv_aload_n hX_ hB_ dX9_addLine_60 rfl (lv_at hl 0 rfl) ?_
            refine ze_get (ci := 9) (C := RX9) (T := TX9) (N := 39) (v := .int (nI (n 1))) S hiX9 hK hW 0 rfl rfl 24 (by decide) rfl w1 dX9_addLine_61 ?_
            refine lv_bipush (v := 8) hX_ hB_ dX9_addLine_64 (by decide) ?_
            refine lv_icmp_ne (tgt := 73) hX_ hB_ dX9_addLine_66 (by decide) (fun c66 => ?_) (fun c66 => ?_)
            · have c66 : ¬ (n 1) = 8 := fun h9 => c66 ((nI_eq (a := (n 1)) (b := 8) (by omega) (by omega)).mpr h9)
              refine lv_iconst (v := 0) hX_ hB_ dX9_addLine_73 (by decide) ?_
              refine lv_iconst (v := 3) hX_ hB_ dX9_addLine_74 (by decide) ?_
              refine ze_Vi (As := [.int 0, .int 3]) (rest := []) (ci := 9) (q0 := 0) (k := (RX9, TX9, 39)) S (zr_isThrown l D c d n A B mk 0 0 3 0 rfl (if_pos rfl)) (cwV 2 hts gX9_addLine_X9_isThrown rfl rfl rfl (by decide +kernel) ⟨Nat.le_of_ble_eq_true rfl, Nat.le_of_ble_eq_true rfl⟩) hK hW hA rfl rfl rfl hl.1 rfl (lv_room (Nat.le_of_ble_eq_true rfl)) dX9_addLine_75 ⟨Nat.le_of_ble_eq_true rfl, Nat.le_of_ble_eq_true rfl⟩ (fun H locs hW => ?_)
              refine lv_if_eq (tgt := 83) hX_ hB_ dX9_addLine_78 (by decide) (fun c78 => ?_) (fun c78 => ?_)
              · refine lv_aload_n hX_ hB_ dX9_addLine_83 rfl (lv_at hl 0 rfl) ?_
                refine ze_get (ci := 9) (C := RX9) (T := TX9) (N := 39) (v := .ref (d 3)) S hiX9 hK hW 0 rfl rfl 2 (by decide) rfl w2 dX9_addLine_84 ?_
                refine lv_aload_n hX_ hB_ dX9_addLine_87 rfl (lv_at hl 0 rfl) ?_
                refine ze_get (ci := 9) (C := RX9) (T := TX9) (N := 39) (v := .int (nI (n 1))) S hiX9 hK hW 0 rfl rfl 24 (by decide) rfl w1 dX9_addLine_88 ?_
                refine lv_iload_n hX_ hB_ dX9_addLine_91 rfl (lv_at hl 1 rfl) ?_
                refine ze_iastN hX_ hB_ hK hW 3 (f := A 2) rfl (i := n 1) (by omega) (by decide) dX9_addLine_92 (ze_qR2 (n 1) (nI j) _ _ _ _ _ _ _) (fun H locs hW => ?_)
                have hW : ze_W D (ze_wR c d n (ze_sE A 2 (n 1) (nI j)) B mk 0) F s.heap _ _ := hW
                refine lv_aload_n hX_ hB_ dX9_addLine_93 rfl (lv_at hl 0 rfl) ?_
                refine ze_get (ci := 9) (C := RX9) (T := TX9) (N := 39) (v := .ref (d 4)) S hiX9 hK hW 0 rfl rfl 3 (by decide) rfl w3 dX9_addLine_94 ?_
                refine lv_aload_n hX_ hB_ dX9_addLine_97 rfl (lv_at hl 0 rfl) ?_
                refine ze_get (ci := 9) (C := RX9) (T := TX9) (N := 39) (v := .int (nI (n 1))) S hiX9 hK hW 0 rfl rfl 24 (by decide) rfl w1 dX9_addLine_98 ?_
                refine lv_iload_n hX_ hB_ dX9_addLine_101 rfl (lv_at hl 2 rfl) ?_
                refine ze_iastN hX_ hB_ hK hW 4 (f := A 3) rfl (i := n 1) (by omega) (by decide) dX9_addLine_102 (ze_qR3 (n 1) (nI k) _ _ _ _ _ _ _) (fun H locs hW => ?_)
                have hW : ze_W D (ze_wR c d n (ze_sE (ze_sE A 2 (n 1) (nI j)) 3 (n 1) (nI k)) B mk 0) F s.heap _ _ := hW
                refine lv_aload_n hX_ hB_ dX9_addLine_103 rfl (lv_at hl 0 rfl) ?_
                refine lv_dup hX_ hB_ dX9_addLine_104 rfl ?_
                refine ze_get (ci := 9) (C := RX9) (T := TX9) (N := 39) (v := .int (nI (n 1))) S hiX9 hK hW 0 rfl rfl 24 (by decide) rfl w1 dX9_addLine_105 ?_
                refine lv_iconst (v := 1) hX_ hB_ dX9_addLine_108 (by decide) ?_
                refine lv_iadd hX_ hB_ dX9_addLine_109 ?_
                refine ze_top (nI_add (n 1) 1) ?_
                refine ze_put (ci := 9) (C := RX9) (T := TX9) (N := 39) (v := .int (nI (n 1 + 1))) S hiX9 tyX9 tyX9_ok nmX9 hK hW 0 rfl rfl 24 (by decide) (Nat.le_of_ble_eq_true rfl) rfl rfl rfl w1 dX9_addLine_110 (ze_pR24 (n 1 + 1) _ _ _ _ _ _ _) (fun H locs hW => ?_)
                have hW : ze_W D (ze_wR c d (ze_sn n 1 (n 1 + 1)) (ze_sE (ze_sE A 2 (n 1) (nI j)) 3 (n 1) (nI k)) B mk 0) F s.heap _ _ := hW
                refine lv_aload_n hX_ hB_ dX9_addLine_113 rfl (lv_at hl 0 rfl) ?_
                refine ze_get (ci := 9) (C := RX9) (T := TX9) (N := 39) (v := .int (nI (n 1 + 1))) S hiX9 hK hW 0 rfl rfl 24 (by decide) rfl w1 dX9_addLine_114 ?_
                refine lv_iconst (v := 1) hX_ hB_ dX9_addLine_117 (by decide) ?_
                refine lv_isub hX_ hB_ dX9_addLine_118 ?_
                refine ze_top (nI_pred (n 1)) ?_
                exact ze_iret S hr hlocks hF hK hW rfl dX9_addLine_119 (Nat.le_of_ble_eq_true rfl) (Nat.le_of_ble_eq_true rfl) rfl rfl
              · exact absurd c78 (by decide)
            · have c66 : (n 1) = 8 := (nI_eq (a := (n 1)) (b := 8) (by omega) (by omega)).mp c66
              exact absurd c66 h8
        · have c44 : j = k := (nI_eq (a := j) (b := k) (by omega) (by omega)).mp c44
          exact absurd c44 h
    · have c26 : ¬ (zf_isIn (nI k) 0 (nI (n 0) - 1)) := ze_bf c26
      exact absurd hink c26
set_option maxHeartbeats 4000000 in
set_option maxRecDepth 100000 in
theorem zr_close_t1 (l : Launch) (D : va_G) (c : Nat → ClassId) (d n : Nat → Nat) (A : Nat → Nat → Int32) (B : Nat → Int64) (mk : Nat → Int32) (th : Int32) (x : Int32) (hN : zf_N n) (hx : ¬ zf_isIn x 0 (nI (n 1) - 1)) : ze_I l yX9_close wsX9_close 2 43 0 0 D c (ze_wR c d n A B mk th) [.ref (d 0), .int x] 0 (ze_wR c d n A B mk 1) := by
  intro sz
  refine ze_start (cc := cX9_close) (maxL := 2) (ret := (some .int)) (own := RX9) (by decide) rfl rfl (Nat.le_of_ble_eq_true rfl) ?_
  obtain ⟨hn0, hn1, hn2, hn3, hn4⟩ := id hN
  intro p e s m_ below meth cd F ls hF hsz E0
  obtain ⟨S, hr, hlocks, hK, hW, hA, hl⟩ := E0
  have hX_ := S.1
  have hB_ := S.2.1
  have hts := S.2.2.2.2
  have hl : lv_has ls 2 [(0, .ref (d 0)), (1, .int x)] := hl
  refine lv_aload_n hX_ hB_ dX9_close_0 rfl (lv_at hl 0 rfl) ?_
  refine lv_iload_n hX_ hB_ dX9_close_1 rfl (lv_at hl 1 rfl) ?_
  refine ze_Vi (As := [.int x]) (rest := []) (ci := 9) (q0 := 0) (k := (RX9, TX9, 39)) S (zr_isNoLine l D c d n A B mk th x) (cwV 1 hts gX9_close_X9_isNoLine rfl rfl rfl (by decide +kernel) ⟨Nat.le_of_ble_eq_true rfl, Nat.le_of_ble_eq_true rfl⟩) hK hW hA rfl rfl rfl hl.1 rfl (lv_room (Nat.le_of_ble_eq_true rfl)) dX9_close_2 ⟨Nat.le_of_ble_eq_true rfl, Nat.le_of_ble_eq_true rfl⟩ (fun H locs hW => ?_)
  have hW : ze_W D (ze_wR c d n A B mk (if zf_isIn x 0 (nI (n 1) - 1) then 0 else 1)) F s.heap _ _ := hW
  refine lv_if_ne (tgt := 45) hX_ hB_ dX9_close_5 (by decide) (fun c5 => ?_) (fun c5 => ?_)
  · have c5 : ¬ zf_isIn x 0 (nI (n 1) - 1) := ze_bt c5
    refine lv_iconst (v := 0) hX_ hB_ dX9_close_45 (by decide) ?_
    exact ze_iret S hr hlocks hF hK hW rfl dX9_close_46 (Nat.le_of_ble_eq_true rfl) (Nat.le_of_ble_eq_true rfl) rfl (by simp only [ze_b, eq_false hx, eq_false c5, not_true_eq_false, not_false_eq_true, and_true, true_and, and_false, false_and, or_true, true_or, or_false, false_or, and_self, or_self, Decidable.not_not, if_true, if_false, reduceIte, reduceCtorEq, ne_eq, eq_self, Int32.lt_irrefl, Int32.le_refl, Nat.lt_irrefl])
  · have c5 : ¬ (¬ zf_isIn x 0 (nI (n 1) - 1)) := ze_bf c5
    have c5 : zf_isIn x 0 (nI (n 1) - 1) := Decidable.of_not_not c5
    exact absurd c5 hx
set_option maxHeartbeats 4000000 in
set_option maxRecDepth 100000 in
theorem zr_close_t2 (l : Launch) (D : va_G) (c : Nat → ClassId) (d n : Nat → Nat) (A : Nat → Nat → Int32) (B : Nat → Int64) (mk : Nat → Int32) (th : Int32) (j : Nat) (hN : zf_N n) (hj : j < n 1) (hS : zf_S n A) (hz : ∀ s, n 0 ≤ s → mk s = 0) (hZ : ∀ i, A 4 i = 0 ∨ A 4 i = 1) (h4 : ¬ A 4 j = 0) : ze_I l yX9_close wsX9_close 2 43 0 0 D c (ze_wR c d n A B mk th) [.ref (d 0), .int (nI j)] 0 (ze_wR c d n A B mk 2) := by
  intro sz
  refine ze_start (cc := cX9_close) (maxL := 2) (ret := (some .int)) (own := RX9) (by decide) rfl rfl (Nat.le_of_ble_eq_true rfl) ?_
  obtain ⟨hn0, hn1, hn2, hn3, hn4⟩ := id hN
  have hinj : zf_isIn (nI j) 0 (nI (n 1) - 1) := zf_isInN hj (by omega)
  intro p e s m_ below meth cd F ls hF hsz E0
  obtain ⟨S, hr, hlocks, hK, hW, hA, hl⟩ := E0
  have hX_ := S.1
  have hB_ := S.2.1
  have hts := S.2.2.2.2
  have hl : lv_has ls 2 [(0, .ref (d 0)), (1, .int (nI j))] := hl
  have hiX9 : ∀ w ∈ u_ws RX9 TX9 39, w ∈ wsX9_close := fun _ h => (List.mem_cons_of_mem _ (List.mem_append_right _ h))
  have w0 := hts (.fieldLink RX9 22 "IslandgridModel" "isClosed" "[Z") (List.mem_cons_of_mem _ (List.mem_append_left _ (List.mem_append_left _ (List.mem_of_getElem? (i := 0) rfl))))
  refine lv_aload_n hX_ hB_ dX9_close_0 rfl (lv_at hl 0 rfl) ?_
  refine lv_iload_n hX_ hB_ dX9_close_1 rfl (lv_at hl 1 rfl) ?_
  refine ze_Vi (As := [.int (nI j)]) (rest := []) (ci := 9) (q0 := 0) (k := (RX9, TX9, 39)) S (zr_isNoLine l D c d n A B mk th (nI j)) (cwV 1 hts gX9_close_X9_isNoLine rfl rfl rfl (by decide +kernel) ⟨Nat.le_of_ble_eq_true rfl, Nat.le_of_ble_eq_true rfl⟩) hK hW hA rfl rfl rfl hl.1 rfl (lv_room (Nat.le_of_ble_eq_true rfl)) dX9_close_2 ⟨Nat.le_of_ble_eq_true rfl, Nat.le_of_ble_eq_true rfl⟩ (fun H locs hW => ?_)
  have hW : ze_W D (ze_wR c d n A B mk (if zf_isIn (nI j) 0 (nI (n 1) - 1) then 0 else 1)) F s.heap _ _ := hW
  refine lv_if_ne (tgt := 45) hX_ hB_ dX9_close_5 (by decide) (fun c5 => ?_) (fun c5 => ?_)
  · have c5 : ¬ zf_isIn (nI j) 0 (nI (n 1) - 1) := ze_bt c5
    exact absurd hinj c5
  · have c5 : ¬ (¬ zf_isIn (nI j) 0 (nI (n 1) - 1)) := ze_bf c5
    have c5 : zf_isIn (nI j) 0 (nI (n 1) - 1) := Decidable.of_not_not c5
    refine lv_aload_n hX_ hB_ dX9_close_8 rfl (lv_at hl 0 rfl) ?_
    refine lv_aload_n hX_ hB_ dX9_close_9 rfl (lv_at hl 0 rfl) ?_
    refine ze_get (ci := 9) (C := RX9) (T := TX9) (N := 39) (v := .ref (d 5)) S hiX9 hK hW 0 rfl rfl 4 (by decide) rfl w0 dX9_close_10 ?_
    refine lv_iload_n hX_ hB_ dX9_close_13 rfl (lv_at hl 1 rfl) ?_
    refine ze_zaldN hX_ hB_ hK hW 5 (f := A 4) rfl (i := j) (by omega) (by decide) dX9_close_14 ?_
    refine lv_iconst (v := 2) hX_ hB_ dX9_close_15 (by decide) ?_
    refine ze_Vi (As := [.int (A 4 j), .int 2]) (rest := []) (ci := 9) (q0 := 0) (k := (RX9, TX9, 39)) S (zr_isThrown l D c d n A B mk (if zf_isIn (nI j) 0 (nI (n 1) - 1) then 0 else 1) (A 4 j) 2 (if A 4 j = 0 then 0 else 2) (zf_narb (hZ j)) rfl) (cwV 2 hts gX9_close_X9_isThrown rfl rfl rfl (by decide +kernel) ⟨Nat.le_of_ble_eq_true rfl, Nat.le_of_ble_eq_true rfl⟩) hK hW hA rfl rfl rfl hl.1 rfl (lv_room (Nat.le_of_ble_eq_true rfl)) dX9_close_16 ⟨Nat.le_of_ble_eq_true rfl, Nat.le_of_ble_eq_true rfl⟩ (fun H locs hW => ?_)
    have hW : ze_W D (ze_wR c d n A B mk (if A 4 j = 0 then 0 else 2)) F s.heap _ _ := hW
    refine lv_if_ne (tgt := 45) hX_ hB_ dX9_close_19 (by decide) (fun c19 => ?_) (fun c19 => ?_)
    · refine lv_iconst (v := 0) hX_ hB_ dX9_close_45 (by decide) ?_
      exact ze_iret S hr hlocks hF hK hW rfl dX9_close_46 (Nat.le_of_ble_eq_true rfl) (Nat.le_of_ble_eq_true rfl) rfl (by simp only [ze_b, eq_true hinj, eq_false h4, eq_true c5, eq_false c19, not_true_eq_false, not_false_eq_true, and_true, true_and, and_false, false_and, or_true, true_or, or_false, false_or, and_self, or_self, Decidable.not_not, if_true, if_false, reduceIte, reduceCtorEq, ne_eq, eq_self, Int32.lt_irrefl, Int32.le_refl, Nat.lt_irrefl])
    · exact absurd c19 h4
set_option maxHeartbeats 4000000 in
set_option maxRecDepth 100000 in
theorem zr_close_t3 (l : Launch) (D : va_G) (c : Nat → ClassId) (d n : Nat → Nat) (A : Nat → Nat → Int32) (B : Nat → Int64) (mk : Nat → Int32) (th : Int32) (j : Nat) (hN : zf_N n) (hj : j < n 1) (hS : zf_S n A) (hz : ∀ s, n 0 ≤ s → mk s = 0) (hZ : ∀ i, A 4 i = 0 ∨ A 4 i = 1) (h4 : A 4 j = 0) (hg : ¬ zf_gap A (zf_CI n A) j ≤ 10) : ze_I l yX9_close wsX9_close 5 101 0 0 D c (ze_wR c d n A B mk th) [.ref (d 0), .int (nI j)] 0 (ze_wR c d n A B (zf_CI n A) 3) := by
  intro sz
  refine ze_start (cc := cX9_close) (maxL := 2) (ret := (some .int)) (own := RX9) (by decide) rfl rfl (Nat.le_of_ble_eq_true rfl) ?_
  obtain ⟨hn0, hn1, hn2, hn3, hn4⟩ := id hN
  have hinj : zf_isIn (nI j) 0 (nI (n 1) - 1) := zf_isInN hj (by omega)
  intro p e s m_ below meth cd F ls hF hsz E0
  obtain ⟨S, hr, hlocks, hK, hW, hA, hl⟩ := E0
  have hX_ := S.1
  have hB_ := S.2.1
  have hts := S.2.2.2.2
  have hl : lv_has ls 2 [(0, .ref (d 0)), (1, .int (nI j))] := hl
  have hiX9 : ∀ w ∈ u_ws RX9 TX9 39, w ∈ wsX9_close := fun _ h => (List.mem_cons_of_mem _ (List.mem_append_right _ h))
  have w0 := hts (.fieldLink RX9 22 "IslandgridModel" "isClosed" "[Z") (List.mem_cons_of_mem _ (List.mem_append_left _ (List.mem_append_left _ (List.mem_of_getElem? (i := 0) rfl))))
  refine lv_aload_n hX_ hB_ dX9_close_0 rfl (lv_at hl 0 rfl) ?_
  refine lv_iload_n hX_ hB_ dX9_close_1 rfl (lv_at hl 1 rfl) ?_
  refine ze_Vi (As := [.int (nI j)]) (rest := []) (ci := 9) (q0 := 0) (k := (RX9, TX9, 39)) S (zr_isNoLine l D c d n A B mk th (nI j)) (cwV 1 hts gX9_close_X9_isNoLine rfl rfl rfl (by decide +kernel) ⟨Nat.le_of_ble_eq_true rfl, Nat.le_of_ble_eq_true rfl⟩) hK hW hA rfl rfl rfl hl.1 rfl (lv_room (Nat.le_of_ble_eq_true rfl)) dX9_close_2 ⟨Nat.le_of_ble_eq_true rfl, Nat.le_of_ble_eq_true rfl⟩ (fun H locs hW => ?_)
  have hW : ze_W D (ze_wR c d n A B mk (if zf_isIn (nI j) 0 (nI (n 1) - 1) then 0 else 1)) F s.heap _ _ := hW
  refine lv_if_ne (tgt := 45) hX_ hB_ dX9_close_5 (by decide) (fun c5 => ?_) (fun c5 => ?_)
  · have c5 : ¬ zf_isIn (nI j) 0 (nI (n 1) - 1) := ze_bt c5
    exact absurd hinj c5
  · have c5 : ¬ (¬ zf_isIn (nI j) 0 (nI (n 1) - 1)) := ze_bf c5
    have c5 : zf_isIn (nI j) 0 (nI (n 1) - 1) := Decidable.of_not_not c5
    refine lv_aload_n hX_ hB_ dX9_close_8 rfl (lv_at hl 0 rfl) ?_
    refine lv_aload_n hX_ hB_ dX9_close_9 rfl (lv_at hl 0 rfl) ?_
    refine ze_get (ci := 9) (C := RX9) (T := TX9) (N := 39) (v := .ref (d 5)) S hiX9 hK hW 0 rfl rfl 4 (by decide) rfl w0 dX9_close_10 ?_
    refine lv_iload_n hX_ hB_ dX9_close_13 rfl (lv_at hl 1 rfl) ?_
    refine ze_zaldN hX_ hB_ hK hW 5 (f := A 4) rfl (i := j) (by omega) (by decide) dX9_close_14 ?_
    refine lv_iconst (v := 2) hX_ hB_ dX9_close_15 (by decide) ?_
    refine ze_Vi (As := [.int (A 4 j), .int 2]) (rest := []) (ci := 9) (q0 := 0) (k := (RX9, TX9, 39)) S (zr_isThrown l D c d n A B mk (if zf_isIn (nI j) 0 (nI (n 1) - 1) then 0 else 1) (A 4 j) 2 (if A 4 j = 0 then 0 else 2) (zf_narb (hZ j)) rfl) (cwV 2 hts gX9_close_X9_isThrown rfl rfl rfl (by decide +kernel) ⟨Nat.le_of_ble_eq_true rfl, Nat.le_of_ble_eq_true rfl⟩) hK hW hA rfl rfl rfl hl.1 rfl (lv_room (Nat.le_of_ble_eq_true rfl)) dX9_close_16 ⟨Nat.le_of_ble_eq_true rfl, Nat.le_of_ble_eq_true rfl⟩ (fun H locs hW => ?_)
    have hW : ze_W D (ze_wR c d n A B mk (if A 4 j = 0 then 0 else 2)) F s.heap _ _ := hW
    refine lv_if_ne (tgt := 45) hX_ hB_ dX9_close_19 (by decide) (fun c19 => ?_) (fun c19 => ?_)
    · exact absurd h4 c19
    · refine lv_aload_n hX_ hB_ dX9_close_22 rfl (lv_at hl 0 rfl) ?_
      refine lv_aload_n hX_ hB_ dX9_close_23 rfl (lv_at hl 0 rfl) ?_
      refine lv_iload_n hX_ hB_ dX9_close_24 rfl (lv_at hl 1 rfl) ?_
      refine ze_Vi (As := [.int (nI j)]) (rest := [.ref (d 0)]) (ci := 9) (q0 := 0) (k := (RX9, TX9, 39)) S (zr_gapOf l D c d n A B mk (if A 4 j = 0 then 0 else 2) j hN hS hz (by omega)) (cwV 1 hts gX9_close_X9_gapOf rfl rfl rfl (by decide +kernel) ⟨Nat.le_of_ble_eq_true rfl, Nat.le_of_ble_eq_true rfl⟩) hK hW hA rfl rfl rfl hl.1 rfl (lv_room (Nat.le_of_ble_eq_true rfl)) dX9_close_25 ⟨Nat.le_of_ble_eq_true rfl, Nat.le_of_ble_eq_true rfl⟩ (fun H locs hW => ?_)
      have hW : ze_W D (ze_wR c d n A B (zf_CI n A) (if A 4 j = 0 then 0 else 2)) F s.heap _ _ := hW
      refine lv_bipush (v := 10) hX_ hB_ dX9_close_28 (by decide) ?_
      refine lv_icmp_le (tgt := 37) hX_ hB_ dX9_close_30 (by decide) (fun c30 => ?_) (fun c30 => ?_)
      · exact absurd c30 hg
      · refine lv_iconst (v := 1) hX_ hB_ dX9_close_33 (by decide) ?_
        refine lv_goto (tgt := 38) hX_ hB_ dX9_close_34 (by decide) ?_
        refine lv_iconst (v := 3) hX_ hB_ dX9_close_38 (by decide) ?_
        refine ze_Vi (As := [.int 1, .int 3]) (rest := []) (ci := 9) (q0 := 0) (k := (RX9, TX9, 39)) S (zr_isThrown l D c d n A B (zf_CI n A) (if A 4 j = 0 then 0 else 2) 1 3 3 rfl (if_neg (by decide))) (cwV 2 hts gX9_close_X9_isThrown rfl rfl rfl (by decide +kernel) ⟨Nat.le_of_ble_eq_true rfl, Nat.le_of_ble_eq_true rfl⟩) hK hW hA rfl rfl rfl hl.1 rfl (lv_room (Nat.le_of_ble_eq_true rfl)) dX9_close_39 ⟨Nat.le_of_ble_eq_true rfl, Nat.le_of_ble_eq_true rfl⟩ (fun H locs hW => ?_)
        have hW : ze_W D (ze_wR c d n A B (zf_CI n A) 3) F s.heap _ _ := hW
        refine lv_if_eq (tgt := 47) hX_ hB_ dX9_close_42 (by decide) (fun c42 => ?_) (fun c42 => ?_)
        · exact absurd c42 (by decide)
        · refine lv_iconst (v := 0) hX_ hB_ dX9_close_45 (by decide) ?_
          exact ze_iret S hr hlocks hF hK hW rfl dX9_close_46 (Nat.le_of_ble_eq_true rfl) (Nat.le_of_ble_eq_true rfl) rfl rfl
set_option maxHeartbeats 4000000 in
set_option maxRecDepth 100000 in
theorem zr_close_f (l : Launch) (D : va_G) (c : Nat → ClassId) (d n : Nat → Nat) (A : Nat → Nat → Int32) (B : Nat → Int64) (mk : Nat → Int32) (th : Int32) (j : Nat) (hN : zf_N n) (hj : j < n 1) (hS : zf_S n A) (hz : ∀ s, n 0 ≤ s → mk s = 0) (hZ : ∀ i, A 4 i = 0 ∨ A 4 i = 1) (h4 : A 4 j = 0) (hg : zf_gap A (zf_CI n A) j ≤ 10) : ze_I l yX9_close wsX9_close 5 101 0 0 D c (ze_wR c d n A B mk th) [.ref (d 0), .int (nI j)] (zf_many (zf_CI n (ze_sE A 4 j 1)) (n 0)) (ze_wR c d n (ze_sE A 4 j 1) B (zf_CI n (ze_sE A 4 j 1)) 0) := by
  intro sz
  refine ze_start (cc := cX9_close) (maxL := 2) (ret := (some .int)) (own := RX9) (by decide) rfl rfl (Nat.le_of_ble_eq_true rfl) ?_
  obtain ⟨hn0, hn1, hn2, hn3, hn4⟩ := id hN
  have hinj : zf_isIn (nI j) 0 (nI (n 1) - 1) := zf_isInN hj (by omega)
  intro p e s m_ below meth cd F ls hF hsz E0
  obtain ⟨S, hr, hlocks, hK, hW, hA, hl⟩ := E0
  have hX_ := S.1
  have hB_ := S.2.1
  have hts := S.2.2.2.2
  have hl : lv_has ls 2 [(0, .ref (d 0)), (1, .int (nI j))] := hl
  have hiX9 : ∀ w ∈ u_ws RX9 TX9 39, w ∈ wsX9_close := fun _ h => (List.mem_cons_of_mem _ (List.mem_append_right _ h))
  have w0 := hts (.fieldLink RX9 22 "IslandgridModel" "isClosed" "[Z") (List.mem_cons_of_mem _ (List.mem_append_left _ (List.mem_append_left _ (List.mem_of_getElem? (i := 0) rfl))))
  refine lv_aload_n hX_ hB_ dX9_close_0 rfl (lv_at hl 0 rfl) ?_
  refine lv_iload_n hX_ hB_ dX9_close_1 rfl (lv_at hl 1 rfl) ?_
  refine ze_Vi (As := [.int (nI j)]) (rest := []) (ci := 9) (q0 := 0) (k := (RX9, TX9, 39)) S (zr_isNoLine l D c d n A B mk th (nI j)) (cwV 1 hts gX9_close_X9_isNoLine rfl rfl rfl (by decide +kernel) ⟨Nat.le_of_ble_eq_true rfl, Nat.le_of_ble_eq_true rfl⟩) hK hW hA rfl rfl rfl hl.1 rfl (lv_room (Nat.le_of_ble_eq_true rfl)) dX9_close_2 ⟨Nat.le_of_ble_eq_true rfl, Nat.le_of_ble_eq_true rfl⟩ (fun H locs hW => ?_)
  have hW : ze_W D (ze_wR c d n A B mk (if zf_isIn (nI j) 0 (nI (n 1) - 1) then 0 else 1)) F s.heap _ _ := hW
  refine lv_if_ne (tgt := 45) hX_ hB_ dX9_close_5 (by decide) (fun c5 => ?_) (fun c5 => ?_)
  · have c5 : ¬ zf_isIn (nI j) 0 (nI (n 1) - 1) := ze_bt c5
    exact absurd hinj c5
  · have c5 : ¬ (¬ zf_isIn (nI j) 0 (nI (n 1) - 1)) := ze_bf c5
    have c5 : zf_isIn (nI j) 0 (nI (n 1) - 1) := Decidable.of_not_not c5
    refine lv_aload_n hX_ hB_ dX9_close_8 rfl (lv_at hl 0 rfl) ?_
    refine lv_aload_n hX_ hB_ dX9_close_9 rfl (lv_at hl 0 rfl) ?_
    refine ze_get (ci := 9) (C := RX9) (T := TX9) (N := 39) (v := .ref (d 5)) S hiX9 hK hW 0 rfl rfl 4 (by decide) rfl w0 dX9_close_10 ?_
    refine lv_iload_n hX_ hB_ dX9_close_13 rfl (lv_at hl 1 rfl) ?_
    refine ze_zaldN hX_ hB_ hK hW 5 (f := A 4) rfl (i := j) (by omega) (by decide) dX9_close_14 ?_
    refine lv_iconst (v := 2) hX_ hB_ dX9_close_15 (by decide) ?_
    refine ze_Vi (As := [.int (A 4 j), .int 2]) (rest := []) (ci := 9) (q0 := 0) (k := (RX9, TX9, 39)) S (zr_isThrown l D c d n A B mk (if zf_isIn (nI j) 0 (nI (n 1) - 1) then 0 else 1) (A 4 j) 2 (if A 4 j = 0 then 0 else 2) (zf_narb (hZ j)) rfl) (cwV 2 hts gX9_close_X9_isThrown rfl rfl rfl (by decide +kernel) ⟨Nat.le_of_ble_eq_true rfl, Nat.le_of_ble_eq_true rfl⟩) hK hW hA rfl rfl rfl hl.1 rfl (lv_room (Nat.le_of_ble_eq_true rfl)) dX9_close_16 ⟨Nat.le_of_ble_eq_true rfl, Nat.le_of_ble_eq_true rfl⟩ (fun H locs hW => ?_)
    have hW : ze_W D (ze_wR c d n A B mk (if A 4 j = 0 then 0 else 2)) F s.heap _ _ := hW
    refine lv_if_ne (tgt := 45) hX_ hB_ dX9_close_19 (by decide) (fun c19 => ?_) (fun c19 => ?_)
    · exact absurd h4 c19
    · refine lv_aload_n hX_ hB_ dX9_close_22 rfl (lv_at hl 0 rfl) ?_
      refine lv_aload_n hX_ hB_ dX9_close_23 rfl (lv_at hl 0 rfl) ?_
      refine lv_iload_n hX_ hB_ dX9_close_24 rfl (lv_at hl 1 rfl) ?_
      refine ze_Vi (As := [.int (nI j)]) (rest := [.ref (d 0)]) (ci := 9) (q0 := 0) (k := (RX9, TX9, 39)) S (zr_gapOf l D c d n A B mk (if A 4 j = 0 then 0 else 2) j hN hS hz (by omega)) (cwV 1 hts gX9_close_X9_gapOf rfl rfl rfl (by decide +kernel) ⟨Nat.le_of_ble_eq_true rfl, Nat.le_of_ble_eq_true rfl⟩) hK hW hA rfl rfl rfl hl.1 rfl (lv_room (Nat.le_of_ble_eq_true rfl)) dX9_close_25 ⟨Nat.le_of_ble_eq_true rfl, Nat.le_of_ble_eq_true rfl⟩ (fun H locs hW => ?_)
      have hW : ze_W D (ze_wR c d n A B (zf_CI n A) (if A 4 j = 0 then 0 else 2)) F s.heap _ _ := hW
      refine lv_bipush (v := 10) hX_ hB_ dX9_close_28 (by decide) ?_
      refine lv_icmp_le (tgt := 37) hX_ hB_ dX9_close_30 (by decide) (fun c30 => ?_) (fun c30 => ?_)
      · refine lv_iconst (v := 0) hX_ hB_ dX9_close_37 (by decide) ?_
        refine lv_iconst (v := 3) hX_ hB_ dX9_close_38 (by decide) ?_
        refine ze_Vi (As := [.int 0, .int 3]) (rest := []) (ci := 9) (q0 := 0) (k := (RX9, TX9, 39)) S (zr_isThrown l D c d n A B (zf_CI n A) (if A 4 j = 0 then 0 else 2) 0 3 0 rfl (if_pos rfl)) (cwV 2 hts gX9_close_X9_isThrown rfl rfl rfl (by decide +kernel) ⟨Nat.le_of_ble_eq_true rfl, Nat.le_of_ble_eq_true rfl⟩) hK hW hA rfl rfl rfl hl.1 rfl (lv_room (Nat.le_of_ble_eq_true rfl)) dX9_close_39 ⟨Nat.le_of_ble_eq_true rfl, Nat.le_of_ble_eq_true rfl⟩ (fun H locs hW => ?_)
        have hW : ze_W D (ze_wR c d n A B (zf_CI n A) 0) F s.heap _ _ := hW
        refine lv_if_eq (tgt := 47) hX_ hB_ dX9_close_42 (by decide) (fun c42 => ?_) (fun c42 => ?_)
        · refine lv_aload_n hX_ hB_ dX9_close_47 rfl (lv_at hl 0 rfl) ?_
          refine ze_get (ci := 9) (C := RX9) (T := TX9) (N := 39) (v := .ref (d 5)) S hiX9 hK hW 0 rfl rfl 4 (by decide) rfl w0 dX9_close_48 ?_
          refine lv_iload_n hX_ hB_ dX9_close_51 rfl (lv_at hl 1 rfl) ?_
          refine lv_iconst (v := 1) hX_ hB_ dX9_close_52 (by decide) ?_
          refine ze_zastN hX_ hB_ hK hW 5 (f := A 4) rfl (i := j) (by omega) (by decide) rfl dX9_close_53 (ze_qR4 j 1 _ _ _ _ _ _ _) (fun H locs hW => ?_)
          have hW : ze_W D (ze_wR c d n (ze_sE A 4 j 1) B (zf_CI n A) 0) F s.heap _ _ := hW
          refine lv_aload_n hX_ hB_ dX9_close_54 rfl (lv_at hl 0 rfl) ?_
          refine ze_Vi (As := []) (rest := []) (ci := 9) (q0 := 0) (k := (RX9, TX9, 39)) S (zr_many l D c d n (ze_sE A 4 j 1) B (zf_CI n A) 0  hN hS (zf_CIz hN hS)) (cwV 0 hts gX9_close_X9_many rfl rfl rfl (by decide +kernel) ⟨Nat.le_of_ble_eq_true rfl, Nat.le_of_ble_eq_true rfl⟩) hK hW hA rfl rfl rfl hl.1 rfl (lv_room (Nat.le_of_ble_eq_true rfl)) dX9_close_55 ⟨Nat.le_of_ble_eq_true rfl, Nat.le_of_ble_eq_true rfl⟩ (fun H locs hW => ?_)
          have hW : ze_W D (ze_wR c d n (ze_sE A 4 j 1) B (zf_CI n (ze_sE A 4 j 1)) 0) F s.heap _ _ := hW
          exact ze_iret S hr hlocks hF hK hW rfl dX9_close_58 (Nat.le_of_ble_eq_true rfl) (Nat.le_of_ble_eq_true rfl) rfl rfl
        · exact absurd c42 (by decide)
      · exact absurd hg c30
set_option maxHeartbeats 4000000 in
set_option maxRecDepth 100000 in
theorem zr_open_t1 (l : Launch) (D : va_G) (c : Nat → ClassId) (d n : Nat → Nat) (A : Nat → Nat → Int32) (B : Nat → Int64) (mk : Nat → Int32) (th : Int32) (x : Int32) (hN : zf_N n) (hx : ¬ zf_isIn x 0 (nI (n 1) - 1)) : ze_I l yX9_open wsX9_open 2 43 0 0 D c (ze_wR c d n A B mk th) [.ref (d 0), .int x] 0 (ze_wR c d n A B mk 1) := by
  intro sz
  refine ze_start (cc := cX9_open) (maxL := 2) (ret := (some .int)) (own := RX9) (by decide) rfl rfl (Nat.le_of_ble_eq_true rfl) ?_
  obtain ⟨hn0, hn1, hn2, hn3, hn4⟩ := id hN
  intro p e s m_ below meth cd F ls hF hsz E0
  obtain ⟨S, hr, hlocks, hK, hW, hA, hl⟩ := E0
  have hX_ := S.1
  have hB_ := S.2.1
  have hts := S.2.2.2.2
  have hl : lv_has ls 2 [(0, .ref (d 0)), (1, .int x)] := hl
  refine lv_aload_n hX_ hB_ dX9_open_0 rfl (lv_at hl 0 rfl) ?_
  refine lv_iload_n hX_ hB_ dX9_open_1 rfl (lv_at hl 1 rfl) ?_
  refine ze_Vi (As := [.int x]) (rest := []) (ci := 9) (q0 := 0) (k := (RX9, TX9, 39)) S (zr_isNoLine l D c d n A B mk th x) (cwV 1 hts gX9_open_X9_isNoLine rfl rfl rfl (by decide +kernel) ⟨Nat.le_of_ble_eq_true rfl, Nat.le_of_ble_eq_true rfl⟩) hK hW hA rfl rfl rfl hl.1 rfl (lv_room (Nat.le_of_ble_eq_true rfl)) dX9_open_2 ⟨Nat.le_of_ble_eq_true rfl, Nat.le_of_ble_eq_true rfl⟩ (fun H locs hW => ?_)
  have hW : ze_W D (ze_wR c d n A B mk (if zf_isIn x 0 (nI (n 1) - 1) then 0 else 1)) F s.heap _ _ := hW
  refine lv_if_ne (tgt := 30) hX_ hB_ dX9_open_5 (by decide) (fun c5 => ?_) (fun c5 => ?_)
  · have c5 : ¬ zf_isIn x 0 (nI (n 1) - 1) := ze_bt c5
    refine lv_iconst (v := 0) hX_ hB_ dX9_open_30 (by decide) ?_
    exact ze_iret S hr hlocks hF hK hW rfl dX9_open_31 (Nat.le_of_ble_eq_true rfl) (Nat.le_of_ble_eq_true rfl) rfl (by simp only [ze_b, eq_false hx, eq_false c5, not_true_eq_false, not_false_eq_true, and_true, true_and, and_false, false_and, or_true, true_or, or_false, false_or, and_self, or_self, Decidable.not_not, if_true, if_false, reduceIte, reduceCtorEq, ne_eq, eq_self, Int32.lt_irrefl, Int32.le_refl, Nat.lt_irrefl])
  · have c5 : ¬ (¬ zf_isIn x 0 (nI (n 1) - 1)) := ze_bf c5
    have c5 : zf_isIn x 0 (nI (n 1) - 1) := Decidable.of_not_not c5
    exact absurd c5 hx
set_option maxHeartbeats 4000000 in
set_option maxRecDepth 100000 in
theorem zr_open_t2 (l : Launch) (D : va_G) (c : Nat → ClassId) (d n : Nat → Nat) (A : Nat → Nat → Int32) (B : Nat → Int64) (mk : Nat → Int32) (th : Int32) (j : Nat) (hN : zf_N n) (hj : j < n 1) (hS : zf_S n A) (hz : ∀ s, n 0 ≤ s → mk s = 0) (hZ : ∀ i, A 4 i = 0 ∨ A 4 i = 1) (h4 : A 4 j = 0) : ze_I l yX9_open wsX9_open 2 43 0 0 D c (ze_wR c d n A B mk th) [.ref (d 0), .int (nI j)] 0 (ze_wR c d n A B mk 2) := by
  intro sz
  refine ze_start (cc := cX9_open) (maxL := 2) (ret := (some .int)) (own := RX9) (by decide) rfl rfl (Nat.le_of_ble_eq_true rfl) ?_
  obtain ⟨hn0, hn1, hn2, hn3, hn4⟩ := id hN
  have hinj : zf_isIn (nI j) 0 (nI (n 1) - 1) := zf_isInN hj (by omega)
  intro p e s m_ below meth cd F ls hF hsz E0
  obtain ⟨S, hr, hlocks, hK, hW, hA, hl⟩ := E0
  have hX_ := S.1
  have hB_ := S.2.1
  have hts := S.2.2.2.2
  have hl : lv_has ls 2 [(0, .ref (d 0)), (1, .int (nI j))] := hl
  have hiX9 : ∀ w ∈ u_ws RX9 TX9 39, w ∈ wsX9_open := fun _ h => (List.mem_cons_of_mem _ (List.mem_append_right _ h))
  have w0 := hts (.fieldLink RX9 22 "IslandgridModel" "isClosed" "[Z") (List.mem_cons_of_mem _ (List.mem_append_left _ (List.mem_append_left _ (List.mem_of_getElem? (i := 0) rfl))))
  refine lv_aload_n hX_ hB_ dX9_open_0 rfl (lv_at hl 0 rfl) ?_
  refine lv_iload_n hX_ hB_ dX9_open_1 rfl (lv_at hl 1 rfl) ?_
  refine ze_Vi (As := [.int (nI j)]) (rest := []) (ci := 9) (q0 := 0) (k := (RX9, TX9, 39)) S (zr_isNoLine l D c d n A B mk th (nI j)) (cwV 1 hts gX9_open_X9_isNoLine rfl rfl rfl (by decide +kernel) ⟨Nat.le_of_ble_eq_true rfl, Nat.le_of_ble_eq_true rfl⟩) hK hW hA rfl rfl rfl hl.1 rfl (lv_room (Nat.le_of_ble_eq_true rfl)) dX9_open_2 ⟨Nat.le_of_ble_eq_true rfl, Nat.le_of_ble_eq_true rfl⟩ (fun H locs hW => ?_)
  have hW : ze_W D (ze_wR c d n A B mk (if zf_isIn (nI j) 0 (nI (n 1) - 1) then 0 else 1)) F s.heap _ _ := hW
  refine lv_if_ne (tgt := 30) hX_ hB_ dX9_open_5 (by decide) (fun c5 => ?_) (fun c5 => ?_)
  · have c5 : ¬ zf_isIn (nI j) 0 (nI (n 1) - 1) := ze_bt c5
    exact absurd hinj c5
  · have c5 : ¬ (¬ zf_isIn (nI j) 0 (nI (n 1) - 1)) := ze_bf c5
    have c5 : zf_isIn (nI j) 0 (nI (n 1) - 1) := Decidable.of_not_not c5
    refine lv_aload_n hX_ hB_ dX9_open_8 rfl (lv_at hl 0 rfl) ?_
    refine lv_aload_n hX_ hB_ dX9_open_9 rfl (lv_at hl 0 rfl) ?_
    refine ze_get (ci := 9) (C := RX9) (T := TX9) (N := 39) (v := .ref (d 5)) S hiX9 hK hW 0 rfl rfl 4 (by decide) rfl w0 dX9_open_10 ?_
    refine lv_iload_n hX_ hB_ dX9_open_13 rfl (lv_at hl 1 rfl) ?_
    refine ze_zaldN hX_ hB_ hK hW 5 (f := A 4) rfl (i := j) (by omega) (by decide) dX9_open_14 ?_
    refine lv_if_ne (tgt := 22) hX_ hB_ dX9_open_15 (by decide) (fun c15 => ?_) (fun c15 => ?_)
    · exact absurd h4 c15
    · refine lv_iconst (v := 1) hX_ hB_ dX9_open_18 (by decide) ?_
      refine lv_goto (tgt := 23) hX_ hB_ dX9_open_19 (by decide) ?_
      refine lv_iconst (v := 2) hX_ hB_ dX9_open_23 (by decide) ?_
      refine ze_Vi (As := [.int 1, .int 2]) (rest := []) (ci := 9) (q0 := 0) (k := (RX9, TX9, 39)) S (zr_isThrown l D c d n A B mk (if zf_isIn (nI j) 0 (nI (n 1) - 1) then 0 else 1) 1 2 2 rfl (if_neg (by decide))) (cwV 2 hts gX9_open_X9_isThrown rfl rfl rfl (by decide +kernel) ⟨Nat.le_of_ble_eq_true rfl, Nat.le_of_ble_eq_true rfl⟩) hK hW hA rfl rfl rfl hl.1 rfl (lv_room (Nat.le_of_ble_eq_true rfl)) dX9_open_24 ⟨Nat.le_of_ble_eq_true rfl, Nat.le_of_ble_eq_true rfl⟩ (fun H locs hW => ?_)
      have hW : ze_W D (ze_wR c d n A B mk 2) F s.heap _ _ := hW
      refine lv_if_eq (tgt := 32) hX_ hB_ dX9_open_27 (by decide) (fun c27 => ?_) (fun c27 => ?_)
      · exact absurd c27 (by decide)
      · refine lv_iconst (v := 0) hX_ hB_ dX9_open_30 (by decide) ?_
        exact ze_iret S hr hlocks hF hK hW rfl dX9_open_31 (Nat.le_of_ble_eq_true rfl) (Nat.le_of_ble_eq_true rfl) rfl rfl
set_option maxHeartbeats 4000000 in
set_option maxRecDepth 100000 in
theorem zr_open_f (l : Launch) (D : va_G) (c : Nat → ClassId) (d n : Nat → Nat) (A : Nat → Nat → Int32) (B : Nat → Int64) (mk : Nat → Int32) (th : Int32) (j : Nat) (hN : zf_N n) (hj : j < n 1) (hS : zf_S n A) (hz : ∀ s, n 0 ≤ s → mk s = 0) (hZ : ∀ i, A 4 i = 0 ∨ A 4 i = 1) (h4 : ¬ A 4 j = 0) : ze_I l yX9_open wsX9_open 3 58 0 0 D c (ze_wR c d n A B mk th) [.ref (d 0), .int (nI j)] (zf_many (zf_CI n (ze_sE A 4 j 0)) (n 0)) (ze_wR c d n (ze_sE A 4 j 0) B (zf_CI n (ze_sE A 4 j 0)) 0) := by
  intro sz
  refine ze_start (cc := cX9_open) (maxL := 2) (ret := (some .int)) (own := RX9) (by decide) rfl rfl (Nat.le_of_ble_eq_true rfl) ?_
  obtain ⟨hn0, hn1, hn2, hn3, hn4⟩ := id hN
  have hinj : zf_isIn (nI j) 0 (nI (n 1) - 1) := zf_isInN hj (by omega)
  intro p e s m_ below meth cd F ls hF hsz E0
  obtain ⟨S, hr, hlocks, hK, hW, hA, hl⟩ := E0
  have hX_ := S.1
  have hB_ := S.2.1
  have hts := S.2.2.2.2
  have hl : lv_has ls 2 [(0, .ref (d 0)), (1, .int (nI j))] := hl
  have hiX9 : ∀ w ∈ u_ws RX9 TX9 39, w ∈ wsX9_open := fun _ h => (List.mem_cons_of_mem _ (List.mem_append_right _ h))
  have w0 := hts (.fieldLink RX9 22 "IslandgridModel" "isClosed" "[Z") (List.mem_cons_of_mem _ (List.mem_append_left _ (List.mem_append_left _ (List.mem_of_getElem? (i := 0) rfl))))
  refine lv_aload_n hX_ hB_ dX9_open_0 rfl (lv_at hl 0 rfl) ?_
  refine lv_iload_n hX_ hB_ dX9_open_1 rfl (lv_at hl 1 rfl) ?_
  refine ze_Vi (As := [.int (nI j)]) (rest := []) (ci := 9) (q0 := 0) (k := (RX9, TX9, 39)) S (zr_isNoLine l D c d n A B mk th (nI j)) (cwV 1 hts gX9_open_X9_isNoLine rfl rfl rfl (by decide +kernel) ⟨Nat.le_of_ble_eq_true rfl, Nat.le_of_ble_eq_true rfl⟩) hK hW hA rfl rfl rfl hl.1 rfl (lv_room (Nat.le_of_ble_eq_true rfl)) dX9_open_2 ⟨Nat.le_of_ble_eq_true rfl, Nat.le_of_ble_eq_true rfl⟩ (fun H locs hW => ?_)
  have hW : ze_W D (ze_wR c d n A B mk (if zf_isIn (nI j) 0 (nI (n 1) - 1) then 0 else 1)) F s.heap _ _ := hW
  refine lv_if_ne (tgt := 30) hX_ hB_ dX9_open_5 (by decide) (fun c5 => ?_) (fun c5 => ?_)
  · have c5 : ¬ zf_isIn (nI j) 0 (nI (n 1) - 1) := ze_bt c5
    exact absurd hinj c5
  · have c5 : ¬ (¬ zf_isIn (nI j) 0 (nI (n 1) - 1)) := ze_bf c5
    have c5 : zf_isIn (nI j) 0 (nI (n 1) - 1) := Decidable.of_not_not c5
    refine lv_aload_n hX_ hB_ dX9_open_8 rfl (lv_at hl 0 rfl) ?_
    refine lv_aload_n hX_ hB_ dX9_open_9 rfl (lv_at hl 0 rfl) ?_
    refine ze_get (ci := 9) (C := RX9) (T := TX9) (N := 39) (v := .ref (d 5)) S hiX9 hK hW 0 rfl rfl 4 (by decide) rfl w0 dX9_open_10 ?_
    refine lv_iload_n hX_ hB_ dX9_open_13 rfl (lv_at hl 1 rfl) ?_
    refine ze_zaldN hX_ hB_ hK hW 5 (f := A 4) rfl (i := j) (by omega) (by decide) dX9_open_14 ?_
    refine lv_if_ne (tgt := 22) hX_ hB_ dX9_open_15 (by decide) (fun c15 => ?_) (fun c15 => ?_)
    · refine lv_iconst (v := 0) hX_ hB_ dX9_open_22 (by decide) ?_
      refine lv_iconst (v := 2) hX_ hB_ dX9_open_23 (by decide) ?_
      refine ze_Vi (As := [.int 0, .int 2]) (rest := []) (ci := 9) (q0 := 0) (k := (RX9, TX9, 39)) S (zr_isThrown l D c d n A B mk (if zf_isIn (nI j) 0 (nI (n 1) - 1) then 0 else 1) 0 2 0 rfl (if_pos rfl)) (cwV 2 hts gX9_open_X9_isThrown rfl rfl rfl (by decide +kernel) ⟨Nat.le_of_ble_eq_true rfl, Nat.le_of_ble_eq_true rfl⟩) hK hW hA rfl rfl rfl hl.1 rfl (lv_room (Nat.le_of_ble_eq_true rfl)) dX9_open_24 ⟨Nat.le_of_ble_eq_true rfl, Nat.le_of_ble_eq_true rfl⟩ (fun H locs hW => ?_)
      have hW : ze_W D (ze_wR c d n A B mk 0) F s.heap _ _ := hW
      refine lv_if_eq (tgt := 32) hX_ hB_ dX9_open_27 (by decide) (fun c27 => ?_) (fun c27 => ?_)
      · refine lv_aload_n hX_ hB_ dX9_open_32 rfl (lv_at hl 0 rfl) ?_
        refine ze_get (ci := 9) (C := RX9) (T := TX9) (N := 39) (v := .ref (d 5)) S hiX9 hK hW 0 rfl rfl 4 (by decide) rfl w0 dX9_open_33 ?_
        refine lv_iload_n hX_ hB_ dX9_open_36 rfl (lv_at hl 1 rfl) ?_
        refine lv_iconst (v := 0) hX_ hB_ dX9_open_37 (by decide) ?_
        refine ze_zastN hX_ hB_ hK hW 5 (f := A 4) rfl (i := j) (by omega) (by decide) rfl dX9_open_38 (ze_qR4 j 0 _ _ _ _ _ _ _) (fun H locs hW => ?_)
        have hW : ze_W D (ze_wR c d n (ze_sE A 4 j 0) B mk 0) F s.heap _ _ := hW
        refine lv_aload_n hX_ hB_ dX9_open_39 rfl (lv_at hl 0 rfl) ?_
        refine ze_Vi (As := []) (rest := []) (ci := 9) (q0 := 0) (k := (RX9, TX9, 39)) S (zr_many l D c d n (ze_sE A 4 j 0) B mk 0  hN hS hz) (cwV 0 hts gX9_open_X9_many rfl rfl rfl (by decide +kernel) ⟨Nat.le_of_ble_eq_true rfl, Nat.le_of_ble_eq_true rfl⟩) hK hW hA rfl rfl rfl hl.1 rfl (lv_room (Nat.le_of_ble_eq_true rfl)) dX9_open_40 ⟨Nat.le_of_ble_eq_true rfl, Nat.le_of_ble_eq_true rfl⟩ (fun H locs hW => ?_)
        have hW : ze_W D (ze_wR c d n (ze_sE A 4 j 0) B (zf_CI n (ze_sE A 4 j 0)) 0) F s.heap _ _ := hW
        exact ze_iret S hr hlocks hF hK hW rfl dX9_open_43 (Nat.le_of_ble_eq_true rfl) (Nat.le_of_ble_eq_true rfl) rfl rfl
      · exact absurd c27 (by decide)
    · exact absurd c15 h4
set_option maxHeartbeats 4000000 in
set_option maxRecDepth 100000 in
theorem zr_tie_t1 (l : Launch) (D : va_G) (c : Nat → ClassId) (d n : Nat → Nat) (A : Nat → Nat → Int32) (B : Nat → Int64) (mk : Nat → Int32) (th : Int32) (hN : zf_N n) (hT : A 38 0 = 0 ∨ A 38 0 = 1) (h : n 0 = 0) : ze_I l yX9_tie wsX9_tie 1 22 0 0 D c (ze_wR c d n A B mk th) [.ref (d 0)] 0 (ze_wR c d n A B mk 1) := by
  intro sz
  refine ze_start (cc := cX9_tie) (maxL := 1) (ret := (some .int)) (own := RX9) (by decide) rfl rfl (Nat.le_of_ble_eq_true rfl) ?_
  obtain ⟨hn0, hn1, hn2, hn3, hn4⟩ := id hN
  intro p e s m_ below meth cd F ls hF hsz E0
  obtain ⟨S, hr, hlocks, hK, hW, hA, hl⟩ := E0
  have hX_ := S.1
  have hB_ := S.2.1
  have hts := S.2.2.2.2
  have hl : lv_has ls 1 [(0, .ref (d 0))] := hl
  have hiX9 : ∀ w ∈ u_ws RX9 TX9 39, w ∈ wsX9_tie := fun _ h => (List.mem_cons_of_mem _ (List.mem_append_right _ h))
  have w0 := hts (.fieldLink RX9 88 "IslandgridModel" "sites" "I") (List.mem_cons_of_mem _ (List.mem_append_left _ (List.mem_append_left _ (List.mem_of_getElem? (i := 0) rfl))))
  refine lv_aload_n hX_ hB_ dX9_tie_0 rfl (lv_at hl 0 rfl) ?_
  refine lv_aload_n hX_ hB_ dX9_tie_1 rfl (lv_at hl 0 rfl) ?_
  refine ze_get (ci := 9) (C := RX9) (T := TX9) (N := 39) (v := .int (nI (n 0))) S hiX9 hK hW 0 rfl rfl 23 (by decide) rfl w0 dX9_tie_2 ?_
  refine lv_if_ne (tgt := 12) hX_ hB_ dX9_tie_5 (by decide) (fun c5 => ?_) (fun c5 => ?_)
  · have c5 : ¬ (n 0) = 0 := fun h9 => c5 ((nI_eq (a := (n 0)) (b := 0) (by omega) (by omega)).mpr h9)
    exact absurd h c5
  · have c5 : (n 0) = 0 := (nI_eq (a := (n 0)) (b := 0) (by omega) (by omega)).mp c5
    refine lv_iconst (v := 1) hX_ hB_ dX9_tie_8 (by decide) ?_
    refine lv_goto (tgt := 13) hX_ hB_ dX9_tie_9 (by decide) ?_
    refine lv_iconst (v := 1) hX_ hB_ dX9_tie_13 (by decide) ?_
    refine ze_Vi (As := [.int 1, .int 1]) (rest := []) (ci := 9) (q0 := 0) (k := (RX9, TX9, 39)) S (zr_isThrown l D c d n A B mk th 1 1 1 rfl (if_neg (by decide))) (cwV 2 hts gX9_tie_X9_isThrown rfl rfl rfl (by decide +kernel) ⟨Nat.le_of_ble_eq_true rfl, Nat.le_of_ble_eq_true rfl⟩) hK hW hA rfl rfl rfl hl.1 rfl (lv_room (Nat.le_of_ble_eq_true rfl)) dX9_tie_14 ⟨Nat.le_of_ble_eq_true rfl, Nat.le_of_ble_eq_true rfl⟩ (fun H locs hW => ?_)
    have hW : ze_W D (ze_wR c d n A B mk 1) F s.heap _ _ := hW
    refine lv_if_ne (tgt := 69) hX_ hB_ dX9_tie_17 (by decide) (fun c17 => ?_) (fun c17 => ?_)
    · refine lv_iconst (v := 0) hX_ hB_ dX9_tie_69 (by decide) ?_
      exact ze_iret S hr hlocks hF hK hW rfl dX9_tie_70 (Nat.le_of_ble_eq_true rfl) (Nat.le_of_ble_eq_true rfl) rfl rfl
    · exact absurd c17 (by decide)
set_option maxHeartbeats 4000000 in
set_option maxRecDepth 100000 in
theorem zr_tie_t2 (l : Launch) (D : va_G) (c : Nat → ClassId) (d n : Nat → Nat) (A : Nat → Nat → Int32) (B : Nat → Int64) (mk : Nat → Int32) (th : Int32) (hN : zf_N n) (hT : A 38 0 = 0 ∨ A 38 0 = 1) (h : ¬ n 0 = 0) (h2 : ¬ A 38 0 = 0) : ze_I l yX9_tie wsX9_tie 1 22 0 0 D c (ze_wR c d n A B mk th) [.ref (d 0)] 0 (ze_wR c d n A B mk 2) := by
  intro sz
  refine ze_start (cc := cX9_tie) (maxL := 1) (ret := (some .int)) (own := RX9) (by decide) rfl rfl (Nat.le_of_ble_eq_true rfl) ?_
  obtain ⟨hn0, hn1, hn2, hn3, hn4⟩ := id hN
  intro p e s m_ below meth cd F ls hF hsz E0
  obtain ⟨S, hr, hlocks, hK, hW, hA, hl⟩ := E0
  have hX_ := S.1
  have hB_ := S.2.1
  have hts := S.2.2.2.2
  have hl : lv_has ls 1 [(0, .ref (d 0))] := hl
  have hiX9 : ∀ w ∈ u_ws RX9 TX9 39, w ∈ wsX9_tie := fun _ h => (List.mem_cons_of_mem _ (List.mem_append_right _ h))
  have w0 := hts (.fieldLink RX9 88 "IslandgridModel" "sites" "I") (List.mem_cons_of_mem _ (List.mem_append_left _ (List.mem_append_left _ (List.mem_of_getElem? (i := 0) rfl))))
  have w1 := hts (.fieldLink RX9 128 "IslandgridModel" "isTied" "Z") (List.mem_cons_of_mem _ (List.mem_append_left _ (List.mem_append_left _ (List.mem_of_getElem? (i := 1) rfl))))
  refine lv_aload_n hX_ hB_ dX9_tie_0 rfl (lv_at hl 0 rfl) ?_
  refine lv_aload_n hX_ hB_ dX9_tie_1 rfl (lv_at hl 0 rfl) ?_
  refine ze_get (ci := 9) (C := RX9) (T := TX9) (N := 39) (v := .int (nI (n 0))) S hiX9 hK hW 0 rfl rfl 23 (by decide) rfl w0 dX9_tie_2 ?_
  refine lv_if_ne (tgt := 12) hX_ hB_ dX9_tie_5 (by decide) (fun c5 => ?_) (fun c5 => ?_)
  · have c5 : ¬ (n 0) = 0 := fun h9 => c5 ((nI_eq (a := (n 0)) (b := 0) (by omega) (by omega)).mpr h9)
    refine lv_iconst (v := 0) hX_ hB_ dX9_tie_12 (by decide) ?_
    refine lv_iconst (v := 1) hX_ hB_ dX9_tie_13 (by decide) ?_
    refine ze_Vi (As := [.int 0, .int 1]) (rest := []) (ci := 9) (q0 := 0) (k := (RX9, TX9, 39)) S (zr_isThrown l D c d n A B mk th 0 1 0 rfl (if_pos rfl)) (cwV 2 hts gX9_tie_X9_isThrown rfl rfl rfl (by decide +kernel) ⟨Nat.le_of_ble_eq_true rfl, Nat.le_of_ble_eq_true rfl⟩) hK hW hA rfl rfl rfl hl.1 rfl (lv_room (Nat.le_of_ble_eq_true rfl)) dX9_tie_14 ⟨Nat.le_of_ble_eq_true rfl, Nat.le_of_ble_eq_true rfl⟩ (fun H locs hW => ?_)
    have hW : ze_W D (ze_wR c d n A B mk 0) F s.heap _ _ := hW
    refine lv_if_ne (tgt := 69) hX_ hB_ dX9_tie_17 (by decide) (fun c17 => ?_) (fun c17 => ?_)
    · exact absurd c17 (by decide)
    · refine lv_aload_n hX_ hB_ dX9_tie_20 rfl (lv_at hl 0 rfl) ?_
      refine lv_aload_n hX_ hB_ dX9_tie_21 rfl (lv_at hl 0 rfl) ?_
      refine ze_get (ci := 9) (C := RX9) (T := TX9) (N := 39) (v := .int (A 38 0)) S hiX9 hK hW 0 rfl rfl 38 (by decide) rfl w1 dX9_tie_22 ?_
      refine lv_iconst (v := 2) hX_ hB_ dX9_tie_25 (by decide) ?_
      refine ze_Vi (As := [.int (A 38 0), .int 2]) (rest := []) (ci := 9) (q0 := 0) (k := (RX9, TX9, 39)) S (zr_isThrown l D c d n A B mk 0 (A 38 0) 2 (if A 38 0 = 0 then 0 else 2) (zf_narb hT) rfl) (cwV 2 hts gX9_tie_X9_isThrown rfl rfl rfl (by decide +kernel) ⟨Nat.le_of_ble_eq_true rfl, Nat.le_of_ble_eq_true rfl⟩) hK hW hA rfl rfl rfl hl.1 rfl (lv_room (Nat.le_of_ble_eq_true rfl)) dX9_tie_26 ⟨Nat.le_of_ble_eq_true rfl, Nat.le_of_ble_eq_true rfl⟩ (fun H locs hW => ?_)
      have hW : ze_W D (ze_wR c d n A B mk (if A 38 0 = 0 then 0 else 2)) F s.heap _ _ := hW
      refine lv_if_ne (tgt := 69) hX_ hB_ dX9_tie_29 (by decide) (fun c29 => ?_) (fun c29 => ?_)
      · refine lv_iconst (v := 0) hX_ hB_ dX9_tie_69 (by decide) ?_
        exact ze_iret S hr hlocks hF hK hW rfl dX9_tie_70 (Nat.le_of_ble_eq_true rfl) (Nat.le_of_ble_eq_true rfl) rfl (by simp only [ze_b, eq_false h, eq_false h2, eq_false c5, eq_true c17, eq_false c29, not_true_eq_false, not_false_eq_true, and_true, true_and, and_false, false_and, or_true, true_or, or_false, false_or, and_self, or_self, Decidable.not_not, if_true, if_false, reduceIte, reduceCtorEq, ne_eq, eq_self, Int32.lt_irrefl, Int32.le_refl, Nat.lt_irrefl])
      · exact absurd c29 h2
  · have c5 : (n 0) = 0 := (nI_eq (a := (n 0)) (b := 0) (by omega) (by omega)).mp c5
    exact absurd c5 h
set_option maxHeartbeats 4000000 in
set_option maxRecDepth 100000 in
theorem zr_tie_t3 (l : Launch) (D : va_G) (c : Nat → ClassId) (d n : Nat → Nat) (A : Nat → Nat → Int32) (B : Nat → Int64) (mk : Nat → Int32) (th : Int32) (hN : zf_N n) (hT : A 38 0 = 0 ∨ A 38 0 = 1) (h : ¬ n 0 = 0) (h2 : A 38 0 = 0) (h3 : ¬ ze_mn (A 0 0) (360 - A 0 0) ≤ 10) : ze_I l yX9_tie wsX9_tie 1 22 0 0 D c (ze_wR c d n A B mk th) [.ref (d 0)] 0 (ze_wR c d n A B mk 3) := by
  intro sz
  refine ze_start (cc := cX9_tie) (maxL := 1) (ret := (some .int)) (own := RX9) (by decide) rfl rfl (Nat.le_of_ble_eq_true rfl) ?_
  obtain ⟨hn0, hn1, hn2, hn3, hn4⟩ := id hN
  intro p e s m_ below meth cd F ls hF hsz E0
  obtain ⟨S, hr, hlocks, hK, hW, hA, hl⟩ := E0
  have hX_ := S.1
  have hB_ := S.2.1
  have hts := S.2.2.2.2
  have hl : lv_has ls 1 [(0, .ref (d 0))] := hl
  have hiX9 : ∀ w ∈ u_ws RX9 TX9 39, w ∈ wsX9_tie := fun _ h => (List.mem_cons_of_mem _ (List.mem_append_right _ h))
  have w0 := hts (.fieldLink RX9 88 "IslandgridModel" "sites" "I") (List.mem_cons_of_mem _ (List.mem_append_left _ (List.mem_append_left _ (List.mem_of_getElem? (i := 0) rfl))))
  have w1 := hts (.fieldLink RX9 128 "IslandgridModel" "isTied" "Z") (List.mem_cons_of_mem _ (List.mem_append_left _ (List.mem_append_left _ (List.mem_of_getElem? (i := 1) rfl))))
  have w2 := hts (.fieldLink RX9 9 "IslandgridModel" "phase" "[I") (List.mem_cons_of_mem _ (List.mem_append_left _ (List.mem_append_left _ (List.mem_of_getElem? (i := 2) rfl))))
  have w3 := hts (.methodLink RX9 115 Lib.Math.min.name) (List.mem_cons_of_mem _ (List.mem_append_left _ (List.mem_append_left _ (List.mem_of_getElem? (i := 3) rfl))))
  have w4 := hts (.static Lib.Math.min.name) (List.mem_cons_of_mem _ (List.mem_append_left _ (List.mem_append_left _ (List.mem_of_getElem? (i := 4) rfl))))
  have w5 := hts (.initialized "java/lang/Math") (List.mem_cons_of_mem _ (List.mem_append_left _ (List.mem_append_left _ (List.mem_of_getElem? (i := 5) rfl))))
  have w6 := hts (.code Lib.Math.min.name Lib.Math.min.code 2 (some .int)) (List.mem_cons_of_mem _ (List.mem_append_left _ (List.mem_append_left _ (List.mem_of_getElem? (i := 6) rfl))))
  refine lv_aload_n hX_ hB_ dX9_tie_0 rfl (lv_at hl 0 rfl) ?_
  refine lv_aload_n hX_ hB_ dX9_tie_1 rfl (lv_at hl 0 rfl) ?_
  refine ze_get (ci := 9) (C := RX9) (T := TX9) (N := 39) (v := .int (nI (n 0))) S hiX9 hK hW 0 rfl rfl 23 (by decide) rfl w0 dX9_tie_2 ?_
  refine lv_if_ne (tgt := 12) hX_ hB_ dX9_tie_5 (by decide) (fun c5 => ?_) (fun c5 => ?_)
  · have c5 : ¬ (n 0) = 0 := fun h9 => c5 ((nI_eq (a := (n 0)) (b := 0) (by omega) (by omega)).mpr h9)
    refine lv_iconst (v := 0) hX_ hB_ dX9_tie_12 (by decide) ?_
    refine lv_iconst (v := 1) hX_ hB_ dX9_tie_13 (by decide) ?_
    refine ze_Vi (As := [.int 0, .int 1]) (rest := []) (ci := 9) (q0 := 0) (k := (RX9, TX9, 39)) S (zr_isThrown l D c d n A B mk th 0 1 0 rfl (if_pos rfl)) (cwV 2 hts gX9_tie_X9_isThrown rfl rfl rfl (by decide +kernel) ⟨Nat.le_of_ble_eq_true rfl, Nat.le_of_ble_eq_true rfl⟩) hK hW hA rfl rfl rfl hl.1 rfl (lv_room (Nat.le_of_ble_eq_true rfl)) dX9_tie_14 ⟨Nat.le_of_ble_eq_true rfl, Nat.le_of_ble_eq_true rfl⟩ (fun H locs hW => ?_)
    have hW : ze_W D (ze_wR c d n A B mk 0) F s.heap _ _ := hW
    refine lv_if_ne (tgt := 69) hX_ hB_ dX9_tie_17 (by decide) (fun c17 => ?_) (fun c17 => ?_)
    · exact absurd c17 (by decide)
    · refine lv_aload_n hX_ hB_ dX9_tie_20 rfl (lv_at hl 0 rfl) ?_
      refine lv_aload_n hX_ hB_ dX9_tie_21 rfl (lv_at hl 0 rfl) ?_
      refine ze_get (ci := 9) (C := RX9) (T := TX9) (N := 39) (v := .int (A 38 0)) S hiX9 hK hW 0 rfl rfl 38 (by decide) rfl w1 dX9_tie_22 ?_
      refine lv_iconst (v := 2) hX_ hB_ dX9_tie_25 (by decide) ?_
      refine ze_Vi (As := [.int (A 38 0), .int 2]) (rest := []) (ci := 9) (q0 := 0) (k := (RX9, TX9, 39)) S (zr_isThrown l D c d n A B mk 0 (A 38 0) 2 (if A 38 0 = 0 then 0 else 2) (zf_narb hT) rfl) (cwV 2 hts gX9_tie_X9_isThrown rfl rfl rfl (by decide +kernel) ⟨Nat.le_of_ble_eq_true rfl, Nat.le_of_ble_eq_true rfl⟩) hK hW hA rfl rfl rfl hl.1 rfl (lv_room (Nat.le_of_ble_eq_true rfl)) dX9_tie_26 ⟨Nat.le_of_ble_eq_true rfl, Nat.le_of_ble_eq_true rfl⟩ (fun H locs hW => ?_)
      have hW : ze_W D (ze_wR c d n A B mk (if A 38 0 = 0 then 0 else 2)) F s.heap _ _ := hW
      refine lv_if_ne (tgt := 69) hX_ hB_ dX9_tie_29 (by decide) (fun c29 => ?_) (fun c29 => ?_)
      · exact absurd h2 c29
      · refine lv_aload_n hX_ hB_ dX9_tie_32 rfl (lv_at hl 0 rfl) ?_
        refine lv_aload_n hX_ hB_ dX9_tie_33 rfl (lv_at hl 0 rfl) ?_
        refine ze_get (ci := 9) (C := RX9) (T := TX9) (N := 39) (v := .ref (d 1)) S hiX9 hK hW 0 rfl rfl 0 (by decide) rfl w2 dX9_tie_34 ?_
        refine lv_iconst (v := 0) hX_ hB_ dX9_tie_37 (by decide) ?_
        refine ze_ialdN hX_ hB_ hK hW 1 (f := A 0) rfl (i := 0) (by omega) (by decide) dX9_tie_38 ?_
        refine lv_sipush (v := 360) hX_ hB_ dX9_tie_39 (by decide) ?_
        refine lv_aload_n hX_ hB_ dX9_tie_42 rfl (lv_at hl 0 rfl) ?_
        refine ze_get (ci := 9) (C := RX9) (T := TX9) (N := 39) (v := .ref (d 1)) S hiX9 hK hW 0 rfl rfl 0 (by decide) rfl w2 dX9_tie_43 ?_
        refine lv_iconst (v := 0) hX_ hB_ dX9_tie_46 (by decide) ?_
        refine ze_ialdN hX_ hB_ hK hW 1 (f := A 0) rfl (i := 0) (by omega) (by decide) dX9_tie_47 ?_
        refine lv_isub hX_ hB_ dX9_tie_48 ?_
        refine ze_min S hl.1 w3 w4 w5 w6 ⟨Nat.le_of_ble_eq_true rfl, Nat.le_of_ble_eq_true rfl, Nat.le_of_ble_eq_true rfl, Nat.le_of_ble_eq_true rfl⟩ dX9_tie_49 ?_
        refine lv_bipush (v := 10) hX_ hB_ dX9_tie_52 (by decide) ?_
        refine lv_icmp_le (tgt := 61) hX_ hB_ dX9_tie_54 (by decide) (fun c54 => ?_) (fun c54 => ?_)
        · exact absurd c54 h3
        · refine lv_iconst (v := 1) hX_ hB_ dX9_tie_57 (by decide) ?_
          refine lv_goto (tgt := 62) hX_ hB_ dX9_tie_58 (by decide) ?_
          refine lv_iconst (v := 3) hX_ hB_ dX9_tie_62 (by decide) ?_
          refine ze_Vi (As := [.int 1, .int 3]) (rest := []) (ci := 9) (q0 := 0) (k := (RX9, TX9, 39)) S (zr_isThrown l D c d n A B mk (if A 38 0 = 0 then 0 else 2) 1 3 3 rfl (if_neg (by decide))) (cwV 2 hts gX9_tie_X9_isThrown rfl rfl rfl (by decide +kernel) ⟨Nat.le_of_ble_eq_true rfl, Nat.le_of_ble_eq_true rfl⟩) hK hW hA rfl rfl rfl hl.1 rfl (lv_room (Nat.le_of_ble_eq_true rfl)) dX9_tie_63 ⟨Nat.le_of_ble_eq_true rfl, Nat.le_of_ble_eq_true rfl⟩ (fun H locs hW => ?_)
          have hW : ze_W D (ze_wR c d n A B mk 3) F s.heap _ _ := hW
          refine lv_if_eq (tgt := 71) hX_ hB_ dX9_tie_66 (by decide) (fun c66 => ?_) (fun c66 => ?_)
          · exact absurd c66 (by decide)
          · refine lv_iconst (v := 0) hX_ hB_ dX9_tie_69 (by decide) ?_
            exact ze_iret S hr hlocks hF hK hW rfl dX9_tie_70 (Nat.le_of_ble_eq_true rfl) (Nat.le_of_ble_eq_true rfl) rfl rfl
  · have c5 : (n 0) = 0 := (nI_eq (a := (n 0)) (b := 0) (by omega) (by omega)).mp c5
    exact absurd c5 h
set_option maxHeartbeats 4000000 in
set_option maxRecDepth 100000 in
theorem zr_tie_f (l : Launch) (D : va_G) (c : Nat → ClassId) (d n : Nat → Nat) (A : Nat → Nat → Int32) (B : Nat → Int64) (mk : Nat → Int32) (th : Int32) (hN : zf_N n) (hT : A 38 0 = 0 ∨ A 38 0 = 1) (hS : zf_S n A) (hz : ∀ s, n 0 ≤ s → mk s = 0) (h : ¬ n 0 = 0) (h2 : A 38 0 = 0) (h3 : ze_mn (A 0 0) (360 - A 0 0) ≤ 10) : ze_I l yX9_tie wsX9_tie 3 58 0 0 D c (ze_wR c d n A B mk th) [.ref (d 0)] (zf_first (zf_CI n A) (n 0)) (ze_wR c d n (ze_sC A 38 1) B (zf_CI n A) 0) := by
  intro sz
  refine ze_start (cc := cX9_tie) (maxL := 1) (ret := (some .int)) (own := RX9) (by decide) rfl rfl (Nat.le_of_ble_eq_true rfl) ?_
  obtain ⟨hn0, hn1, hn2, hn3, hn4⟩ := id hN
  intro p e s m_ below meth cd F ls hF hsz E0
  obtain ⟨S, hr, hlocks, hK, hW, hA, hl⟩ := E0
  have hX_ := S.1
  have hB_ := S.2.1
  have hts := S.2.2.2.2
  have hl : lv_has ls 1 [(0, .ref (d 0))] := hl
  have hiX9 : ∀ w ∈ u_ws RX9 TX9 39, w ∈ wsX9_tie := fun _ h => (List.mem_cons_of_mem _ (List.mem_append_right _ h))
  have w0 := hts (.fieldLink RX9 88 "IslandgridModel" "sites" "I") (List.mem_cons_of_mem _ (List.mem_append_left _ (List.mem_append_left _ (List.mem_of_getElem? (i := 0) rfl))))
  have w1 := hts (.fieldLink RX9 128 "IslandgridModel" "isTied" "Z") (List.mem_cons_of_mem _ (List.mem_append_left _ (List.mem_append_left _ (List.mem_of_getElem? (i := 1) rfl))))
  have w2 := hts (.fieldLink RX9 9 "IslandgridModel" "phase" "[I") (List.mem_cons_of_mem _ (List.mem_append_left _ (List.mem_append_left _ (List.mem_of_getElem? (i := 2) rfl))))
  have w3 := hts (.methodLink RX9 115 Lib.Math.min.name) (List.mem_cons_of_mem _ (List.mem_append_left _ (List.mem_append_left _ (List.mem_of_getElem? (i := 3) rfl))))
  have w4 := hts (.static Lib.Math.min.name) (List.mem_cons_of_mem _ (List.mem_append_left _ (List.mem_append_left _ (List.mem_of_getElem? (i := 4) rfl))))
  have w5 := hts (.initialized "java/lang/Math") (List.mem_cons_of_mem _ (List.mem_append_left _ (List.mem_append_left _ (List.mem_of_getElem? (i := 5) rfl))))
  have w6 := hts (.code Lib.Math.min.name Lib.Math.min.code 2 (some .int)) (List.mem_cons_of_mem _ (List.mem_append_left _ (List.mem_append_left _ (List.mem_of_getElem? (i := 6) rfl))))
  refine lv_aload_n hX_ hB_ dX9_tie_0 rfl (lv_at hl 0 rfl) ?_
  refine lv_aload_n hX_ hB_ dX9_tie_1 rfl (lv_at hl 0 rfl) ?_
  refine ze_get (ci := 9) (C := RX9) (T := TX9) (N := 39) (v := .int (nI (n 0))) S hiX9 hK hW 0 rfl rfl 23 (by decide) rfl w0 dX9_tie_2 ?_
  refine lv_if_ne (tgt := 12) hX_ hB_ dX9_tie_5 (by decide) (fun c5 => ?_) (fun c5 => ?_)
  · have c5 : ¬ (n 0) = 0 := fun h9 => c5 ((nI_eq (a := (n 0)) (b := 0) (by omega) (by omega)).mpr h9)
    refine lv_iconst (v := 0) hX_ hB_ dX9_tie_12 (by decide) ?_
    refine lv_iconst (v := 1) hX_ hB_ dX9_tie_13 (by decide) ?_
    refine ze_Vi (As := [.int 0, .int 1]) (rest := []) (ci := 9) (q0 := 0) (k := (RX9, TX9, 39)) S (zr_isThrown l D c d n A B mk th 0 1 0 rfl (if_pos rfl)) (cwV 2 hts gX9_tie_X9_isThrown rfl rfl rfl (by decide +kernel) ⟨Nat.le_of_ble_eq_true rfl, Nat.le_of_ble_eq_true rfl⟩) hK hW hA rfl rfl rfl hl.1 rfl (lv_room (Nat.le_of_ble_eq_true rfl)) dX9_tie_14 ⟨Nat.le_of_ble_eq_true rfl, Nat.le_of_ble_eq_true rfl⟩ (fun H locs hW => ?_)
    have hW : ze_W D (ze_wR c d n A B mk 0) F s.heap _ _ := hW
    refine lv_if_ne (tgt := 69) hX_ hB_ dX9_tie_17 (by decide) (fun c17 => ?_) (fun c17 => ?_)
    · exact absurd c17 (by decide)
    · refine lv_aload_n hX_ hB_ dX9_tie_20 rfl (lv_at hl 0 rfl) ?_
      refine lv_aload_n hX_ hB_ dX9_tie_21 rfl (lv_at hl 0 rfl) ?_
      refine ze_get (ci := 9) (C := RX9) (T := TX9) (N := 39) (v := .int (A 38 0)) S hiX9 hK hW 0 rfl rfl 38 (by decide) rfl w1 dX9_tie_22 ?_
      refine lv_iconst (v := 2) hX_ hB_ dX9_tie_25 (by decide) ?_
      refine ze_Vi (As := [.int (A 38 0), .int 2]) (rest := []) (ci := 9) (q0 := 0) (k := (RX9, TX9, 39)) S (zr_isThrown l D c d n A B mk 0 (A 38 0) 2 (if A 38 0 = 0 then 0 else 2) (zf_narb hT) rfl) (cwV 2 hts gX9_tie_X9_isThrown rfl rfl rfl (by decide +kernel) ⟨Nat.le_of_ble_eq_true rfl, Nat.le_of_ble_eq_true rfl⟩) hK hW hA rfl rfl rfl hl.1 rfl (lv_room (Nat.le_of_ble_eq_true rfl)) dX9_tie_26 ⟨Nat.le_of_ble_eq_true rfl, Nat.le_of_ble_eq_true rfl⟩ (fun H locs hW => ?_)
      have hW : ze_W D (ze_wR c d n A B mk (if A 38 0 = 0 then 0 else 2)) F s.heap _ _ := hW
      refine lv_if_ne (tgt := 69) hX_ hB_ dX9_tie_29 (by decide) (fun c29 => ?_) (fun c29 => ?_)
      · exact absurd h2 c29
      · refine lv_aload_n hX_ hB_ dX9_tie_32 rfl (lv_at hl 0 rfl) ?_
        refine lv_aload_n hX_ hB_ dX9_tie_33 rfl (lv_at hl 0 rfl) ?_
        refine ze_get (ci := 9) (C := RX9) (T := TX9) (N := 39) (v := .ref (d 1)) S hiX9 hK hW 0 rfl rfl 0 (by decide) rfl w2 dX9_tie_34 ?_
        refine lv_iconst (v := 0) hX_ hB_ dX9_tie_37 (by decide) ?_
        refine ze_ialdN hX_ hB_ hK hW 1 (f := A 0) rfl (i := 0) (by omega) (by decide) dX9_tie_38 ?_
        refine lv_sipush (v := 360) hX_ hB_ dX9_tie_39 (by decide) ?_
        refine lv_aload_n hX_ hB_ dX9_tie_42 rfl (lv_at hl 0 rfl) ?_
        refine ze_get (ci := 9) (C := RX9) (T := TX9) (N := 39) (v := .ref (d 1)) S hiX9 hK hW 0 rfl rfl 0 (by decide) rfl w2 dX9_tie_43 ?_
        refine lv_iconst (v := 0) hX_ hB_ dX9_tie_46 (by decide) ?_
        refine ze_ialdN hX_ hB_ hK hW 1 (f := A 0) rfl (i := 0) (by omega) (by decide) dX9_tie_47 ?_
        refine lv_isub hX_ hB_ dX9_tie_48 ?_
        refine ze_min S hl.1 w3 w4 w5 w6 ⟨Nat.le_of_ble_eq_true rfl, Nat.le_of_ble_eq_true rfl, Nat.le_of_ble_eq_true rfl, Nat.le_of_ble_eq_true rfl⟩ dX9_tie_49 ?_
        refine lv_bipush (v := 10) hX_ hB_ dX9_tie_52 (by decide) ?_
        refine lv_icmp_le (tgt := 61) hX_ hB_ dX9_tie_54 (by decide) (fun c54 => ?_) (fun c54 => ?_)
        · refine lv_iconst (v := 0) hX_ hB_ dX9_tie_61 (by decide) ?_
          refine lv_iconst (v := 3) hX_ hB_ dX9_tie_62 (by decide) ?_
          refine ze_Vi (As := [.int 0, .int 3]) (rest := []) (ci := 9) (q0 := 0) (k := (RX9, TX9, 39)) S (zr_isThrown l D c d n A B mk (if A 38 0 = 0 then 0 else 2) 0 3 0 rfl (if_pos rfl)) (cwV 2 hts gX9_tie_X9_isThrown rfl rfl rfl (by decide +kernel) ⟨Nat.le_of_ble_eq_true rfl, Nat.le_of_ble_eq_true rfl⟩) hK hW hA rfl rfl rfl hl.1 rfl (lv_room (Nat.le_of_ble_eq_true rfl)) dX9_tie_63 ⟨Nat.le_of_ble_eq_true rfl, Nat.le_of_ble_eq_true rfl⟩ (fun H locs hW => ?_)
          have hW : ze_W D (ze_wR c d n A B mk 0) F s.heap _ _ := hW
          refine lv_if_eq (tgt := 71) hX_ hB_ dX9_tie_66 (by decide) (fun c66 => ?_) (fun c66 => ?_)
          · refine lv_aload_n hX_ hB_ dX9_tie_71 rfl (lv_at hl 0 rfl) ?_
            refine lv_iconst (v := 1) hX_ hB_ dX9_tie_72 (by decide) ?_
            refine ze_put (ci := 9) (C := RX9) (T := TX9) (N := 39) (v := .int 1) S hiX9 tyX9 tyX9_ok nmX9 hK hW 0 rfl rfl 38 (by decide) (Nat.le_of_ble_eq_true rfl) rfl rfl rfl w1 dX9_tie_73 (ze_pR38 1 _ _ _ _ _ _ _) (fun H locs hW => ?_)
            have hW : ze_W D (ze_wR c d n (ze_sC A 38 1) B mk 0) F s.heap _ _ := hW
            refine lv_aload_n hX_ hB_ dX9_tie_76 rfl (lv_at hl 0 rfl) ?_
            refine ze_Vi (As := []) (rest := []) (ci := 9) (q0 := 0) (k := (RX9, TX9, 39)) S (zr_sizeOfFirst l D c d n (ze_sC A 38 1) B mk 0  hN hS hz) (cwV 0 hts gX9_tie_X9_sizeOfFirst rfl rfl rfl (by decide +kernel) ⟨Nat.le_of_ble_eq_true rfl, Nat.le_of_ble_eq_true rfl⟩) hK hW hA rfl rfl rfl hl.1 rfl (lv_room (Nat.le_of_ble_eq_true rfl)) dX9_tie_77 ⟨Nat.le_of_ble_eq_true rfl, Nat.le_of_ble_eq_true rfl⟩ (fun H locs hW => ?_)
            have hW : ze_W D (ze_wR c d n (ze_sC A 38 1) B (zf_CI n (ze_sC A 38 1)) 0) F s.heap _ _ := hW
            exact ze_iret S hr hlocks hF hK hW rfl dX9_tie_80 (Nat.le_of_ble_eq_true rfl) (Nat.le_of_ble_eq_true rfl) (by rw [show zf_CI n (ze_sC A 38 1) = zf_CI n A from zf_CIcong rfl rfl rfl]) (by rw [show zf_CI n (ze_sC A 38 1) = zf_CI n A from zf_CIcong rfl rfl rfl])
          · exact absurd c66 (by decide)
        · exact absurd h3 c54
  · have c5 : (n 0) = 0 := (nI_eq (a := (n 0)) (b := 0) (by omega) (by omega)).mp c5
    exact absurd c5 h
set_option maxHeartbeats 4000000 in
set_option maxRecDepth 100000 in
theorem zr_untie_t1 (l : Launch) (D : va_G) (c : Nat → ClassId) (d n : Nat → Nat) (A : Nat → Nat → Int32) (B : Nat → Int64) (mk : Nat → Int32) (th : Int32) (h2 : A 38 0 = 0) : ze_I l yX9_untie wsX9_untie 1 22 0 0 D c (ze_wR c d n A B mk th) [.ref (d 0)] 0 (ze_wR c d n A B mk 1) := by
  intro sz
  refine ze_start (cc := cX9_untie) (maxL := 1) (ret := (some .int)) (own := RX9) (by decide) rfl rfl (Nat.le_of_ble_eq_true rfl) ?_
  intro p e s m_ below meth cd F ls hF hsz E0
  obtain ⟨S, hr, hlocks, hK, hW, hA, hl⟩ := E0
  have hX_ := S.1
  have hB_ := S.2.1
  have hts := S.2.2.2.2
  have hl : lv_has ls 1 [(0, .ref (d 0))] := hl
  have hiX9 : ∀ w ∈ u_ws RX9 TX9 39, w ∈ wsX9_untie := fun _ h => (List.mem_cons_of_mem _ (List.mem_append_right _ h))
  have w0 := hts (.fieldLink RX9 128 "IslandgridModel" "isTied" "Z") (List.mem_cons_of_mem _ (List.mem_append_left _ (List.mem_append_left _ (List.mem_of_getElem? (i := 0) rfl))))
  refine lv_aload_n hX_ hB_ dX9_untie_0 rfl (lv_at hl 0 rfl) ?_
  refine lv_aload_n hX_ hB_ dX9_untie_1 rfl (lv_at hl 0 rfl) ?_
  refine ze_get (ci := 9) (C := RX9) (T := TX9) (N := 39) (v := .int (A 38 0)) S hiX9 hK hW 0 rfl rfl 38 (by decide) rfl w0 dX9_untie_2 ?_
  refine lv_if_ne (tgt := 12) hX_ hB_ dX9_untie_5 (by decide) (fun c5 => ?_) (fun c5 => ?_)
  · exact absurd h2 c5
  · refine lv_iconst (v := 1) hX_ hB_ dX9_untie_8 (by decide) ?_
    refine lv_goto (tgt := 13) hX_ hB_ dX9_untie_9 (by decide) ?_
    refine lv_iconst (v := 1) hX_ hB_ dX9_untie_13 (by decide) ?_
    refine ze_Vi (As := [.int 1, .int 1]) (rest := []) (ci := 9) (q0 := 0) (k := (RX9, TX9, 39)) S (zr_isThrown l D c d n A B mk th 1 1 1 rfl (if_neg (by decide))) (cwV 2 hts gX9_untie_X9_isThrown rfl rfl rfl (by decide +kernel) ⟨Nat.le_of_ble_eq_true rfl, Nat.le_of_ble_eq_true rfl⟩) hK hW hA rfl rfl rfl hl.1 rfl (lv_room (Nat.le_of_ble_eq_true rfl)) dX9_untie_14 ⟨Nat.le_of_ble_eq_true rfl, Nat.le_of_ble_eq_true rfl⟩ (fun H locs hW => ?_)
    have hW : ze_W D (ze_wR c d n A B mk 1) F s.heap _ _ := hW
    refine lv_if_eq (tgt := 22) hX_ hB_ dX9_untie_17 (by decide) (fun c17 => ?_) (fun c17 => ?_)
    · exact absurd c17 (by decide)
    · refine lv_iconst (v := 0) hX_ hB_ dX9_untie_20 (by decide) ?_
      exact ze_iret S hr hlocks hF hK hW rfl dX9_untie_21 (Nat.le_of_ble_eq_true rfl) (Nat.le_of_ble_eq_true rfl) rfl rfl
set_option maxHeartbeats 4000000 in
set_option maxRecDepth 100000 in
theorem zr_untie_f (l : Launch) (D : va_G) (c : Nat → ClassId) (d n : Nat → Nat) (A : Nat → Nat → Int32) (B : Nat → Int64) (mk : Nat → Int32) (th : Int32) (hN : zf_N n) (hS : zf_S n A) (hz : ∀ s, n 0 ≤ s → mk s = 0) (h2 : ¬ A 38 0 = 0) : ze_I l yX9_untie wsX9_untie 3 58 0 0 D c (ze_wR c d n A B mk th) [.ref (d 0)] (zf_first (zf_CI n A) (n 0)) (ze_wR c d n (ze_sC A 38 0) B (zf_CI n A) 0) := by
  intro sz
  refine ze_start (cc := cX9_untie) (maxL := 1) (ret := (some .int)) (own := RX9) (by decide) rfl rfl (Nat.le_of_ble_eq_true rfl) ?_
  obtain ⟨hn0, hn1, hn2, hn3, hn4⟩ := id hN
  intro p e s m_ below meth cd F ls hF hsz E0
  obtain ⟨S, hr, hlocks, hK, hW, hA, hl⟩ := E0
  have hX_ := S.1
  have hB_ := S.2.1
  have hts := S.2.2.2.2
  have hl : lv_has ls 1 [(0, .ref (d 0))] := hl
  have hiX9 : ∀ w ∈ u_ws RX9 TX9 39, w ∈ wsX9_untie := fun _ h => (List.mem_cons_of_mem _ (List.mem_append_right _ h))
  have w0 := hts (.fieldLink RX9 128 "IslandgridModel" "isTied" "Z") (List.mem_cons_of_mem _ (List.mem_append_left _ (List.mem_append_left _ (List.mem_of_getElem? (i := 0) rfl))))
  refine lv_aload_n hX_ hB_ dX9_untie_0 rfl (lv_at hl 0 rfl) ?_
  refine lv_aload_n hX_ hB_ dX9_untie_1 rfl (lv_at hl 0 rfl) ?_
  refine ze_get (ci := 9) (C := RX9) (T := TX9) (N := 39) (v := .int (A 38 0)) S hiX9 hK hW 0 rfl rfl 38 (by decide) rfl w0 dX9_untie_2 ?_
  refine lv_if_ne (tgt := 12) hX_ hB_ dX9_untie_5 (by decide) (fun c5 => ?_) (fun c5 => ?_)
  · refine lv_iconst (v := 0) hX_ hB_ dX9_untie_12 (by decide) ?_
    refine lv_iconst (v := 1) hX_ hB_ dX9_untie_13 (by decide) ?_
    refine ze_Vi (As := [.int 0, .int 1]) (rest := []) (ci := 9) (q0 := 0) (k := (RX9, TX9, 39)) S (zr_isThrown l D c d n A B mk th 0 1 0 rfl (if_pos rfl)) (cwV 2 hts gX9_untie_X9_isThrown rfl rfl rfl (by decide +kernel) ⟨Nat.le_of_ble_eq_true rfl, Nat.le_of_ble_eq_true rfl⟩) hK hW hA rfl rfl rfl hl.1 rfl (lv_room (Nat.le_of_ble_eq_true rfl)) dX9_untie_14 ⟨Nat.le_of_ble_eq_true rfl, Nat.le_of_ble_eq_true rfl⟩ (fun H locs hW => ?_)
    have hW : ze_W D (ze_wR c d n A B mk 0) F s.heap _ _ := hW
    refine lv_if_eq (tgt := 22) hX_ hB_ dX9_untie_17 (by decide) (fun c17 => ?_) (fun c17 => ?_)
    · refine lv_aload_n hX_ hB_ dX9_untie_22 rfl (lv_at hl 0 rfl) ?_
      refine lv_iconst (v := 0) hX_ hB_ dX9_untie_23 (by decide) ?_
      refine ze_put (ci := 9) (C := RX9) (T := TX9) (N := 39) (v := .int 0) S hiX9 tyX9 tyX9_ok nmX9 hK hW 0 rfl rfl 38 (by decide) (Nat.le_of_ble_eq_true rfl) rfl rfl rfl w0 dX9_untie_24 (ze_pR38 0 _ _ _ _ _ _ _) (fun H locs hW => ?_)
      have hW : ze_W D (ze_wR c d n (ze_sC A 38 0) B mk 0) F s.heap _ _ := hW
      refine lv_aload_n hX_ hB_ dX9_untie_27 rfl (lv_at hl 0 rfl) ?_
      refine ze_Vi (As := []) (rest := []) (ci := 9) (q0 := 0) (k := (RX9, TX9, 39)) S (zr_sizeOfFirst l D c d n (ze_sC A 38 0) B mk 0  hN hS hz) (cwV 0 hts gX9_untie_X9_sizeOfFirst rfl rfl rfl (by decide +kernel) ⟨Nat.le_of_ble_eq_true rfl, Nat.le_of_ble_eq_true rfl⟩) hK hW hA rfl rfl rfl hl.1 rfl (lv_room (Nat.le_of_ble_eq_true rfl)) dX9_untie_28 ⟨Nat.le_of_ble_eq_true rfl, Nat.le_of_ble_eq_true rfl⟩ (fun H locs hW => ?_)
      have hW : ze_W D (ze_wR c d n (ze_sC A 38 0) B (zf_CI n (ze_sC A 38 0)) 0) F s.heap _ _ := hW
      exact ze_iret S hr hlocks hF hK hW rfl dX9_untie_31 (Nat.le_of_ble_eq_true rfl) (Nat.le_of_ble_eq_true rfl) (by rw [show zf_CI n (ze_sC A 38 0) = zf_CI n A from zf_CIcong rfl rfl rfl]) (by rw [show zf_CI n (ze_sC A 38 0) = zf_CI n A from zf_CIcong rfl rfl rfl])
    · exact absurd c17 (by decide)
  · exact absurd c5 h2
set_option maxHeartbeats 4000000 in
set_option maxRecDepth 100000 in
theorem zr_island_t1 (l : Launch) (D : va_G) (c : Nat → ClassId) (d n : Nat → Nat) (A : Nat → Nat → Int32) (B : Nat → Int64) (mk : Nat → Int32) (th : Int32) (x : Int32) (hN : zf_N n) (hx : ¬ zf_isIn x 0 (nI (n 0) - 1)) : ze_I l yX9_island wsX9_island 2 43 0 0 D c (ze_wR c d n A B mk th) [.ref (d 0), .int x] 0 (ze_wR c d n A B mk 1) := by
  intro sz
  refine ze_start (cc := cX9_island) (maxL := 2) (ret := (some .int)) (own := RX9) (by decide) rfl rfl (Nat.le_of_ble_eq_true rfl) ?_
  obtain ⟨hn0, hn1, hn2, hn3, hn4⟩ := id hN
  intro p e s m_ below meth cd F ls hF hsz E0
  obtain ⟨S, hr, hlocks, hK, hW, hA, hl⟩ := E0
  have hX_ := S.1
  have hB_ := S.2.1
  have hts := S.2.2.2.2
  have hl : lv_has ls 2 [(0, .ref (d 0)), (1, .int x)] := hl
  refine lv_aload_n hX_ hB_ dX9_island_0 rfl (lv_at hl 0 rfl) ?_
  refine lv_iload_n hX_ hB_ dX9_island_1 rfl (lv_at hl 1 rfl) ?_
  refine ze_Vi (As := [.int x]) (rest := []) (ci := 9) (q0 := 0) (k := (RX9, TX9, 39)) S (zr_isNoSite l D c d n A B mk th x) (cwV 1 hts gX9_island_X9_isNoSite rfl rfl rfl (by decide +kernel) ⟨Nat.le_of_ble_eq_true rfl, Nat.le_of_ble_eq_true rfl⟩) hK hW hA rfl rfl rfl hl.1 rfl (lv_room (Nat.le_of_ble_eq_true rfl)) dX9_island_2 ⟨Nat.le_of_ble_eq_true rfl, Nat.le_of_ble_eq_true rfl⟩ (fun H locs hW => ?_)
  have hW : ze_W D (ze_wR c d n A B mk (if zf_isIn x 0 (nI (n 0) - 1) then 0 else 1)) F s.heap _ _ := hW
  refine lv_if_eq (tgt := 12) hX_ hB_ dX9_island_5 (by decide) (fun c5 => ?_) (fun c5 => ?_)
  · have c5 : ¬ (¬ zf_isIn x 0 (nI (n 0) - 1)) := ze_bf c5
    have c5 : zf_isIn x 0 (nI (n 0) - 1) := Decidable.of_not_not c5
    exact absurd c5 hx
  · have c5 : ¬ zf_isIn x 0 (nI (n 0) - 1) := ze_bt c5
    refine lv_iconst (v := 0) hX_ hB_ dX9_island_8 (by decide) ?_
    refine lv_goto (tgt := 17) hX_ hB_ dX9_island_9 (by decide) ?_
    exact ze_iret S hr hlocks hF hK hW rfl dX9_island_17 (Nat.le_of_ble_eq_true rfl) (Nat.le_of_ble_eq_true rfl) rfl (by simp only [ze_b, eq_false hx, eq_false c5, not_true_eq_false, not_false_eq_true, and_true, true_and, and_false, false_and, or_true, true_or, or_false, false_or, and_self, or_self, Decidable.not_not, if_true, if_false, reduceIte, reduceCtorEq, ne_eq, eq_self, Int32.lt_irrefl, Int32.le_refl, Nat.lt_irrefl])
set_option maxHeartbeats 4000000 in
set_option maxRecDepth 100000 in
theorem zr_island_f (l : Launch) (D : va_G) (c : Nat → ClassId) (d n : Nat → Nat) (A : Nat → Nat → Int32) (B : Nat → Int64) (mk : Nat → Int32) (th : Int32) (j : Nat) (hN : zf_N n) (hj : j < n 0) (hS : zf_S n A) (hz : ∀ s, n 0 ≤ s → mk s = 0) : ze_I l yX9_island wsX9_island 3 57 0 0 D c (ze_wR c d n A B mk th) [.ref (d 0), .int (nI j)] (zf_CI n A j) (ze_wR c d n A B (zf_CI n A) 0) := by
  intro sz
  refine ze_start (cc := cX9_island) (maxL := 2) (ret := (some .int)) (own := RX9) (by decide) rfl rfl (Nat.le_of_ble_eq_true rfl) ?_
  obtain ⟨hn0, hn1, hn2, hn3, hn4⟩ := id hN
  have hinj : zf_isIn (nI j) 0 (nI (n 0) - 1) := zf_isInN hj (by omega)
  intro p e s m_ below meth cd F ls hF hsz E0
  obtain ⟨S, hr, hlocks, hK, hW, hA, hl⟩ := E0
  have hX_ := S.1
  have hB_ := S.2.1
  have hts := S.2.2.2.2
  have hl : lv_has ls 2 [(0, .ref (d 0)), (1, .int (nI j))] := hl
  refine lv_aload_n hX_ hB_ dX9_island_0 rfl (lv_at hl 0 rfl) ?_
  refine lv_iload_n hX_ hB_ dX9_island_1 rfl (lv_at hl 1 rfl) ?_
  refine ze_Vi (As := [.int (nI j)]) (rest := []) (ci := 9) (q0 := 0) (k := (RX9, TX9, 39)) S (zr_isNoSite l D c d n A B mk th (nI j)) (cwV 1 hts gX9_island_X9_isNoSite rfl rfl rfl (by decide +kernel) ⟨Nat.le_of_ble_eq_true rfl, Nat.le_of_ble_eq_true rfl⟩) hK hW hA rfl rfl rfl hl.1 rfl (lv_room (Nat.le_of_ble_eq_true rfl)) dX9_island_2 ⟨Nat.le_of_ble_eq_true rfl, Nat.le_of_ble_eq_true rfl⟩ (fun H locs hW => ?_)
  have hW : ze_W D (ze_wR c d n A B mk (if zf_isIn (nI j) 0 (nI (n 0) - 1) then 0 else 1)) F s.heap _ _ := hW
  refine lv_if_eq (tgt := 12) hX_ hB_ dX9_island_5 (by decide) (fun c5 => ?_) (fun c5 => ?_)
  · have c5 : ¬ (¬ zf_isIn (nI j) 0 (nI (n 0) - 1)) := ze_bf c5
    have c5 : zf_isIn (nI j) 0 (nI (n 0) - 1) := Decidable.of_not_not c5
    refine lv_aload_n hX_ hB_ dX9_island_12 rfl (lv_at hl 0 rfl) ?_
    refine lv_iload_n hX_ hB_ dX9_island_13 rfl (lv_at hl 1 rfl) ?_
    refine ze_Vi (As := [.int (nI j)]) (rest := []) (ci := 9) (q0 := 0) (k := (RX9, TX9, 39)) S (zr_islandOf l D c d n A B mk (if zf_isIn (nI j) 0 (nI (n 0) - 1) then 0 else 1) (nI j) hN hS hz ⟨j, by omega, rfl⟩) (cwV 1 hts gX9_island_X9_islandOf rfl rfl rfl (by decide +kernel) ⟨Nat.le_of_ble_eq_true rfl, Nat.le_of_ble_eq_true rfl⟩) hK hW hA rfl rfl rfl hl.1 rfl (lv_room (Nat.le_of_ble_eq_true rfl)) dX9_island_14 ⟨Nat.le_of_ble_eq_true rfl, Nat.le_of_ble_eq_true rfl⟩ (fun H locs hW => ?_)
    have hW : ze_W D (ze_wR c d n A B (zf_CI n A) (if zf_isIn (nI j) 0 (nI (n 0) - 1) then 0 else 1)) F s.heap _ _ := hW
    refine ze_top (congrArg (zf_CI n A) (zf_ixN (j := j) (by omega))) ?_
    exact ze_iret S hr hlocks hF hK hW rfl dX9_island_17 (Nat.le_of_ble_eq_true rfl) (Nat.le_of_ble_eq_true rfl) rfl (by simp only [ze_b, eq_true hinj, eq_true c5, not_true_eq_false, not_false_eq_true, and_true, true_and, and_false, false_and, or_true, true_or, or_false, false_or, and_self, or_self, Decidable.not_not, if_true, if_false, reduceIte, reduceCtorEq, ne_eq, eq_self, Int32.lt_irrefl, Int32.le_refl, Nat.lt_irrefl])
  · have c5 : ¬ zf_isIn (nI j) 0 (nI (n 0) - 1) := ze_bt c5
    exact absurd hinj c5
set_option maxHeartbeats 4000000 in
set_option maxRecDepth 100000 in
theorem zr_islandByRounds_t1 (l : Launch) (D : va_G) (c : Nat → ClassId) (d n : Nat → Nat) (A : Nat → Nat → Int32) (B : Nat → Int64) (mk : Nat → Int32) (th : Int32) (x : Int32) (hN : zf_N n) (hx : ¬ zf_isIn x 0 (nI (n 0) - 1)) : ze_I l yX9_islandByRounds wsX9_islandByRounds 3 64 0 0 D c (ze_wR c d n A B mk th) [.ref (d 0), .int x] 0 (ze_wR c d n A B mk 1) := by
  intro sz
  refine ze_start (cc := cX9_islandByRounds) (maxL := 2) (ret := (some .int)) (own := RX9) (by decide) rfl rfl (Nat.le_of_ble_eq_true rfl) ?_
  obtain ⟨hn0, hn1, hn2, hn3, hn4⟩ := id hN
  intro p e s m_ below meth cd F ls hF hsz E0
  obtain ⟨S, hr, hlocks, hK, hW, hA, hl⟩ := E0
  have hX_ := S.1
  have hB_ := S.2.1
  have hts := S.2.2.2.2
  have hl : lv_has ls 2 [(0, .ref (d 0)), (1, .int x)] := hl
  refine lv_aload_n hX_ hB_ dX9_islandByRounds_0 rfl (lv_at hl 0 rfl) ?_
  refine lv_iload_n hX_ hB_ dX9_islandByRounds_1 rfl (lv_at hl 1 rfl) ?_
  refine ze_Vi (As := [.int x]) (rest := []) (ci := 9) (q0 := 0) (k := (RX9, TX9, 39)) S (zr_island_t1 l D c d n A B mk th x hN hx) (cwV 1 hts gX9_islandByRounds_X9_island rfl rfl rfl (by decide +kernel) ⟨Nat.le_of_ble_eq_true rfl, Nat.le_of_ble_eq_true rfl⟩) hK hW hA rfl rfl rfl hl.1 rfl (lv_room (Nat.le_of_ble_eq_true rfl)) dX9_islandByRounds_2 ⟨Nat.le_of_ble_eq_true rfl, Nat.le_of_ble_eq_true rfl⟩ (fun H locs hW => ?_)
  have hW : ze_W D (ze_wR c d n A B mk 1) F s.heap _ _ := hW
  exact ze_iret S hr hlocks hF hK hW rfl dX9_islandByRounds_5 (Nat.le_of_ble_eq_true rfl) (Nat.le_of_ble_eq_true rfl) rfl rfl
set_option maxHeartbeats 4000000 in
set_option maxRecDepth 100000 in
theorem zr_islandByRounds_f (l : Launch) (D : va_G) (c : Nat → ClassId) (d n : Nat → Nat) (A : Nat → Nat → Int32) (B : Nat → Int64) (mk : Nat → Int32) (th : Int32) (j : Nat) (hN : zf_N n) (hj : j < n 0) (hS : zf_S n A) (hz : ∀ s, n 0 ≤ s → mk s = 0) : ze_I l yX9_islandByRounds wsX9_islandByRounds 4 78 0 0 D c (ze_wR c d n A B mk th) [.ref (d 0), .int (nI j)] (zf_CI n A j) (ze_wR c d n A B (zf_CI n A) 0) := by
  intro sz
  refine ze_start (cc := cX9_islandByRounds) (maxL := 2) (ret := (some .int)) (own := RX9) (by decide) rfl rfl (Nat.le_of_ble_eq_true rfl) ?_
  obtain ⟨hn0, hn1, hn2, hn3, hn4⟩ := id hN
  have hinj : zf_isIn (nI j) 0 (nI (n 0) - 1) := zf_isInN hj (by omega)
  intro p e s m_ below meth cd F ls hF hsz E0
  obtain ⟨S, hr, hlocks, hK, hW, hA, hl⟩ := E0
  have hX_ := S.1
  have hB_ := S.2.1
  have hts := S.2.2.2.2
  have hl : lv_has ls 2 [(0, .ref (d 0)), (1, .int (nI j))] := hl
  refine lv_aload_n hX_ hB_ dX9_islandByRounds_0 rfl (lv_at hl 0 rfl) ?_
  refine lv_iload_n hX_ hB_ dX9_islandByRounds_1 rfl (lv_at hl 1 rfl) ?_
  refine ze_Vi (As := [.int (nI j)]) (rest := []) (ci := 9) (q0 := 0) (k := (RX9, TX9, 39)) S (zr_island_f l D c d n A B mk th j hN hj hS hz) (cwV 1 hts gX9_islandByRounds_X9_island rfl rfl rfl (by decide +kernel) ⟨Nat.le_of_ble_eq_true rfl, Nat.le_of_ble_eq_true rfl⟩) hK hW hA rfl rfl rfl hl.1 rfl (lv_room (Nat.le_of_ble_eq_true rfl)) dX9_islandByRounds_2 ⟨Nat.le_of_ble_eq_true rfl, Nat.le_of_ble_eq_true rfl⟩ (fun H locs hW => ?_)
  have hW : ze_W D (ze_wR c d n A B (zf_CI n A) 0) F s.heap _ _ := hW
  exact ze_iret S hr hlocks hF hK hW rfl dX9_islandByRounds_5 (Nat.le_of_ble_eq_true rfl) (Nat.le_of_ble_eq_true rfl) rfl rfl
set_option maxHeartbeats 4000000 in
set_option maxRecDepth 100000 in
theorem zr_islands_f (l : Launch) (D : va_G) (c : Nat → ClassId) (d n : Nat → Nat) (A : Nat → Nat → Int32) (B : Nat → Int64) (mk : Nat → Int32) (th : Int32) (hN : zf_N n) (hS : zf_S n A) (hz : ∀ s, n 0 ≤ s → mk s = 0) : ze_I l yX9_islands wsX9_islands 3 58 0 0 D c (ze_wR c d n A B mk th) [.ref (d 0)] (zf_many (zf_CI n A) (n 0)) (ze_wR c d n A B (zf_CI n A) 0) := by
  intro sz
  refine ze_start (cc := cX9_islands) (maxL := 1) (ret := (some .int)) (own := RX9) (by decide) rfl rfl (Nat.le_of_ble_eq_true rfl) ?_
  obtain ⟨hn0, hn1, hn2, hn3, hn4⟩ := id hN
  intro p e s m_ below meth cd F ls hF hsz E0
  obtain ⟨S, hr, hlocks, hK, hW, hA, hl⟩ := E0
  have hX_ := S.1
  have hB_ := S.2.1
  have hts := S.2.2.2.2
  have hl : lv_has ls 1 [(0, .ref (d 0))] := hl
  have hiX9 : ∀ w ∈ u_ws RX9 TX9 39, w ∈ wsX9_islands := fun _ h => (List.mem_cons_of_mem _ (List.mem_append_right _ h))
  have w0 := hts (.fieldLink RX9 85 "IslandgridModel" "thrown" "I") (List.mem_cons_of_mem _ (List.mem_append_left _ (List.mem_of_getElem? (i := 0) rfl)))
  refine lv_aload_n hX_ hB_ dX9_islands_0 rfl (lv_at hl 0 rfl) ?_
  refine lv_iconst (v := 0) hX_ hB_ dX9_islands_1 (by decide) ?_
  refine ze_put (ci := 9) (C := RX9) (T := TX9) (N := 39) (v := .int 0) S hiX9 tyX9 tyX9_ok nmX9 hK hW 0 rfl rfl 32 (by decide) (Nat.le_of_ble_eq_true rfl) rfl rfl rfl w0 dX9_islands_2 (ze_pR32 0 _ _ _ _ _ _ _) (fun H locs hW => ?_)
  have hW : ze_W D (ze_wR c d n A B mk 0) F s.heap _ _ := hW
  refine lv_aload_n hX_ hB_ dX9_islands_5 rfl (lv_at hl 0 rfl) ?_
  refine ze_Vi (As := []) (rest := []) (ci := 9) (q0 := 0) (k := (RX9, TX9, 39)) S (zr_many l D c d n A B mk 0  hN hS hz) (cwV 0 hts gX9_islands_X9_many rfl rfl rfl (by decide +kernel) ⟨Nat.le_of_ble_eq_true rfl, Nat.le_of_ble_eq_true rfl⟩) hK hW hA rfl rfl rfl hl.1 rfl (lv_room (Nat.le_of_ble_eq_true rfl)) dX9_islands_6 ⟨Nat.le_of_ble_eq_true rfl, Nat.le_of_ble_eq_true rfl⟩ (fun H locs hW => ?_)
  have hW : ze_W D (ze_wR c d n A B (zf_CI n A) 0) F s.heap _ _ := hW
  exact ze_iret S hr hlocks hF hK hW rfl dX9_islands_9 (Nat.le_of_ble_eq_true rfl) (Nat.le_of_ble_eq_true rfl) rfl rfl
set_option maxHeartbeats 4000000 in
set_option maxRecDepth 100000 in
theorem zr_phase_t1 (l : Launch) (D : va_G) (c : Nat → ClassId) (d n : Nat → Nat) (A : Nat → Nat → Int32) (B : Nat → Int64) (mk : Nat → Int32) (th : Int32) (x : Int32) (hN : zf_N n) (hx : ¬ zf_isIn x 0 (nI (n 0) - 1)) : ze_I l yX9_phase wsX9_phase 2 43 0 0 D c (ze_wR c d n A B mk th) [.ref (d 0), .int x] 0 (ze_wR c d n A B mk 1) := by
  intro sz
  refine ze_start (cc := cX9_phase) (maxL := 2) (ret := (some .int)) (own := RX9) (by decide) rfl rfl (Nat.le_of_ble_eq_true rfl) ?_
  obtain ⟨hn0, hn1, hn2, hn3, hn4⟩ := id hN
  intro p e s m_ below meth cd F ls hF hsz E0
  obtain ⟨S, hr, hlocks, hK, hW, hA, hl⟩ := E0
  have hX_ := S.1
  have hB_ := S.2.1
  have hts := S.2.2.2.2
  have hl : lv_has ls 2 [(0, .ref (d 0)), (1, .int x)] := hl
  refine lv_aload_n hX_ hB_ dX9_phase_0 rfl (lv_at hl 0 rfl) ?_
  refine lv_iload_n hX_ hB_ dX9_phase_1 rfl (lv_at hl 1 rfl) ?_
  refine ze_Vi (As := [.int x]) (rest := []) (ci := 9) (q0 := 0) (k := (RX9, TX9, 39)) S (zr_isNoSite l D c d n A B mk th x) (cwV 1 hts gX9_phase_X9_isNoSite rfl rfl rfl (by decide +kernel) ⟨Nat.le_of_ble_eq_true rfl, Nat.le_of_ble_eq_true rfl⟩) hK hW hA rfl rfl rfl hl.1 rfl (lv_room (Nat.le_of_ble_eq_true rfl)) dX9_phase_2 ⟨Nat.le_of_ble_eq_true rfl, Nat.le_of_ble_eq_true rfl⟩ (fun H locs hW => ?_)
  have hW : ze_W D (ze_wR c d n A B mk (if zf_isIn x 0 (nI (n 0) - 1) then 0 else 1)) F s.heap _ _ := hW
  refine lv_if_eq (tgt := 12) hX_ hB_ dX9_phase_5 (by decide) (fun c5 => ?_) (fun c5 => ?_)
  · have c5 : ¬ (¬ zf_isIn x 0 (nI (n 0) - 1)) := ze_bf c5
    have c5 : zf_isIn x 0 (nI (n 0) - 1) := Decidable.of_not_not c5
    exact absurd c5 hx
  · have c5 : ¬ zf_isIn x 0 (nI (n 0) - 1) := ze_bt c5
    refine lv_iconst (v := 0) hX_ hB_ dX9_phase_8 (by decide) ?_
    refine lv_goto (tgt := 17) hX_ hB_ dX9_phase_9 (by decide) ?_
    exact ze_iret S hr hlocks hF hK hW rfl dX9_phase_17 (Nat.le_of_ble_eq_true rfl) (Nat.le_of_ble_eq_true rfl) rfl (by simp only [ze_b, eq_false hx, eq_false c5, not_true_eq_false, not_false_eq_true, and_true, true_and, and_false, false_and, or_true, true_or, or_false, false_or, and_self, or_self, Decidable.not_not, if_true, if_false, reduceIte, reduceCtorEq, ne_eq, eq_self, Int32.lt_irrefl, Int32.le_refl, Nat.lt_irrefl])
set_option maxHeartbeats 4000000 in
set_option maxRecDepth 100000 in
theorem zr_phase_f (l : Launch) (D : va_G) (c : Nat → ClassId) (d n : Nat → Nat) (A : Nat → Nat → Int32) (B : Nat → Int64) (mk : Nat → Int32) (th : Int32) (j : Nat) (hN : zf_N n) (hj : j < n 0) (hS : zf_S n A) (hz : ∀ s, n 0 ≤ s → mk s = 0) : ze_I l yX9_phase wsX9_phase 4 79 0 0 D c (ze_wR c d n A B mk th) [.ref (d 0), .int (nI j)] (zf_ph A (zf_CI n A) j) (ze_wR c d n A B (zf_CI n A) 0) := by
  intro sz
  refine ze_start (cc := cX9_phase) (maxL := 2) (ret := (some .int)) (own := RX9) (by decide) rfl rfl (Nat.le_of_ble_eq_true rfl) ?_
  obtain ⟨hn0, hn1, hn2, hn3, hn4⟩ := id hN
  have hinj : zf_isIn (nI j) 0 (nI (n 0) - 1) := zf_isInN hj (by omega)
  intro p e s m_ below meth cd F ls hF hsz E0
  obtain ⟨S, hr, hlocks, hK, hW, hA, hl⟩ := E0
  have hX_ := S.1
  have hB_ := S.2.1
  have hts := S.2.2.2.2
  have hl : lv_has ls 2 [(0, .ref (d 0)), (1, .int (nI j))] := hl
  refine lv_aload_n hX_ hB_ dX9_phase_0 rfl (lv_at hl 0 rfl) ?_
  refine lv_iload_n hX_ hB_ dX9_phase_1 rfl (lv_at hl 1 rfl) ?_
  refine ze_Vi (As := [.int (nI j)]) (rest := []) (ci := 9) (q0 := 0) (k := (RX9, TX9, 39)) S (zr_isNoSite l D c d n A B mk th (nI j)) (cwV 1 hts gX9_phase_X9_isNoSite rfl rfl rfl (by decide +kernel) ⟨Nat.le_of_ble_eq_true rfl, Nat.le_of_ble_eq_true rfl⟩) hK hW hA rfl rfl rfl hl.1 rfl (lv_room (Nat.le_of_ble_eq_true rfl)) dX9_phase_2 ⟨Nat.le_of_ble_eq_true rfl, Nat.le_of_ble_eq_true rfl⟩ (fun H locs hW => ?_)
  have hW : ze_W D (ze_wR c d n A B mk (if zf_isIn (nI j) 0 (nI (n 0) - 1) then 0 else 1)) F s.heap _ _ := hW
  refine lv_if_eq (tgt := 12) hX_ hB_ dX9_phase_5 (by decide) (fun c5 => ?_) (fun c5 => ?_)
  · have c5 : ¬ (¬ zf_isIn (nI j) 0 (nI (n 0) - 1)) := ze_bf c5
    have c5 : zf_isIn (nI j) 0 (nI (n 0) - 1) := Decidable.of_not_not c5
    refine lv_aload_n hX_ hB_ dX9_phase_12 rfl (lv_at hl 0 rfl) ?_
    refine lv_iload_n hX_ hB_ dX9_phase_13 rfl (lv_at hl 1 rfl) ?_
    refine ze_Vi (As := [.int (nI j)]) (rest := []) (ci := 9) (q0 := 0) (k := (RX9, TX9, 39)) S (zr_phaseOf l D c d n A B mk (if zf_isIn (nI j) 0 (nI (n 0) - 1) then 0 else 1) (nI j) hN hS hz ⟨j, by omega, rfl⟩) (cwV 1 hts gX9_phase_X9_phaseOf rfl rfl rfl (by decide +kernel) ⟨Nat.le_of_ble_eq_true rfl, Nat.le_of_ble_eq_true rfl⟩) hK hW hA rfl rfl rfl hl.1 rfl (lv_room (Nat.le_of_ble_eq_true rfl)) dX9_phase_14 ⟨Nat.le_of_ble_eq_true rfl, Nat.le_of_ble_eq_true rfl⟩ (fun H locs hW => ?_)
    have hW : ze_W D (ze_wR c d n A B (zf_CI n A) (if zf_isIn (nI j) 0 (nI (n 0) - 1) then 0 else 1)) F s.heap _ _ := hW
    refine ze_top (congrArg (zf_ph A (zf_CI n A)) (zf_ixN (j := j) (by omega))) ?_
    exact ze_iret S hr hlocks hF hK hW rfl dX9_phase_17 (Nat.le_of_ble_eq_true rfl) (Nat.le_of_ble_eq_true rfl) rfl (by simp only [ze_b, eq_true hinj, eq_true c5, not_true_eq_false, not_false_eq_true, and_true, true_and, and_false, false_and, or_true, true_or, or_false, false_or, and_self, or_self, Decidable.not_not, if_true, if_false, reduceIte, reduceCtorEq, ne_eq, eq_self, Int32.lt_irrefl, Int32.le_refl, Nat.lt_irrefl])
  · have c5 : ¬ zf_isIn (nI j) 0 (nI (n 0) - 1) := ze_bt c5
    exact absurd hinj c5
set_option maxHeartbeats 4000000 in
set_option maxRecDepth 100000 in
theorem zr_gap_t1 (l : Launch) (D : va_G) (c : Nat → ClassId) (d n : Nat → Nat) (A : Nat → Nat → Int32) (B : Nat → Int64) (mk : Nat → Int32) (th : Int32) (x : Int32) (hN : zf_N n) (hx : ¬ zf_isIn x 0 (nI (n 1) - 1)) : ze_I l yX9_gap wsX9_gap 2 43 0 0 D c (ze_wR c d n A B mk th) [.ref (d 0), .int x] 0 (ze_wR c d n A B mk 1) := by
  intro sz
  refine ze_start (cc := cX9_gap) (maxL := 2) (ret := (some .int)) (own := RX9) (by decide) rfl rfl (Nat.le_of_ble_eq_true rfl) ?_
  obtain ⟨hn0, hn1, hn2, hn3, hn4⟩ := id hN
  intro p e s m_ below meth cd F ls hF hsz E0
  obtain ⟨S, hr, hlocks, hK, hW, hA, hl⟩ := E0
  have hX_ := S.1
  have hB_ := S.2.1
  have hts := S.2.2.2.2
  have hl : lv_has ls 2 [(0, .ref (d 0)), (1, .int x)] := hl
  refine lv_aload_n hX_ hB_ dX9_gap_0 rfl (lv_at hl 0 rfl) ?_
  refine lv_iload_n hX_ hB_ dX9_gap_1 rfl (lv_at hl 1 rfl) ?_
  refine ze_Vi (As := [.int x]) (rest := []) (ci := 9) (q0 := 0) (k := (RX9, TX9, 39)) S (zr_isNoLine l D c d n A B mk th x) (cwV 1 hts gX9_gap_X9_isNoLine rfl rfl rfl (by decide +kernel) ⟨Nat.le_of_ble_eq_true rfl, Nat.le_of_ble_eq_true rfl⟩) hK hW hA rfl rfl rfl hl.1 rfl (lv_room (Nat.le_of_ble_eq_true rfl)) dX9_gap_2 ⟨Nat.le_of_ble_eq_true rfl, Nat.le_of_ble_eq_true rfl⟩ (fun H locs hW => ?_)
  have hW : ze_W D (ze_wR c d n A B mk (if zf_isIn x 0 (nI (n 1) - 1) then 0 else 1)) F s.heap _ _ := hW
  refine lv_if_eq (tgt := 12) hX_ hB_ dX9_gap_5 (by decide) (fun c5 => ?_) (fun c5 => ?_)
  · have c5 : ¬ (¬ zf_isIn x 0 (nI (n 1) - 1)) := ze_bf c5
    have c5 : zf_isIn x 0 (nI (n 1) - 1) := Decidable.of_not_not c5
    exact absurd c5 hx
  · have c5 : ¬ zf_isIn x 0 (nI (n 1) - 1) := ze_bt c5
    refine lv_iconst (v := 0) hX_ hB_ dX9_gap_8 (by decide) ?_
    refine lv_goto (tgt := 17) hX_ hB_ dX9_gap_9 (by decide) ?_
    exact ze_iret S hr hlocks hF hK hW rfl dX9_gap_17 (Nat.le_of_ble_eq_true rfl) (Nat.le_of_ble_eq_true rfl) rfl (by simp only [ze_b, eq_false hx, eq_false c5, not_true_eq_false, not_false_eq_true, and_true, true_and, and_false, false_and, or_true, true_or, or_false, false_or, and_self, or_self, Decidable.not_not, if_true, if_false, reduceIte, reduceCtorEq, ne_eq, eq_self, Int32.lt_irrefl, Int32.le_refl, Nat.lt_irrefl])
set_option maxHeartbeats 4000000 in
set_option maxRecDepth 100000 in
theorem zr_gap_f (l : Launch) (D : va_G) (c : Nat → ClassId) (d n : Nat → Nat) (A : Nat → Nat → Int32) (B : Nat → Int64) (mk : Nat → Int32) (th : Int32) (j : Nat) (hN : zf_N n) (hj : j < n 1) (hS : zf_S n A) (hz : ∀ s, n 0 ≤ s → mk s = 0) : ze_I l yX9_gap wsX9_gap 5 101 0 0 D c (ze_wR c d n A B mk th) [.ref (d 0), .int (nI j)] (zf_gap A (zf_CI n A) j) (ze_wR c d n A B (zf_CI n A) 0) := by
  intro sz
  refine ze_start (cc := cX9_gap) (maxL := 2) (ret := (some .int)) (own := RX9) (by decide) rfl rfl (Nat.le_of_ble_eq_true rfl) ?_
  obtain ⟨hn0, hn1, hn2, hn3, hn4⟩ := id hN
  have hinj : zf_isIn (nI j) 0 (nI (n 1) - 1) := zf_isInN hj (by omega)
  intro p e s m_ below meth cd F ls hF hsz E0
  obtain ⟨S, hr, hlocks, hK, hW, hA, hl⟩ := E0
  have hX_ := S.1
  have hB_ := S.2.1
  have hts := S.2.2.2.2
  have hl : lv_has ls 2 [(0, .ref (d 0)), (1, .int (nI j))] := hl
  refine lv_aload_n hX_ hB_ dX9_gap_0 rfl (lv_at hl 0 rfl) ?_
  refine lv_iload_n hX_ hB_ dX9_gap_1 rfl (lv_at hl 1 rfl) ?_
  refine ze_Vi (As := [.int (nI j)]) (rest := []) (ci := 9) (q0 := 0) (k := (RX9, TX9, 39)) S (zr_isNoLine l D c d n A B mk th (nI j)) (cwV 1 hts gX9_gap_X9_isNoLine rfl rfl rfl (by decide +kernel) ⟨Nat.le_of_ble_eq_true rfl, Nat.le_of_ble_eq_true rfl⟩) hK hW hA rfl rfl rfl hl.1 rfl (lv_room (Nat.le_of_ble_eq_true rfl)) dX9_gap_2 ⟨Nat.le_of_ble_eq_true rfl, Nat.le_of_ble_eq_true rfl⟩ (fun H locs hW => ?_)
  have hW : ze_W D (ze_wR c d n A B mk (if zf_isIn (nI j) 0 (nI (n 1) - 1) then 0 else 1)) F s.heap _ _ := hW
  refine lv_if_eq (tgt := 12) hX_ hB_ dX9_gap_5 (by decide) (fun c5 => ?_) (fun c5 => ?_)
  · have c5 : ¬ (¬ zf_isIn (nI j) 0 (nI (n 1) - 1)) := ze_bf c5
    have c5 : zf_isIn (nI j) 0 (nI (n 1) - 1) := Decidable.of_not_not c5
    refine lv_aload_n hX_ hB_ dX9_gap_12 rfl (lv_at hl 0 rfl) ?_
    refine lv_iload_n hX_ hB_ dX9_gap_13 rfl (lv_at hl 1 rfl) ?_
    refine ze_Vi (As := [.int (nI j)]) (rest := []) (ci := 9) (q0 := 0) (k := (RX9, TX9, 39)) S (zr_gapOf l D c d n A B mk (if zf_isIn (nI j) 0 (nI (n 1) - 1) then 0 else 1) j hN hS hz (by omega)) (cwV 1 hts gX9_gap_X9_gapOf rfl rfl rfl (by decide +kernel) ⟨Nat.le_of_ble_eq_true rfl, Nat.le_of_ble_eq_true rfl⟩) hK hW hA rfl rfl rfl hl.1 rfl (lv_room (Nat.le_of_ble_eq_true rfl)) dX9_gap_14 ⟨Nat.le_of_ble_eq_true rfl, Nat.le_of_ble_eq_true rfl⟩ (fun H locs hW => ?_)
    have hW : ze_W D (ze_wR c d n A B (zf_CI n A) (if zf_isIn (nI j) 0 (nI (n 1) - 1) then 0 else 1)) F s.heap _ _ := hW
    exact ze_iret S hr hlocks hF hK hW rfl dX9_gap_17 (Nat.le_of_ble_eq_true rfl) (Nat.le_of_ble_eq_true rfl) rfl (by simp only [ze_b, eq_true hinj, eq_true c5, not_true_eq_false, not_false_eq_true, and_true, true_and, and_false, false_and, or_true, true_or, or_false, false_or, and_self, or_self, Decidable.not_not, if_true, if_false, reduceIte, reduceCtorEq, ne_eq, eq_self, Int32.lt_irrefl, Int32.le_refl, Nat.lt_irrefl])
  · have c5 : ¬ zf_isIn (nI j) 0 (nI (n 1) - 1) := ze_bt c5
    exact absurd hinj c5
