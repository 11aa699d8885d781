set_option maxHeartbeats 4000000 in
set_option maxRecDepth 100000 in
theorem zr_share_t1a (l : Launch) (D : va_G) (c : Nat → ClassId) (d n : Nat → Nat) (A : Nat → Nat → Int32) (B : Nat → Int64) (mk : Nat → Int32) (th : Int32) (x y z : Int32) (hN : zf_N n) (hx : ¬ zf_isIn x 0 (nI (n 0) - 1)) : ze_I l yX9_share wsX9_share 1 22 1 6 D c (ze_wR c d n A B mk th) [.ref (d 0), .int x, .int y, .int z] 0 (ze_wR c d n A B mk 1) := by
  intro sz
  refine ze_start (cc := cX9_share) (maxL := 8) (ret := (some .int)) (own := RX9) (by decide) rfl rfl (Nat.le_of_ble_eq_true rfl) ?_
  obtain ⟨hn0, hn1, hn2, hn3, hn4⟩ := id hN
  intro p e s m_ below meth cd F ls hF hsz E0
  obtain ⟨S, hr, hlocks, hK, hW, hA, hl⟩ := E0
  have hX_ := S.1
  have hB_ := S.2.1
  have hts := S.2.2.2.2
  have hl : lv_has ls 8 [(0, .ref (d 0)), (1, .int x), (2, .int y), (3, .int z)] := hl
  have hiX9 : ∀ w ∈ u_ws RX9 TX9 39, w ∈ wsX9_share := fun _ h => (List.mem_cons_of_mem _ (List.mem_append_right _ h))
  have w0 := hts (.fieldLink RX9 88 "IslandgridModel" "sites" "I") (List.mem_cons_of_mem _ (List.mem_append_left _ (List.mem_append_left _ (List.mem_of_getElem? (i := 0) rfl))))
  refine lv_aload_n hX_ hB_ dX9_share_0 rfl (lv_at hl 0 rfl) ?_
  refine lv_iload_n hX_ hB_ dX9_share_1 rfl (lv_at hl 1 rfl) ?_
  refine lv_iconst (v := 0) hX_ hB_ dX9_share_2 (by decide) ?_
  refine lv_aload_n hX_ hB_ dX9_share_3 rfl (lv_at hl 0 rfl) ?_
  refine ze_get (ci := 9) (C := RX9) (T := TX9) (N := 39) (v := .int (nI (n 0))) S hiX9 hK hW 0 rfl rfl 23 (by decide) rfl w0 dX9_share_4 ?_
  refine lv_iconst (v := 1) hX_ hB_ dX9_share_7 (by decide) ?_
  refine lv_isub hX_ hB_ dX9_share_8 ?_
  refine ze_Si (As := [.int x, .int 0, .int (nI (n 0) - 1)]) (rest := [.ref (d 0)]) S (zr_isIn l D c (ze_wR c d n A B mk th) x 0 (nI (n 0) - 1)) (va_cwS 3 hts gX9_share_X9_isIn rfl rfl rfl (by decide +kernel) ⟨Nat.le_of_ble_eq_true rfl, Nat.le_of_ble_eq_true rfl⟩) hK hW hA rfl hl.1 rfl (lv_room (Nat.le_of_ble_eq_true rfl)) dX9_share_9 ⟨Nat.le_of_ble_eq_true rfl, Nat.le_of_ble_eq_true rfl⟩ (fun H locs hW => ?_)
  refine lv_if_eq (tgt := 29) hX_ hB_ dX9_share_12 (by decide) (fun c12 => ?_) (fun c12 => ?_)
  · have c12 : ¬ (zf_isIn x 0 (nI (n 0) - 1)) := ze_bf c12
    refine lv_iconst (v := 1) hX_ hB_ dX9_share_29 (by decide) ?_
    refine lv_goto (tgt := 34) hX_ hB_ dX9_share_30 (by decide) ?_
    refine lv_iconst (v := 1) hX_ hB_ dX9_share_34 (by decide) ?_
    refine ze_Vi (As := [.int 1, .int 1]) (rest := []) (ci := 9) (q0 := 0) (k := (RX9, TX9, 39)) S (zr_isThrown l D c d n A B mk th 1 1 1 rfl (if_neg (by decide))) (cwV 2 hts gX9_share_X9_isThrown rfl rfl rfl (by decide +kernel) ⟨Nat.le_of_ble_eq_true rfl, Nat.le_of_ble_eq_true rfl⟩) hK hW hA rfl rfl rfl hl.1 rfl (lv_room (Nat.le_of_ble_eq_true rfl)) dX9_share_35 ⟨Nat.le_of_ble_eq_true rfl, Nat.le_of_ble_eq_true rfl⟩ (fun H locs hW => ?_)
    have hW : ze_W D (ze_wR c d n A B mk 1) F s.heap _ _ := hW
    refine lv_if_ne (tgt := 65) hX_ hB_ dX9_share_38 (by decide) (fun c38 => ?_) (fun c38 => ?_)
    · refine lv_iconst (v := 0) hX_ hB_ dX9_share_65 (by decide) ?_
      exact ze_iret S hr hlocks hF hK hW rfl dX9_share_66 (Nat.le_of_ble_eq_true rfl) (Nat.le_of_ble_eq_true rfl) rfl rfl
    · exact absurd c38 (by decide)
  · have c12 : zf_isIn x 0 (nI (n 0) - 1) := ze_bt c12
    exact absurd c12 hx
set_option maxHeartbeats 4000000 in
set_option maxRecDepth 100000 in
theorem zr_share_t1b (l : Launch) (D : va_G) (c : Nat → ClassId) (d n : Nat → Nat) (A : Nat → Nat → Int32) (B : Nat → Int64) (mk : Nat → Int32) (th : Int32) (j : Nat) (hN : zf_N n) (hj : j < n 0) (y : Int32) (z : Int32) (hzo : ¬ zf_isIn z 0 (nI (n 2) - 1)) : ze_I l yX9_share wsX9_share 1 22 1 6 D c (ze_wR c d n A B mk th) [.ref (d 0), .int (nI j), .int y, .int z] 0 (ze_wR c d n A B mk 1) := by
  intro sz
  refine ze_start (cc := cX9_share) (maxL := 8) (ret := (some .int)) (own := RX9) (by decide) rfl rfl (Nat.le_of_ble_eq_true rfl) ?_
  obtain ⟨hn0, hn1, hn2, hn3, hn4⟩ := id hN
  have hinj : zf_isIn (nI j) 0 (nI (n 0) - 1) := zf_isInN hj (by omega)
  intro p e s m_ below meth cd F ls hF hsz E0
  obtain ⟨S, hr, hlocks, hK, hW, hA, hl⟩ := E0
  have hX_ := S.1
  have hB_ := S.2.1
  have hts := S.2.2.2.2
  have hl : lv_has ls 8 [(0, .ref (d 0)), (1, .int (nI j)), (2, .int y), (3, .int z)] := hl
  have hiX9 : ∀ w ∈ u_ws RX9 TX9 39, w ∈ wsX9_share := fun _ h => (List.mem_cons_of_mem _ (List.mem_append_right _ h))
  have w0 := hts (.fieldLink RX9 88 "IslandgridModel" "sites" "I") (List.mem_cons_of_mem _ (List.mem_append_left _ (List.mem_append_left _ (List.mem_of_getElem? (i := 0) rfl))))
  have w1 := hts (.fieldLink RX9 102 "IslandgridModel" "generators" "I") (List.mem_cons_of_mem _ (List.mem_append_left _ (List.mem_append_left _ (List.mem_of_getElem? (i := 1) rfl))))
  refine lv_aload_n hX_ hB_ dX9_share_0 rfl (lv_at hl 0 rfl) ?_
  refine lv_iload_n hX_ hB_ dX9_share_1 rfl (lv_at hl 1 rfl) ?_
  refine lv_iconst (v := 0) hX_ hB_ dX9_share_2 (by decide) ?_
  refine lv_aload_n hX_ hB_ dX9_share_3 rfl (lv_at hl 0 rfl) ?_
  refine ze_get (ci := 9) (C := RX9) (T := TX9) (N := 39) (v := .int (nI (n 0))) S hiX9 hK hW 0 rfl rfl 23 (by decide) rfl w0 dX9_share_4 ?_
  refine lv_iconst (v := 1) hX_ hB_ dX9_share_7 (by decide) ?_
  refine lv_isub hX_ hB_ dX9_share_8 ?_
  refine ze_Si (As := [.int (nI j), .int 0, .int (nI (n 0) - 1)]) (rest := [.ref (d 0)]) S (zr_isIn l D c (ze_wR c d n A B mk th) (nI j) 0 (nI (n 0) - 1)) (va_cwS 3 hts gX9_share_X9_isIn rfl rfl rfl (by decide +kernel) ⟨Nat.le_of_ble_eq_true rfl, Nat.le_of_ble_eq_true rfl⟩) hK hW hA rfl hl.1 rfl (lv_room (Nat.le_of_ble_eq_true rfl)) dX9_share_9 ⟨Nat.le_of_ble_eq_true rfl, Nat.le_of_ble_eq_true rfl⟩ (fun H locs hW => ?_)
  refine lv_if_eq (tgt := 29) hX_ hB_ dX9_share_12 (by decide) (fun c12 => ?_) (fun c12 => ?_)
  · have c12 : ¬ (zf_isIn (nI j) 0 (nI (n 0) - 1)) := ze_bf c12
    exact absurd hinj c12
  · have c12 : zf_isIn (nI j) 0 (nI (n 0) - 1) := ze_bt c12
    refine lv_iload_n hX_ hB_ dX9_share_15 rfl (lv_at hl 3 rfl) ?_
    refine lv_iconst (v := 0) hX_ hB_ dX9_share_16 (by decide) ?_
    refine lv_aload_n hX_ hB_ dX9_share_17 rfl (lv_at hl 0 rfl) ?_
    refine ze_get (ci := 9) (C := RX9) (T := TX9) (N := 39) (v := .int (nI (n 2))) S hiX9 hK hW 0 rfl rfl 25 (by decide) rfl w1 dX9_share_18 ?_
    refine lv_iconst (v := 1) hX_ hB_ dX9_share_21 (by decide) ?_
    refine lv_isub hX_ hB_ dX9_share_22 ?_
    refine ze_Si (As := [.int z, .int 0, .int (nI (n 2) - 1)]) (rest := [.ref (d 0)]) S (zr_isIn l D c (ze_wR c d n A B mk th) z 0 (nI (n 2) - 1)) (va_cwS 3 hts gX9_share_X9_isIn rfl rfl rfl (by decide +kernel) ⟨Nat.le_of_ble_eq_true rfl, Nat.le_of_ble_eq_true rfl⟩) hK hW hA rfl hl.1 rfl (lv_room (Nat.le_of_ble_eq_true rfl)) dX9_share_23 ⟨Nat.le_of_ble_eq_true rfl, Nat.le_of_ble_eq_true rfl⟩ (fun H locs hW => ?_)
    refine lv_if_ne (tgt := 33) hX_ hB_ dX9_share_26 (by decide) (fun c26 => ?_) (fun c26 => ?_)
    · have c26 : zf_isIn z 0 (nI (n 2) - 1) := ze_bt c26
      exact absurd c26 hzo
    · have c26 : ¬ (zf_isIn z 0 (nI (n 2) - 1)) := ze_bf c26
      refine lv_iconst (v := 1) hX_ hB_ dX9_share_29 (by decide) ?_
      refine lv_goto (tgt := 34) hX_ hB_ dX9_share_30 (by decide) ?_
      refine lv_iconst (v := 1) hX_ hB_ dX9_share_34 (by decide) ?_
      refine ze_Vi (As := [.int 1, .int 1]) (rest := []) (ci := 9) (q0 := 0) (k := (RX9, TX9, 39)) S (zr_isThrown l D c d n A B mk th 1 1 1 rfl (if_neg (by decide))) (cwV 2 hts gX9_share_X9_isThrown rfl rfl rfl (by decide +kernel) ⟨Nat.le_of_ble_eq_true rfl, Nat.le_of_ble_eq_true rfl⟩) hK hW hA rfl rfl rfl hl.1 rfl (lv_room (Nat.le_of_ble_eq_true rfl)) dX9_share_35 ⟨Nat.le_of_ble_eq_true rfl, Nat.le_of_ble_eq_true rfl⟩ (fun H locs hW => ?_)
      have hW : ze_W D (ze_wR c d n A B mk 1) F s.heap _ _ := hW
      refine lv_if_ne (tgt := 65) hX_ hB_ dX9_share_38 (by decide) (fun c38 => ?_) (fun c38 => ?_)
      · refine lv_iconst (v := 0) hX_ hB_ dX9_share_65 (by decide) ?_
        exact ze_iret S hr hlocks hF hK hW rfl dX9_share_66 (Nat.le_of_ble_eq_true rfl) (Nat.le_of_ble_eq_true rfl) rfl rfl
      · exact absurd c38 (by decide)
set_option maxHeartbeats 4000000 in
set_option maxRecDepth 100000 in
theorem zr_share_t2 (l : Launch) (D : va_G) (c : Nat → ClassId) (d n : Nat → Nat) (A : Nat → Nat → Int32) (B : Nat → Int64) (mk : Nat → Int32) (th : Int32) (j : Nat) (hN : zf_N n) (hj : j < n 0) (y : Int32) (k : Nat) (hk : k < n 2) (h1 : ¬ zf_isIn y 0 1200) : ze_I l yX9_share wsX9_share 1 22 1 6 D c (ze_wR c d n A B mk th) [.ref (d 0), .int (nI j), .int y, .int (nI k)] 0 (ze_wR c d n A B mk 2) := by
  intro sz
  refine ze_start (cc := cX9_share) (maxL := 8) (ret := (some .int)) (own := RX9) (by decide) rfl rfl (Nat.le_of_ble_eq_true rfl) ?_
  obtain ⟨hn0, hn1, hn2, hn3, hn4⟩ := id hN
  have hinj : zf_isIn (nI j) 0 (nI (n 0) - 1) := zf_isInN hj (by omega)
  have hzk : zf_isIn (nI k) 0 (nI (n 2) - 1) := zf_isInN hk (by omega)
  intro p e s m_ below meth cd F ls hF hsz E0
  obtain ⟨S, hr, hlocks, hK, hW, hA, hl⟩ := E0
  have hX_ := S.1
  have hB_ := S.2.1
  have hts := S.2.2.2.2
  have hl : lv_has ls 8 [(0, .ref (d 0)), (1, .int (nI j)), (2, .int y), (3, .int (nI k))] := hl
  have hiX9 : ∀ w ∈ u_ws RX9 TX9 39, w ∈ wsX9_share := fun _ h => (List.mem_cons_of_mem _ (List.mem_append_right _ h))
  have w0 := hts (.fieldLink RX9 88 "IslandgridModel" "sites" "I") (List.mem_cons_of_mem _ (List.mem_append_left _ (List.mem_append_left _ (List.mem_of_getElem? (i := 0) rfl))))
  have w1 := hts (.fieldLink RX9 102 "IslandgridModel" "generators" "I") (List.mem_cons_of_mem _ (List.mem_append_left _ (List.mem_append_left _ (List.mem_of_getElem? (i := 1) rfl))))
  refine lv_aload_n hX_ hB_ dX9_share_0 rfl (lv_at hl 0 rfl) ?_
  refine lv_iload_n hX_ hB_ dX9_share_1 rfl (lv_at hl 1 rfl) ?_
  refine lv_iconst (v := 0) hX_ hB_ dX9_share_2 (by decide) ?_
  refine lv_aload_n hX_ hB_ dX9_share_3 rfl (lv_at hl 0 rfl) ?_
  refine ze_get (ci := 9) (C := RX9) (T := TX9) (N := 39) (v := .int (nI (n 0))) S hiX9 hK hW 0 rfl rfl 23 (by decide) rfl w0 dX9_share_4 ?_
  refine lv_iconst (v := 1) hX_ hB_ dX9_share_7 (by decide) ?_
  refine lv_isub hX_ hB_ dX9_share_8 ?_
  refine ze_Si (As := [.int (nI j), .int 0, .int (nI (n 0) - 1)]) (rest := [.ref (d 0)]) S (zr_isIn l D c (ze_wR c d n A B mk th) (nI j) 0 (nI (n 0) - 1)) (va_cwS 3 hts gX9_share_X9_isIn rfl rfl rfl (by decide +kernel) ⟨Nat.le_of_ble_eq_true rfl, Nat.le_of_ble_eq_true rfl⟩) hK hW hA rfl hl.1 rfl (lv_room (Nat.le_of_ble_eq_true rfl)) dX9_share_9 ⟨Nat.le_of_ble_eq_true rfl, Nat.le_of_ble_eq_true rfl⟩ (fun H locs hW => ?_)
  refine lv_if_eq (tgt := 29) hX_ hB_ dX9_share_12 (by decide) (fun c12 => ?_) (fun c12 => ?_)
  · have c12 : ¬ (zf_isIn (nI j) 0 (nI (n 0) - 1)) := ze_bf c12
    exact absurd hinj c12
  · have c12 : zf_isIn (nI j) 0 (nI (n 0) - 1) := ze_bt c12
    refine lv_iload_n hX_ hB_ dX9_share_15 rfl (lv_at hl 3 rfl) ?_
    refine lv_iconst (v := 0) hX_ hB_ dX9_share_16 (by decide) ?_
    refine lv_aload_n hX_ hB_ dX9_share_17 rfl (lv_at hl 0 rfl) ?_
    refine ze_get (ci := 9) (C := RX9) (T := TX9) (N := 39) (v := .int (nI (n 2))) S hiX9 hK hW 0 rfl rfl 25 (by decide) rfl w1 dX9_share_18 ?_
    refine lv_iconst (v := 1) hX_ hB_ dX9_share_21 (by decide) ?_
    refine lv_isub hX_ hB_ dX9_share_22 ?_
    refine ze_Si (As := [.int (nI k), .int 0, .int (nI (n 2) - 1)]) (rest := [.ref (d 0)]) S (zr_isIn l D c (ze_wR c d n A B mk th) (nI k) 0 (nI (n 2) - 1)) (va_cwS 3 hts gX9_share_X9_isIn rfl rfl rfl (by decide +kernel) ⟨Nat.le_of_ble_eq_true rfl, Nat.le_of_ble_eq_true rfl⟩) hK hW hA rfl hl.1 rfl (lv_room (Nat.le_of_ble_eq_true rfl)) dX9_share_23 ⟨Nat.le_of_ble_eq_true rfl, Nat.le_of_ble_eq_true rfl⟩ (fun H locs hW => ?_)
    refine lv_if_ne (tgt := 33) hX_ hB_ dX9_share_26 (by decide) (fun c26 => ?_) (fun c26 => ?_)
    · have c26 : zf_isIn (nI k) 0 (nI (n 2) - 1) := ze_bt c26
      refine lv_iconst (v := 0) hX_ hB_ dX9_share_33 (by decide) ?_
      refine lv_iconst (v := 1) hX_ hB_ dX9_share_34 (by decide) ?_
      refine ze_Vi (As := [.int 0, .int 1]) (rest := []) (ci := 9) (q0 := 0) (k := (RX9, TX9, 39)) S (zr_isThrown l D c d n A B mk th 0 1 0 rfl (if_pos rfl)) (cwV 2 hts gX9_share_X9_isThrown rfl rfl rfl (by decide +kernel) ⟨Nat.le_of_ble_eq_true rfl, Nat.le_of_ble_eq_true rfl⟩) hK hW hA rfl rfl rfl hl.1 rfl (lv_room (Nat.le_of_ble_eq_true rfl)) dX9_share_35 ⟨Nat.le_of_ble_eq_true rfl, Nat.le_of_ble_eq_true rfl⟩ (fun H locs hW => ?_)
      have hW : ze_W D (ze_wR c d n A B mk 0) F s.heap _ _ := hW
      refine lv_if_ne (tgt := 65) hX_ hB_ dX9_share_38 (by decide) (fun c38 => ?_) (fun c38 => ?_)
      · exact absurd c38 (by decide)
      · refine lv_aload_n hX_ hB_ dX9_share_41 rfl (lv_at hl 0 rfl) ?_
        refine lv_iload_n hX_ hB_ dX9_share_42 rfl (lv_at hl 2 rfl) ?_
        refine lv_iconst (v := 0) hX_ hB_ dX9_share_43 (by decide) ?_
        refine lv_sipush (v := 1200) hX_ hB_ dX9_share_44 (by decide) ?_
        refine ze_Si (As := [.int y, .int 0, .int 1200]) (rest := [.ref (d 0)]) S (zr_isIn l D c (ze_wR c d n A B mk 0) y 0 1200) (va_cwS 3 hts gX9_share_X9_isIn rfl rfl rfl (by decide +kernel) ⟨Nat.le_of_ble_eq_true rfl, Nat.le_of_ble_eq_true rfl⟩) hK hW hA rfl hl.1 rfl (lv_room (Nat.le_of_ble_eq_true rfl)) dX9_share_47 ⟨Nat.le_of_ble_eq_true rfl, Nat.le_of_ble_eq_true rfl⟩ (fun H locs hW => ?_)
        refine lv_if_ne (tgt := 57) hX_ hB_ dX9_share_50 (by decide) (fun c50 => ?_) (fun c50 => ?_)
        · have c50 : zf_isIn y 0 1200 := ze_bt c50
          exact absurd c50 h1
        · have c50 : ¬ (zf_isIn y 0 1200) := ze_bf c50
          refine lv_iconst (v := 1) hX_ hB_ dX9_share_53 (by decide) ?_
          refine lv_goto (tgt := 58) hX_ hB_ dX9_share_54 (by decide) ?_
          refine lv_iconst (v := 2) hX_ hB_ dX9_share_58 (by decide) ?_
          refine ze_Vi (As := [.int 1, .int 2]) (rest := []) (ci := 9) (q0 := 0) (k := (RX9, TX9, 39)) S (zr_isThrown l D c d n A B mk 0 1 2 2 rfl (if_neg (by decide))) (cwV 2 hts gX9_share_X9_isThrown rfl rfl rfl (by decide +kernel) ⟨Nat.le_of_ble_eq_true rfl, Nat.le_of_ble_eq_true rfl⟩) hK hW hA rfl rfl rfl hl.1 rfl (lv_room (Nat.le_of_ble_eq_true rfl)) dX9_share_59 ⟨Nat.le_of_ble_eq_true rfl, Nat.le_of_ble_eq_true rfl⟩ (fun H locs hW => ?_)
          have hW : ze_W D (ze_wR c d n A B mk 2) F s.heap _ _ := hW
          refine lv_if_eq (tgt := 67) hX_ hB_ dX9_share_62 (by decide) (fun c62 => ?_) (fun c62 => ?_)
          · exact absurd c62 (by decide)
          · refine lv_iconst (v := 0) hX_ hB_ dX9_share_65 (by decide) ?_
            exact ze_iret S hr hlocks hF hK hW rfl dX9_share_66 (Nat.le_of_ble_eq_true rfl) (Nat.le_of_ble_eq_true rfl) rfl rfl
    · have c26 : ¬ (zf_isIn (nI k) 0 (nI (n 2) - 1)) := ze_bf c26
      exact absurd hzk c26
set_option maxHeartbeats 4000000 in
set_option maxRecDepth 100000 in
theorem zr_share_t3 (l : Launch) (D : va_G) (c : Nat → ClassId) (d n : Nat → Nat) (A : Nat → Nat → Int32) (B : Nat → Int64) (mk : Nat → Int32) (th : Int32) (j : Nat) (hN : zf_N n) (hj : j < n 0) (y : Int32) (k : Nat) (hk : k < n 2) (hS : zf_S n A) (hz : ∀ s, n 0 ≤ s → mk s = 0) (h1 : zf_isIn y 0 1200) (h2 : ¬ zf_runs A (zf_CI n A) k (zf_CI n A j)) : ze_I l yX9_share wsX9_share 3 57 1 6 D c (ze_wR c d n A B mk th) [.ref (d 0), .int (nI j), .int y, .int (nI k)] 0 (ze_wR c d n A B (zf_CI n A) 3) := by
  intro sz
  refine ze_start (cc := cX9_share) (maxL := 8) (ret := (some .int)) (own := RX9) (by decide) rfl rfl (Nat.le_of_ble_eq_true rfl) ?_
  obtain ⟨hn0, hn1, hn2, hn3, hn4⟩ := id hN
  have hinj : zf_isIn (nI j) 0 (nI (n 0) - 1) := zf_isInN hj (by omega)
  have hzk : zf_isIn (nI k) 0 (nI (n 2) - 1) := zf_isInN hk (by omega)
  intro p e s m_ below meth cd F ls hF hsz E0
  obtain ⟨S, hr, hlocks, hK, hW, hA, hl⟩ := E0
  have hX_ := S.1
  have hB_ := S.2.1
  have hts := S.2.2.2.2
  have hl : lv_has ls 8 [(0, .ref (d 0)), (1, .int (nI j)), (2, .int y), (3, .int (nI k))] := hl
  have hiX9 : ∀ w ∈ u_ws RX9 TX9 39, w ∈ wsX9_share := fun _ h => (List.mem_cons_of_mem _ (List.mem_append_right _ h))
  have w0 := hts (.fieldLink RX9 88 "IslandgridModel" "sites" "I") (List.mem_cons_of_mem _ (List.mem_append_left _ (List.mem_append_left _ (List.mem_of_getElem? (i := 0) rfl))))
  have w1 := hts (.fieldLink RX9 102 "IslandgridModel" "generators" "I") (List.mem_cons_of_mem _ (List.mem_append_left _ (List.mem_append_left _ (List.mem_of_getElem? (i := 1) rfl))))
  refine lv_aload_n hX_ hB_ dX9_share_0 rfl (lv_at hl 0 rfl) ?_
  refine lv_iload_n hX_ hB_ dX9_share_1 rfl (lv_at hl 1 rfl) ?_
  refine lv_iconst (v := 0) hX_ hB_ dX9_share_2 (by decide) ?_
  refine lv_aload_n hX_ hB_ dX9_share_3 rfl (lv_at hl 0 rfl) ?_
  refine ze_get (ci := 9) (C := RX9) (T := TX9) (N := 39) (v := .int (nI (n 0))) S hiX9 hK hW 0 rfl rfl 23 (by decide) rfl w0 dX9_share_4 ?_
  refine lv_iconst (v := 1) hX_ hB_ dX9_share_7 (by decide) ?_
  refine lv_isub hX_ hB_ dX9_share_8 ?_
  refine ze_Si (As := [.int (nI j), .int 0, .int (nI (n 0) - 1)]) (rest := [.ref (d 0)]) S (zr_isIn l D c (ze_wR c d n A B mk th) (nI j) 0 (nI (n 0) - 1)) (va_cwS 3 hts gX9_share_X9_isIn rfl rfl rfl (by decide +kernel) ⟨Nat.le_of_ble_eq_true rfl, Nat.le_of_ble_eq_true rfl⟩) hK hW hA rfl hl.1 rfl (lv_room (Nat.le_of_ble_eq_true rfl)) dX9_share_9 ⟨Nat.le_of_ble_eq_true rfl, Nat.le_of_ble_eq_true rfl⟩ (fun H locs hW => ?_)
  refine lv_if_eq (tgt := 29) hX_ hB_ dX9_share_12 (by decide) (fun c12 => ?_) (fun c12 => ?_)
  · have c12 : ¬ (zf_isIn (nI j) 0 (nI (n 0) - 1)) := ze_bf c12
    exact absurd hinj c12
  · have c12 : zf_isIn (nI j) 0 (nI (n 0) - 1) := ze_bt c12
    refine lv_iload_n hX_ hB_ dX9_share_15 rfl (lv_at hl 3 rfl) ?_
    refine lv_iconst (v := 0) hX_ hB_ dX9_share_16 (by decide) ?_
    refine lv_aload_n hX_ hB_ dX9_share_17 rfl (lv_at hl 0 rfl) ?_
    refine ze_get (ci := 9) (C := RX9) (T := TX9) (N := 39) (v := .int (nI (n 2))) S hiX9 hK hW 0 rfl rfl 25 (by decide) rfl w1 dX9_share_18 ?_
    refine lv_iconst (v := 1) hX_ hB_ dX9_share_21 (by decide) ?_
    refine lv_isub hX_ hB_ dX9_share_22 ?_
    refine ze_Si (As := [.int (nI k), .int 0, .int (nI (n 2) - 1)]) (rest := [.ref (d 0)]) S (zr_isIn l D c (ze_wR c d n A B mk th) (nI k) 0 (nI (n 2) - 1)) (va_cwS 3 hts gX9_share_X9_isIn rfl rfl rfl (by decide +kernel) ⟨Nat.le_of_ble_eq_true rfl, Nat.le_of_ble_eq_true rfl⟩) hK hW hA rfl hl.1 rfl (lv_room (Nat.le_of_ble_eq_true rfl)) dX9_share_23 ⟨Nat.le_of_ble_eq_true rfl, Nat.le_of_ble_eq_true rfl⟩ (fun H locs hW => ?_)
    refine lv_if_ne (tgt := 33) hX_ hB_ dX9_share_26 (by decide) (fun c26 => ?_) (fun c26 => ?_)
    · have c26 : zf_isIn (nI k) 0 (nI (n 2) - 1) := ze_bt c26
      refine lv_iconst (v := 0) hX_ hB_ dX9_share_33 (by decide) ?_
      refine lv_iconst (v := 1) hX_ hB_ dX9_share_34 (by decide) ?_
      refine ze_Vi (As := [.int 0, .int 1]) (rest := []) (ci := 9) (q0 := 0) (k := (RX9, TX9, 39)) S (zr_isThrown l D c d n A B mk th 0 1 0 rfl (if_pos rfl)) (cwV 2 hts gX9_share_X9_isThrown rfl rfl rfl (by decide +kernel) ⟨Nat.le_of_ble_eq_true rfl, Nat.le_of_ble_eq_true rfl⟩) hK hW hA rfl rfl rfl hl.1 rfl (lv_room (Nat.le_of_ble_eq_true rfl)) dX9_share_35 ⟨Nat.le_of_ble_eq_true rfl, Nat.le_of_ble_eq_true rfl⟩ (fun H locs hW => ?_)
      have hW : ze_W D (ze_wR c d n A B mk 0) F s.heap _ _ := hW
      refine lv_if_ne (tgt := 65) hX_ hB_ dX9_share_38 (by decide) (fun c38 => ?_) (fun c38 => ?_)
      · exact absurd c38 (by decide)
      · refine lv_aload_n hX_ hB_ dX9_share_41 rfl (lv_at hl 0 rfl) ?_
        refine lv_iload_n hX_ hB_ dX9_share_42 rfl (lv_at hl 2 rfl) ?_
        refine lv_iconst (v := 0) hX_ hB_ dX9_share_43 (by decide) ?_
        refine lv_sipush (v := 1200) hX_ hB_ dX9_share_44 (by decide) ?_
        refine ze_Si (As := [.int y, .int 0, .int 1200]) (rest := [.ref (d 0)]) S (zr_isIn l D c (ze_wR c d n A B mk 0) y 0 1200) (va_cwS 3 hts gX9_share_X9_isIn rfl rfl rfl (by decide +kernel) ⟨Nat.le_of_ble_eq_true rfl, Nat.le_of_ble_eq_true rfl⟩) hK hW hA rfl hl.1 rfl (lv_room (Nat.le_of_ble_eq_true rfl)) dX9_share_47 ⟨Nat.le_of_ble_eq_true rfl, Nat.le_of_ble_eq_true rfl⟩ (fun H locs hW => ?_)
        refine lv_if_ne (tgt := 57) hX_ hB_ dX9_share_50 (by decide) (fun c50 => ?_) (fun c50 => ?_)
        · have c50 : zf_isIn y 0 1200 := ze_bt c50
          refine lv_iconst (v := 0) hX_ hB_ dX9_share_57 (by decide) ?_
          refine lv_iconst (v := 2) hX_ hB_ dX9_share_58 (by decide) ?_
          refine ze_Vi (As := [.int 0, .int 2]) (rest := []) (ci := 9) (q0 := 0) (k := (RX9, TX9, 39)) S (zr_isThrown l D c d n A B mk 0 0 2 0 rfl (if_pos rfl)) (cwV 2 hts gX9_share_X9_isThrown rfl rfl rfl (by decide +kernel) ⟨Nat.le_of_ble_eq_true rfl, Nat.le_of_ble_eq_true rfl⟩) hK hW hA rfl rfl rfl hl.1 rfl (lv_room (Nat.le_of_ble_eq_true rfl)) dX9_share_59 ⟨Nat.le_of_ble_eq_true rfl, Nat.le_of_ble_eq_true rfl⟩ (fun H locs hW => ?_)
          refine lv_if_eq (tgt := 67) hX_ hB_ dX9_share_62 (by decide) (fun c62 => ?_) (fun c62 => ?_)
          · refine lv_aload_n hX_ hB_ dX9_share_67 rfl (lv_at hl 0 rfl) ?_
            refine lv_iload_n hX_ hB_ dX9_share_68 rfl (lv_at hl 1 rfl) ?_
            refine ze_Vi (As := [.int (nI j)]) (rest := []) (ci := 9) (q0 := 0) (k := (RX9, TX9, 39)) S (zr_islandOf l D c d n A B mk 0 (nI j) hN hS hz ⟨j, by omega, rfl⟩) (cwV 1 hts gX9_share_X9_islandOf rfl rfl rfl (by decide +kernel) ⟨Nat.le_of_ble_eq_true rfl, Nat.le_of_ble_eq_true rfl⟩) hK hW hA rfl rfl rfl hl.1 rfl (lv_room (Nat.le_of_ble_eq_true rfl)) dX9_share_69 ⟨Nat.le_of_ble_eq_true rfl, Nat.le_of_ble_eq_true rfl⟩ (fun H locs hW => ?_)
            have hW : ze_W D (ze_wR c d n A B (zf_CI n A) 0) F s.heap _ _ := hW
            refine ze_top (congrArg (zf_CI n A) (zf_ixN (j := j) (by omega))) ?_
            refine lv_istore (lv' := [(4, .int (zf_CI n A j)), (0, .ref (d 0)), (1, .int (nI j)), (2, .int y), (3, .int (nI k))]) hX_ hB_ dX9_share_72 hl (by decide) rfl (fun ls hl => ?_)
            refine lv_aload_n hX_ hB_ dX9_share_74 rfl (lv_at hl 1 rfl) ?_
            refine lv_aload_n hX_ hB_ dX9_share_75 rfl (lv_at hl 1 rfl) ?_
            refine lv_iload_n hX_ hB_ dX9_share_76 rfl (lv_at hl 4 rfl) ?_
            refine lv_iload hX_ hB_ dX9_share_77 (lv_at hl 0 rfl) ?_
            refine ze_Vi (As := [.int (nI k), .int (zf_CI n A j)]) (rest := [.ref (d 0)]) (ci := 9) (q0 := 0) (k := (RX9, TX9, 39)) S (zr_runs l D c d n A B (zf_CI n A) 0 k (zf_CI n A j) hN hS (by omega)) (cwV 2 hts gX9_share_X9_runs rfl rfl rfl (by decide +kernel) ⟨Nat.le_of_ble_eq_true rfl, Nat.le_of_ble_eq_true rfl⟩) hK hW hA rfl rfl rfl hl.1 rfl (lv_room (Nat.le_of_ble_eq_true rfl)) dX9_share_79 ⟨Nat.le_of_ble_eq_true rfl, Nat.le_of_ble_eq_true rfl⟩ (fun H locs hW => ?_)
            refine lv_if_ne (tgt := 89) hX_ hB_ dX9_share_82 (by decide) (fun c82 => ?_) (fun c82 => ?_)
            · have c82 : zf_runs A (zf_CI n A) k (zf_CI n A j) := ze_bt c82
              exact absurd c82 h2
            · have c82 : ¬ (zf_runs A (zf_CI n A) k (zf_CI n A j)) := ze_bf c82
              refine lv_iconst (v := 1) hX_ hB_ dX9_share_85 (by decide) ?_
              refine lv_goto (tgt := 90) hX_ hB_ dX9_share_86 (by decide) ?_
              refine lv_iconst (v := 3) hX_ hB_ dX9_share_90 (by decide) ?_
              refine ze_Vi (As := [.int 1, .int 3]) (rest := []) (ci := 9) (q0 := 0) (k := (RX9, TX9, 39)) S (zr_isThrown l D c d n A B (zf_CI n A) 0 1 3 3 rfl (if_neg (by decide))) (cwV 2 hts gX9_share_X9_isThrown rfl rfl rfl (by decide +kernel) ⟨Nat.le_of_ble_eq_true rfl, Nat.le_of_ble_eq_true rfl⟩) hK hW hA rfl rfl rfl hl.1 rfl (lv_room (Nat.le_of_ble_eq_true rfl)) dX9_share_91 ⟨Nat.le_of_ble_eq_true rfl, Nat.le_of_ble_eq_true rfl⟩ (fun H locs hW => ?_)
              have hW : ze_W D (ze_wR c d n A B (zf_CI n A) 3) F s.heap _ _ := hW
              refine lv_if_eq (tgt := 99) hX_ hB_ dX9_share_94 (by decide) (fun c94 => ?_) (fun c94 => ?_)
              · exact absurd c94 (by decide)
              · refine lv_iconst (v := 0) hX_ hB_ dX9_share_97 (by decide) ?_
                exact ze_iret S hr hlocks hF hK hW rfl dX9_share_98 (Nat.le_of_ble_eq_true rfl) (Nat.le_of_ble_eq_true rfl) rfl rfl
          · exact absurd c62 (by decide)
        · have c50 : ¬ (zf_isIn y 0 1200) := ze_bf c50
          exact absurd h1 c50
    · have c26 : ¬ (zf_isIn (nI k) 0 (nI (n 2) - 1)) := ze_bf c26
      exact absurd hzk c26
set_option maxHeartbeats 4000000 in
set_option maxRecDepth 100000 in
theorem zr_share_f (l : Launch) (D : va_G) (c : Nat → ClassId) (d n : Nat → Nat) (A : Nat → Nat → Int32) (B : Nat → Int64) (mk : Nat → Int32) (th : Int32) (j : Nat) (hN : zf_N n) (hj : j < n 0) (y : Int32) (k : Nat) (hk : k < n 2) (hS : zf_S n A) (hz : ∀ s, n 0 ≤ s → mk s = 0) (h1 : zf_isIn y 0 1200) (h2 : zf_runs A (zf_CI n A) k (zf_CI n A j)) : ze_I l yX9_share wsX9_share 3 63 1 6 D c (ze_wR c d n A B mk th) [.ref (d 0), .int (nI j), .int y, .int (nI k)] ((zf_gives n A (zf_CI n A) (zf_CI n A j) y).2 k) (ze_wR c d n A B (zf_CI n A) 0) := by
  intro sz
  refine ze_start (cc := cX9_share) (maxL := 8) (ret := (some .int)) (own := RX9) (by decide) rfl rfl (Nat.le_of_ble_eq_true rfl) ?_
  obtain ⟨hn0, hn1, hn2, hn3, hn4⟩ := id hN
  have hinj : zf_isIn (nI j) 0 (nI (n 0) - 1) := zf_isInN hj (by omega)
  have hzk : zf_isIn (nI k) 0 (nI (n 2) - 1) := zf_isInN hk (by omega)
  intro p e s m_ below meth cd F ls hF hsz E0
  obtain ⟨S, hr, hlocks, hK, hW, hA, hl⟩ := E0
  have hX_ := S.1
  have hB_ := S.2.1
  have hts := S.2.2.2.2
  have hl : lv_has ls 8 [(0, .ref (d 0)), (1, .int (nI j)), (2, .int y), (3, .int (nI k))] := hl
  have hiX9 : ∀ w ∈ u_ws RX9 TX9 39, w ∈ wsX9_share := fun _ h => (List.mem_cons_of_mem _ (List.mem_append_right _ h))
  have w0 := hts (.fieldLink RX9 88 "IslandgridModel" "sites" "I") (List.mem_cons_of_mem _ (List.mem_append_left _ (List.mem_append_left _ (List.mem_of_getElem? (i := 0) rfl))))
  have w1 := hts (.fieldLink RX9 102 "IslandgridModel" "generators" "I") (List.mem_cons_of_mem _ (List.mem_append_left _ (List.mem_append_left _ (List.mem_of_getElem? (i := 1) rfl))))
  have w2 := hts (.arrayClass .int) (List.mem_cons_of_mem _ (List.mem_append_left _ (List.mem_append_left _ (List.mem_of_getElem? (i := 2) rfl))))
  have w3 := hts (.fieldLink RX9 47 "IslandgridModel" "given" "[I") (List.mem_cons_of_mem _ (List.mem_append_left _ (List.mem_append_left _ (List.mem_of_getElem? (i := 3) rfl))))
  refine lv_aload_n hX_ hB_ dX9_share_0 rfl (lv_at hl 0 rfl) ?_
  refine lv_iload_n hX_ hB_ dX9_share_1 rfl (lv_at hl 1 rfl) ?_
  refine lv_iconst (v := 0) hX_ hB_ dX9_share_2 (by decide) ?_
  refine lv_aload_n hX_ hB_ dX9_share_3 rfl (lv_at hl 0 rfl) ?_
  refine ze_get (ci := 9) (C := RX9) (T := TX9) (N := 39) (v := .int (nI (n 0))) S hiX9 hK hW 0 rfl rfl 23 (by decide) rfl w0 dX9_share_4 ?_
  refine lv_iconst (v := 1) hX_ hB_ dX9_share_7 (by decide) ?_
  refine lv_isub hX_ hB_ dX9_share_8 ?_
  refine ze_Si (As := [.int (nI j), .int 0, .int (nI (n 0) - 1)]) (rest := [.ref (d 0)]) S (zr_isIn l D c (ze_wR c d n A B mk th) (nI j) 0 (nI (n 0) - 1)) (va_cwS 3 hts gX9_share_X9_isIn rfl rfl rfl (by decide +kernel) ⟨Nat.le_of_ble_eq_true rfl, Nat.le_of_ble_eq_true rfl⟩) hK hW hA rfl hl.1 rfl (lv_room (Nat.le_of_ble_eq_true rfl)) dX9_share_9 ⟨Nat.le_of_ble_eq_true rfl, Nat.le_of_ble_eq_true rfl⟩ (fun H locs hW => ?_)
  refine lv_if_eq (tgt := 29) hX_ hB_ dX9_share_12 (by decide) (fun c12 => ?_) (fun c12 => ?_)
  · have c12 : ¬ (zf_isIn (nI j) 0 (nI (n 0) - 1)) := ze_bf c12
    exact absurd hinj c12
  · have c12 : zf_isIn (nI j) 0 (nI (n 0) - 1) := ze_bt c12
    refine lv_iload_n hX_ hB_ dX9_share_15 rfl (lv_at hl 3 rfl) ?_
    refine lv_iconst (v := 0) hX_ hB_ dX9_share_16 (by decide) ?_
    refine lv_aload_n hX_ hB_ dX9_share_17 rfl (lv_at hl 0 rfl) ?_
    refine ze_get (ci := 9) (C := RX9) (T := TX9) (N := 39) (v := .int (nI (n 2))) S hiX9 hK hW 0 rfl rfl 25 (by decide) rfl w1 dX9_share_18 ?_
    refine lv_iconst (v := 1) hX_ hB_ dX9_share_21 (by decide) ?_
    refine lv_isub hX_ hB_ dX9_share_22 ?_
    refine ze_Si (As := [.int (nI k), .int 0, .int (nI (n 2) - 1)]) (rest := [.ref (d 0)]) S (zr_isIn l D c (ze_wR c d n A B mk th) (nI k) 0 (nI (n 2) - 1)) (va_cwS 3 hts gX9_share_X9_isIn rfl rfl rfl (by decide +kernel) ⟨Nat.le_of_ble_eq_true rfl, Nat.le_of_ble_eq_true rfl⟩) hK hW hA rfl hl.1 rfl (lv_room (Nat.le_of_ble_eq_true rfl)) dX9_share_23 ⟨Nat.le_of_ble_eq_true rfl, Nat.le_of_ble_eq_true rfl⟩ (fun H locs hW => ?_)
    refine lv_if_ne (tgt := 33) hX_ hB_ dX9_share_26 (by decide) (fun c26 => ?_) (fun c26 => ?_)
    · have c26 : zf_isIn (nI k) 0 (nI (n 2) - 1) := ze_bt c26
      refine lv_iconst (v := 0) hX_ hB_ dX9_share_33 (by decide) ?_
      refine lv_iconst (v := 1) hX_ hB_ dX9_share_34 (by decide) ?_
      refine ze_Vi (As := [.int 0, .int 1]) (rest := []) (ci := 9) (q0 := 0) (k := (RX9, TX9, 39)) S (zr_isThrown l D c d n A B mk th 0 1 0 rfl (if_pos rfl)) (cwV 2 hts gX9_share_X9_isThrown rfl rfl rfl (by decide +kernel) ⟨Nat.le_of_ble_eq_true rfl, Nat.le_of_ble_eq_true rfl⟩) hK hW hA rfl rfl rfl hl.1 rfl (lv_room (Nat.le_of_ble_eq_true rfl)) dX9_share_35 ⟨Nat.le_of_ble_eq_true rfl, Nat.le_of_ble_eq_true rfl⟩ (fun H locs hW => ?_)
      have hW : ze_W D (ze_wR c d n A B mk 0) F s.heap _ _ := hW
      refine lv_if_ne (tgt := 65) hX_ hB_ dX9_share_38 (by decide) (fun c38 => ?_) (fun c38 => ?_)
      · exact absurd c38 (by decide)
      · refine lv_aload_n hX_ hB_ dX9_share_41 rfl (lv_at hl 0 rfl) ?_
        refine lv_iload_n hX_ hB_ dX9_share_42 rfl (lv_at hl 2 rfl) ?_
        refine lv_iconst (v := 0) hX_ hB_ dX9_share_43 (by decide) ?_
        refine lv_sipush (v := 1200) hX_ hB_ dX9_share_44 (by decide) ?_
        refine ze_Si (As := [.int y, .int 0, .int 1200]) (rest := [.ref (d 0)]) S (zr_isIn l D c (ze_wR c d n A B mk 0) y 0 1200) (va_cwS 3 hts gX9_share_X9_isIn rfl rfl rfl (by decide +kernel) ⟨Nat.le_of_ble_eq_true rfl, Nat.le_of_ble_eq_true rfl⟩) hK hW hA rfl hl.1 rfl (lv_room (Nat.le_of_ble_eq_true rfl)) dX9_share_47 ⟨Nat.le_of_ble_eq_true rfl, Nat.le_of_ble_eq_true rfl⟩ (fun H locs hW => ?_)
        refine lv_if_ne (tgt := 57) hX_ hB_ dX9_share_50 (by decide) (fun c50 => ?_) (fun c50 => ?_)
        · have c50 : zf_isIn y 0 1200 := ze_bt c50
          refine lv_iconst (v := 0) hX_ hB_ dX9_share_57 (by decide) ?_
          refine lv_iconst (v := 2) hX_ hB_ dX9_share_58 (by decide) ?_
          refine ze_Vi (As := [.int 0, .int 2]) (rest := []) (ci := 9) (q0 := 0) (k := (RX9, TX9, 39)) S (zr_isThrown l D c d n A B mk 0 0 2 0 rfl (if_pos rfl)) (cwV 2 hts gX9_share_X9_isThrown rfl rfl rfl (by decide +kernel) ⟨Nat.le_of_ble_eq_true rfl, Nat.le_of_ble_eq_true rfl⟩) hK hW hA rfl rfl rfl hl.1 rfl (lv_room (Nat.le_of_ble_eq_true rfl)) dX9_share_59 ⟨Nat.le_of_ble_eq_true rfl, Nat.le_of_ble_eq_true rfl⟩ (fun H locs hW => ?_)
          refine lv_if_eq (tgt := 67) hX_ hB_ dX9_share_62 (by decide) (fun c62 => ?_) (fun c62 => ?_)
          · refine lv_aload_n hX_ hB_ dX9_share_67 rfl (lv_at hl 0 rfl) ?_
            refine lv_iload_n hX_ hB_ dX9_share_68 rfl (lv_at hl 1 rfl) ?_
            refine ze_Vi (As := [.int (nI j)]) (rest := []) (ci := 9) (q0 := 0) (k := (RX9, TX9, 39)) S (zr_islandOf l D c d n A B mk 0 (nI j) hN hS hz ⟨j, by omega, rfl⟩) (cwV 1 hts gX9_share_X9_islandOf rfl rfl rfl (by decide +kernel) ⟨Nat.le_of_ble_eq_true rfl, Nat.le_of_ble_eq_true rfl⟩) hK hW hA rfl rfl rfl hl.1 rfl (lv_room (Nat.le_of_ble_eq_true rfl)) dX9_share_69 ⟨Nat.le_of_ble_eq_true rfl, Nat.le_of_ble_eq_true rfl⟩ (fun H locs hW => ?_)
            have hW : ze_W D (ze_wR c d n A B (zf_CI n A) 0) F s.heap _ _ := hW
            refine ze_top (congrArg (zf_CI n A) (zf_ixN (j := j) (by omega))) ?_
            refine lv_istore (lv' := [(4, .int (zf_CI n A j)), (0, .ref (d 0)), (1, .int (nI j)), (2, .int y), (3, .int (nI k))]) hX_ hB_ dX9_share_72 hl (by decide) rfl (fun ls hl => ?_)
            refine lv_aload_n hX_ hB_ dX9_share_74 rfl (lv_at hl 1 rfl) ?_
            refine lv_aload_n hX_ hB_ dX9_share_75 rfl (lv_at hl 1 rfl) ?_
            refine lv_iload_n hX_ hB_ dX9_share_76 rfl (lv_at hl 4 rfl) ?_
            refine lv_iload hX_ hB_ dX9_share_77 (lv_at hl 0 rfl) ?_
            refine ze_Vi (As := [.int (nI k), .int (zf_CI n A j)]) (rest := [.ref (d 0)]) (ci := 9) (q0 := 0) (k := (RX9, TX9, 39)) S (zr_runs l D c d n A B (zf_CI n A) 0 k (zf_CI n A j) hN hS (by omega)) (cwV 2 hts gX9_share_X9_runs rfl rfl rfl (by decide +kernel) ⟨Nat.le_of_ble_eq_true rfl, Nat.le_of_ble_eq_true rfl⟩) hK hW hA rfl rfl rfl hl.1 rfl (lv_room (Nat.le_of_ble_eq_true rfl)) dX9_share_79 ⟨Nat.le_of_ble_eq_true rfl, Nat.le_of_ble_eq_true rfl⟩ (fun H locs hW => ?_)
            refine lv_if_ne (tgt := 89) hX_ hB_ dX9_share_82 (by decide) (fun c82 => ?_) (fun c82 => ?_)
            · have c82 : zf_runs A (zf_CI n A) k (zf_CI n A j) := ze_bt c82
              refine lv_iconst (v := 0) hX_ hB_ dX9_share_89 (by decide) ?_
              refine lv_iconst (v := 3) hX_ hB_ dX9_share_90 (by decide) ?_
              refine ze_Vi (As := [.int 0, .int 3]) (rest := []) (ci := 9) (q0 := 0) (k := (RX9, TX9, 39)) S (zr_isThrown l D c d n A B (zf_CI n A) 0 0 3 0 rfl (if_pos rfl)) (cwV 2 hts gX9_share_X9_isThrown rfl rfl rfl (by decide +kernel) ⟨Nat.le_of_ble_eq_true rfl, Nat.le_of_ble_eq_true rfl⟩) hK hW hA rfl rfl rfl hl.1 rfl (lv_room (Nat.le_of_ble_eq_true rfl)) dX9_share_91 ⟨Nat.le_of_ble_eq_true rfl, Nat.le_of_ble_eq_true rfl⟩ (fun H locs hW => ?_)
              refine lv_if_eq (tgt := 99) hX_ hB_ dX9_share_94 (by decide) (fun c94 => ?_) (fun c94 => ?_)
              · refine lv_bipush (v := 6) hX_ hB_ dX9_share_99 (by decide) ?_
                refine ze_newi (N := 6) S w2 hK hW hA (by decide) (Nat.le_of_ble_eq_true rfl) (Nat.le_of_ble_eq_true rfl) dX9_share_101 (fun qk H hW => ?_)
                refine lv_astore (lv' := [(5, .ref qk), (4, .int (zf_CI n A j)), (0, .ref (d 0)), (1, .int (nI j)), (2, .int y), (3, .int (nI k))]) hX_ hB_ dX9_share_103 hl (by decide) rfl (fun ls hl => ?_)
                refine lv_iconst (v := 0) hX_ hB_ dX9_share_105 (by decide) ?_
                refine lv_istore (lv' := [(6, .int 0), (5, .ref qk), (4, .int (zf_CI n A j)), (0, .ref (d 0)), (1, .int (nI j)), (2, .int y), (3, .int (nI k))]) hX_ hB_ dX9_share_106 hl (by decide) rfl (fun ls hl => ?_)
                have L108 : ∀ (k108 : Nat) (i108 : Nat), (i108 ≤ n 2) → (n 2 - i108) < k108 → ∀ (H : Heap) (locs : List Loc) (ls : Array Slot), ze_W D ((ze_wR c d n A B (zf_CI n A) 0) ++ [(qk, .inl (c 0, 6, .inl (ze_up (A 12) (fun _ => 0) i108)))]) F s.heap H locs → lv_has ls 8 [(6, .int (nI i108)), (5, .ref qk), (4, .int (zf_CI n A j)), (0, .ref (d 0)), (1, .int (nI j)), (2, .int y), (3, .int (nI k))] → W p l e { frames := 3, cells := 1, slots := 6, locals := 63 } s m_ ([.ref (d 0), .int (nI j), .int y, .int (nI k)] : List Value).toArray below meth cd H locs 1 6 (MQ below (ze_Qi D c (ze_wR c d n A B mk th) sz ((zf_gives n A (zf_CI n A) (zf_CI n A j) y).2 k) (ze_wR c d n A B (zf_CI n A) 0)) ([.ref (d 0), .int (nI j), .int y, .int (nI k)] : List Value).toArray s 1 6 F) (F0 m_ 108 ls []) := by
                  intro k108
                  induction k108 with
                  | zero =>
                    intro i108 h108 hk108
                    exact absurd hk108 (Nat.not_lt_zero _)
                  | succ k108 ih108 =>
                    intro i108 h108 hk108 H locs ls hW hl
                    refine lv_iload hX_ hB_ dX9_share_108 (lv_at hl 0 rfl) ?_
                    refine lv_aload_n hX_ hB_ dX9_share_110 rfl (lv_at hl 3 rfl) ?_
                    refine ze_get (ci := 9) (C := RX9) (T := TX9) (N := 39) (v := .int (nI (n 2))) S hiX9 hK hW 0 (ze_appget0 rfl) rfl 25 (by decide) rfl w1 dX9_share_111 ?_
                    refine lv_icmp_ge (tgt := 135) hX_ hB_ dX9_share_114 (by decide) (fun c114 => ?_) (fun c114 => ?_)
                    · have c114 : ¬ i108 < (n 2) := Nat.not_lt.mpr ((nI_leI (a := (n 2)) (b := i108) (by omega) (by omega)).mp c114)
                      have e108 : i108 = n 2 := by omega
                      subst e108
                      refine lv_aload_n hX_ hB_ dX9_share_135 rfl (lv_at hl 3 rfl) ?_
                      refine lv_iload hX_ hB_ dX9_share_136 (lv_at hl 2 rfl) ?_
                      refine lv_iload_n hX_ hB_ dX9_share_138 rfl (lv_at hl 5 rfl) ?_
                      refine ze_FVi (As := [.int (zf_CI n A j), .int y]) (rest := []) (ci := 9) (q0 := 0) (k := (RX9, TX9, 39)) S (zr_gives l D c d n A B (zf_CI n A) 0 (zf_CI n A j) y hN hS) (cwV 2 hts gX9_share_X9_gives rfl rfl rfl (by decide +kernel) ⟨Nat.le_of_ble_eq_true rfl, Nat.le_of_ble_eq_true rfl⟩) hK hW hA rfl rfl rfl hl.1 rfl (lv_room (Nat.le_of_ble_eq_true rfl)) dX9_share_139 ⟨Nat.le_of_ble_eq_true rfl, Nat.le_of_ble_eq_true rfl⟩ (fun H locs hW => ?_)
                      have hW : ze_W D ((ze_wR c d n (ze_sA A 12 ((zf_gives n A (zf_CI n A) (zf_CI n A j) y).2)) B (zf_CI n A) 0) ++ [(qk, .inl (c 0, 6, .inl (ze_up (A 12) (fun _ => 0) (n 2))))]) F s.heap _ _ := hW
                      refine lv_pop hX_ hB_ dX9_share_142 rfl ?_
                      refine lv_aload_n hX_ hB_ dX9_share_143 rfl (lv_at hl 3 rfl) ?_
                      refine ze_get (ci := 9) (C := RX9) (T := TX9) (N := 39) (v := .ref (d 13)) S hiX9 hK hW 0 (ze_appget0 rfl) rfl 12 (by decide) rfl w3 dX9_share_144 ?_
                      refine lv_iload_n hX_ hB_ dX9_share_147 rfl (lv_at hl 6 rfl) ?_
                      refine ze_ialdN hX_ hB_ hK hW 13 (f := ((zf_gives n A (zf_CI n A) (zf_CI n A j) y).2)) (ze_appget0 rfl) (i := k) (by omega) (by decide) dX9_share_148 ?_
                      refine lv_istore (lv' := [(6, .int (((zf_gives n A (zf_CI n A) (zf_CI n A j) y).2) k)), (5, .ref qk), (4, .int (zf_CI n A j)), (0, .ref (d 0)), (1, .int (nI j)), (2, .int y), (3, .int (nI k))]) hX_ hB_ dX9_share_149 hl (by decide) rfl (fun ls hl => ?_)
                      refine lv_iconst (v := 0) hX_ hB_ dX9_share_151 (by decide) ?_
                      refine lv_istore (lv' := [(7, .int 0), (6, .int (((zf_gives n A (zf_CI n A) (zf_CI n A j) y).2) k)), (5, .ref qk), (4, .int (zf_CI n A j)), (0, .ref (d 0)), (1, .int (nI j)), (2, .int y), (3, .int (nI k))]) hX_ hB_ dX9_share_152 hl (by decide) rfl (fun ls hl => ?_)
                      have L154 : ∀ (k154 : Nat) (i154 : Nat), (i154 ≤ n 2) → (n 2 - i154) < k154 → ∀ (H : Heap) (locs : List Loc) (ls : Array Slot), ze_W D ((ze_wR c d n (ze_sA A 12 (ze_up (ze_up (A 12) (fun _ => 0) (n 2)) (zf_gives n A (zf_CI n A) (zf_CI n A j) y).2 i154)) B (zf_CI n A) 0) ++ [(qk, .inl (c 0, 6, .inl (ze_up (A 12) (fun _ => 0) (n 2))))]) F s.heap H locs → lv_has ls 8 [(7, .int (nI i154)), (6, .int (((zf_gives n A (zf_CI n A) (zf_CI n A j) y).2) k)), (5, .ref qk), (4, .int (zf_CI n A j)), (0, .ref (d 0)), (1, .int (nI j)), (2, .int y), (3, .int (nI k))] → W p l e { frames := 3, cells := 1, slots := 6, locals := 63 } s m_ ([.ref (d 0), .int (nI j), .int y, .int (nI k)] : List Value).toArray below meth cd H locs 1 6 (MQ below (ze_Qi D c (ze_wR c d n A B mk th) sz ((zf_gives n A (zf_CI n A) (zf_CI n A j) y).2 k) (ze_wR c d n A B (zf_CI n A) 0)) ([.ref (d 0), .int (nI j), .int y, .int (nI k)] : List Value).toArray s 1 6 F) (F0 m_ 154 ls []) := by
                        intro k154
                        induction k154 with
                        | zero =>
                          intro i154 h154 hk154
                          exact absurd hk154 (Nat.not_lt_zero _)
                        | succ k154 ih154 =>
                          intro i154 h154 hk154 H locs ls hW hl
                          refine lv_iload hX_ hB_ dX9_share_154 (lv_at hl 0 rfl) ?_
                          refine lv_aload_n hX_ hB_ dX9_share_156 rfl (lv_at hl 4 rfl) ?_
                          refine ze_get (ci := 9) (C := RX9) (T := TX9) (N := 39) (v := .int (nI (n 2))) S hiX9 hK hW 0 (ze_appget0 rfl) rfl 25 (by decide) rfl w1 dX9_share_157 ?_
                          refine lv_icmp_ge (tgt := 181) hX_ hB_ dX9_share_160 (by decide) (fun c160 => ?_) (fun c160 => ?_)
                          · have c160 : ¬ i154 < (n 2) := Nat.not_lt.mpr ((nI_leI (a := (n 2)) (b := i154) (by omega) (by omega)).mp c160)
                            have e154 : i154 = n 2 := by omega
                            subst e154
                            refine lv_iload hX_ hB_ dX9_share_181 (lv_at hl 1 rfl) ?_
                            have hW := ze_Wl hW
                            exact ze_iret S hr hlocks hF hK hW rfl dX9_share_183 (Nat.le_of_ble_eq_true rfl) (Nat.le_of_ble_eq_true rfl) rfl (by rw [zf_kept (zf_giveshi n A _ _ _), ze_sAid])
                          · have c160 : i154 < (n 2) := Nat.lt_of_not_le (fun h9 => c160 ((nI_leI (a := (n 2)) (b := i154) (by omega) (by omega)).mpr h9))
                            refine lv_aload_n hX_ hB_ dX9_share_163 rfl (lv_at hl 4 rfl) ?_
                            refine ze_get (ci := 9) (C := RX9) (T := TX9) (N := 39) (v := .ref (d 13)) S hiX9 hK hW 0 (ze_appget0 rfl) rfl 12 (by decide) rfl w3 dX9_share_164 ?_
                            refine lv_iload hX_ hB_ dX9_share_167 (lv_at hl 0 rfl) ?_
                            refine lv_aload hX_ hB_ dX9_share_169 (lv_at hl 2 rfl) ?_
                            refine lv_iload hX_ hB_ dX9_share_171 (lv_at hl 0 rfl) ?_
                            refine ze_ialdN hX_ hB_ hK hW ((ze_wR c d n (ze_sA A 12 (ze_up (ze_up (A 12) (fun _ => 0) (n 2)) (zf_gives n A (zf_CI n A) (zf_CI n A j) y).2 i154)) B (zf_CI n A) 0).length + 0) (f := (ze_up (A 12) (fun _ => 0) (n 2))) (ze_appL (k := 0) rfl) (i := i154) (by omega) (by decide) dX9_share_173 ?_
                            refine ze_iastN hX_ hB_ hK hW 13 (f := (ze_up (ze_up (A 12) (fun _ => 0) (n 2)) (zf_gives n A (zf_CI n A) (zf_CI n A j) y).2 i154)) (ze_appget0 rfl) (i := i154) (by omega) (by decide) dX9_share_174 (ze_appsetL rfl (ze_qR12 i154 ((ze_up (A 12) (fun _ => 0) (n 2)) i154) _ _ _ _ _ _ _)) (fun H locs hW => ?_)
                            have hW : ze_W D ((ze_wR c d n (ze_sE (ze_sA A 12 (ze_up (ze_up (A 12) (fun _ => 0) (n 2)) (zf_gives n A (zf_CI n A) (zf_CI n A j) y).2 i154)) 12 i154 ((ze_up (A 12) (fun _ => 0) (n 2)) i154)) B (zf_CI n A) 0) ++ [(qk, .inl (c 0, 6, .inl (ze_up (A 12) (fun _ => 0) (n 2))))]) F s.heap _ _ := hW
                            refine lv_iinc (v := nI (i154 + 1)) (lv' := [(7, .int (nI (i154 + 1))), (6, .int (((zf_gives n A (zf_CI n A) (zf_CI n A j) y).2) k)), (5, .ref qk), (4, .int (zf_CI n A j)), (0, .ref (d 0)), (1, .int (nI j)), (2, .int y), (3, .int (nI k))]) hX_ hB_ dX9_share_175 hl (k := 0) rfl (ze_inc _) (by decide) rfl (fun ls hl => ?_)
                            refine lv_goto (tgt := 154) hX_ hB_ dX9_share_178 (by decide) ?_
                            have eW : ((ze_wR c d n (ze_sE (ze_sA A 12 (ze_up (ze_up (A 12) (fun _ => 0) (n 2)) (zf_gives n A (zf_CI n A) (zf_CI n A j) y).2 i154)) 12 i154 ((ze_up (A 12) (fun _ => 0) (n 2)) i154)) B (zf_CI n A) 0) ++ [(qk, .inl (c 0, 6, .inl (ze_up (A 12) (fun _ => 0) (n 2))))]) = ((ze_wR c d n (ze_sA A 12 (ze_up (ze_up (A 12) (fun _ => 0) (n 2)) (zf_gives n A (zf_CI n A) (zf_CI n A j) y).2 (i154 + 1))) B (zf_CI n A) 0) ++ [(qk, .inl (c 0, 6, .inl (ze_up (A 12) (fun _ => 0) (n 2))))]) := (by rw [ze_e1, ze_up_s rfl])
                            rw [eW] at hW
                            exact ih154 (i154 + 1) (by omega) (by omega) _ _ ls hW (lv_sub hl [0, 1, 2, 3, 4, 5, 6, 7] rfl)
                      have hl : lv_has ls 8 [(7, .int (nI 0)), (6, .int (((zf_gives n A (zf_CI n A) (zf_CI n A j) y).2) k)), (5, .ref qk), (4, .int (zf_CI n A j)), (0, .ref (d 0)), (1, .int (nI j)), (2, .int y), (3, .int (nI k))] := hl
                      have hW : ze_W D ((ze_wR c d n (ze_sA A 12 (ze_up (ze_up (A 12) (fun _ => 0) (n 2)) (zf_gives n A (zf_CI n A) (zf_CI n A j) y).2 0)) B (zf_CI n A) 0) ++ [(qk, .inl (c 0, 6, .inl (ze_up (A 12) (fun _ => 0) (n 2))))]) F s.heap _ _ := (by rw [ze_up_0]; exact hW)
                      exact L154 _ 0 (by omega) (Nat.lt_succ_self _) _ _ ls hW (lv_sub hl [0, 1, 2, 3, 4, 5, 6, 7] rfl)
                    · have c114 : i108 < (n 2) := Nat.lt_of_not_le (fun h9 => c114 ((nI_leI (a := (n 2)) (b := i108) (by omega) (by omega)).mpr h9))
                      refine lv_aload hX_ hB_ dX9_share_117 (lv_at hl 1 rfl) ?_
                      refine lv_iload hX_ hB_ dX9_share_119 (lv_at hl 0 rfl) ?_
                      refine lv_aload_n hX_ hB_ dX9_share_121 rfl (lv_at hl 3 rfl) ?_
                      refine ze_get (ci := 9) (C := RX9) (T := TX9) (N := 39) (v := .ref (d 13)) S hiX9 hK hW 0 (ze_appget0 rfl) rfl 12 (by decide) rfl w3 dX9_share_122 ?_
                      refine lv_iload hX_ hB_ dX9_share_125 (lv_at hl 0 rfl) ?_
                      refine ze_ialdN hX_ hB_ hK hW 13 (f := A 12) (ze_appget0 rfl) (i := i108) (by omega) (by decide) dX9_share_127 ?_
                      refine ze_iastN hX_ hB_ hK hW ((ze_wR c d n A B (zf_CI n A) 0).length + 0) (f := (ze_up (A 12) (fun _ => 0) i108)) (ze_appL (k := 0) rfl) (i := i108) (by omega) (by decide) dX9_share_128 (ze_appset rfl) (fun H locs hW => ?_)
                      have hW : ze_W D ((ze_wR c d n A B (zf_CI n A) 0) ++ [(qk, .inl (c 0, 6, .inl (upd (ze_up (A 12) (fun _ => 0) i108) i108 (A 12 i108))))]) F s.heap _ _ := hW
                      refine lv_iinc (v := nI (i108 + 1)) (lv' := [(6, .int (nI (i108 + 1))), (5, .ref qk), (4, .int (zf_CI n A j)), (0, .ref (d 0)), (1, .int (nI j)), (2, .int y), (3, .int (nI k))]) hX_ hB_ dX9_share_129 hl (k := 0) rfl (ze_inc _) (by decide) rfl (fun ls hl => ?_)
                      refine lv_goto (tgt := 108) hX_ hB_ dX9_share_132 (by decide) ?_
                      have eW : ((ze_wR c d n A B (zf_CI n A) 0) ++ [(qk, .inl (c 0, 6, .inl (upd (ze_up (A 12) (fun _ => 0) i108) i108 (A 12 i108))))]) = ((ze_wR c d n A B (zf_CI n A) 0) ++ [(qk, .inl (c 0, 6, .inl (ze_up (A 12) (fun _ => 0) (i108 + 1))))]) := (by rw [ze_up_s rfl])
                      rw [eW] at hW
                      exact ih108 (i108 + 1) (by omega) (by omega) _ _ ls hW (lv_sub hl [0, 1, 2, 3, 4, 5, 6] rfl)
                have hl : lv_has ls 8 [(6, .int (nI 0)), (5, .ref qk), (4, .int (zf_CI n A j)), (0, .ref (d 0)), (1, .int (nI j)), (2, .int y), (3, .int (nI k))] := hl
                have hW : ze_W D ((ze_wR c d n A B (zf_CI n A) 0) ++ [(qk, .inl (c 0, 6, .inl (ze_up (A 12) (fun _ => 0) 0)))]) F s.heap _ _ := (by rw [ze_up_0]; exact hW)
                exact L108 _ 0 (by omega) (Nat.lt_succ_self _) _ _ ls hW (lv_sub hl [0, 1, 2, 3, 4, 5, 6] rfl)
              · exact absurd c94 (by decide)
            · have c82 : ¬ (zf_runs A (zf_CI n A) k (zf_CI n A j)) := ze_bf c82
              exact absurd h2 c82
          · exact absurd c62 (by decide)
        · have c50 : ¬ (zf_isIn y 0 1200) := ze_bf c50
          exact absurd h1 c50
    · have c26 : ¬ (zf_isIn (nI k) 0 (nI (n 2) - 1)) := ze_bf c26
      exact absurd hzk c26
set_option maxHeartbeats 4000000 in
set_option maxRecDepth 100000 in
theorem zr_shareBySteps_t1a (l : Launch) (D : va_G) (c : Nat → ClassId) (d n : Nat → Nat) (A : Nat → Nat → Int32) (B : Nat → Int64) (mk : Nat → Int32) (th : Int32) (x y z : Int32) (hN : zf_N n) (hx : ¬ zf_isIn x 0 (nI (n 0) - 1)) : ze_I l yX9_shareBySteps wsX9_shareBySteps 2 49 1 6 D c (ze_wR c d n A B mk th) [.ref (d 0), .int x, .int y, .int z] 0 (ze_wR c d n A B mk 1) := by
  intro sz
  refine ze_start (cc := cX9_shareBySteps) (maxL := 4) (ret := (some .int)) (own := RX9) (by decide) rfl rfl (Nat.le_of_ble_eq_true rfl) ?_
  intro p e s m_ below meth cd F ls hF hsz E0
  obtain ⟨S, hr, hlocks, hK, hW, hA, hl⟩ := E0
  have hX_ := S.1
  have hB_ := S.2.1
  have hts := S.2.2.2.2
  have hl : lv_has ls 4 [(0, .ref (d 0)), (1, .int x), (2, .int y), (3, .int z)] := hl
  refine lv_aload_n hX_ hB_ dX9_shareBySteps_0 rfl (lv_at hl 0 rfl) ?_
  refine lv_iload_n hX_ hB_ dX9_shareBySteps_1 rfl (lv_at hl 1 rfl) ?_
  refine lv_iload_n hX_ hB_ dX9_shareBySteps_2 rfl (lv_at hl 2 rfl) ?_
  refine lv_iload_n hX_ hB_ dX9_shareBySteps_3 rfl (lv_at hl 3 rfl) ?_
  refine ze_Vi (As := [.int x, .int y, .int z]) (rest := []) (ci := 9) (q0 := 0) (k := (RX9, TX9, 39)) S (zr_share_t1a l D c d n A B mk th x y z hN hx) (cwV 3 hts gX9_shareBySteps_X9_share rfl rfl rfl (by decide +kernel) ⟨Nat.le_of_ble_eq_true rfl, Nat.le_of_ble_eq_true rfl⟩) hK hW hA rfl rfl rfl hl.1 rfl (lv_room (Nat.le_of_ble_eq_true rfl)) dX9_shareBySteps_4 ⟨Nat.le_of_ble_eq_true rfl, Nat.le_of_ble_eq_true rfl⟩ (fun H locs hW => ?_)
  have hW : ze_W D (ze_wR c d n A B mk 1) F s.heap _ _ := hW
  exact ze_iret S hr hlocks hF hK hW rfl dX9_shareBySteps_7 (Nat.le_of_ble_eq_true rfl) (Nat.le_of_ble_eq_true rfl) rfl rfl
set_option maxHeartbeats 4000000 in
set_option maxRecDepth 100000 in
theorem zr_shareBySteps_t1b (l : Launch) (D : va_G) (c : Nat → ClassId) (d n : Nat → Nat) (A : Nat → Nat → Int32) (B : Nat → Int64) (mk : Nat → Int32) (th : Int32) (j : Nat) (hN : zf_N n) (hj : j < n 0) (y : Int32) (z : Int32) (hzo : ¬ zf_isIn z 0 (nI (n 2) - 1)) : ze_I l yX9_shareBySteps wsX9_shareBySteps 2 49 1 6 D c (ze_wR c d n A B mk th) [.ref (d 0), .int (nI j), .int y, .int z] 0 (ze_wR c d n A B mk 1) := by
  intro sz
  refine ze_start (cc := cX9_shareBySteps) (maxL := 4) (ret := (some .int)) (own := RX9) (by decide) rfl rfl (Nat.le_of_ble_eq_true rfl) ?_
  intro p e s m_ below meth cd F ls hF hsz E0
  obtain ⟨S, hr, hlocks, hK, hW, hA, hl⟩ := E0
  have hX_ := S.1
  have hB_ := S.2.1
  have hts := S.2.2.2.2
  have hl : lv_has ls 4 [(0, .ref (d 0)), (1, .int (nI j)), (2, .int y), (3, .int z)] := hl
  refine lv_aload_n hX_ hB_ dX9_shareBySteps_0 rfl (lv_at hl 0 rfl) ?_
  refine lv_iload_n hX_ hB_ dX9_shareBySteps_1 rfl (lv_at hl 1 rfl) ?_
  refine lv_iload_n hX_ hB_ dX9_shareBySteps_2 rfl (lv_at hl 2 rfl) ?_
  refine lv_iload_n hX_ hB_ dX9_shareBySteps_3 rfl (lv_at hl 3 rfl) ?_
  refine ze_Vi (As := [.int (nI j), .int y, .int z]) (rest := []) (ci := 9) (q0 := 0) (k := (RX9, TX9, 39)) S (zr_share_t1b l D c d n A B mk th j hN hj y z hzo) (cwV 3 hts gX9_shareBySteps_X9_share rfl rfl rfl (by decide +kernel) ⟨Nat.le_of_ble_eq_true rfl, Nat.le_of_ble_eq_true rfl⟩) hK hW hA rfl rfl rfl hl.1 rfl (lv_room (Nat.le_of_ble_eq_true rfl)) dX9_shareBySteps_4 ⟨Nat.le_of_ble_eq_true rfl, Nat.le_of_ble_eq_true rfl⟩ (fun H locs hW => ?_)
  have hW : ze_W D (ze_wR c d n A B mk 1) F s.heap _ _ := hW
  exact ze_iret S hr hlocks hF hK hW rfl dX9_shareBySteps_7 (Nat.le_of_ble_eq_true rfl) (Nat.le_of_ble_eq_true rfl) rfl rfl
set_option maxHeartbeats 4000000 in
set_option maxRecDepth 100000 in
theorem zr_shareBySteps_t2 (l : Launch) (D : va_G) (c : Nat → ClassId) (d n : Nat → Nat) (A : Nat → Nat → Int32) (B : Nat → Int64) (mk : Nat → Int32) (th : Int32) (j : Nat) (hN : zf_N n) (hj : j < n 0) (y : Int32) (k : Nat) (hk : k < n 2) (h1 : ¬ zf_isIn y 0 1200) : ze_I l yX9_shareBySteps wsX9_shareBySteps 2 49 1 6 D c (ze_wR c d n A B mk th) [.ref (d 0), .int (nI j), .int y, .int (nI k)] 0 (ze_wR c d n A B mk 2) := by
  intro sz
  refine ze_start (cc := cX9_shareBySteps) (maxL := 4) (ret := (some .int)) (own := RX9) (by decide) rfl rfl (Nat.le_of_ble_eq_true rfl) ?_
  intro p e s m_ below meth cd F ls hF hsz E0
  obtain ⟨S, hr, hlocks, hK, hW, hA, hl⟩ := E0
  have hX_ := S.1
  have hB_ := S.2.1
  have hts := S.2.2.2.2
  have hl : lv_has ls 4 [(0, .ref (d 0)), (1, .int (nI j)), (2, .int y), (3, .int (nI k))] := hl
  refine lv_aload_n hX_ hB_ dX9_shareBySteps_0 rfl (lv_at hl 0 rfl) ?_
  refine lv_iload_n hX_ hB_ dX9_shareBySteps_1 rfl (lv_at hl 1 rfl) ?_
  refine lv_iload_n hX_ hB_ dX9_shareBySteps_2 rfl (lv_at hl 2 rfl) ?_
  refine lv_iload_n hX_ hB_ dX9_shareBySteps_3 rfl (lv_at hl 3 rfl) ?_
  refine ze_Vi (As := [.int (nI j), .int y, .int (nI k)]) (rest := []) (ci := 9) (q0 := 0) (k := (RX9, TX9, 39)) S (zr_share_t2 l D c d n A B mk th j hN hj y k hk h1) (cwV 3 hts gX9_shareBySteps_X9_share rfl rfl rfl (by decide +kernel) ⟨Nat.le_of_ble_eq_true rfl, Nat.le_of_ble_eq_true rfl⟩) hK hW hA rfl rfl rfl hl.1 rfl (lv_room (Nat.le_of_ble_eq_true rfl)) dX9_shareBySteps_4 ⟨Nat.le_of_ble_eq_true rfl, Nat.le_of_ble_eq_true rfl⟩ (fun H locs hW => ?_)
  have hW : ze_W D (ze_wR c d n A B mk 2) F s.heap _ _ := hW
  exact ze_iret S hr hlocks hF hK hW rfl dX9_shareBySteps_7 (Nat.le_of_ble_eq_true rfl) (Nat.le_of_ble_eq_true rfl) rfl rfl
set_option maxHeartbeats 4000000 in
set_option maxRecDepth 100000 in
theorem zr_shareBySteps_t3 (l : Launch) (D : va_G) (c : Nat → ClassId) (d n : Nat → Nat) (A : Nat → Nat → Int32) (B : Nat → Int64) (mk : Nat → Int32) (th : Int32) (j : Nat) (hN : zf_N n) (hj : j < n 0) (y : Int32) (k : Nat) (hk : k < n 2) (hS : zf_S n A) (hz : ∀ s, n 0 ≤ s → mk s = 0) (h1 : zf_isIn y 0 1200) (h2 : ¬ zf_runs A (zf_CI n A) k (zf_CI n A j)) : ze_I l yX9_shareBySteps wsX9_shareBySteps 4 84 1 6 D c (ze_wR c d n A B mk th) [.ref (d 0), .int (nI j), .int y, .int (nI k)] 0 (ze_wR c d n A B (zf_CI n A) 3) := by
  intro sz
  refine ze_start (cc := cX9_shareBySteps) (maxL := 4) (ret := (some .int)) (own := RX9) (by decide) rfl rfl (Nat.le_of_ble_eq_true rfl) ?_
  intro p e s m_ below meth cd F ls hF hsz E0
  obtain ⟨S, hr, hlocks, hK, hW, hA, hl⟩ := E0
  have hX_ := S.1
  have hB_ := S.2.1
  have hts := S.2.2.2.2
  have hl : lv_has ls 4 [(0, .ref (d 0)), (1, .int (nI j)), (2, .int y), (3, .int (nI k))] := hl
  refine lv_aload_n hX_ hB_ dX9_shareBySteps_0 rfl (lv_at hl 0 rfl) ?_
  refine lv_iload_n hX_ hB_ dX9_shareBySteps_1 rfl (lv_at hl 1 rfl) ?_
  refine lv_iload_n hX_ hB_ dX9_shareBySteps_2 rfl (lv_at hl 2 rfl) ?_
  refine lv_iload_n hX_ hB_ dX9_shareBySteps_3 rfl (lv_at hl 3 rfl) ?_
  refine ze_Vi (As := [.int (nI j), .int y, .int (nI k)]) (rest := []) (ci := 9) (q0 := 0) (k := (RX9, TX9, 39)) S (zr_share_t3 l D c d n A B mk th j hN hj y k hk hS hz h1 h2) (cwV 3 hts gX9_shareBySteps_X9_share rfl rfl rfl (by decide +kernel) ⟨Nat.le_of_ble_eq_true rfl, Nat.le_of_ble_eq_true rfl⟩) hK hW hA rfl rfl rfl hl.1 rfl (lv_room (Nat.le_of_ble_eq_true rfl)) dX9_shareBySteps_4 ⟨Nat.le_of_ble_eq_true rfl, Nat.le_of_ble_eq_true rfl⟩ (fun H locs hW => ?_)
  have hW : ze_W D (ze_wR c d n A B (zf_CI n A) 3) F s.heap _ _ := hW
  exact ze_iret S hr hlocks hF hK hW rfl dX9_shareBySteps_7 (Nat.le_of_ble_eq_true rfl) (Nat.le_of_ble_eq_true rfl) rfl rfl
set_option maxHeartbeats 4000000 in
set_option maxRecDepth 100000 in
theorem zr_shareBySteps_f (l : Launch) (D : va_G) (c : Nat → ClassId) (d n : Nat → Nat) (A : Nat → Nat → Int32) (B : Nat → Int64) (mk : Nat → Int32) (th : Int32) (j : Nat) (hN : zf_N n) (hj : j < n 0) (y : Int32) (k : Nat) (hk : k < n 2) (hS : zf_S n A) (hz : ∀ s, n 0 ≤ s → mk s = 0) (h1 : zf_isIn y 0 1200) (h2 : zf_runs A (zf_CI n A) k (zf_CI n A j)) : ze_I l yX9_shareBySteps wsX9_shareBySteps 4 90 1 6 D c (ze_wR c d n A B mk th) [.ref (d 0), .int (nI j), .int y, .int (nI k)] ((zf_gives n A (zf_CI n A) (zf_CI n A j) y).2 k) (ze_wR c d n A B (zf_CI n A) 0) := by
  intro sz
  refine ze_start (cc := cX9_shareBySteps) (maxL := 4) (ret := (some .int)) (own := RX9) (by decide) rfl rfl (Nat.le_of_ble_eq_true rfl) ?_
  intro p e s m_ below meth cd F ls hF hsz E0
  obtain ⟨S, hr, hlocks, hK, hW, hA, hl⟩ := E0
  have hX_ := S.1
  have hB_ := S.2.1
  have hts := S.2.2.2.2
  have hl : lv_has ls 4 [(0, .ref (d 0)), (1, .int (nI j)), (2, .int y), (3, .int (nI k))] := hl
  refine lv_aload_n hX_ hB_ dX9_shareBySteps_0 rfl (lv_at hl 0 rfl) ?_
  refine lv_iload_n hX_ hB_ dX9_shareBySteps_1 rfl (lv_at hl 1 rfl) ?_
  refine lv_iload_n hX_ hB_ dX9_shareBySteps_2 rfl (lv_at hl 2 rfl) ?_
  refine lv_iload_n hX_ hB_ dX9_shareBySteps_3 rfl (lv_at hl 3 rfl) ?_
  refine ze_Vi (As := [.int (nI j), .int y, .int (nI k)]) (rest := []) (ci := 9) (q0 := 0) (k := (RX9, TX9, 39)) S (zr_share_f l D c d n A B mk th j hN hj y k hk hS hz h1 h2) (cwV 3 hts gX9_shareBySteps_X9_share rfl rfl rfl (by decide +kernel) ⟨Nat.le_of_ble_eq_true rfl, Nat.le_of_ble_eq_true rfl⟩) hK hW hA rfl rfl rfl hl.1 rfl (lv_room (Nat.le_of_ble_eq_true rfl)) dX9_shareBySteps_4 ⟨Nat.le_of_ble_eq_true rfl, Nat.le_of_ble_eq_true rfl⟩ (fun H locs hW => ?_)
  have hW : ze_W D (ze_wR c d n A B (zf_CI n A) 0) F s.heap _ _ := hW
  exact ze_iret S hr hlocks hF hK hW rfl dX9_shareBySteps_7 (Nat.le_of_ble_eq_true rfl) (Nat.le_of_ble_eq_true rfl) rfl rfl
