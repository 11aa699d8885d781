set_option maxHeartbeats 4000000 in
set_option maxRecDepth 100000 in
theorem zr_isIn (l : Launch) (D : va_G) (c : Nat → ClassId) (ws : va_W) (x y z : Int32) : ze_I l yX9_isIn wsX9_isIn 0 0 0 0 D c ws [.int x, .int y, .int z] (ze_b (zf_isIn x y z)) ws := by
  intro sz
  refine ze_start (cc := cX9_isIn) (maxL := 3) (ret := (some .boolean)) (own := RX9) (by decide) rfl rfl (Nat.le_of_ble_eq_true rfl) ?_
  intro p e s m_ below meth cd F ls hF hsz E0
  obtain ⟨S, hr, hlocks, hK, hW, hA, hl⟩ := E0
  have hX_ := S.1
  have hB_ := S.2.1
  have hts := S.2.2.2.2
  have hl : lv_has ls 3 [(0, .int x), (1, .int y), (2, .int z)] := hl
  refine lv_iload_n hX_ hB_ dX9_isIn_0 rfl (lv_at hl 0 rfl) ?_
  refine lv_iload_n hX_ hB_ dX9_isIn_1 rfl (lv_at hl 1 rfl) ?_
  refine lv_icmp_lt (tgt := 14) hX_ hB_ dX9_isIn_2 (by decide) (fun c2 => ?_) (fun c2 => ?_)
  · refine lv_iconst (v := 0) hX_ hB_ dX9_isIn_14 (by decide) ?_
    exact ze_iret S hr hlocks hF hK hW rfl dX9_isIn_15 (Nat.le_of_ble_eq_true rfl) (Nat.le_of_ble_eq_true rfl) (by simp only [ze_b, zf_isIn, eq_true c2, not_true_eq_false, not_false_eq_true, and_true, true_and, and_false, false_and, or_true, true_or, or_false, false_or, and_self, or_self, Decidable.not_not, if_true, if_false, reduceIte, reduceCtorEq, ne_eq, eq_self, Int32.lt_irrefl, Int32.le_refl, Nat.lt_irrefl]) rfl
  · refine lv_iload_n hX_ hB_ dX9_isIn_5 rfl (lv_at hl 0 rfl) ?_
    refine lv_iload_n hX_ hB_ dX9_isIn_6 rfl (lv_at hl 2 rfl) ?_
    refine lv_icmp_gt (tgt := 14) hX_ hB_ dX9_isIn_7 (by decide) (fun c7 => ?_) (fun c7 => ?_)
    · refine lv_iconst (v := 0) hX_ hB_ dX9_isIn_14 (by decide) ?_
      exact ze_iret S hr hlocks hF hK hW rfl dX9_isIn_15 (Nat.le_of_ble_eq_true rfl) (Nat.le_of_ble_eq_true rfl) (by simp only [ze_b, zf_isIn, eq_false c2, eq_true c7, not_true_eq_false, not_false_eq_true, and_true, true_and, and_false, false_and, or_true, true_or, or_false, false_or, and_self, or_self, Decidable.not_not, if_true, if_false, reduceIte, reduceCtorEq, ne_eq, eq_self, Int32.lt_irrefl, Int32.le_refl, Nat.lt_irrefl]) rfl
    · refine lv_iconst (v := 1) hX_ hB_ dX9_isIn_10 (by decide) ?_
      refine lv_goto (tgt := 15) hX_ hB_ dX9_isIn_11 (by decide) ?_
      exact ze_iret S hr hlocks hF hK hW rfl dX9_isIn_15 (Nat.le_of_ble_eq_true rfl) (Nat.le_of_ble_eq_true rfl) (by simp only [ze_b, zf_isIn, eq_false c2, eq_false c7, not_true_eq_false, not_false_eq_true, and_true, true_and, and_false, false_and, or_true, true_or, or_false, false_or, and_self, or_self, Decidable.not_not, if_true, if_false, reduceIte, reduceCtorEq, ne_eq, eq_self, Int32.lt_irrefl, Int32.le_refl, Nat.lt_irrefl]) rfl
set_option maxHeartbeats 4000000 in
set_option maxRecDepth 100000 in
theorem zr_isThrown (l : Launch) (D : va_G) (c : Nat → ClassId) (d n : Nat → Nat) (A : Nat → Nat → Int32) (B : Nat → Int64) (mk : Nat → Int32) (th : Int32) (x y t2 : Int32) (hx : narrow .boolean (.int x) = .int x) (ht : (if x = 0 then 0 else y) = t2) : ze_I l yX9_isThrown wsX9_isThrown 0 0 0 0 D c (ze_wR c d n A B mk th) [.ref (d 0), .int x, .int y] x (ze_wR c d n A B mk t2) := by
  intro sz
  refine ze_start (cc := cX9_isThrown) (maxL := 3) (ret := (some .boolean)) (own := RX9) (by decide) rfl rfl (Nat.le_of_ble_eq_true rfl) ?_
  have hx0 : narrow .boolean (.int x) = .int x := hx
  intro p e s m_ below meth cd F ls hF hsz E0
  obtain ⟨S, hr, hlocks, hK, hW, hA, hl⟩ := E0
  have hX_ := S.1
  have hB_ := S.2.1
  have hts := S.2.2.2.2
  have hl : lv_has ls 3 [(0, .ref (d 0)), (1, .int x), (2, .int y)] := hl
  have hiX9 : ∀ w ∈ u_ws RX9 TX9 39, w ∈ wsX9_isThrown := fun _ h => (List.mem_cons_of_mem _ (List.mem_append_right _ h))
  have w0 := hts (.fieldLink RX9 85 "IslandgridModel" "thrown" "I") (List.mem_cons_of_mem _ (List.mem_append_left _ (List.mem_of_getElem? (i := 0) rfl)))
  refine lv_aload_n hX_ hB_ dX9_isThrown_0 rfl (lv_at hl 0 rfl) ?_
  refine lv_iload_n hX_ hB_ dX9_isThrown_1 rfl (lv_at hl 1 rfl) ?_
  refine lv_if_eq (tgt := 9) hX_ hB_ dX9_isThrown_2 (by decide) (fun c2 => ?_) (fun c2 => ?_)
  · refine lv_iconst (v := 0) hX_ hB_ dX9_isThrown_9 (by decide) ?_
    refine ze_put (ci := 9) (C := RX9) (T := TX9) (N := 39) (v := .int 0) S hiX9 tyX9 tyX9_ok nmX9 hK hW 0 rfl rfl 32 (by decide) (Nat.le_of_ble_eq_true rfl) rfl rfl rfl w0 dX9_isThrown_10 (ze_pR32 0 _ _ _ _ _ _ _) (fun H locs hW => ?_)
    have hW : ze_W D (ze_wR c d n A B mk 0) F s.heap _ _ := hW
    refine lv_iload_n hX_ hB_ dX9_isThrown_13 rfl (lv_at hl 1 rfl) ?_
    exact ze_iret S hr hlocks hF hK hW hx0 dX9_isThrown_14 (Nat.le_of_ble_eq_true rfl) (Nat.le_of_ble_eq_true rfl) rfl (by rw [← ht, if_pos c2])
  · refine lv_iload_n hX_ hB_ dX9_isThrown_5 rfl (lv_at hl 2 rfl) ?_
    refine lv_goto (tgt := 10) hX_ hB_ dX9_isThrown_6 (by decide) ?_
    refine ze_put (ci := 9) (C := RX9) (T := TX9) (N := 39) (v := .int y) S hiX9 tyX9 tyX9_ok nmX9 hK hW 0 rfl rfl 32 (by decide) (Nat.le_of_ble_eq_true rfl) rfl rfl rfl w0 dX9_isThrown_10 (ze_pR32 y _ _ _ _ _ _ _) (fun H locs hW => ?_)
    have hW : ze_W D (ze_wR c d n A B mk y) F s.heap _ _ := hW
    refine lv_iload_n hX_ hB_ dX9_isThrown_13 rfl (lv_at hl 1 rfl) ?_
    exact ze_iret S hr hlocks hF hK hW hx0 dX9_isThrown_14 (Nat.le_of_ble_eq_true rfl) (Nat.le_of_ble_eq_true rfl) rfl (by rw [← ht, if_neg c2])
set_option maxHeartbeats 4000000 in
set_option maxRecDepth 100000 in
theorem zr_isNoSite (l : Launch) (D : va_G) (c : Nat → ClassId) (d n : Nat → Nat) (A : Nat → Nat → Int32) (B : Nat → Int64) (mk : Nat → Int32) (th : Int32) (x : Int32) : ze_I l yX9_isNoSite wsX9_isNoSite 1 22 0 0 D c (ze_wR c d n A B mk th) [.ref (d 0), .int x] (ze_b (¬ zf_isIn x 0 (nI (n 0) - 1))) (ze_wR c d n A B mk (if zf_isIn x 0 (nI (n 0) - 1) then 0 else 1)) := by
  intro sz
  refine ze_start (cc := cX9_isNoSite) (maxL := 2) (ret := (some .boolean)) (own := RX9) (by decide) rfl rfl (Nat.le_of_ble_eq_true rfl) ?_
  intro p e s m_ below meth cd F ls hF hsz E0
  obtain ⟨S, hr, hlocks, hK, hW, hA, hl⟩ := E0
  have hX_ := S.1
  have hB_ := S.2.1
  have hts := S.2.2.2.2
  have hl : lv_has ls 2 [(0, .ref (d 0)), (1, .int x)] := hl
  have hiX9 : ∀ w ∈ u_ws RX9 TX9 39, w ∈ wsX9_isNoSite := fun _ h => (List.mem_cons_of_mem _ (List.mem_append_right _ h))
  have w0 := hts (.fieldLink RX9 88 "IslandgridModel" "sites" "I") (List.mem_cons_of_mem _ (List.mem_append_left _ (List.mem_of_getElem? (i := 0) rfl)))
  refine lv_aload_n hX_ hB_ dX9_isNoSite_0 rfl (lv_at hl 0 rfl) ?_
  refine lv_iload_n hX_ hB_ dX9_isNoSite_1 rfl (lv_at hl 1 rfl) ?_
  refine lv_iconst (v := 0) hX_ hB_ dX9_isNoSite_2 (by decide) ?_
  refine lv_aload_n hX_ hB_ dX9_isNoSite_3 rfl (lv_at hl 0 rfl) ?_
  refine ze_get (ci := 9) (C := RX9) (T := TX9) (N := 39) (v := .int (nI (n 0))) S hiX9 hK hW 0 rfl rfl 23 (by decide) rfl w0 dX9_isNoSite_4 ?_
  refine lv_iconst (v := 1) hX_ hB_ dX9_isNoSite_7 (by decide) ?_
  refine lv_isub hX_ hB_ dX9_isNoSite_8 ?_
  refine ze_Si (As := [.int x, .int 0, .int (nI (n 0) - 1)]) (rest := [.ref (d 0)]) S (zr_isIn l D c (ze_wR c d n A B mk th) x 0 (nI (n 0) - 1)) (va_cwS 3 hts gX9_isNoSite_X9_isIn rfl rfl rfl (by decide +kernel) ⟨Nat.le_of_ble_eq_true rfl, Nat.le_of_ble_eq_true rfl⟩) hK hW hA rfl hl.1 rfl (lv_room (Nat.le_of_ble_eq_true rfl)) dX9_isNoSite_9 ⟨Nat.le_of_ble_eq_true rfl, Nat.le_of_ble_eq_true rfl⟩ (fun H locs hW => ?_)
  refine lv_if_ne (tgt := 19) hX_ hB_ dX9_isNoSite_12 (by decide) (fun c12 => ?_) (fun c12 => ?_)
  · have c12 : zf_isIn x 0 (nI (n 0) - 1) := ze_bt c12
    refine lv_iconst (v := 0) hX_ hB_ dX9_isNoSite_19 (by decide) ?_
    refine lv_iconst (v := 1) hX_ hB_ dX9_isNoSite_20 (by decide) ?_
    refine ze_Vi (As := [.int 0, .int 1]) (rest := []) (ci := 9) (q0 := 0) (k := (RX9, TX9, 39)) S (zr_isThrown l D c d n A B mk th 0 1 0 rfl (if_pos rfl)) (cwV 2 hts gX9_isNoSite_X9_isThrown rfl rfl rfl (by decide +kernel) ⟨Nat.le_of_ble_eq_true rfl, Nat.le_of_ble_eq_true rfl⟩) hK hW hA rfl rfl rfl hl.1 rfl (lv_room (Nat.le_of_ble_eq_true rfl)) dX9_isNoSite_21 ⟨Nat.le_of_ble_eq_true rfl, Nat.le_of_ble_eq_true rfl⟩ (fun H locs hW => ?_)
    have hW : ze_W D (ze_wR c d n A B mk 0) F s.heap _ _ := hW
    exact ze_iret S hr hlocks hF hK hW rfl dX9_isNoSite_24 (Nat.le_of_ble_eq_true rfl) (Nat.le_of_ble_eq_true rfl) (by simp only [ze_b, eq_true c12, not_true_eq_false, not_false_eq_true, and_true, true_and, and_false, false_and, or_true, true_or, or_false, false_or, and_self, or_self, Decidable.not_not, if_true, if_false, reduceIte, reduceCtorEq, ne_eq, eq_self, Int32.lt_irrefl, Int32.le_refl, Nat.lt_irrefl]) (by simp only [ze_b, eq_true c12, not_true_eq_false, not_false_eq_true, and_true, true_and, and_false, false_and, or_true, true_or, or_false, false_or, and_self, or_self, Decidable.not_not, if_true, if_false, reduceIte, reduceCtorEq, ne_eq, eq_self, Int32.lt_irrefl, Int32.le_refl, Nat.lt_irrefl])
  · have c12 : ¬ (zf_isIn x 0 (nI (n 0) - 1)) := ze_bf c12
    refine lv_iconst (v := 1) hX_ hB_ dX9_isNoSite_15 (by decide) ?_
    refine lv_goto (tgt := 20) hX_ hB_ dX9_isNoSite_16 (by decide) ?_
    refine lv_iconst (v := 1) hX_ hB_ dX9_isNoSite_20 (by decide) ?_
    refine ze_Vi (As := [.int 1, .int 1]) (rest := []) (ci := 9) (q0 := 0) (k := (RX9, TX9, 39)) S (zr_isThrown l D c d n A B mk th 1 1 1 rfl (if_neg (by decide))) (cwV 2 hts gX9_isNoSite_X9_isThrown rfl rfl rfl (by decide +kernel) ⟨Nat.le_of_ble_eq_true rfl, Nat.le_of_ble_eq_true rfl⟩) hK hW hA rfl rfl rfl hl.1 rfl (lv_room (Nat.le_of_ble_eq_true rfl)) dX9_isNoSite_21 ⟨Nat.le_of_ble_eq_true rfl, Nat.le_of_ble_eq_true rfl⟩ (fun H locs hW => ?_)
    have hW : ze_W D (ze_wR c d n A B mk 1) F s.heap _ _ := hW
    exact ze_iret S hr hlocks hF hK hW rfl dX9_isNoSite_24 (Nat.le_of_ble_eq_true rfl) (Nat.le_of_ble_eq_true rfl) (by simp only [ze_b, eq_false c12, not_true_eq_false, not_false_eq_true, and_true, true_and, and_false, false_and, or_true, true_or, or_false, false_or, and_self, or_self, Decidable.not_not, if_true, if_false, reduceIte, reduceCtorEq, ne_eq, eq_self, Int32.lt_irrefl, Int32.le_refl, Nat.lt_irrefl]) (by simp only [ze_b, eq_false c12, not_true_eq_false, not_false_eq_true, and_true, true_and, and_false, false_and, or_true, true_or, or_false, false_or, and_self, or_self, Decidable.not_not, if_true, if_false, reduceIte, reduceCtorEq, ne_eq, eq_self, Int32.lt_irrefl, Int32.le_refl, Nat.lt_irrefl])
set_option maxHeartbeats 4000000 in
set_option maxRecDepth 100000 in
theorem zr_isNoLine (l : Launch) (D : va_G) (c : Nat → ClassId) (d n : Nat → Nat) (A : Nat → Nat → Int32) (B : Nat → Int64) (mk : Nat → Int32) (th : Int32) (x : Int32) : ze_I l yX9_isNoLine wsX9_isNoLine 1 22 0 0 D c (ze_wR c d n A B mk th) [.ref (d 0), .int x] (ze_b (¬ zf_isIn x 0 (nI (n 1) - 1))) (ze_wR c d n A B mk (if zf_isIn x 0 (nI (n 1) - 1) then 0 else 1)) := by
  intro sz
  refine ze_start (cc := cX9_isNoLine) (maxL := 2) (ret := (some .boolean)) (own := RX9) (by decide) rfl rfl (Nat.le_of_ble_eq_true rfl) ?_
  intro p e s m_ below meth cd F ls hF hsz E0
  obtain ⟨S, hr, hlocks, hK, hW, hA, hl⟩ := E0
  have hX_ := S.1
  have hB_ := S.2.1
  have hts := S.2.2.2.2
  have hl : lv_has ls 2 [(0, .ref (d 0)), (1, .int x)] := hl
  have hiX9 : ∀ w ∈ u_ws RX9 TX9 39, w ∈ wsX9_isNoLine := fun _ h => (List.mem_cons_of_mem _ (List.mem_append_right _ h))
  have w0 := hts (.fieldLink RX9 99 "IslandgridModel" "lines" "I") (List.mem_cons_of_mem _ (List.mem_append_left _ (List.mem_of_getElem? (i := 0) rfl)))
  refine lv_aload_n hX_ hB_ dX9_isNoLine_0 rfl (lv_at hl 0 rfl) ?_
  refine lv_iload_n hX_ hB_ dX9_isNoLine_1 rfl (lv_at hl 1 rfl) ?_
  refine lv_iconst (v := 0) hX_ hB_ dX9_isNoLine_2 (by decide) ?_
  refine lv_aload_n hX_ hB_ dX9_isNoLine_3 rfl (lv_at hl 0 rfl) ?_
  refine ze_get (ci := 9) (C := RX9) (T := TX9) (N := 39) (v := .int (nI (n 1))) S hiX9 hK hW 0 rfl rfl 24 (by decide) rfl w0 dX9_isNoLine_4 ?_
  refine lv_iconst (v := 1) hX_ hB_ dX9_isNoLine_7 (by decide) ?_
  refine lv_isub hX_ hB_ dX9_isNoLine_8 ?_
  refine ze_Si (As := [.int x, .int 0, .int (nI (n 1) - 1)]) (rest := [.ref (d 0)]) S (zr_isIn l D c (ze_wR c d n A B mk th) x 0 (nI (n 1) - 1)) (va_cwS 3 hts gX9_isNoLine_X9_isIn rfl rfl rfl (by decide +kernel) ⟨Nat.le_of_ble_eq_true rfl, Nat.le_of_ble_eq_true rfl⟩) hK hW hA rfl hl.1 rfl (lv_room (Nat.le_of_ble_eq_true rfl)) dX9_isNoLine_9 ⟨Nat.le_of_ble_eq_true rfl, Nat.le_of_ble_eq_true rfl⟩ (fun H locs hW => ?_)
  refine lv_if_ne (tgt := 19) hX_ hB_ dX9_isNoLine_12 (by decide) (fun c12 => ?_) (fun c12 => ?_)
  · have c12 : zf_isIn x 0 (nI (n 1) - 1) := ze_bt c12
    refine lv_iconst (v := 0) hX_ hB_ dX9_isNoLine_19 (by decide) ?_
    refine lv_iconst (v := 1) hX_ hB_ dX9_isNoLine_20 (by decide) ?_
    refine ze_Vi (As := [.int 0, .int 1]) (rest := []) (ci := 9) (q0 := 0) (k := (RX9, TX9, 39)) S (zr_isThrown l D c d n A B mk th 0 1 0 rfl (if_pos rfl)) (cwV 2 hts gX9_isNoLine_X9_isThrown rfl rfl rfl (by decide +kernel) ⟨Nat.le_of_ble_eq_true rfl, Nat.le_of_ble_eq_true rfl⟩) hK hW hA rfl rfl rfl hl.1 rfl (lv_room (Nat.le_of_ble_eq_true rfl)) dX9_isNoLine_21 ⟨Nat.le_of_ble_eq_true rfl, Nat.le_of_ble_eq_true rfl⟩ (fun H locs hW => ?_)
    have hW : ze_W D (ze_wR c d n A B mk 0) F s.heap _ _ := hW
    exact ze_iret S hr hlocks hF hK hW rfl dX9_isNoLine_24 (Nat.le_of_ble_eq_true rfl) (Nat.le_of_ble_eq_true rfl) (by simp only [ze_b, eq_true c12, not_true_eq_false, not_false_eq_true, and_true, true_and, and_false, false_and, or_true, true_or, or_false, false_or, and_self, or_self, Decidable.not_not, if_true, if_false, reduceIte, reduceCtorEq, ne_eq, eq_self, Int32.lt_irrefl, Int32.le_refl, Nat.lt_irrefl]) (by simp only [ze_b, eq_true c12, not_true_eq_false, not_false_eq_true, and_true, true_and, and_false, false_and, or_true, true_or, or_false, false_or, and_self, or_self, Decidable.not_not, if_true, if_false, reduceIte, reduceCtorEq, ne_eq, eq_self, Int32.lt_irrefl, Int32.le_refl, Nat.lt_irrefl])
  · have c12 : ¬ (zf_isIn x 0 (nI (n 1) - 1)) := ze_bf c12
    refine lv_iconst (v := 1) hX_ hB_ dX9_isNoLine_15 (by decide) ?_
    refine lv_goto (tgt := 20) hX_ hB_ dX9_isNoLine_16 (by decide) ?_
    refine lv_iconst (v := 1) hX_ hB_ dX9_isNoLine_20 (by decide) ?_
    refine ze_Vi (As := [.int 1, .int 1]) (rest := []) (ci := 9) (q0 := 0) (k := (RX9, TX9, 39)) S (zr_isThrown l D c d n A B mk th 1 1 1 rfl (if_neg (by decide))) (cwV 2 hts gX9_isNoLine_X9_isThrown rfl rfl rfl (by decide +kernel) ⟨Nat.le_of_ble_eq_true rfl, Nat.le_of_ble_eq_true rfl⟩) hK hW hA rfl rfl rfl hl.1 rfl (lv_room (Nat.le_of_ble_eq_true rfl)) dX9_isNoLine_21 ⟨Nat.le_of_ble_eq_true rfl, Nat.le_of_ble_eq_true rfl⟩ (fun H locs hW => ?_)
    have hW : ze_W D (ze_wR c d n A B mk 1) F s.heap _ _ := hW
    exact ze_iret S hr hlocks hF hK hW rfl dX9_isNoLine_24 (Nat.le_of_ble_eq_true rfl) (Nat.le_of_ble_eq_true rfl) (by simp only [ze_b, eq_false c12, not_true_eq_false, not_false_eq_true, and_true, true_and, and_false, false_and, or_true, true_or, or_false, false_or, and_self, or_self, Decidable.not_not, if_true, if_false, reduceIte, reduceCtorEq, ne_eq, eq_self, Int32.lt_irrefl, Int32.le_refl, Nat.lt_irrefl]) (by simp only [ze_b, eq_false c12, not_true_eq_false, not_false_eq_true, and_true, true_and, and_false, false_and, or_true, true_or, or_false, false_or, and_self, or_self, Decidable.not_not, if_true, if_false, reduceIte, reduceCtorEq, ne_eq, eq_self, Int32.lt_irrefl, Int32.le_refl, Nat.lt_irrefl])
set_option maxHeartbeats 4000000 in
set_option maxRecDepth 100000 in
theorem zr_isNoGenerator (l : Launch) (D : va_G) (c : Nat → ClassId) (d n : Nat → Nat) (A : Nat → Nat → Int32) (B : Nat → Int64) (mk : Nat → Int32) (th : Int32) (x : Int32) : ze_I l yX9_isNoGenerator wsX9_isNoGenerator 1 22 0 0 D c (ze_wR c d n A B mk th) [.ref (d 0), .int x] (ze_b (¬ zf_isIn x 0 (nI (n 2) - 1))) (ze_wR c d n A B mk (if zf_isIn x 0 (nI (n 2) - 1) then 0 else 1)) := by
  intro sz
  refine ze_start (cc := cX9_isNoGenerator) (maxL := 2) (ret := (some .boolean)) (own := RX9) (by decide) rfl rfl (Nat.le_of_ble_eq_true rfl) ?_
  intro p e s m_ below meth cd F ls hF hsz E0
  obtain ⟨S, hr, hlocks, hK, hW, hA, hl⟩ := E0
  have hX_ := S.1
  have hB_ := S.2.1
  have hts := S.2.2.2.2
  have hl : lv_has ls 2 [(0, .ref (d 0)), (1, .int x)] := hl
  have hiX9 : ∀ w ∈ u_ws RX9 TX9 39, w ∈ wsX9_isNoGenerator := fun _ h => (List.mem_cons_of_mem _ (List.mem_append_right _ h))
  have w0 := hts (.fieldLink RX9 102 "IslandgridModel" "generators" "I") (List.mem_cons_of_mem _ (List.mem_append_left _ (List.mem_of_getElem? (i := 0) rfl)))
  refine lv_aload_n hX_ hB_ dX9_isNoGenerator_0 rfl (lv_at hl 0 rfl) ?_
  refine lv_iload_n hX_ hB_ dX9_isNoGenerator_1 rfl (lv_at hl 1 rfl) ?_
  refine lv_iconst (v := 0) hX_ hB_ dX9_isNoGenerator_2 (by decide) ?_
  refine lv_aload_n hX_ hB_ dX9_isNoGenerator_3 rfl (lv_at hl 0 rfl) ?_
  refine ze_get (ci := 9) (C := RX9) (T := TX9) (N := 39) (v := .int (nI (n 2))) S hiX9 hK hW 0 rfl rfl 25 (by decide) rfl w0 dX9_isNoGenerator_4 ?_
  refine lv_iconst (v := 1) hX_ hB_ dX9_isNoGenerator_7 (by decide) ?_
  refine lv_isub hX_ hB_ dX9_isNoGenerator_8 ?_
  refine ze_Si (As := [.int x, .int 0, .int (nI (n 2) - 1)]) (rest := [.ref (d 0)]) S (zr_isIn l D c (ze_wR c d n A B mk th) x 0 (nI (n 2) - 1)) (va_cwS 3 hts gX9_isNoGenerator_X9_isIn rfl rfl rfl (by decide +kernel) ⟨Nat.le_of_ble_eq_true rfl, Nat.le_of_ble_eq_true rfl⟩) hK hW hA rfl hl.1 rfl (lv_room (Nat.le_of_ble_eq_true rfl)) dX9_isNoGenerator_9 ⟨Nat.le_of_ble_eq_true rfl, Nat.le_of_ble_eq_true rfl⟩ (fun H locs hW => ?_)
  refine lv_if_ne (tgt := 19) hX_ hB_ dX9_isNoGenerator_12 (by decide) (fun c12 => ?_) (fun c12 => ?_)
  · have c12 : zf_isIn x 0 (nI (n 2) - 1) := ze_bt c12
    refine lv_iconst (v := 0) hX_ hB_ dX9_isNoGenerator_19 (by decide) ?_
    refine lv_iconst (v := 1) hX_ hB_ dX9_isNoGenerator_20 (by decide) ?_
    refine ze_Vi (As := [.int 0, .int 1]) (rest := []) (ci := 9) (q0 := 0) (k := (RX9, TX9, 39)) S (zr_isThrown l D c d n A B mk th 0 1 0 rfl (if_pos rfl)) (cwV 2 hts gX9_isNoGenerator_X9_isThrown rfl rfl rfl (by decide +kernel) ⟨Nat.le_of_ble_eq_true rfl, Nat.le_of_ble_eq_true rfl⟩) hK hW hA rfl rfl rfl hl.1 rfl (lv_room (Nat.le_of_ble_eq_true rfl)) dX9_isNoGenerator_21 ⟨Nat.le_of_ble_eq_true rfl, Nat.le_of_ble_eq_true rfl⟩ (fun H locs hW => ?_)
    have hW : ze_W D (ze_wR c d n A B mk 0) F s.heap _ _ := hW
    exact ze_iret S hr hlocks hF hK hW rfl dX9_isNoGenerator_24 (Nat.le_of_ble_eq_true rfl) (Nat.le_of_ble_eq_true rfl) (by simp only [ze_b, eq_true c12, not_true_eq_false, not_false_eq_true, and_true, true_and, and_false, false_and, or_true, true_or, or_false, false_or, and_self, or_self, Decidable.not_not, if_true, if_false, reduceIte, reduceCtorEq, ne_eq, eq_self, Int32.lt_irrefl, Int32.le_refl, Nat.lt_irrefl]) (by simp only [ze_b, eq_true c12, not_true_eq_false, not_false_eq_true, and_true, true_and, and_false, false_and, or_true, true_or, or_false, false_or, and_self, or_self, Decidable.not_not, if_true, if_false, reduceIte, reduceCtorEq, ne_eq, eq_self, Int32.lt_irrefl, Int32.le_refl, Nat.lt_irrefl])
  · have c12 : ¬ (zf_isIn x 0 (nI (n 2) - 1)) := ze_bf c12
    refine lv_iconst (v := 1) hX_ hB_ dX9_isNoGenerator_15 (by decide) ?_
    refine lv_goto (tgt := 20) hX_ hB_ dX9_isNoGenerator_16 (by decide) ?_
    refine lv_iconst (v := 1) hX_ hB_ dX9_isNoGenerator_20 (by decide) ?_
    refine ze_Vi (As := [.int 1, .int 1]) (rest := []) (ci := 9) (q0 := 0) (k := (RX9, TX9, 39)) S (zr_isThrown l D c d n A B mk th 1 1 1 rfl (if_neg (by decide))) (cwV 2 hts gX9_isNoGenerator_X9_isThrown rfl rfl rfl (by decide +kernel) ⟨Nat.le_of_ble_eq_true rfl, Nat.le_of_ble_eq_true rfl⟩) hK hW hA rfl rfl rfl hl.1 rfl (lv_room (Nat.le_of_ble_eq_true rfl)) dX9_isNoGenerator_21 ⟨Nat.le_of_ble_eq_true rfl, Nat.le_of_ble_eq_true rfl⟩ (fun H locs hW => ?_)
    have hW : ze_W D (ze_wR c d n A B mk 1) F s.heap _ _ := hW
    exact ze_iret S hr hlocks hF hK hW rfl dX9_isNoGenerator_24 (Nat.le_of_ble_eq_true rfl) (Nat.le_of_ble_eq_true rfl) (by simp only [ze_b, eq_false c12, not_true_eq_false, not_false_eq_true, and_true, true_and, and_false, false_and, or_true, true_or, or_false, false_or, and_self, or_self, Decidable.not_not, if_true, if_false, reduceIte, reduceCtorEq, ne_eq, eq_self, Int32.lt_irrefl, Int32.le_refl, Nat.lt_irrefl]) (by simp only [ze_b, eq_false c12, not_true_eq_false, not_false_eq_true, and_true, true_and, and_false, false_and, or_true, true_or, or_false, false_or, and_self, or_self, Decidable.not_not, if_true, if_false, reduceIte, reduceCtorEq, ne_eq, eq_self, Int32.lt_irrefl, Int32.le_refl, Nat.lt_irrefl])
set_option maxHeartbeats 4000000 in
set_option maxRecDepth 100000 in
theorem zr_isNoStore (l : Launch) (D : va_G) (c : Nat → ClassId) (d n : Nat → Nat) (A : Nat → Nat → Int32) (B : Nat → Int64) (mk : Nat → Int32) (th : Int32) (x : Int32) : ze_I l yX9_isNoStore wsX9_isNoStore 1 22 0 0 D c (ze_wR c d n A B mk th) [.ref (d 0), .int x] (ze_b (¬ zf_isIn x 0 (nI (n 3) - 1))) (ze_wR c d n A B mk (if zf_isIn x 0 (nI (n 3) - 1) then 0 else 1)) := by
  intro sz
  refine ze_start (cc := cX9_isNoStore) (maxL := 2) (ret := (some .boolean)) (own := RX9) (by decide) rfl rfl (Nat.le_of_ble_eq_true rfl) ?_
  intro p e s m_ below meth cd F ls hF hsz E0
  obtain ⟨S, hr, hlocks, hK, hW, hA, hl⟩ := E0
  have hX_ := S.1
  have hB_ := S.2.1
  have hts := S.2.2.2.2
  have hl : lv_has ls 2 [(0, .ref (d 0)), (1, .int x)] := hl
  have hiX9 : ∀ w ∈ u_ws RX9 TX9 39, w ∈ wsX9_isNoStore := fun _ h => (List.mem_cons_of_mem _ (List.mem_append_right _ h))
  have w0 := hts (.fieldLink RX9 105 "IslandgridModel" "stores" "I") (List.mem_cons_of_mem _ (List.mem_append_left _ (List.mem_of_getElem? (i := 0) rfl)))
  refine lv_aload_n hX_ hB_ dX9_isNoStore_0 rfl (lv_at hl 0 rfl) ?_
  refine lv_iload_n hX_ hB_ dX9_isNoStore_1 rfl (lv_at hl 1 rfl) ?_
  refine lv_iconst (v := 0) hX_ hB_ dX9_isNoStore_2 (by decide) ?_
  refine lv_aload_n hX_ hB_ dX9_isNoStore_3 rfl (lv_at hl 0 rfl) ?_
  refine ze_get (ci := 9) (C := RX9) (T := TX9) (N := 39) (v := .int (nI (n 3))) S hiX9 hK hW 0 rfl rfl 26 (by decide) rfl w0 dX9_isNoStore_4 ?_
  refine lv_iconst (v := 1) hX_ hB_ dX9_isNoStore_7 (by decide) ?_
  refine lv_isub hX_ hB_ dX9_isNoStore_8 ?_
  refine ze_Si (As := [.int x, .int 0, .int (nI (n 3) - 1)]) (rest := [.ref (d 0)]) S (zr_isIn l D c (ze_wR c d n A B mk th) x 0 (nI (n 3) - 1)) (va_cwS 3 hts gX9_isNoStore_X9_isIn rfl rfl rfl (by decide +kernel) ⟨Nat.le_of_ble_eq_true rfl, Nat.le_of_ble_eq_true rfl⟩) hK hW hA rfl hl.1 rfl (lv_room (Nat.le_of_ble_eq_true rfl)) dX9_isNoStore_9 ⟨Nat.le_of_ble_eq_true rfl, Nat.le_of_ble_eq_true rfl⟩ (fun H locs hW => ?_)
  refine lv_if_ne (tgt := 19) hX_ hB_ dX9_isNoStore_12 (by decide) (fun c12 => ?_) (fun c12 => ?_)
  · have c12 : zf_isIn x 0 (nI (n 3) - 1) := ze_bt c12
    refine lv_iconst (v := 0) hX_ hB_ dX9_isNoStore_19 (by decide) ?_
    refine lv_iconst (v := 1) hX_ hB_ dX9_isNoStore_20 (by decide) ?_
    refine ze_Vi (As := [.int 0, .int 1]) (rest := []) (ci := 9) (q0 := 0) (k := (RX9, TX9, 39)) S (zr_isThrown l D c d n A B mk th 0 1 0 rfl (if_pos rfl)) (cwV 2 hts gX9_isNoStore_X9_isThrown rfl rfl rfl (by decide +kernel) ⟨Nat.le_of_ble_eq_true rfl, Nat.le_of_ble_eq_true rfl⟩) hK hW hA rfl rfl rfl hl.1 rfl (lv_room (Nat.le_of_ble_eq_true rfl)) dX9_isNoStore_21 ⟨Nat.le_of_ble_eq_true rfl, Nat.le_of_ble_eq_true rfl⟩ (fun H locs hW => ?_)
    have hW : ze_W D (ze_wR c d n A B mk 0) F s.heap _ _ := hW
    exact ze_iret S hr hlocks hF hK hW rfl dX9_isNoStore_24 (Nat.le_of_ble_eq_true rfl) (Nat.le_of_ble_eq_true rfl) (by simp only [ze_b, eq_true c12, not_true_eq_false, not_false_eq_true, and_true, true_and, and_false, false_and, or_true, true_or, or_false, false_or, and_self, or_self, Decidable.not_not, if_true, if_false, reduceIte, reduceCtorEq, ne_eq, eq_self, Int32.lt_irrefl, Int32.le_refl, Nat.lt_irrefl]) (by simp only [ze_b, eq_true c12, not_true_eq_false, not_false_eq_true, and_true, true_and, and_false, false_and, or_true, true_or, or_false, false_or, and_self, or_self, Decidable.not_not, if_true, if_false, reduceIte, reduceCtorEq, ne_eq, eq_self, Int32.lt_irrefl, Int32.le_refl, Nat.lt_irrefl])
  · have c12 : ¬ (zf_isIn x 0 (nI (n 3) - 1)) := ze_bf c12
    refine lv_iconst (v := 1) hX_ hB_ dX9_isNoStore_15 (by decide) ?_
    refine lv_goto (tgt := 20) hX_ hB_ dX9_isNoStore_16 (by decide) ?_
    refine lv_iconst (v := 1) hX_ hB_ dX9_isNoStore_20 (by decide) ?_
    refine ze_Vi (As := [.int 1, .int 1]) (rest := []) (ci := 9) (q0 := 0) (k := (RX9, TX9, 39)) S (zr_isThrown l D c d n A B mk th 1 1 1 rfl (if_neg (by decide))) (cwV 2 hts gX9_isNoStore_X9_isThrown rfl rfl rfl (by decide +kernel) ⟨Nat.le_of_ble_eq_true rfl, Nat.le_of_ble_eq_true rfl⟩) hK hW hA rfl rfl rfl hl.1 rfl (lv_room (Nat.le_of_ble_eq_true rfl)) dX9_isNoStore_21 ⟨Nat.le_of_ble_eq_true rfl, Nat.le_of_ble_eq_true rfl⟩ (fun H locs hW => ?_)
    have hW : ze_W D (ze_wR c d n A B mk 1) F s.heap _ _ := hW
    exact ze_iret S hr hlocks hF hK hW rfl dX9_isNoStore_24 (Nat.le_of_ble_eq_true rfl) (Nat.le_of_ble_eq_true rfl) (by simp only [ze_b, eq_false c12, not_true_eq_false, not_false_eq_true, and_true, true_and, and_false, false_and, or_true, true_or, or_false, false_or, and_self, or_self, Decidable.not_not, if_true, if_false, reduceIte, reduceCtorEq, ne_eq, eq_self, Int32.lt_irrefl, Int32.le_refl, Nat.lt_irrefl]) (by simp only [ze_b, eq_false c12, not_true_eq_false, not_false_eq_true, and_true, true_and, and_false, false_and, or_true, true_or, or_false, false_or, and_self, or_self, Decidable.not_not, if_true, if_false, reduceIte, reduceCtorEq, ne_eq, eq_self, Int32.lt_irrefl, Int32.le_refl, Nat.lt_irrefl])
set_option maxHeartbeats 4000000 in
set_option maxRecDepth 100000 in
theorem zr_isNoLoad (l : Launch) (D : va_G) (c : Nat → ClassId) (d n : Nat → Nat) (A : Nat → Nat → Int32) (B : Nat → Int64) (mk : Nat → Int32) (th : Int32) (x : Int32) : ze_I l yX9_isNoLoad wsX9_isNoLoad 1 22 0 0 D c (ze_wR c d n A B mk th) [.ref (d 0), .int x] (ze_b (¬ zf_isIn x 0 (nI (n 4) - 1))) (ze_wR c d n A B mk (if zf_isIn x 0 (nI (n 4) - 1) then 0 else 1)) := by
  intro sz
  refine ze_start (cc := cX9_isNoLoad) (maxL := 2) (ret := (some .boolean)) (own := RX9) (by decide) rfl rfl (Nat.le_of_ble_eq_true rfl) ?_
  intro p e s m_ below meth cd F ls hF hsz E0
  obtain ⟨S, hr, hlocks, hK, hW, hA, hl⟩ := E0
  have hX_ := S.1
  have hB_ := S.2.1
  have hts := S.2.2.2.2
  have hl : lv_has ls 2 [(0, .ref (d 0)), (1, .int x)] := hl
  have hiX9 : ∀ w ∈ u_ws RX9 TX9 39, w ∈ wsX9_isNoLoad := fun _ h => (List.mem_cons_of_mem _ (List.mem_append_right _ h))
  have w0 := hts (.fieldLink RX9 108 "IslandgridModel" "loads" "I") (List.mem_cons_of_mem _ (List.mem_append_left _ (List.mem_of_getElem? (i := 0) rfl)))
  refine lv_aload_n hX_ hB_ dX9_isNoLoad_0 rfl (lv_at hl 0 rfl) ?_
  refine lv_iload_n hX_ hB_ dX9_isNoLoad_1 rfl (lv_at hl 1 rfl) ?_
  refine lv_iconst (v := 0) hX_ hB_ dX9_isNoLoad_2 (by decide) ?_
  refine lv_aload_n hX_ hB_ dX9_isNoLoad_3 rfl (lv_at hl 0 rfl) ?_
  refine ze_get (ci := 9) (C := RX9) (T := TX9) (N := 39) (v := .int (nI (n 4))) S hiX9 hK hW 0 rfl rfl 27 (by decide) rfl w0 dX9_isNoLoad_4 ?_
  refine lv_iconst (v := 1) hX_ hB_ dX9_isNoLoad_7 (by decide) ?_
  refine lv_isub hX_ hB_ dX9_isNoLoad_8 ?_
  refine ze_Si (As := [.int x, .int 0, .int (nI (n 4) - 1)]) (rest := [.ref (d 0)]) S (zr_isIn l D c (ze_wR c d n A B mk th) x 0 (nI (n 4) - 1)) (va_cwS 3 hts gX9_isNoLoad_X9_isIn rfl rfl rfl (by decide +kernel) ⟨Nat.le_of_ble_eq_true rfl, Nat.le_of_ble_eq_true rfl⟩) hK hW hA rfl hl.1 rfl (lv_room (Nat.le_of_ble_eq_true rfl)) dX9_isNoLoad_9 ⟨Nat.le_of_ble_eq_true rfl, Nat.le_of_ble_eq_true rfl⟩ (fun H locs hW => ?_)
  refine lv_if_ne (tgt := 19) hX_ hB_ dX9_isNoLoad_12 (by decide) (fun c12 => ?_) (fun c12 => ?_)
  · have c12 : zf_isIn x 0 (nI (n 4) - 1) := ze_bt c12
    refine lv_iconst (v := 0) hX_ hB_ dX9_isNoLoad_19 (by decide) ?_
    refine lv_iconst (v := 1) hX_ hB_ dX9_isNoLoad_20 (by decide) ?_
    refine ze_Vi (As := [.int 0, .int 1]) (rest := []) (ci := 9) (q0 := 0) (k := (RX9, TX9, 39)) S (zr_isThrown l D c d n A B mk th 0 1 0 rfl (if_pos rfl)) (cwV 2 hts gX9_isNoLoad_X9_isThrown rfl rfl rfl (by decide +kernel) ⟨Nat.le_of_ble_eq_true rfl, Nat.le_of_ble_eq_true rfl⟩) hK hW hA rfl rfl rfl hl.1 rfl (lv_room (Nat.le_of_ble_eq_true rfl)) dX9_isNoLoad_21 ⟨Nat.le_of_ble_eq_true rfl, Nat.le_of_ble_eq_true rfl⟩ (fun H locs hW => ?_)
    have hW : ze_W D (ze_wR c d n A B mk 0) F s.heap _ _ := hW
    exact ze_iret S hr hlocks hF hK hW rfl dX9_isNoLoad_24 (Nat.le_of_ble_eq_true rfl) (Nat.le_of_ble_eq_true rfl) (by simp only [ze_b, eq_true c12, not_true_eq_false, not_false_eq_true, and_true, true_and, and_false, false_and, or_true, true_or, or_false, false_or, and_self, or_self, Decidable.not_not, if_true, if_false, reduceIte, reduceCtorEq, ne_eq, eq_self, Int32.lt_irrefl, Int32.le_refl, Nat.lt_irrefl]) (by simp only [ze_b, eq_true c12, not_true_eq_false, not_false_eq_true, and_true, true_and, and_false, false_and, or_true, true_or, or_false, false_or, and_self, or_self, Decidable.not_not, if_true, if_false, reduceIte, reduceCtorEq, ne_eq, eq_self, Int32.lt_irrefl, Int32.le_refl, Nat.lt_irrefl])
  · have c12 : ¬ (zf_isIn x 0 (nI (n 4) - 1)) := ze_bf c12
    refine lv_iconst (v := 1) hX_ hB_ dX9_isNoLoad_15 (by decide) ?_
    refine lv_goto (tgt := 20) hX_ hB_ dX9_isNoLoad_16 (by decide) ?_
    refine lv_iconst (v := 1) hX_ hB_ dX9_isNoLoad_20 (by decide) ?_
    refine ze_Vi (As := [.int 1, .int 1]) (rest := []) (ci := 9) (q0 := 0) (k := (RX9, TX9, 39)) S (zr_isThrown l D c d n A B mk th 1 1 1 rfl (if_neg (by decide))) (cwV 2 hts gX9_isNoLoad_X9_isThrown rfl rfl rfl (by decide +kernel) ⟨Nat.le_of_ble_eq_true rfl, Nat.le_of_ble_eq_true rfl⟩) hK hW hA rfl rfl rfl hl.1 rfl (lv_room (Nat.le_of_ble_eq_true rfl)) dX9_isNoLoad_21 ⟨Nat.le_of_ble_eq_true rfl, Nat.le_of_ble_eq_true rfl⟩ (fun H locs hW => ?_)
    have hW : ze_W D (ze_wR c d n A B mk 1) F s.heap _ _ := hW
    exact ze_iret S hr hlocks hF hK hW rfl dX9_isNoLoad_24 (Nat.le_of_ble_eq_true rfl) (Nat.le_of_ble_eq_true rfl) (by simp only [ze_b, eq_false c12, not_true_eq_false, not_false_eq_true, and_true, true_and, and_false, false_and, or_true, true_or, or_false, false_or, and_self, or_self, Decidable.not_not, if_true, if_false, reduceIte, reduceCtorEq, ne_eq, eq_self, Int32.lt_irrefl, Int32.le_refl, Nat.lt_irrefl]) (by simp only [ze_b, eq_false c12, not_true_eq_false, not_false_eq_true, and_true, true_and, and_false, false_and, or_true, true_or, or_false, false_or, and_self, or_self, Decidable.not_not, if_true, if_false, reduceIte, reduceCtorEq, ne_eq, eq_self, Int32.lt_irrefl, Int32.le_refl, Nat.lt_irrefl])
set_option maxHeartbeats 4000000 in
set_option maxRecDepth 100000 in
theorem zr_marks (l : Launch) (D : va_G) (c : Nat → ClassId) (d n : Nat → Nat) (A : Nat → Nat → Int32) (B : Nat → Int64) (mk : Nat → Int32) (th : Int32) (hN : zf_N n) (hS : zf_S n A) (hz : ∀ s, n 0 ≤ s → mk s = 0) : ze_V l yX9_marks wsX9_marks 1 13 0 0 D c (ze_wR c d n A B mk th) [.ref (d 0)] (ze_wR c d n A B (zf_CI n A) th) := by
  intro sz
  refine ze_start (cc := cX9_marks) (maxL := 4) (ret := none) (own := RX9) (by decide) rfl rfl (Nat.le_of_ble_eq_true rfl) ?_
  obtain ⟨hn0, hn1, hn2, hn3, hn4⟩ := id hN
  intro p e s m_ below meth cd F ls hF hsz E0
  obtain ⟨S, hr, hlocks, hK, hW, hA, hl⟩ := E0
  have hX_ := S.1
  have hB_ := S.2.1
  have hts := S.2.2.2.2
  have hl : lv_has ls 4 [(0, .ref (d 0))] := hl
  have hiX9 : ∀ w ∈ u_ws RX9 TX9 39, w ∈ wsX9_marks := fun _ h => (List.mem_cons_of_mem _ (List.mem_append_right _ h))
  have w0 := hts (.fieldLink RX9 88 "IslandgridModel" "sites" "I") (List.mem_cons_of_mem _ (List.mem_append_left _ (List.mem_of_getElem? (i := 0) rfl)))
  have w1 := hts (.fieldLink RX9 99 "IslandgridModel" "lines" "I") (List.mem_cons_of_mem _ (List.mem_append_left _ (List.mem_of_getElem? (i := 2) rfl)))
  have w2 := hts (.fieldLink RX9 22 "IslandgridModel" "isClosed" "[Z") (List.mem_cons_of_mem _ (List.mem_append_left _ (List.mem_of_getElem? (i := 3) rfl)))
  have w3 := hts (.fieldLink RX9 13 "IslandgridModel" "mark" "[I") (List.mem_cons_of_mem _ (List.mem_append_left _ (List.mem_of_getElem? (i := 1) rfl)))
  have w4 := hts (.fieldLink RX9 16 "IslandgridModel" "one" "[I") (List.mem_cons_of_mem _ (List.mem_append_left _ (List.mem_of_getElem? (i := 4) rfl)))
  have w5 := hts (.fieldLink RX9 19 "IslandgridModel" "other" "[I") (List.mem_cons_of_mem _ (List.mem_append_left _ (List.mem_of_getElem? (i := 5) rfl)))
  have w6 := hts (.methodLink RX9 115 Lib.Math.min.name) (List.mem_cons_of_mem _ (List.mem_append_left _ (List.mem_of_getElem? (i := 6) rfl)))
  have w7 := hts (.static Lib.Math.min.name) (List.mem_cons_of_mem _ (List.mem_append_left _ (List.mem_of_getElem? (i := 7) rfl)))
  have w8 := hts (.initialized "java/lang/Math") (List.mem_cons_of_mem _ (List.mem_append_left _ (List.mem_of_getElem? (i := 8) rfl)))
  have w9 := hts (.code Lib.Math.min.name Lib.Math.min.code 2 (some .int)) (List.mem_cons_of_mem _ (List.mem_append_left _ (List.mem_of_getElem? (i := 9) rfl)))
  refine lv_iconst (v := 0) hX_ hB_ dX9_marks_0 (by decide) ?_
  refine lv_istore_n (lv' := [(1, .int 0), (0, .ref (d 0))]) hX_ hB_ dX9_marks_1 rfl hl (by decide) rfl (fun ls hl => ?_)
  have L2 : ∀ (k2 : Nat) (i2 : Nat), (i2 ≤ n 0) → (n 0 - i2) < k2 → ∀ (H : Heap) (locs : List Loc) (ls : Array Slot), ze_W D (ze_wR c d n A B (zf_m1 mk i2) th) F s.heap H locs → lv_has ls 4 [(1, .int (nI i2)), (0, .ref (d 0))] → W p l e { frames := 1, cells := 0, slots := 0, locals := 13 } s m_ ([.ref (d 0)] : List Value).toArray below meth cd H locs 0 0 (MQ below (ze_Qv D c (ze_wR c d n A B mk th) sz (ze_wR c d n A B (zf_CI n A) th)) ([.ref (d 0)] : List Value).toArray s 0 0 F) (F0 m_ 2 ls []) := by
    intro k2
    induction k2 with
    | zero =>
      intro i2 h2 hk2
      exact absurd hk2 (Nat.not_lt_zero _)
    | succ k2 ih2 =>
      intro i2 h2 hk2 H locs ls hW hl
      refine lv_iload_n hX_ hB_ dX9_marks_2 rfl (lv_at hl 0 rfl) ?_
      refine lv_aload_n hX_ hB_ dX9_marks_3 rfl (lv_at hl 1 rfl) ?_
      refine ze_get (ci := 9) (C := RX9) (T := TX9) (N := 39) (v := .int (nI (n 0))) S hiX9 hK hW 0 rfl rfl 23 (by decide) rfl w0 dX9_marks_4 ?_
      refine lv_icmp_ge (tgt := 23) hX_ hB_ dX9_marks_7 (by decide) (fun c7 => ?_) (fun c7 => ?_)
      · have c7 : ¬ i2 < (n 0) := Nat.not_lt.mpr ((nI_leI (a := (n 0)) (b := i2) (by omega) (by omega)).mp c7)
        have e2 : i2 = n 0 := by omega
        subst e2
        refine lv_iconst (v := 0) hX_ hB_ dX9_marks_23 (by decide) ?_
        refine lv_istore_n (lv' := [(1, .int 0), (0, .ref (d 0))]) hX_ hB_ dX9_marks_24 rfl hl (by decide) rfl (fun ls hl => ?_)
        have L25 : ∀ (k25 : Nat) (i25 : Nat), (i25 ≤ 6) → (6 - i25) < k25 → ∀ (H : Heap) (locs : List Loc) (ls : Array Slot), ze_W D (ze_wR c d n A B (zf_mr A (n 1) (zf_m1 mk (n 0)) i25) th) F s.heap H locs → lv_has ls 4 [(1, .int (nI i25)), (0, .ref (d 0))] → W p l e { frames := 1, cells := 0, slots := 0, locals := 13 } s m_ ([.ref (d 0)] : List Value).toArray below meth cd H locs 0 0 (MQ below (ze_Qv D c (ze_wR c d n A B mk th) sz (ze_wR c d n A B (zf_CI n A) th)) ([.ref (d 0)] : List Value).toArray s 0 0 F) (F0 m_ 25 ls []) := by
          intro k25
          induction k25 with
          | zero =>
            intro i25 h25 hk25
            exact absurd hk25 (Nat.not_lt_zero _)
          | succ k25 ih25 =>
            intro i25 h25 hk25 H locs ls hW hl
            refine lv_iload_n hX_ hB_ dX9_marks_25 rfl (lv_at hl 0 rfl) ?_
            refine lv_bipush (v := 6) hX_ hB_ dX9_marks_26 (by decide) ?_
            refine lv_icmp_ge (tgt := 112) hX_ hB_ dX9_marks_28 (by decide) (fun c28 => ?_) (fun c28 => ?_)
            · have c28 : ¬ i25 < 6 := Nat.not_lt.mpr ((nI_leI (a := 6) (b := i25) (by omega) (by omega)).mp c28)
              have e25 : i25 = 6 := by omega
              subst e25
              exact ze_vret S hr hlocks hF hK hW dX9_marks_112 (Nat.le_of_ble_eq_true rfl) (Nat.le_of_ble_eq_true rfl) (by rw [zf_CI, zf_m1z hz])
            · have c28 : i25 < 6 := Nat.lt_of_not_le (fun h9 => c28 ((nI_leI (a := 6) (b := i25) (by omega) (by omega)).mpr h9))
              refine lv_iconst (v := 0) hX_ hB_ dX9_marks_31 (by decide) ?_
              refine lv_istore_n (lv' := [(2, .int 0), (1, .int (nI i25)), (0, .ref (d 0))]) hX_ hB_ dX9_marks_32 rfl hl (by decide) rfl (fun ls hl => ?_)
              have L33 : ∀ (k33 : Nat) (i33 : Nat), (i33 ≤ n 1) → (n 1 - i33) < k33 → ∀ (H : Heap) (locs : List Loc) (ls : Array Slot), ze_W D (ze_wR c d n A B (zf_ml A (zf_mr A (n 1) (zf_m1 mk (n 0)) i25) i33) th) F s.heap H locs → lv_has ls 4 [(2, .int (nI i33)), (1, .int (nI i25)), (0, .ref (d 0))] → W p l e { frames := 1, cells := 0, slots := 0, locals := 13 } s m_ ([.ref (d 0)] : List Value).toArray below meth cd H locs 0 0 (MQ below (ze_Qv D c (ze_wR c d n A B mk th) sz (ze_wR c d n A B (zf_CI n A) th)) ([.ref (d 0)] : List Value).toArray s 0 0 F) (F0 m_ 33 ls []) := by
                intro k33
                induction k33 with
                | zero =>
                  intro i33 h33 hk33
                  exact absurd hk33 (Nat.not_lt_zero _)
                | succ k33 ih33 =>
                  intro i33 h33 hk33 H locs ls hW hl
                  refine lv_iload_n hX_ hB_ dX9_marks_33 rfl (lv_at hl 0 rfl) ?_
                  refine lv_aload_n hX_ hB_ dX9_marks_34 rfl (lv_at hl 2 rfl) ?_
                  refine ze_get (ci := 9) (C := RX9) (T := TX9) (N := 39) (v := .int (nI (n 1))) S hiX9 hK hW 0 rfl rfl 24 (by decide) rfl w1 dX9_marks_35 ?_
                  refine lv_icmp_ge (tgt := 106) hX_ hB_ dX9_marks_38 (by decide) (fun c38 => ?_) (fun c38 => ?_)
                  · have c38 : ¬ i33 < (n 1) := Nat.not_lt.mpr ((nI_leI (a := (n 1)) (b := i33) (by omega) (by omega)).mp c38)
                    have e33 : i33 = n 1 := by omega
                    subst e33
                    refine lv_iinc (v := nI (i25 + 1)) (lv' := [(1, .int (nI (i25 + 1))), (2, .int (nI (n 1))), (0, .ref (d 0))]) hX_ hB_ dX9_marks_106 hl (k := 1) rfl (ze_inc _) (by decide) rfl (fun ls hl => ?_)
                    refine lv_goto (tgt := 25) hX_ hB_ dX9_marks_109 (by decide) ?_
                    have eW : (ze_wR c d n A B (zf_ml A (zf_mr A (n 1) (zf_m1 mk (n 0)) i25) (n 1)) th) = (ze_wR c d n A B (zf_mr A (n 1) (zf_m1 mk (n 0)) (i25 + 1)) th) := rfl
                    rw [eW] at hW
                    exact ih25 (i25 + 1) (by omega) (by omega) _ _ ls hW (lv_sub hl [0, 2] rfl)
                  · have c38 : i33 < (n 1) := Nat.lt_of_not_le (fun h9 => c38 ((nI_leI (a := (n 1)) (b := i33) (by omega) (by omega)).mpr h9))
                    refine lv_aload_n hX_ hB_ dX9_marks_41 rfl (lv_at hl 2 rfl) ?_
                    refine ze_get (ci := 9) (C := RX9) (T := TX9) (N := 39) (v := .ref (d 5)) S hiX9 hK hW 0 rfl rfl 4 (by decide) rfl w2 dX9_marks_42 ?_
                    refine lv_iload_n hX_ hB_ dX9_marks_45 rfl (lv_at hl 0 rfl) ?_
                    refine ze_zaldN hX_ hB_ hK hW 5 (f := A 4) rfl (i := i33) (by omega) (by decide) dX9_marks_46 ?_
                    refine lv_if_eq (tgt := 100) hX_ hB_ dX9_marks_47 (by decide) (fun c47 => ?_) (fun c47 => ?_)
                    · refine lv_iinc (v := nI (i33 + 1)) (lv' := [(2, .int (nI (i33 + 1))), (1, .int (nI i25)), (0, .ref (d 0))]) hX_ hB_ dX9_marks_100 hl (k := 0) rfl (ze_inc _) (by decide) rfl (fun ls hl => ?_)
                      refine lv_goto (tgt := 33) hX_ hB_ dX9_marks_103 (by decide) ?_
                      have eW : (ze_wR c d n A B (zf_ml A (zf_mr A (n 1) (zf_m1 mk (n 0)) i25) i33) th) = (ze_wR c d n A B (zf_ml A (zf_mr A (n 1) (zf_m1 mk (n 0)) i25) (i33 + 1)) th) := (by rw [zf_ml, if_pos c47])
                      rw [eW] at hW
                      exact ih33 (i33 + 1) (by omega) (by omega) _ _ ls hW (lv_sub hl [0, 1, 2] rfl)
                    · refine lv_aload_n hX_ hB_ dX9_marks_50 rfl (lv_at hl 2 rfl) ?_
                      refine ze_get (ci := 9) (C := RX9) (T := TX9) (N := 39) (v := .ref (d 2)) S hiX9 hK hW 0 rfl rfl 1 (by decide) rfl w3 dX9_marks_51 ?_
                      refine lv_aload_n hX_ hB_ dX9_marks_54 rfl (lv_at hl 2 rfl) ?_
                      refine ze_get (ci := 9) (C := RX9) (T := TX9) (N := 39) (v := .ref (d 3)) S hiX9 hK hW 0 rfl rfl 2 (by decide) rfl w4 dX9_marks_55 ?_
                      refine lv_iload_n hX_ hB_ dX9_marks_58 rfl (lv_at hl 0 rfl) ?_
                      refine ze_ialdN hX_ hB_ hK hW 3 (f := A 2) rfl (i := i33) (by omega) (by decide) dX9_marks_59 ?_
                      refine ze_iald hX_ hB_ hK hW 2 (f := (zf_ml A (zf_mr A (n 1) (zf_m1 mk (n 0)) i25) i33)) rfl (zf_in hN (hS.1 i33 (by omega)).1) dX9_marks_60 ?_
                      refine lv_aload_n hX_ hB_ dX9_marks_61 rfl (lv_at hl 2 rfl) ?_
                      refine ze_get (ci := 9) (C := RX9) (T := TX9) (N := 39) (v := .ref (d 2)) S hiX9 hK hW 0 rfl rfl 1 (by decide) rfl w3 dX9_marks_62 ?_
                      refine lv_aload_n hX_ hB_ dX9_marks_65 rfl (lv_at hl 2 rfl) ?_
                      refine ze_get (ci := 9) (C := RX9) (T := TX9) (N := 39) (v := .ref (d 4)) S hiX9 hK hW 0 rfl rfl 3 (by decide) rfl w5 dX9_marks_66 ?_
                      refine lv_iload_n hX_ hB_ dX9_marks_69 rfl (lv_at hl 0 rfl) ?_
                      refine ze_ialdN hX_ hB_ hK hW 4 (f := A 3) rfl (i := i33) (by omega) (by decide) dX9_marks_70 ?_
                      refine ze_iald hX_ hB_ hK hW 2 (f := (zf_ml A (zf_mr A (n 1) (zf_m1 mk (n 0)) i25) i33)) rfl (zf_in hN (hS.1 i33 (by omega)).2) dX9_marks_71 ?_
                      refine ze_min S hl.1 w6 w7 w8 w9 ⟨Nat.le_of_ble_eq_true rfl, Nat.le_of_ble_eq_true rfl, Nat.le_of_ble_eq_true rfl, Nat.le_of_ble_eq_true rfl⟩ dX9_marks_72 ?_
                      refine lv_istore_n (lv' := [(3, .int (ze_mn ((zf_ml A (zf_mr A (n 1) (zf_m1 mk (n 0)) i25) i33) (ze_ix (A 2 i33))) ((zf_ml A (zf_mr A (n 1) (zf_m1 mk (n 0)) i25) i33) (ze_ix (A 3 i33))))), (2, .int (nI i33)), (1, .int (nI i25)), (0, .ref (d 0))]) hX_ hB_ dX9_marks_75 rfl hl (by decide) rfl (fun ls hl => ?_)
                      refine lv_aload_n hX_ hB_ dX9_marks_76 rfl (lv_at hl 3 rfl) ?_
                      refine ze_get (ci := 9) (C := RX9) (T := TX9) (N := 39) (v := .ref (d 2)) S hiX9 hK hW 0 rfl rfl 1 (by decide) rfl w3 dX9_marks_77 ?_
                      refine lv_aload_n hX_ hB_ dX9_marks_80 rfl (lv_at hl 3 rfl) ?_
                      refine ze_get (ci := 9) (C := RX9) (T := TX9) (N := 39) (v := .ref (d 3)) S hiX9 hK hW 0 rfl rfl 2 (by decide) rfl w4 dX9_marks_81 ?_
                      refine lv_iload_n hX_ hB_ dX9_marks_84 rfl (lv_at hl 1 rfl) ?_
                      refine ze_ialdN hX_ hB_ hK hW 3 (f := A 2) rfl (i := i33) (by omega) (by decide) dX9_marks_85 ?_
                      refine lv_iload_n hX_ hB_ dX9_marks_86 rfl (lv_at hl 0 rfl) ?_
                      refine ze_iast hX_ hB_ hK hW 2 (f := (zf_ml A (zf_mr A (n 1) (zf_m1 mk (n 0)) i25) i33)) rfl (zf_in hN (hS.1 i33 (by omega)).1) dX9_marks_87 (ze_qR1 (ze_ix (A 2 i33)) (ze_mn ((zf_ml A (zf_mr A (n 1) (zf_m1 mk (n 0)) i25) i33) (ze_ix (A 2 i33))) ((zf_ml A (zf_mr A (n 1) (zf_m1 mk (n 0)) i25) i33) (ze_ix (A 3 i33)))) _ _ _ _ _ _ _) (fun H locs hW => ?_)
                      have hW : ze_W D (ze_wR c d n A B (upd (zf_ml A (zf_mr A (n 1) (zf_m1 mk (n 0)) i25) i33) (ze_ix (A 2 i33)) (ze_mn ((zf_ml A (zf_mr A (n 1) (zf_m1 mk (n 0)) i25) i33) (ze_ix (A 2 i33))) ((zf_ml A (zf_mr A (n 1) (zf_m1 mk (n 0)) i25) i33) (ze_ix (A 3 i33))))) th) F s.heap _ _ := hW
                      refine lv_aload_n hX_ hB_ dX9_marks_88 rfl (lv_at hl 3 rfl) ?_
                      refine ze_get (ci := 9) (C := RX9) (T := TX9) (N := 39) (v := .ref (d 2)) S hiX9 hK hW 0 rfl rfl 1 (by decide) rfl w3 dX9_marks_89 ?_
                      refine lv_aload_n hX_ hB_ dX9_marks_92 rfl (lv_at hl 3 rfl) ?_
                      refine ze_get (ci := 9) (C := RX9) (T := TX9) (N := 39) (v := .ref (d 4)) S hiX9 hK hW 0 rfl rfl 3 (by decide) rfl w5 dX9_marks_93 ?_
                      refine lv_iload_n hX_ hB_ dX9_marks_96 rfl (lv_at hl 1 rfl) ?_
                      refine ze_ialdN hX_ hB_ hK hW 4 (f := A 3) rfl (i := i33) (by omega) (by decide) dX9_marks_97 ?_
                      refine lv_iload_n hX_ hB_ dX9_marks_98 rfl (lv_at hl 0 rfl) ?_
                      refine ze_iast hX_ hB_ hK hW 2 (f := (upd (zf_ml A (zf_mr A (n 1) (zf_m1 mk (n 0)) i25) i33) (ze_ix (A 2 i33)) (ze_mn ((zf_ml A (zf_mr A (n 1) (zf_m1 mk (n 0)) i25) i33) (ze_ix (A 2 i33))) ((zf_ml A (zf_mr A (n 1) (zf_m1 mk (n 0)) i25) i33) (ze_ix (A 3 i33)))))) rfl (zf_in hN (hS.1 i33 (by omega)).2) dX9_marks_99 (ze_qR1 (ze_ix (A 3 i33)) (ze_mn ((zf_ml A (zf_mr A (n 1) (zf_m1 mk (n 0)) i25) i33) (ze_ix (A 2 i33))) ((zf_ml A (zf_mr A (n 1) (zf_m1 mk (n 0)) i25) i33) (ze_ix (A 3 i33)))) _ _ _ _ _ _ _) (fun H locs hW => ?_)
                      have hW : ze_W D (ze_wR c d n A B (upd (upd (zf_ml A (zf_mr A (n 1) (zf_m1 mk (n 0)) i25) i33) (ze_ix (A 2 i33)) (ze_mn ((zf_ml A (zf_mr A (n 1) (zf_m1 mk (n 0)) i25) i33) (ze_ix (A 2 i33))) ((zf_ml A (zf_mr A (n 1) (zf_m1 mk (n 0)) i25) i33) (ze_ix (A 3 i33))))) (ze_ix (A 3 i33)) (ze_mn ((zf_ml A (zf_mr A (n 1) (zf_m1 mk (n 0)) i25) i33) (ze_ix (A 2 i33))) ((zf_ml A (zf_mr A (n 1) (zf_m1 mk (n 0)) i25) i33) (ze_ix (A 3 i33))))) th) F s.heap _ _ := hW
                      refine lv_iinc (v := nI (i33 + 1)) (lv' := [(2, .int (nI (i33 + 1))), (3, .int (ze_mn ((zf_ml A (zf_mr A (n 1) (zf_m1 mk (n 0)) i25) i33) (ze_ix (A 2 i33))) ((zf_ml A (zf_mr A (n 1) (zf_m1 mk (n 0)) i25) i33) (ze_ix (A 3 i33))))), (1, .int (nI i25)), (0, .ref (d 0))]) hX_ hB_ dX9_marks_100 hl (k := 1) rfl (ze_inc _) (by decide) rfl (fun ls hl => ?_)
                      refine lv_goto (tgt := 33) hX_ hB_ dX9_marks_103 (by decide) ?_
                      have eW : (ze_wR c d n A B (upd (upd (zf_ml A (zf_mr A (n 1) (zf_m1 mk (n 0)) i25) i33) (ze_ix (A 2 i33)) (ze_mn ((zf_ml A (zf_mr A (n 1) (zf_m1 mk (n 0)) i25) i33) (ze_ix (A 2 i33))) ((zf_ml A (zf_mr A (n 1) (zf_m1 mk (n 0)) i25) i33) (ze_ix (A 3 i33))))) (ze_ix (A 3 i33)) (ze_mn ((zf_ml A (zf_mr A (n 1) (zf_m1 mk (n 0)) i25) i33) (ze_ix (A 2 i33))) ((zf_ml A (zf_mr A (n 1) (zf_m1 mk (n 0)) i25) i33) (ze_ix (A 3 i33))))) th) = (ze_wR c d n A B (zf_ml A (zf_mr A (n 1) (zf_m1 mk (n 0)) i25) (i33 + 1)) th) := (by rw [zf_ml, if_neg c47])
                      rw [eW] at hW
                      exact ih33 (i33 + 1) (by omega) (by omega) _ _ ls hW (lv_sub hl [0, 2, 3] rfl)
              have hl : lv_has ls 4 [(2, .int (nI 0)), (1, .int (nI i25)), (0, .ref (d 0))] := hl
              have hW : ze_W D (ze_wR c d n A B (zf_ml A (zf_mr A (n 1) (zf_m1 mk (n 0)) i25) 0) th) F s.heap _ _ := hW
              exact L33 _ 0 (by omega) (Nat.lt_succ_self _) _ _ ls hW (lv_sub hl [0, 1, 2] rfl)
        have hl : lv_has ls 4 [(1, .int (nI 0)), (0, .ref (d 0))] := hl
        have hW : ze_W D (ze_wR c d n A B (zf_mr A (n 1) (zf_m1 mk (n 0)) 0) th) F s.heap _ _ := hW
        exact L25 _ 0 (by omega) (Nat.lt_succ_self _) _ _ ls hW (lv_sub hl [0, 1] rfl)
      · have c7 : i2 < (n 0) := Nat.lt_of_not_le (fun h9 => c7 ((nI_leI (a := (n 0)) (b := i2) (by omega) (by omega)).mpr h9))
        refine lv_aload_n hX_ hB_ dX9_marks_10 rfl (lv_at hl 1 rfl) ?_
        refine ze_get (ci := 9) (C := RX9) (T := TX9) (N := 39) (v := .ref (d 2)) S hiX9 hK hW 0 rfl rfl 1 (by decide) rfl w3 dX9_marks_11 ?_
        refine lv_iload_n hX_ hB_ dX9_marks_14 rfl (lv_at hl 0 rfl) ?_
        refine lv_iload_n hX_ hB_ dX9_marks_15 rfl (lv_at hl 0 rfl) ?_
        refine ze_iastN hX_ hB_ hK hW 2 (f := (zf_m1 mk i2)) rfl (i := i2) (by omega) (by decide) dX9_marks_16 (ze_qR1 i2 (nI i2) _ _ _ _ _ _ _) (fun H locs hW => ?_)
        have hW : ze_W D (ze_wR c d n A B (upd (zf_m1 mk i2) i2 (nI i2)) th) F s.heap _ _ := hW
        refine lv_iinc (v := nI (i2 + 1)) (lv' := [(1, .int (nI (i2 + 1))), (0, .ref (d 0))]) hX_ hB_ dX9_marks_17 hl (k := 0) rfl (ze_inc _) (by decide) rfl (fun ls hl => ?_)
        refine lv_goto (tgt := 2) hX_ hB_ dX9_marks_20 (by decide) ?_
        have eW : (ze_wR c d n A B (upd (zf_m1 mk i2) i2 (nI i2)) th) = (ze_wR c d n A B (zf_m1 mk (i2 + 1)) th) := rfl
        rw [eW] at hW
        exact ih2 (i2 + 1) (by omega) (by omega) _ _ ls hW (lv_sub hl [0, 1] rfl)
  have hl : lv_has ls 4 [(1, .int (nI 0)), (0, .ref (d 0))] := hl
  have hW : ze_W D (ze_wR c d n A B (zf_m1 mk 0) th) F s.heap _ _ := hW
  exact L2 _ 0 (by omega) (Nat.lt_succ_self _) _ _ ls hW (lv_sub hl [0, 1] rfl)
set_option maxHeartbeats 4000000 in
set_option maxRecDepth 100000 in
theorem zr_runs (l : Launch) (D : va_G) (c : Nat → ClassId) (d n : Nat → Nat) (A : Nat → Nat → Int32) (B : Nat → Int64) (mk : Nat → Int32) (th : Int32) (g : Nat) (m : Int32) (hN : zf_N n) (hS : zf_S n A) (hg : g < n 2) : ze_I l yX9_runs wsX9_runs 0 0 0 0 D c (ze_wR c d n A B mk th) [.ref (d 0), .int (nI g), .int m] (ze_b (zf_runs A mk g m)) (ze_wR c d n A B mk th) := by
  intro sz
  refine ze_start (cc := cX9_runs) (maxL := 3) (ret := (some .boolean)) (own := RX9) (by decide) rfl rfl (Nat.le_of_ble_eq_true rfl) ?_
  obtain ⟨hn0, hn1, hn2, hn3, hn4⟩ := id hN
  intro p e s m_ below meth cd F ls hF hsz E0
  obtain ⟨S, hr, hlocks, hK, hW, hA, hl⟩ := E0
  have hX_ := S.1
  have hB_ := S.2.1
  have hts := S.2.2.2.2
  have hl : lv_has ls 3 [(0, .ref (d 0)), (1, .int (nI g)), (2, .int m)] := hl
  have hiX9 : ∀ w ∈ u_ws RX9 TX9 39, w ∈ wsX9_runs := fun _ h => (List.mem_cons_of_mem _ (List.mem_append_right _ h))
  have w0 := hts (.fieldLink RX9 50 "IslandgridModel" "state" "[C") (List.mem_cons_of_mem _ (List.mem_append_left _ (List.mem_of_getElem? (i := 0) rfl)))
  have w1 := hts (.fieldLink RX9 13 "IslandgridModel" "mark" "[I") (List.mem_cons_of_mem _ (List.mem_append_left _ (List.mem_of_getElem? (i := 1) rfl)))
  have w2 := hts (.fieldLink RX9 29 "IslandgridModel" "genSite" "[I") (List.mem_cons_of_mem _ (List.mem_append_left _ (List.mem_of_getElem? (i := 2) rfl)))
  refine lv_aload_n hX_ hB_ dX9_runs_0 rfl (lv_at hl 0 rfl) ?_
  refine ze_get (ci := 9) (C := RX9) (T := TX9) (N := 39) (v := .ref (d 14)) S hiX9 hK hW 0 rfl rfl 13 (by decide) rfl w0 dX9_runs_1 ?_
  refine lv_iload_n hX_ hB_ dX9_runs_4 rfl (lv_at hl 1 rfl) ?_
  refine ze_caldN hX_ hB_ hK hW 14 (f := A 13) rfl (i := g) (by omega) (by decide) dX9_runs_5 ?_
  refine lv_bipush (v := 114) hX_ hB_ dX9_runs_6 (by decide) ?_
  refine lv_icmp_ne (tgt := 30) hX_ hB_ dX9_runs_8 (by decide) (fun c8 => ?_) (fun c8 => ?_)
  · refine lv_iconst (v := 0) hX_ hB_ dX9_runs_30 (by decide) ?_
    exact ze_iret S hr hlocks hF hK hW rfl dX9_runs_31 (Nat.le_of_ble_eq_true rfl) (Nat.le_of_ble_eq_true rfl) (by simp only [ze_b, zf_runs, eq_false c8, not_true_eq_false, not_false_eq_true, and_true, true_and, and_false, false_and, or_true, true_or, or_false, false_or, and_self, or_self, Decidable.not_not, if_true, if_false, reduceIte, reduceCtorEq, ne_eq, eq_self, Int32.lt_irrefl, Int32.le_refl, Nat.lt_irrefl]) rfl
  · refine lv_aload_n hX_ hB_ dX9_runs_11 rfl (lv_at hl 0 rfl) ?_
    refine ze_get (ci := 9) (C := RX9) (T := TX9) (N := 39) (v := .ref (d 2)) S hiX9 hK hW 0 rfl rfl 1 (by decide) rfl w1 dX9_runs_12 ?_
    refine lv_aload_n hX_ hB_ dX9_runs_15 rfl (lv_at hl 0 rfl) ?_
    refine ze_get (ci := 9) (C := RX9) (T := TX9) (N := 39) (v := .ref (d 7)) S hiX9 hK hW 0 rfl rfl 6 (by decide) rfl w2 dX9_runs_16 ?_
    refine lv_iload_n hX_ hB_ dX9_runs_19 rfl (lv_at hl 1 rfl) ?_
    refine ze_ialdN hX_ hB_ hK hW 7 (f := A 6) rfl (i := g) (by omega) (by decide) dX9_runs_20 ?_
    refine ze_iald hX_ hB_ hK hW 2 (f := mk) rfl (zf_in hN (hS.2.1 g hg)) dX9_runs_21 ?_
    refine lv_iload_n hX_ hB_ dX9_runs_22 rfl (lv_at hl 2 rfl) ?_
    refine lv_icmp_ne (tgt := 30) hX_ hB_ dX9_runs_23 (by decide) (fun c23 => ?_) (fun c23 => ?_)
    · refine lv_iconst (v := 0) hX_ hB_ dX9_runs_30 (by decide) ?_
      exact ze_iret S hr hlocks hF hK hW rfl dX9_runs_31 (Nat.le_of_ble_eq_true rfl) (Nat.le_of_ble_eq_true rfl) (by simp only [ze_b, zf_runs, eq_true c8, eq_false c23, not_true_eq_false, not_false_eq_true, and_true, true_and, and_false, false_and, or_true, true_or, or_false, false_or, and_self, or_self, Decidable.not_not, if_true, if_false, reduceIte, reduceCtorEq, ne_eq, eq_self, Int32.lt_irrefl, Int32.le_refl, Nat.lt_irrefl]) rfl
    · refine lv_iconst (v := 1) hX_ hB_ dX9_runs_26 (by decide) ?_
      refine lv_goto (tgt := 31) hX_ hB_ dX9_runs_27 (by decide) ?_
      exact ze_iret S hr hlocks hF hK hW rfl dX9_runs_31 (Nat.le_of_ble_eq_true rfl) (Nat.le_of_ble_eq_true rfl) (by simp only [ze_b, zf_runs, eq_true c8, eq_true c23, not_true_eq_false, not_false_eq_true, and_true, true_and, and_false, false_and, or_true, true_or, or_false, false_or, and_self, or_self, Decidable.not_not, if_true, if_false, reduceIte, reduceCtorEq, ne_eq, eq_self, Int32.lt_irrefl, Int32.le_refl, Nat.lt_irrefl]) rfl
set_option maxHeartbeats 4000000 in
set_option maxRecDepth 100000 in
theorem zr_bounded (l : Launch) (D : va_G) (c : Nat → ClassId) (d n : Nat → Nat) (A : Nat → Nat → Int32) (B : Nat → Int64) (mk : Nat → Int32) (th : Int32) (m : Int32) (hN : zf_N n) (hS : zf_S n A) : ze_I l yX9_bounded wsX9_bounded 1 22 0 0 D c (ze_wR c d n A B mk th) [.ref (d 0), .int m] (zf_bounded n A mk m) (ze_wR c d n A B mk th) := by
  intro sz
  refine ze_start (cc := cX9_bounded) (maxL := 4) (ret := (some .int)) (own := RX9) (by decide) rfl rfl (Nat.le_of_ble_eq_true rfl) ?_
  obtain ⟨hn0, hn1, hn2, hn3, hn4⟩ := id hN
  intro p e s m_ below meth cd F ls hF hsz E0
  obtain ⟨S, hr, hlocks, hK, hW, hA, hl⟩ := E0
  have hX_ := S.1
  have hB_ := S.2.1
  have hts := S.2.2.2.2
  have hl : lv_has ls 4 [(0, .ref (d 0)), (1, .int m)] := hl
  have hiX9 : ∀ w ∈ u_ws RX9 TX9 39, w ∈ wsX9_bounded := fun _ h => (List.mem_cons_of_mem _ (List.mem_append_right _ h))
  have w0 := hts (.fieldLink RX9 102 "IslandgridModel" "generators" "I") (List.mem_cons_of_mem _ (List.mem_append_left _ (List.mem_of_getElem? (i := 0) rfl)))
  have w1 := hts (.fieldLink RX9 105 "IslandgridModel" "stores" "I") (List.mem_cons_of_mem _ (List.mem_append_left _ (List.mem_of_getElem? (i := 7) rfl)))
  have w2 := hts (.fieldLink RX9 168 "IslandgridModel" "reserve" "I") (List.mem_cons_of_mem _ (List.mem_append_left _ (List.mem_of_getElem? (i := 12) rfl)))
  have w3 := hts (.methodLink RX9 175 Lib.Math.max.name) (List.mem_cons_of_mem _ (List.mem_append_left _ (List.mem_of_getElem? (i := 13) rfl)))
  have w4 := hts (.static Lib.Math.max.name) (List.mem_cons_of_mem _ (List.mem_append_left _ (List.mem_of_getElem? (i := 14) rfl)))
  have w5 := hts (.initialized "java/lang/Math") (List.mem_cons_of_mem _ (List.mem_append_left _ (List.mem_of_getElem? (i := 5) rfl)))
  have w6 := hts (.code Lib.Math.max.name Lib.Math.max.code 2 (some .int)) (List.mem_cons_of_mem _ (List.mem_append_left _ (List.mem_of_getElem? (i := 15) rfl)))
  have w7 := hts (.fieldLink RX9 13 "IslandgridModel" "mark" "[I") (List.mem_cons_of_mem _ (List.mem_append_left _ (List.mem_of_getElem? (i := 8) rfl)))
  have w8 := hts (.fieldLink RX9 54 "IslandgridModel" "storeSite" "[I") (List.mem_cons_of_mem _ (List.mem_append_left _ (List.mem_of_getElem? (i := 9) rfl)))
  have w9 := hts (.fieldLink RX9 60 "IslandgridModel" "rate" "[I") (List.mem_cons_of_mem _ (List.mem_append_left _ (List.mem_of_getElem? (i := 10) rfl)))
  have w10 := hts (.fieldLink RX9 63 "IslandgridModel" "charge" "[I") (List.mem_cons_of_mem _ (List.mem_append_left _ (List.mem_of_getElem? (i := 11) rfl)))
  have w11 := hts (.methodLink RX9 115 Lib.Math.min.name) (List.mem_cons_of_mem _ (List.mem_append_left _ (List.mem_of_getElem? (i := 3) rfl)))
  have w12 := hts (.static Lib.Math.min.name) (List.mem_cons_of_mem _ (List.mem_append_left _ (List.mem_of_getElem? (i := 4) rfl)))
  have w13 := hts (.code Lib.Math.min.name Lib.Math.min.code 2 (some .int)) (List.mem_cons_of_mem _ (List.mem_append_left _ (List.mem_of_getElem? (i := 6) rfl)))
  have w14 := hts (.fieldLink RX9 35 "IslandgridModel" "greatest" "[I") (List.mem_cons_of_mem _ (List.mem_append_left _ (List.mem_of_getElem? (i := 1) rfl)))
  have w15 := hts (.fieldLink RX9 41 "IslandgridModel" "fuel" "[I") (List.mem_cons_of_mem _ (List.mem_append_left _ (List.mem_of_getElem? (i := 2) rfl)))
  refine lv_iconst (v := 0) hX_ hB_ dX9_bounded_0 (by decide) ?_
  refine lv_istore_n (lv' := [(2, .int 0), (0, .ref (d 0)), (1, .int m)]) hX_ hB_ dX9_bounded_1 rfl hl (by decide) rfl (fun ls hl => ?_)
  refine lv_iconst (v := 0) hX_ hB_ dX9_bounded_2 (by decide) ?_
  refine lv_istore_n (lv' := [(3, .int 0), (2, .int 0), (0, .ref (d 0)), (1, .int m)]) hX_ hB_ dX9_bounded_3 rfl hl (by decide) rfl (fun ls hl => ?_)
  have L4 : ∀ (k4 : Nat) (i4 : Nat), (i4 ≤ n 2) → (n 2 - i4) < k4 → ∀ (H : Heap) (locs : List Loc) (ls : Array Slot), ze_W D (ze_wR c d n A B mk th) F s.heap H locs → lv_has ls 4 [(3, .int (nI i4)), (2, .int (zf_supG A mk m 0 i4)), (0, .ref (d 0)), (1, .int m)] → W p l e { frames := 1, cells := 0, slots := 0, locals := 22 } s m_ ([.ref (d 0), .int m] : List Value).toArray below meth cd H locs 0 0 (MQ below (ze_Qi D c (ze_wR c d n A B mk th) sz (zf_bounded n A mk m) (ze_wR c d n A B mk th)) ([.ref (d 0), .int m] : List Value).toArray s 0 0 F) (F0 m_ 4 ls []) := by
    intro k4
    induction k4 with
    | zero =>
      intro i4 h4 hk4
      exact absurd hk4 (Nat.not_lt_zero _)
    | succ k4 ih4 =>
      intro i4 h4 hk4 H locs ls hW hl
      refine lv_iload_n hX_ hB_ dX9_bounded_4 rfl (lv_at hl 0 rfl) ?_
      refine lv_aload_n hX_ hB_ dX9_bounded_5 rfl (lv_at hl 2 rfl) ?_
      refine ze_get (ci := 9) (C := RX9) (T := TX9) (N := 39) (v := .int (nI (n 2))) S hiX9 hK hW 0 rfl rfl 25 (by decide) rfl w0 dX9_bounded_6 ?_
      refine lv_icmp_ge (tgt := 49) hX_ hB_ dX9_bounded_9 (by decide) (fun c9 => ?_) (fun c9 => ?_)
      · have c9 : ¬ i4 < (n 2) := Nat.not_lt.mpr ((nI_leI (a := (n 2)) (b := i4) (by omega) (by omega)).mp c9)
        have e4 : i4 = n 2 := by omega
        subst e4
        refine lv_iconst (v := 0) hX_ hB_ dX9_bounded_49 (by decide) ?_
        refine lv_istore_n (lv' := [(3, .int 0), (2, .int (zf_supG A mk m 0 (n 2))), (0, .ref (d 0)), (1, .int m)]) hX_ hB_ dX9_bounded_50 rfl hl (by decide) rfl (fun ls hl => ?_)
        have L51 : ∀ (k51 : Nat) (i51 : Nat), (i51 ≤ n 3) → (n 3 - i51) < k51 → ∀ (H : Heap) (locs : List Loc) (ls : Array Slot), ze_W D (ze_wR c d n A B mk th) F s.heap H locs → lv_has ls 4 [(3, .int (nI i51)), (2, .int (zf_supT A mk m (zf_supG A mk m 0 (n 2)) i51)), (0, .ref (d 0)), (1, .int m)] → W p l e { frames := 1, cells := 0, slots := 0, locals := 22 } s m_ ([.ref (d 0), .int m] : List Value).toArray below meth cd H locs 0 0 (MQ below (ze_Qi D c (ze_wR c d n A B mk th) sz (zf_bounded n A mk m) (ze_wR c d n A B mk th)) ([.ref (d 0), .int m] : List Value).toArray s 0 0 F) (F0 m_ 51 ls []) := by
          intro k51
          induction k51 with
          | zero =>
            intro i51 h51 hk51
            exact absurd hk51 (Nat.not_lt_zero _)
          | succ k51 ih51 =>
            intro i51 h51 hk51 H locs ls hW hl
            refine lv_iload_n hX_ hB_ dX9_bounded_51 rfl (lv_at hl 0 rfl) ?_
            refine lv_aload_n hX_ hB_ dX9_bounded_52 rfl (lv_at hl 2 rfl) ?_
            refine ze_get (ci := 9) (C := RX9) (T := TX9) (N := 39) (v := .int (nI (n 3))) S hiX9 hK hW 0 rfl rfl 26 (by decide) rfl w1 dX9_bounded_53 ?_
            refine lv_icmp_ge (tgt := 102) hX_ hB_ dX9_bounded_56 (by decide) (fun c56 => ?_) (fun c56 => ?_)
            · have c56 : ¬ i51 < (n 3) := Nat.not_lt.mpr ((nI_leI (a := (n 3)) (b := i51) (by omega) (by omega)).mp c56)
              have e51 : i51 = n 3 := by omega
              subst e51
              refine lv_iconst (v := 0) hX_ hB_ dX9_bounded_102 (by decide) ?_
              refine lv_iload_n hX_ hB_ dX9_bounded_103 rfl (lv_at hl 1 rfl) ?_
              refine lv_aload_n hX_ hB_ dX9_bounded_104 rfl (lv_at hl 2 rfl) ?_
              refine ze_get (ci := 9) (C := RX9) (T := TX9) (N := 39) (v := .int (A 28 0)) S hiX9 hK hW 0 rfl rfl 28 (by decide) rfl w2 dX9_bounded_105 ?_
              refine lv_isub hX_ hB_ dX9_bounded_108 ?_
              refine ze_max S hl.1 w3 w4 w5 w6 ⟨Nat.le_of_ble_eq_true rfl, Nat.le_of_ble_eq_true rfl, Nat.le_of_ble_eq_true rfl, Nat.le_of_ble_eq_true rfl⟩ dX9_bounded_109 ?_
              exact ze_iret S hr hlocks hF hK hW rfl dX9_bounded_112 (Nat.le_of_ble_eq_true rfl) (Nat.le_of_ble_eq_true rfl) rfl rfl
            · have c56 : i51 < (n 3) := Nat.lt_of_not_le (fun h9 => c56 ((nI_leI (a := (n 3)) (b := i51) (by omega) (by omega)).mpr h9))
              refine lv_iload_n hX_ hB_ dX9_bounded_59 rfl (lv_at hl 1 rfl) ?_
              refine lv_aload_n hX_ hB_ dX9_bounded_60 rfl (lv_at hl 2 rfl) ?_
              refine ze_get (ci := 9) (C := RX9) (T := TX9) (N := 39) (v := .ref (d 2)) S hiX9 hK hW 0 rfl rfl 1 (by decide) rfl w7 dX9_bounded_61 ?_
              refine lv_aload_n hX_ hB_ dX9_bounded_64 rfl (lv_at hl 2 rfl) ?_
              refine ze_get (ci := 9) (C := RX9) (T := TX9) (N := 39) (v := .ref (d 15)) S hiX9 hK hW 0 rfl rfl 14 (by decide) rfl w8 dX9_bounded_65 ?_
              refine lv_iload_n hX_ hB_ dX9_bounded_68 rfl (lv_at hl 0 rfl) ?_
              refine ze_ialdN hX_ hB_ hK hW 15 (f := A 14) rfl (i := i51) (by omega) (by decide) dX9_bounded_69 ?_
              refine ze_iald hX_ hB_ hK hW 2 (f := mk) rfl (zf_in hN (hS.2.2.1 i51 (by omega))) dX9_bounded_70 ?_
              refine lv_iload_n hX_ hB_ dX9_bounded_71 rfl (lv_at hl 3 rfl) ?_
              refine lv_icmp_ne (tgt := 93) hX_ hB_ dX9_bounded_72 (by decide) (fun c72 => ?_) (fun c72 => ?_)
              · refine lv_iconst (v := 0) hX_ hB_ dX9_bounded_93 (by decide) ?_
                refine lv_iadd hX_ hB_ dX9_bounded_94 ?_
                refine lv_istore_n (lv' := [(2, .int (zf_supT A mk m (zf_supG A mk m 0 (n 2)) i51 + 0)), (3, .int (nI i51)), (0, .ref (d 0)), (1, .int m)]) hX_ hB_ dX9_bounded_95 rfl hl (by decide) rfl (fun ls hl => ?_)
                refine lv_iinc (v := nI (i51 + 1)) (lv' := [(3, .int (nI (i51 + 1))), (2, .int (zf_supT A mk m (zf_supG A mk m 0 (n 2)) i51 + 0)), (0, .ref (d 0)), (1, .int m)]) hX_ hB_ dX9_bounded_96 hl (k := 1) rfl (ze_inc _) (by decide) rfl (fun ls hl => ?_)
                refine lv_goto (tgt := 51) hX_ hB_ dX9_bounded_99 (by decide) ?_
                have eL2 : zf_supT A mk m (zf_supG A mk m 0 (n 2)) i51 + 0 = zf_supT A mk m (zf_supG A mk m 0 (n 2)) (i51 + 1) := (by simp only [ze_b, zf_supT, ze_sum, eq_false c9, eq_true c56, eq_false c72, not_true_eq_false, not_false_eq_true, and_true, true_and, and_false, false_and, or_true, true_or, or_false, false_or, and_self, or_self, Decidable.not_not, if_true, if_false, reduceIte, reduceCtorEq, ne_eq, eq_self, Int32.lt_irrefl, Int32.le_refl, Nat.lt_irrefl])
                have hl : lv_has ls 4 [(3, .int (nI (i51 + 1))), (2, .int (zf_supT A mk m (zf_supG A mk m 0 (n 2)) (i51 + 1))), (0, .ref (d 0)), (1, .int m)] := by
                  first | (rw [← eL2]; exact hl) | (simp only [← eL2]; exact hl)
                exact ih51 (i51 + 1) (by omega) (by omega) _ _ ls hW (lv_sub hl [0, 1, 2, 3] rfl)
              · refine lv_aload_n hX_ hB_ dX9_bounded_75 rfl (lv_at hl 2 rfl) ?_
                refine ze_get (ci := 9) (C := RX9) (T := TX9) (N := 39) (v := .ref (d 17)) S hiX9 hK hW 0 rfl rfl 16 (by decide) rfl w9 dX9_bounded_76 ?_
                refine lv_iload_n hX_ hB_ dX9_bounded_79 rfl (lv_at hl 0 rfl) ?_
                refine ze_ialdN hX_ hB_ hK hW 17 (f := A 16) rfl (i := i51) (by omega) (by decide) dX9_bounded_80 ?_
                refine lv_aload_n hX_ hB_ dX9_bounded_81 rfl (lv_at hl 2 rfl) ?_
                refine ze_get (ci := 9) (C := RX9) (T := TX9) (N := 39) (v := .ref (d 18)) S hiX9 hK hW 0 rfl rfl 17 (by decide) rfl w10 dX9_bounded_82 ?_
                refine lv_iload_n hX_ hB_ dX9_bounded_85 rfl (lv_at hl 0 rfl) ?_
                refine ze_ialdN hX_ hB_ hK hW 18 (f := A 17) rfl (i := i51) (by omega) (by decide) dX9_bounded_86 ?_
                refine ze_min S hl.1 w11 w12 w5 w13 ⟨Nat.le_of_ble_eq_true rfl, Nat.le_of_ble_eq_true rfl, Nat.le_of_ble_eq_true rfl, Nat.le_of_ble_eq_true rfl⟩ dX9_bounded_87 ?_
                refine lv_goto (tgt := 94) hX_ hB_ dX9_bounded_90 (by decide) ?_
                refine lv_iadd hX_ hB_ dX9_bounded_94 ?_
                refine lv_istore_n (lv' := [(2, .int (zf_supT A mk m (zf_supG A mk m 0 (n 2)) i51 + ze_mn (A 16 i51) (A 17 i51))), (3, .int (nI i51)), (0, .ref (d 0)), (1, .int m)]) hX_ hB_ dX9_bounded_95 rfl hl (by decide) rfl (fun ls hl => ?_)
                refine lv_iinc (v := nI (i51 + 1)) (lv' := [(3, .int (nI (i51 + 1))), (2, .int (zf_supT A mk m (zf_supG A mk m 0 (n 2)) i51 + ze_mn (A 16 i51) (A 17 i51))), (0, .ref (d 0)), (1, .int m)]) hX_ hB_ dX9_bounded_96 hl (k := 1) rfl (ze_inc _) (by decide) rfl (fun ls hl => ?_)
                refine lv_goto (tgt := 51) hX_ hB_ dX9_bounded_99 (by decide) ?_
                have eL2 : zf_supT A mk m (zf_supG A mk m 0 (n 2)) i51 + ze_mn (A 16 i51) (A 17 i51) = zf_supT A mk m (zf_supG A mk m 0 (n 2)) (i51 + 1) := (by simp only [ze_b, zf_supT, ze_sum, eq_false c9, eq_true c56, eq_true c72, not_true_eq_false, not_false_eq_true, and_true, true_and, and_false, false_and, or_true, true_or, or_false, false_or, and_self, or_self, Decidable.not_not, if_true, if_false, reduceIte, reduceCtorEq, ne_eq, eq_self, Int32.lt_irrefl, Int32.le_refl, Nat.lt_irrefl])
                have hl : lv_has ls 4 [(3, .int (nI (i51 + 1))), (2, .int (zf_supT A mk m (zf_supG A mk m 0 (n 2)) (i51 + 1))), (0, .ref (d 0)), (1, .int m)] := by
                  first | (rw [← eL2]; exact hl) | (simp only [← eL2]; exact hl)
                exact ih51 (i51 + 1) (by omega) (by omega) _ _ ls hW (lv_sub hl [0, 1, 2, 3] rfl)
        have hl : lv_has ls 4 [(3, .int (nI 0)), (2, .int (zf_supT A mk m (zf_supG A mk m 0 (n 2)) 0)), (0, .ref (d 0)), (1, .int m)] := hl
        have hW : ze_W D (ze_wR c d n A B mk th) F s.heap _ _ := hW
        exact L51 _ 0 (by omega) (Nat.lt_succ_self _) _ _ ls hW (lv_sub hl [0, 1, 2, 3] rfl)
      · have c9 : i4 < (n 2) := Nat.lt_of_not_le (fun h9 => c9 ((nI_leI (a := (n 2)) (b := i4) (by omega) (by omega)).mpr h9))
        refine lv_iload_n hX_ hB_ dX9_bounded_12 rfl (lv_at hl 1 rfl) ?_
        refine lv_aload_n hX_ hB_ dX9_bounded_13 rfl (lv_at hl 2 rfl) ?_
        refine lv_iload_n hX_ hB_ dX9_bounded_14 rfl (lv_at hl 0 rfl) ?_
        refine lv_iload_n hX_ hB_ dX9_bounded_15 rfl (lv_at hl 3 rfl) ?_
        refine ze_Vi (As := [.int (nI i4), .int m]) (rest := [.int (zf_supG A mk m 0 i4)]) (ci := 9) (q0 := 0) (k := (RX9, TX9, 39)) S (zr_runs l D c d n A B mk th i4 m hN hS (by omega)) (cwV 2 hts gX9_bounded_X9_runs rfl rfl rfl (by decide +kernel) ⟨Nat.le_of_ble_eq_true rfl, Nat.le_of_ble_eq_true rfl⟩) hK hW hA rfl rfl rfl hl.1 rfl (lv_room (Nat.le_of_ble_eq_true rfl)) dX9_bounded_16 ⟨Nat.le_of_ble_eq_true rfl, Nat.le_of_ble_eq_true rfl⟩ (fun H locs hW => ?_)
        refine lv_if_eq (tgt := 40) hX_ hB_ dX9_bounded_19 (by decide) (fun c19 => ?_) (fun c19 => ?_)
        · have c19 : ¬ (zf_runs A mk i4 m) := ze_bf c19
          refine lv_iconst (v := 0) hX_ hB_ dX9_bounded_40 (by decide) ?_
          refine lv_iadd hX_ hB_ dX9_bounded_41 ?_
          refine lv_istore_n (lv' := [(2, .int (zf_supG A mk m 0 i4 + 0)), (3, .int (nI i4)), (0, .ref (d 0)), (1, .int m)]) hX_ hB_ dX9_bounded_42 rfl hl (by decide) rfl (fun ls hl => ?_)
          refine lv_iinc (v := nI (i4 + 1)) (lv' := [(3, .int (nI (i4 + 1))), (2, .int (zf_supG A mk m 0 i4 + 0)), (0, .ref (d 0)), (1, .int m)]) hX_ hB_ dX9_bounded_43 hl (k := 1) rfl (ze_inc _) (by decide) rfl (fun ls hl => ?_)
          refine lv_goto (tgt := 4) hX_ hB_ dX9_bounded_46 (by decide) ?_
          have eL2 : zf_supG A mk m 0 i4 + 0 = zf_supG A mk m 0 (i4 + 1) := (by simp only [ze_b, zf_supG, ze_sum, eq_true c9, eq_false c19, not_true_eq_false, not_false_eq_true, and_true, true_and, and_false, false_and, or_true, true_or, or_false, false_or, and_self, or_self, Decidable.not_not, if_true, if_false, reduceIte, reduceCtorEq, ne_eq, eq_self, Int32.lt_irrefl, Int32.le_refl, Nat.lt_irrefl])
          have hl : lv_has ls 4 [(3, .int (nI (i4 + 1))), (2, .int (zf_supG A mk m 0 (i4 + 1))), (0, .ref (d 0)), (1, .int m)] := by
            first | (rw [← eL2]; exact hl) | (simp only [← eL2]; exact hl)
          exact ih4 (i4 + 1) (by omega) (by omega) _ _ ls hW (lv_sub hl [0, 1, 2, 3] rfl)
        · have c19 : zf_runs A mk i4 m := ze_bt c19
          refine lv_aload_n hX_ hB_ dX9_bounded_22 rfl (lv_at hl 2 rfl) ?_
          refine ze_get (ci := 9) (C := RX9) (T := TX9) (N := 39) (v := .ref (d 9)) S hiX9 hK hW 0 rfl rfl 8 (by decide) rfl w14 dX9_bounded_23 ?_
          refine lv_iload_n hX_ hB_ dX9_bounded_26 rfl (lv_at hl 0 rfl) ?_
          refine ze_ialdN hX_ hB_ hK hW 9 (f := A 8) rfl (i := i4) (by omega) (by decide) dX9_bounded_27 ?_
          refine lv_aload_n hX_ hB_ dX9_bounded_28 rfl (lv_at hl 2 rfl) ?_
          refine ze_get (ci := 9) (C := RX9) (T := TX9) (N := 39) (v := .ref (d 11)) S hiX9 hK hW 0 rfl rfl 10 (by decide) rfl w15 dX9_bounded_29 ?_
          refine lv_iload_n hX_ hB_ dX9_bounded_32 rfl (lv_at hl 0 rfl) ?_
          refine ze_ialdN hX_ hB_ hK hW 11 (f := A 10) rfl (i := i4) (by omega) (by decide) dX9_bounded_33 ?_
          refine ze_min S hl.1 w11 w12 w5 w13 ⟨Nat.le_of_ble_eq_true rfl, Nat.le_of_ble_eq_true rfl, Nat.le_of_ble_eq_true rfl, Nat.le_of_ble_eq_true rfl⟩ dX9_bounded_34 ?_
          refine lv_goto (tgt := 41) hX_ hB_ dX9_bounded_37 (by decide) ?_
          refine lv_iadd hX_ hB_ dX9_bounded_41 ?_
          refine lv_istore_n (lv' := [(2, .int (zf_supG A mk m 0 i4 + ze_mn (A 8 i4) (A 10 i4))), (3, .int (nI i4)), (0, .ref (d 0)), (1, .int m)]) hX_ hB_ dX9_bounded_42 rfl hl (by decide) rfl (fun ls hl => ?_)
          refine lv_iinc (v := nI (i4 + 1)) (lv' := [(3, .int (nI (i4 + 1))), (2, .int (zf_supG A mk m 0 i4 + ze_mn (A 8 i4) (A 10 i4))), (0, .ref (d 0)), (1, .int m)]) hX_ hB_ dX9_bounded_43 hl (k := 1) rfl (ze_inc _) (by decide) rfl (fun ls hl => ?_)
          refine lv_goto (tgt := 4) hX_ hB_ dX9_bounded_46 (by decide) ?_
          have eL2 : zf_supG A mk m 0 i4 + ze_mn (A 8 i4) (A 10 i4) = zf_supG A mk m 0 (i4 + 1) := (by simp only [ze_b, zf_supG, ze_sum, eq_true c9, eq_true c19, not_true_eq_false, not_false_eq_true, and_true, true_and, and_false, false_and, or_true, true_or, or_false, false_or, and_self, or_self, Decidable.not_not, if_true, if_false, reduceIte, reduceCtorEq, ne_eq, eq_self, Int32.lt_irrefl, Int32.le_refl, Nat.lt_irrefl])
          have hl : lv_has ls 4 [(3, .int (nI (i4 + 1))), (2, .int (zf_supG A mk m 0 (i4 + 1))), (0, .ref (d 0)), (1, .int m)] := by
            first | (rw [← eL2]; exact hl) | (simp only [← eL2]; exact hl)
          exact ih4 (i4 + 1) (by omega) (by omega) _ _ ls hW (lv_sub hl [0, 1, 2, 3] rfl)
  have hl : lv_has ls 4 [(3, .int (nI 0)), (2, .int (zf_supG A mk m 0 0)), (0, .ref (d 0)), (1, .int m)] := hl
  have hW : ze_W D (ze_wR c d n A B mk th) F s.heap _ _ := hW
  exact L4 _ 0 (by omega) (Nat.lt_succ_self _) _ _ ls hW (lv_sub hl [0, 1, 2, 3] rfl)
