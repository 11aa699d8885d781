set_option maxHeartbeats 4000000 in
set_option maxRecDepth 100000 in
theorem zc_1_isShort (l : Launch) (D : va_G) (c : Nat → ClassId) (a n : Nat → Nat) (A : Nat → Nat → Int32) (B : Nat → Int64) (E : Nat → Nat → Int32) (g : Nat) (hN : zf_N n) (hg : g < n 2) : ze_I l yX1_isShort wsX1_isShort 0 0 0 0 D c (ze_wC c a n A B E) [.ref (a (20 + g))] (ze_b (zf_short A g)) (ze_wC c a n A B E) := by
  intro sz
  refine ze_start (cc := cX1_isShort) (maxL := 1) (ret := (some .boolean)) (own := RX1) (by decide) rfl rfl (Nat.le_of_ble_eq_true rfl) ?_
  obtain ⟨hn0, hn1, hn2, hn3, hn4⟩ := id hN
  intro p e s m_ below meth cd F ls hF hsz E0
  obtain ⟨S, hr, hlocks, hK, hW, hA, hl⟩ := E0
  have hX_ := S.1
  have hB_ := S.2.1
  have hts := S.2.2.2.2
  have hl : lv_has ls 1 [(0, .ref (a (20 + g)))] := hl
  have hiX1 : ∀ w ∈ u_ws RX1 TX1 8, w ∈ wsX1_isShort := fun _ h => (List.mem_cons_of_mem _ (List.mem_append_right _ h))
  have w0 := hts (.fieldLink RX1 28 "Islandgrid$Generator" "tank" "I") (List.mem_cons_of_mem _ (List.mem_append_left _ (List.mem_of_getElem? (i := 0) rfl)))
  have w1 := hts (.fieldLink RX1 19 "Islandgrid$Generator" "least" "I") (List.mem_cons_of_mem _ (List.mem_append_left _ (List.mem_of_getElem? (i := 1) rfl)))
  refine lv_aload_n hX_ hB_ dX1_isShort_0 rfl (lv_at hl 0 rfl) ?_
  refine ze_get (ci := 1) (C := RX1) (T := TX1) (N := 8) (v := .int (A 10 g)) S hiX1 hK hW (18 + g) (ze_atG (g := g) (by omega)) rfl 4 (by decide) rfl w0 dX1_isShort_1 ?_
  refine lv_aload_n hX_ hB_ dX1_isShort_4 rfl (lv_at hl 0 rfl) ?_
  refine ze_get (ci := 1) (C := RX1) (T := TX1) (N := 8) (v := .int (A 7 g)) S hiX1 hK hW (18 + g) (ze_atG (g := g) (by omega)) rfl 1 (by decide) rfl w1 dX1_isShort_5 ?_
  refine lv_icmp_ge (tgt := 15) hX_ hB_ dX1_isShort_8 (by decide) (fun c8 => ?_) (fun c8 => ?_)
  · refine lv_iconst (v := 0) hX_ hB_ dX1_isShort_15 (by decide) ?_
    exact ze_iret S hr hlocks hF hK hW rfl dX1_isShort_16 (Nat.le_of_ble_eq_true rfl) (Nat.le_of_ble_eq_true rfl) (by simp only [ze_b, zf_short, eq_true c8, not_true_eq_false, not_false_eq_true, and_true, true_and, and_false, false_and, or_true, true_or, or_false, false_or, and_self, or_self, Decidable.not_not, if_true, if_false, reduceIte, reduceCtorEq, ne_eq, eq_self, Int32.lt_irrefl, Int32.le_refl, Nat.lt_irrefl]) rfl
  · refine lv_iconst (v := 1) hX_ hB_ dX1_isShort_11 (by decide) ?_
    refine lv_goto (tgt := 16) hX_ hB_ dX1_isShort_12 (by decide) ?_
    exact ze_iret S hr hlocks hF hK hW rfl dX1_isShort_16 (Nat.le_of_ble_eq_true rfl) (Nat.le_of_ble_eq_true rfl) (by simp only [ze_b, zf_short, eq_false c8, not_true_eq_false, not_false_eq_true, and_true, true_and, and_false, false_and, or_true, true_or, or_false, false_or, and_self, or_self, Decidable.not_not, if_true, if_false, reduceIte, reduceCtorEq, ne_eq, eq_self, Int32.lt_irrefl, Int32.le_refl, Nat.lt_irrefl]) rfl
set_option maxHeartbeats 4000000 in
set_option maxRecDepth 100000 in
theorem zc_1_switchOn (l : Launch) (D : va_G) (c : Nat → ClassId) (a n : Nat → Nat) (A : Nat → Nat → Int32) (B : Nat → Int64) (E : Nat → Nat → Int32) (g : Nat) (hN : zf_N n) (hg : g < n 2) : ze_V l yX1_switchOn wsX1_switchOn 0 0 0 0 D c (ze_wC c a n A B E) [.ref (a (20 + g))] (ze_wC c a n (zf_start A g) B E) := by
  intro sz
  refine ze_start (cc := cX1_switchOn) (maxL := 1) (ret := none) (own := RX1) (by decide) rfl rfl (Nat.le_of_ble_eq_true rfl) ?_
  obtain ⟨hn0, hn1, hn2, hn3, hn4⟩ := id hN
  intro p e s m_ below meth cd F ls hF hsz E0
  obtain ⟨S, hr, hlocks, hK, hW, hA, hl⟩ := E0
  have hX_ := S.1
  have hB_ := S.2.1
  have hts := S.2.2.2.2
  have hl : lv_has ls 1 [(0, .ref (a (20 + g)))] := hl
  have hiX1 : ∀ w ∈ u_ws RX1 TX1 8, w ∈ wsX1_switchOn := fun _ h => (List.mem_cons_of_mem _ (List.mem_append_right _ h))
  have w0 := hts (.fieldLink RX1 25 "Islandgrid$Generator" "warmUp" "I") (List.mem_cons_of_mem _ (List.mem_append_left _ (List.mem_of_getElem? (i := 0) rfl)))
  have w1 := hts (.fieldLink RX1 31 "Islandgrid$Generator" "left" "I") (List.mem_cons_of_mem _ (List.mem_append_left _ (List.mem_of_getElem? (i := 1) rfl)))
  have w2 := hts (.fieldLink RX1 9 "Islandgrid$Generator" "mode" "C") (List.mem_cons_of_mem _ (List.mem_append_left _ (List.mem_of_getElem? (i := 2) rfl)))
  refine lv_aload_n hX_ hB_ dX1_switchOn_0 rfl (lv_at hl 0 rfl) ?_
  refine lv_aload_n hX_ hB_ dX1_switchOn_1 rfl (lv_at hl 0 rfl) ?_
  refine ze_get (ci := 1) (C := RX1) (T := TX1) (N := 8) (v := .int (A 9 g)) S hiX1 hK hW (18 + g) (ze_atG (g := g) (by omega)) rfl 3 (by decide) rfl w0 dX1_switchOn_2 ?_
  refine ze_put (ci := 1) (C := RX1) (T := TX1) (N := 8) (v := .int (A 9 g)) S hiX1 tyX1 tyX1_ok nmX1 hK hW (18 + g) (ze_atG (g := g) (by omega)) rfl 6 (by decide) (Nat.le_of_ble_eq_true rfl) rfl rfl rfl w1 dX1_switchOn_5 (ze_pG6 g (A 9 g) _ _ _ _ _ _ (by omega)) (fun H locs hW => ?_)
  have hW : ze_W D (ze_wC c a n (ze_sE A 11 g (A 9 g)) B E) F s.heap _ _ := hW
  refine lv_aload_n hX_ hB_ dX1_switchOn_8 rfl (lv_at hl 0 rfl) ?_
  refine lv_aload_n hX_ hB_ dX1_switchOn_9 rfl (lv_at hl 0 rfl) ?_
  refine ze_get (ci := 1) (C := RX1) (T := TX1) (N := 8) (v := .int ((upd (A 11) g (A 9 g)) g)) S hiX1 hK hW (18 + g) (ze_atG (g := g) (by omega)) rfl 6 (by decide) rfl w1 dX1_switchOn_10 ?_
  refine ze_top (ze_updat _ _ _) ?_
  refine lv_if_ne (tgt := 21) hX_ hB_ dX1_switchOn_13 (by decide) (fun c13 => ?_) (fun c13 => ?_)
  · refine lv_bipush (v := 119) hX_ hB_ dX1_switchOn_21 (by decide) ?_
    refine ze_put (ci := 1) (C := RX1) (T := TX1) (N := 8) (v := .int 119) S hiX1 tyX1 tyX1_ok nmX1 hK hW (18 + g) (ze_atG (g := g) (by omega)) rfl 5 (by decide) (Nat.le_of_ble_eq_true rfl) rfl rfl rfl w2 dX1_switchOn_23 (ze_pG5 g (119) _ _ _ _ _ _ (by omega)) (fun H locs hW => ?_)
    have hW : ze_W D (ze_wC c a n (ze_sE (ze_sE A 11 g (A 9 g)) 13 g 119) B E) F s.heap _ _ := hW
    exact ze_vret S hr hlocks hF hK hW dX1_switchOn_26 (Nat.le_of_ble_eq_true rfl) (Nat.le_of_ble_eq_true rfl) (by simp only [ze_b, zf_start, eq_false c13, not_true_eq_false, not_false_eq_true, and_true, true_and, and_false, false_and, or_true, true_or, or_false, false_or, and_self, or_self, Decidable.not_not, if_true, if_false, reduceIte, reduceCtorEq, ne_eq, eq_self, Int32.lt_irrefl, Int32.le_refl, Nat.lt_irrefl])
  · refine lv_bipush (v := 114) hX_ hB_ dX1_switchOn_16 (by decide) ?_
    refine lv_goto (tgt := 23) hX_ hB_ dX1_switchOn_18 (by decide) ?_
    refine ze_put (ci := 1) (C := RX1) (T := TX1) (N := 8) (v := .int 114) S hiX1 tyX1 tyX1_ok nmX1 hK hW (18 + g) (ze_atG (g := g) (by omega)) rfl 5 (by decide) (Nat.le_of_ble_eq_true rfl) rfl rfl rfl w2 dX1_switchOn_23 (ze_pG5 g (114) _ _ _ _ _ _ (by omega)) (fun H locs hW => ?_)
    have hW : ze_W D (ze_wC c a n (ze_sE (ze_sE A 11 g (A 9 g)) 13 g 114) B E) F s.heap _ _ := hW
    exact ze_vret S hr hlocks hF hK hW dX1_switchOn_26 (Nat.le_of_ble_eq_true rfl) (Nat.le_of_ble_eq_true rfl) (by simp only [ze_b, zf_start, eq_true c13, not_true_eq_false, not_false_eq_true, and_true, true_and, and_false, false_and, or_true, true_or, or_false, false_or, and_self, or_self, Decidable.not_not, if_true, if_false, reduceIte, reduceCtorEq, ne_eq, eq_self, Int32.lt_irrefl, Int32.le_refl, Nat.lt_irrefl])
set_option maxHeartbeats 4000000 in
set_option maxRecDepth 100000 in
theorem zc_1_switchOff (l : Launch) (D : va_G) (c : Nat → ClassId) (a n : Nat → Nat) (A : Nat → Nat → Int32) (B : Nat → Int64) (E : Nat → Nat → Int32) (g : Nat) (hN : zf_N n) (hg : g < n 2) : ze_V l yX1_switchOff wsX1_switchOff 0 0 0 0 D c (ze_wC c a n A B E) [.ref (a (20 + g))] (ze_wC c a n (ze_sE A 13 g 111) B E) := by
  intro sz
  refine ze_start (cc := cX1_switchOff) (maxL := 1) (ret := none) (own := RX1) (by decide) rfl rfl (Nat.le_of_ble_eq_true rfl) ?_
  obtain ⟨hn0, hn1, hn2, hn3, hn4⟩ := id hN
  intro p e s m_ below meth cd F ls hF hsz E0
  obtain ⟨S, hr, hlocks, hK, hW, hA, hl⟩ := E0
  have hX_ := S.1
  have hB_ := S.2.1
  have hts := S.2.2.2.2
  have hl : lv_has ls 1 [(0, .ref (a (20 + g)))] := hl
  have hiX1 : ∀ w ∈ u_ws RX1 TX1 8, w ∈ wsX1_switchOff := fun _ h => (List.mem_cons_of_mem _ (List.mem_append_right _ h))
  have w0 := hts (.fieldLink RX1 9 "Islandgrid$Generator" "mode" "C") (List.mem_cons_of_mem _ (List.mem_append_left _ (List.mem_of_getElem? (i := 0) rfl)))
  refine lv_aload_n hX_ hB_ dX1_switchOff_0 rfl (lv_at hl 0 rfl) ?_
  refine lv_bipush (v := 111) hX_ hB_ dX1_switchOff_1 (by decide) ?_
  refine ze_put (ci := 1) (C := RX1) (T := TX1) (N := 8) (v := .int 111) S hiX1 tyX1 tyX1_ok nmX1 hK hW (18 + g) (ze_atG (g := g) (by omega)) rfl 5 (by decide) (Nat.le_of_ble_eq_true rfl) rfl rfl rfl w0 dX1_switchOff_3 (ze_pG5 g (111) _ _ _ _ _ _ (by omega)) (fun H locs hW => ?_)
  have hW : ze_W D (ze_wC c a n (ze_sE A 13 g 111) B E) F s.heap _ _ := hW
  exact ze_vret S hr hlocks hF hK hW dX1_switchOff_6 (Nat.le_of_ble_eq_true rfl) (Nat.le_of_ble_eq_true rfl) rfl
set_option maxHeartbeats 4000000 in
set_option maxRecDepth 100000 in
theorem zc_1_beginTick (l : Launch) (D : va_G) (c : Nat → ClassId) (a n : Nat → Nat) (A : Nat → Nat → Int32) (B : Nat → Int64) (E : Nat → Nat → Int32) (g : Nat) (hN : zf_N n) (hg : g < n 2) : ze_V l yX1_beginTick wsX1_beginTick 1 20 0 0 D c (ze_wC c a n A B E) [.ref (a (20 + g))] (ze_wC c a n (ze_sE (ze_sE (ze_sE A 12 g 0) 11 g (zf_tG A g)) 13 g (zf_tS A g)) B E) := by
  intro sz
  refine ze_start (cc := cX1_beginTick) (maxL := 1) (ret := none) (own := RX1) (by decide) rfl rfl (Nat.le_of_ble_eq_true rfl) ?_
  obtain ⟨hn0, hn1, hn2, hn3, hn4⟩ := id hN
  intro p e s m_ below meth cd F ls hF hsz E0
  obtain ⟨S, hr, hlocks, hK, hW, hA, hl⟩ := E0
  have hX_ := S.1
  have hB_ := S.2.1
  have hts := S.2.2.2.2
  have hl : lv_has ls 1 [(0, .ref (a (20 + g)))] := hl
  have hiX1 : ∀ w ∈ u_ws RX1 TX1 8, w ∈ wsX1_beginTick := fun _ h => (List.mem_cons_of_mem _ (List.mem_append_right _ h))
  have w0 := hts (.fieldLink RX1 34 "Islandgrid$Generator" "gave" "I") (List.mem_cons_of_mem _ (List.mem_append_left _ (List.mem_of_getElem? (i := 0) rfl)))
  have w1 := hts (.fieldLink RX1 9 "Islandgrid$Generator" "mode" "C") (List.mem_cons_of_mem _ (List.mem_append_left _ (List.mem_of_getElem? (i := 1) rfl)))
  have w2 := hts (.fieldLink RX1 31 "Islandgrid$Generator" "left" "I") (List.mem_cons_of_mem _ (List.mem_append_left _ (List.mem_of_getElem? (i := 2) rfl)))
  refine lv_aload_n hX_ hB_ dX1_beginTick_0 rfl (lv_at hl 0 rfl) ?_
  refine lv_iconst (v := 0) hX_ hB_ dX1_beginTick_1 (by decide) ?_
  refine ze_put (ci := 1) (C := RX1) (T := TX1) (N := 8) (v := .int 0) S hiX1 tyX1 tyX1_ok nmX1 hK hW (18 + g) (ze_atG (g := g) (by omega)) rfl 7 (by decide) (Nat.le_of_ble_eq_true rfl) rfl rfl rfl w0 dX1_beginTick_2 (ze_pG7 g (0) _ _ _ _ _ _ (by omega)) (fun H locs hW => ?_)
  have hW : ze_W D (ze_wC c a n (ze_sE A 12 g 0) B E) F s.heap _ _ := hW
  refine lv_aload_n hX_ hB_ dX1_beginTick_5 rfl (lv_at hl 0 rfl) ?_
  refine ze_get (ci := 1) (C := RX1) (T := TX1) (N := 8) (v := .int (A 13 g)) S hiX1 hK hW (18 + g) (ze_atG (g := g) (by omega)) rfl 5 (by decide) rfl w1 dX1_beginTick_6 ?_
  refine lv_bipush (v := 119) hX_ hB_ dX1_beginTick_9 (by decide) ?_
  refine lv_icmp_ne (tgt := 42) hX_ hB_ dX1_beginTick_11 (by decide) (fun c11 => ?_) (fun c11 => ?_)
  · refine lv_aload_n hX_ hB_ dX1_beginTick_42 rfl (lv_at hl 0 rfl) ?_
    refine ze_get (ci := 1) (C := RX1) (T := TX1) (N := 8) (v := .int (A 13 g)) S hiX1 hK hW (18 + g) (ze_atG (g := g) (by omega)) rfl 5 (by decide) rfl w1 dX1_beginTick_43 ?_
    refine lv_bipush (v := 114) hX_ hB_ dX1_beginTick_46 (by decide) ?_
    refine lv_icmp_ne (tgt := 62) hX_ hB_ dX1_beginTick_48 (by decide) (fun c48 => ?_) (fun c48 => ?_)
    · exact ze_vret S hr hlocks hF hK hW dX1_beginTick_62 (Nat.le_of_ble_eq_true rfl) (Nat.le_of_ble_eq_true rfl) (by have e11 : zf_tG A g = A 11 g := (by simp only [ze_b, zf_tG, eq_false c11, eq_false c48, not_true_eq_false, not_false_eq_true, and_true, true_and, and_false, false_and, or_true, true_or, or_false, false_or, and_self, or_self, Decidable.not_not, if_true, if_false, reduceIte, reduceCtorEq, ne_eq, eq_self, Int32.lt_irrefl, Int32.le_refl, Nat.lt_irrefl]); have e13 : zf_tS A g = A 13 g := (by simp only [ze_b, zf_tS, zf_tS0, eq_false c11, eq_false c48, not_true_eq_false, not_false_eq_true, and_true, true_and, and_false, false_and, or_true, true_or, or_false, false_or, and_self, or_self, Decidable.not_not, if_true, if_false, reduceIte, reduceCtorEq, ne_eq, eq_self, Int32.lt_irrefl, Int32.le_refl, Nat.lt_irrefl, Int32.not_lt]); rw [e11, e13]; first | done | simp (decide := true) only [ze_sEid, ze_sE2, ze_sEid2, ze_sEid3])
    · refine lv_aload_n hX_ hB_ dX1_beginTick_51 rfl (lv_at hl 0 rfl) ?_
      refine ze_Vi (As := []) (rest := []) (ci := 1) (q0 := (18 + g)) (k := (RX1, TX1, 8)) S (zc_1_isShort l D c a n (ze_sE A 12 g 0) B E g hN (by omega)) (cwV 0 hts gX1_beginTick_X1_isShort rfl rfl rfl (by decide +kernel) ⟨Nat.le_of_ble_eq_true rfl, Nat.le_of_ble_eq_true rfl⟩) hK hW hA rfl (ze_atG (g := g) (by omega)) rfl hl.1 rfl (lv_room (Nat.le_of_ble_eq_true rfl)) dX1_beginTick_52 ⟨Nat.le_of_ble_eq_true rfl, Nat.le_of_ble_eq_true rfl⟩ (fun H locs hW => ?_)
      refine lv_if_eq (tgt := 62) hX_ hB_ dX1_beginTick_55 (by decide) (fun c55 => ?_) (fun c55 => ?_)
      · have c55 : ¬ (zf_short A g) := ze_bf c55
        exact ze_vret S hr hlocks hF hK hW dX1_beginTick_62 (Nat.le_of_ble_eq_true rfl) (Nat.le_of_ble_eq_true rfl) (by have e11 : zf_tG A g = A 11 g := (by simp only [ze_b, zf_tG, eq_false c11, eq_true c48, eq_false c55, not_true_eq_false, not_false_eq_true, and_true, true_and, and_false, false_and, or_true, true_or, or_false, false_or, and_self, or_self, Decidable.not_not, if_true, if_false, reduceIte, reduceCtorEq, ne_eq, eq_self, Int32.lt_irrefl, Int32.le_refl, Nat.lt_irrefl]); have e13 : zf_tS A g = A 13 g := (by simp only [ze_b, zf_tS, zf_tS0, eq_false c11, eq_true c48, eq_false c55, not_true_eq_false, not_false_eq_true, and_true, true_and, and_false, false_and, or_true, true_or, or_false, false_or, and_self, or_self, Decidable.not_not, if_true, if_false, reduceIte, reduceCtorEq, ne_eq, eq_self, Int32.lt_irrefl, Int32.le_refl, Nat.lt_irrefl, Int32.not_lt]); rw [e11, e13]; first | done | simp (decide := true) only [ze_sEid, ze_sE2, ze_sEid2, ze_sEid3])
      · have c55 : zf_short A g := ze_bt c55
        refine lv_aload_n hX_ hB_ dX1_beginTick_58 rfl (lv_at hl 0 rfl) ?_
        refine ze_Vv (As := []) (rest := []) (ci := 1) (q0 := (18 + g)) (k := (RX1, TX1, 8)) S (zc_1_switchOff l D c a n (ze_sE A 12 g 0) B E g hN (by omega)) (cwV 0 hts gX1_beginTick_X1_switchOff rfl rfl rfl (by decide +kernel) ⟨Nat.le_of_ble_eq_true rfl, Nat.le_of_ble_eq_true rfl⟩) hK hW hA rfl (ze_atG (g := g) (by omega)) rfl hl.1 rfl (lv_room (Nat.le_of_ble_eq_true rfl)) dX1_beginTick_59 ⟨Nat.le_of_ble_eq_true rfl, Nat.le_of_ble_eq_true rfl⟩ (fun H locs hW => ?_)
        have hW : ze_W D (ze_wC c a n (ze_sE (ze_sE A 12 g 0) 13 g 111) B E) F s.heap _ _ := hW
        exact ze_vret S hr hlocks hF hK hW dX1_beginTick_62 (Nat.le_of_ble_eq_true rfl) (Nat.le_of_ble_eq_true rfl) (by have e11 : zf_tG A g = A 11 g := (by simp only [ze_b, zf_tG, eq_false c11, eq_true c48, eq_true c55, not_true_eq_false, not_false_eq_true, and_true, true_and, and_false, false_and, or_true, true_or, or_false, false_or, and_self, or_self, Decidable.not_not, if_true, if_false, reduceIte, reduceCtorEq, ne_eq, eq_self, Int32.lt_irrefl, Int32.le_refl, Nat.lt_irrefl]); have e13 : zf_tS A g = 111 := (by simp only [ze_b, zf_tS, zf_tS0, eq_false c11, eq_true c48, eq_true c55, not_true_eq_false, not_false_eq_true, and_true, true_and, and_false, false_and, or_true, true_or, or_false, false_or, and_self, or_self, Decidable.not_not, if_true, if_false, reduceIte, reduceCtorEq, ne_eq, eq_self, Int32.lt_irrefl, Int32.le_refl, Nat.lt_irrefl, Int32.not_lt]); rw [e11, e13]; first | done | simp (decide := true) only [ze_sEid, ze_sE2, ze_sEid2, ze_sEid3])
  · refine lv_aload_n hX_ hB_ dX1_beginTick_14 rfl (lv_at hl 0 rfl) ?_
    refine lv_dup hX_ hB_ dX1_beginTick_15 rfl ?_
    refine ze_get (ci := 1) (C := RX1) (T := TX1) (N := 8) (v := .int (A 11 g)) S hiX1 hK hW (18 + g) (ze_atG (g := g) (by omega)) rfl 6 (by decide) rfl w2 dX1_beginTick_16 ?_
    refine lv_iconst (v := 1) hX_ hB_ dX1_beginTick_19 (by decide) ?_
    refine lv_isub hX_ hB_ dX1_beginTick_20 ?_
    refine ze_put (ci := 1) (C := RX1) (T := TX1) (N := 8) (v := .int (A 11 g - 1)) S hiX1 tyX1 tyX1_ok nmX1 hK hW (18 + g) (ze_atG (g := g) (by omega)) rfl 6 (by decide) (Nat.le_of_ble_eq_true rfl) rfl rfl rfl w2 dX1_beginTick_21 (ze_pG6 g (A 11 g - 1) _ _ _ _ _ _ (by omega)) (fun H locs hW => ?_)
    have hW : ze_W D (ze_wC c a n (ze_sE (ze_sE A 12 g 0) 11 g (A 11 g - 1)) B E) F s.heap _ _ := hW
    refine lv_aload_n hX_ hB_ dX1_beginTick_24 rfl (lv_at hl 0 rfl) ?_
    refine lv_aload_n hX_ hB_ dX1_beginTick_25 rfl (lv_at hl 0 rfl) ?_
    refine ze_get (ci := 1) (C := RX1) (T := TX1) (N := 8) (v := .int ((upd (A 11) g (A 11 g - 1)) g)) S hiX1 hK hW (18 + g) (ze_atG (g := g) (by omega)) rfl 6 (by decide) rfl w2 dX1_beginTick_26 ?_
    refine ze_top (ze_updat _ _ _) ?_
    refine lv_if_ne (tgt := 37) hX_ hB_ dX1_beginTick_29 (by decide) (fun c29 => ?_) (fun c29 => ?_)
    · refine lv_bipush (v := 119) hX_ hB_ dX1_beginTick_37 (by decide) ?_
      refine ze_put (ci := 1) (C := RX1) (T := TX1) (N := 8) (v := .int 119) S hiX1 tyX1 tyX1_ok nmX1 hK hW (18 + g) (ze_atG (g := g) (by omega)) rfl 5 (by decide) (Nat.le_of_ble_eq_true rfl) rfl rfl rfl w1 dX1_beginTick_39 (ze_pG5 g (119) _ _ _ _ _ _ (by omega)) (fun H locs hW => ?_)
      have hW : ze_W D (ze_wC c a n (ze_sE (ze_sE (ze_sE A 12 g 0) 11 g (A 11 g - 1)) 13 g 119) B E) F s.heap _ _ := hW
      refine lv_aload_n hX_ hB_ dX1_beginTick_42 rfl (lv_at hl 0 rfl) ?_
      refine ze_get (ci := 1) (C := RX1) (T := TX1) (N := 8) (v := .int ((upd (A 13) g 119) g)) S hiX1 hK hW (18 + g) (ze_atG (g := g) (by omega)) rfl 5 (by decide) rfl w1 dX1_beginTick_43 ?_
      refine ze_top (ze_updat _ _ _) ?_
      refine lv_bipush (v := 114) hX_ hB_ dX1_beginTick_46 (by decide) ?_
      refine lv_icmp_ne (tgt := 62) hX_ hB_ dX1_beginTick_48 (by decide) (fun c48 => ?_) (fun c48 => ?_)
      · exact ze_vret S hr hlocks hF hK hW dX1_beginTick_62 (Nat.le_of_ble_eq_true rfl) (Nat.le_of_ble_eq_true rfl) (by have e11 : zf_tG A g = A 11 g - 1 := (by simp only [ze_b, zf_tG, eq_true c11, eq_false c29, eq_false c48, not_true_eq_false, not_false_eq_true, and_true, true_and, and_false, false_and, or_true, true_or, or_false, false_or, and_self, or_self, Decidable.not_not, if_true, if_false, reduceIte, reduceCtorEq, ne_eq, eq_self, Int32.lt_irrefl, Int32.le_refl, Nat.lt_irrefl]); have e13 : zf_tS A g = 119 := (by simp only [ze_b, zf_tS, zf_tS0, eq_true c11, eq_false c29, eq_false c48, not_true_eq_false, not_false_eq_true, and_true, true_and, and_false, false_and, or_true, true_or, or_false, false_or, and_self, or_self, Decidable.not_not, if_true, if_false, reduceIte, reduceCtorEq, ne_eq, eq_self, Int32.lt_irrefl, Int32.le_refl, Nat.lt_irrefl, Int32.not_lt]); rw [e11, e13]; first | done | simp (decide := true) only [ze_sEid, ze_sE2, ze_sEid2, ze_sEid3])
      · exact absurd c48 (by decide)
    · refine lv_bipush (v := 114) hX_ hB_ dX1_beginTick_32 (by decide) ?_
      refine lv_goto (tgt := 39) hX_ hB_ dX1_beginTick_34 (by decide) ?_
      refine ze_put (ci := 1) (C := RX1) (T := TX1) (N := 8) (v := .int 114) S hiX1 tyX1 tyX1_ok nmX1 hK hW (18 + g) (ze_atG (g := g) (by omega)) rfl 5 (by decide) (Nat.le_of_ble_eq_true rfl) rfl rfl rfl w1 dX1_beginTick_39 (ze_pG5 g (114) _ _ _ _ _ _ (by omega)) (fun H locs hW => ?_)
      have hW : ze_W D (ze_wC c a n (ze_sE (ze_sE (ze_sE A 12 g 0) 11 g (A 11 g - 1)) 13 g 114) B E) F s.heap _ _ := hW
      refine lv_aload_n hX_ hB_ dX1_beginTick_42 rfl (lv_at hl 0 rfl) ?_
      refine ze_get (ci := 1) (C := RX1) (T := TX1) (N := 8) (v := .int ((upd (A 13) g 114) g)) S hiX1 hK hW (18 + g) (ze_atG (g := g) (by omega)) rfl 5 (by decide) rfl w1 dX1_beginTick_43 ?_
      refine ze_top (ze_updat _ _ _) ?_
      refine lv_bipush (v := 114) hX_ hB_ dX1_beginTick_46 (by decide) ?_
      refine lv_icmp_ne (tgt := 62) hX_ hB_ dX1_beginTick_48 (by decide) (fun c48 => ?_) (fun c48 => ?_)
      · exact absurd c48 (by decide)
      · refine lv_aload_n hX_ hB_ dX1_beginTick_51 rfl (lv_at hl 0 rfl) ?_
        refine ze_Vi (As := []) (rest := []) (ci := 1) (q0 := (18 + g)) (k := (RX1, TX1, 8)) S (zc_1_isShort l D c a n (ze_sE (ze_sE (ze_sE A 12 g 0) 11 g (A 11 g - 1)) 13 g 114) B E g hN (by omega)) (cwV 0 hts gX1_beginTick_X1_isShort rfl rfl rfl (by decide +kernel) ⟨Nat.le_of_ble_eq_true rfl, Nat.le_of_ble_eq_true rfl⟩) hK hW hA rfl (ze_atG (g := g) (by omega)) rfl hl.1 rfl (lv_room (Nat.le_of_ble_eq_true rfl)) dX1_beginTick_52 ⟨Nat.le_of_ble_eq_true rfl, Nat.le_of_ble_eq_true rfl⟩ (fun H locs hW => ?_)
        refine lv_if_eq (tgt := 62) hX_ hB_ dX1_beginTick_55 (by decide) (fun c55 => ?_) (fun c55 => ?_)
        · have c55 : ¬ (zf_short A g) := ze_bf c55
          exact ze_vret S hr hlocks hF hK hW dX1_beginTick_62 (Nat.le_of_ble_eq_true rfl) (Nat.le_of_ble_eq_true rfl) (by have e11 : zf_tG A g = A 11 g - 1 := (by simp only [ze_b, zf_tG, eq_true c11, eq_true c29, eq_true c48, eq_false c55, not_true_eq_false, not_false_eq_true, and_true, true_and, and_false, false_and, or_true, true_or, or_false, false_or, and_self, or_self, Decidable.not_not, if_true, if_false, reduceIte, reduceCtorEq, ne_eq, eq_self, Int32.lt_irrefl, Int32.le_refl, Nat.lt_irrefl]); have e13 : zf_tS A g = 114 := (by simp only [ze_b, zf_tS, zf_tS0, eq_true c11, eq_true c29, eq_true c48, eq_false c55, not_true_eq_false, not_false_eq_true, and_true, true_and, and_false, false_and, or_true, true_or, or_false, false_or, and_self, or_self, Decidable.not_not, if_true, if_false, reduceIte, reduceCtorEq, ne_eq, eq_self, Int32.lt_irrefl, Int32.le_refl, Nat.lt_irrefl, Int32.not_lt]); rw [e11, e13]; first | done | simp (decide := true) only [ze_sEid, ze_sE2, ze_sEid2, ze_sEid3])
        · have c55 : zf_short A g := ze_bt c55
          refine lv_aload_n hX_ hB_ dX1_beginTick_58 rfl (lv_at hl 0 rfl) ?_
          refine ze_Vv (As := []) (rest := []) (ci := 1) (q0 := (18 + g)) (k := (RX1, TX1, 8)) S (zc_1_switchOff l D c a n (ze_sE (ze_sE (ze_sE A 12 g 0) 11 g (A 11 g - 1)) 13 g 114) B E g hN (by omega)) (cwV 0 hts gX1_beginTick_X1_switchOff rfl rfl rfl (by decide +kernel) ⟨Nat.le_of_ble_eq_true rfl, Nat.le_of_ble_eq_true rfl⟩) hK hW hA rfl (ze_atG (g := g) (by omega)) rfl hl.1 rfl (lv_room (Nat.le_of_ble_eq_true rfl)) dX1_beginTick_59 ⟨Nat.le_of_ble_eq_true rfl, Nat.le_of_ble_eq_true rfl⟩ (fun H locs hW => ?_)
          have hW : ze_W D (ze_wC c a n (ze_sE (ze_sE (ze_sE (ze_sE A 12 g 0) 11 g (A 11 g - 1)) 13 g 114) 13 g 111) B E) F s.heap _ _ := hW
          exact ze_vret S hr hlocks hF hK hW dX1_beginTick_62 (Nat.le_of_ble_eq_true rfl) (Nat.le_of_ble_eq_true rfl) (by have e11 : zf_tG A g = A 11 g - 1 := (by simp only [ze_b, zf_tG, eq_true c11, eq_true c29, eq_true c48, eq_true c55, not_true_eq_false, not_false_eq_true, and_true, true_and, and_false, false_and, or_true, true_or, or_false, false_or, and_self, or_self, Decidable.not_not, if_true, if_false, reduceIte, reduceCtorEq, ne_eq, eq_self, Int32.lt_irrefl, Int32.le_refl, Nat.lt_irrefl]); have e13 : zf_tS A g = 111 := (by simp only [ze_b, zf_tS, zf_tS0, eq_true c11, eq_true c29, eq_true c48, eq_true c55, not_true_eq_false, not_false_eq_true, and_true, true_and, and_false, false_and, or_true, true_or, or_false, false_or, and_self, or_self, Decidable.not_not, if_true, if_false, reduceIte, reduceCtorEq, ne_eq, eq_self, Int32.lt_irrefl, Int32.le_refl, Nat.lt_irrefl, Int32.not_lt]); rw [e11, e13]; first | done | simp (decide := true) only [ze_sEid, ze_sE2, ze_sEid2, ze_sEid3])
set_option maxHeartbeats 4000000 in
set_option maxRecDepth 100000 in
theorem zc_1_supply (l : Launch) (D : va_G) (c : Nat → ClassId) (a n : Nat → Nat) (A : Nat → Nat → Int32) (B : Nat → Int64) (E : Nat → Nat → Int32) (g : Nat) (hN : zf_N n) (hg : g < n 2) : ze_I l yX1_supply wsX1_supply 1 13 0 0 D c (ze_wC c a n A B E) [.ref (a (20 + g))] (zf_can A g) (ze_wC c a n A B E) := by
  intro sz
  refine ze_start (cc := cX1_supply) (maxL := 1) (ret := (some .int)) (own := RX1) (by decide) rfl rfl (Nat.le_of_ble_eq_true rfl) ?_
  obtain ⟨hn0, hn1, hn2, hn3, hn4⟩ := id hN
  intro p e s m_ below meth cd F ls hF hsz E0
  obtain ⟨S, hr, hlocks, hK, hW, hA, hl⟩ := E0
  have hX_ := S.1
  have hB_ := S.2.1
  have hts := S.2.2.2.2
  have hl : lv_has ls 1 [(0, .ref (a (20 + g)))] := hl
  have hiX1 : ∀ w ∈ u_ws RX1 TX1 8, w ∈ wsX1_supply := fun _ h => (List.mem_cons_of_mem _ (List.mem_append_right _ h))
  have w0 := hts (.fieldLink RX1 22 "Islandgrid$Generator" "greatest" "I") (List.mem_cons_of_mem _ (List.mem_append_left _ (List.mem_of_getElem? (i := 0) rfl)))
  have w1 := hts (.fieldLink RX1 28 "Islandgrid$Generator" "tank" "I") (List.mem_cons_of_mem _ (List.mem_append_left _ (List.mem_of_getElem? (i := 1) rfl)))
  have w2 := hts (.methodLink RX1 44 Lib.Math.min.name) (List.mem_cons_of_mem _ (List.mem_append_left _ (List.mem_of_getElem? (i := 2) rfl)))
  have w3 := hts (.static Lib.Math.min.name) (List.mem_cons_of_mem _ (List.mem_append_left _ (List.mem_of_getElem? (i := 3) rfl)))
  have w4 := hts (.initialized "java/lang/Math") (List.mem_cons_of_mem _ (List.mem_append_left _ (List.mem_of_getElem? (i := 4) rfl)))
  have w5 := hts (.code Lib.Math.min.name Lib.Math.min.code 2 (some .int)) (List.mem_cons_of_mem _ (List.mem_append_left _ (List.mem_of_getElem? (i := 5) rfl)))
  refine lv_aload_n hX_ hB_ dX1_supply_0 rfl (lv_at hl 0 rfl) ?_
  refine ze_get (ci := 1) (C := RX1) (T := TX1) (N := 8) (v := .int (A 8 g)) S hiX1 hK hW (18 + g) (ze_atG (g := g) (by omega)) rfl 2 (by decide) rfl w0 dX1_supply_1 ?_
  refine lv_aload_n hX_ hB_ dX1_supply_4 rfl (lv_at hl 0 rfl) ?_
  refine ze_get (ci := 1) (C := RX1) (T := TX1) (N := 8) (v := .int (A 10 g)) S hiX1 hK hW (18 + g) (ze_atG (g := g) (by omega)) rfl 4 (by decide) rfl w1 dX1_supply_5 ?_
  refine ze_min S hl.1 w2 w3 w4 w5 ⟨Nat.le_of_ble_eq_true rfl, Nat.le_of_ble_eq_true rfl, Nat.le_of_ble_eq_true rfl, Nat.le_of_ble_eq_true rfl⟩ dX1_supply_8 ?_
  exact ze_iret S hr hlocks hF hK hW rfl dX1_supply_11 (Nat.le_of_ble_eq_true rfl) (Nat.le_of_ble_eq_true rfl) rfl rfl
set_option maxHeartbeats 4000000 in
set_option maxRecDepth 100000 in
theorem zc_1_steps (l : Launch) (D : va_G) (c : Nat → ClassId) (a n : Nat → Nat) (A : Nat → Nat → Int32) (B : Nat → Int64) (E : Nat → Nat → Int32) (g : Nat) (hN : zf_N n) (hg : g < n 2) : ze_I l yX1_steps wsX1_steps 2 33 0 0 D c (ze_wC c a n A B E) [.ref (a (20 + g))] (zf_steps A g) (ze_wC c a n A B E) := by
  intro sz
  refine ze_start (cc := cX1_steps) (maxL := 1) (ret := (some .int)) (own := RX1) (by decide) rfl rfl (Nat.le_of_ble_eq_true rfl) ?_
  obtain ⟨hn0, hn1, hn2, hn3, hn4⟩ := id hN
  intro p e s m_ below meth cd F ls hF hsz E0
  obtain ⟨S, hr, hlocks, hK, hW, hA, hl⟩ := E0
  have hX_ := S.1
  have hB_ := S.2.1
  have hts := S.2.2.2.2
  have hl : lv_has ls 1 [(0, .ref (a (20 + g)))] := hl
  have hiX1 : ∀ w ∈ u_ws RX1 TX1 8, w ∈ wsX1_steps := fun _ h => (List.mem_cons_of_mem _ (List.mem_append_right _ h))
  have w0 := hts (.fieldLink RX1 19 "Islandgrid$Generator" "least" "I") (List.mem_cons_of_mem _ (List.mem_append_left _ (List.mem_of_getElem? (i := 0) rfl)))
  have w1 := hts (.methodLink RX1 54 Lib.Math.max.name) (List.mem_cons_of_mem _ (List.mem_append_left _ (List.mem_of_getElem? (i := 1) rfl)))
  have w2 := hts (.static Lib.Math.max.name) (List.mem_cons_of_mem _ (List.mem_append_left _ (List.mem_of_getElem? (i := 2) rfl)))
  have w3 := hts (.initialized "java/lang/Math") (List.mem_cons_of_mem _ (List.mem_append_left _ (List.mem_of_getElem? (i := 3) rfl)))
  have w4 := hts (.code Lib.Math.max.name Lib.Math.max.code 2 (some .int)) (List.mem_cons_of_mem _ (List.mem_append_left _ (List.mem_of_getElem? (i := 4) rfl)))
  refine lv_iconst (v := 0) hX_ hB_ dX1_steps_0 (by decide) ?_
  refine lv_aload_n hX_ hB_ dX1_steps_1 rfl (lv_at hl 0 rfl) ?_
  refine ze_Vi (As := []) (rest := [.int 0]) (ci := 1) (q0 := (18 + g)) (k := (RX1, TX1, 8)) S (zc_1_supply l D c a n A B E g hN (by omega)) (cwV 0 hts gX1_steps_X1_supply rfl rfl rfl (by decide +kernel) ⟨Nat.le_of_ble_eq_true rfl, Nat.le_of_ble_eq_true rfl⟩) hK hW hA rfl (ze_atG (g := g) (by omega)) rfl hl.1 rfl (lv_room (Nat.le_of_ble_eq_true rfl)) dX1_steps_2 ⟨Nat.le_of_ble_eq_true rfl, Nat.le_of_ble_eq_true rfl⟩ (fun H locs hW => ?_)
  refine lv_aload_n hX_ hB_ dX1_steps_5 rfl (lv_at hl 0 rfl) ?_
  refine ze_get (ci := 1) (C := RX1) (T := TX1) (N := 8) (v := .int (A 7 g)) S hiX1 hK hW (18 + g) (ze_atG (g := g) (by omega)) rfl 1 (by decide) rfl w0 dX1_steps_6 ?_
  refine lv_isub hX_ hB_ dX1_steps_9 ?_
  refine ze_max S hl.1 w1 w2 w3 w4 ⟨Nat.le_of_ble_eq_true rfl, Nat.le_of_ble_eq_true rfl, Nat.le_of_ble_eq_true rfl, Nat.le_of_ble_eq_true rfl⟩ dX1_steps_10 ?_
  exact ze_iret S hr hlocks hF hK hW rfl dX1_steps_13 (Nat.le_of_ble_eq_true rfl) (Nat.le_of_ble_eq_true rfl) rfl rfl
set_option maxHeartbeats 4000000 in
set_option maxRecDepth 100000 in
theorem zc_1_burn (l : Launch) (D : va_G) (c : Nat → ClassId) (a n : Nat → Nat) (A : Nat → Nat → Int32) (B : Nat → Int64) (E : Nat → Nat → Int32) (g : Nat) (x : Int32) (hN : zf_N n) (hg : g < n 2) : ze_V l yX1_burn wsX1_burn 0 0 0 0 D c (ze_wC c a n A B E) [.ref (a (20 + g)), .int x] (ze_wC c a n (ze_sE (ze_sE A 12 g x) 10 g (A 10 g - x)) B E) := by
  intro sz
  refine ze_start (cc := cX1_burn) (maxL := 2) (ret := none) (own := RX1) (by decide) rfl rfl (Nat.le_of_ble_eq_true rfl) ?_
  obtain ⟨hn0, hn1, hn2, hn3, hn4⟩ := id hN
  intro p e s m_ below meth cd F ls hF hsz E0
  obtain ⟨S, hr, hlocks, hK, hW, hA, hl⟩ := E0
  have hX_ := S.1
  have hB_ := S.2.1
  have hts := S.2.2.2.2
  have hl : lv_has ls 2 [(0, .ref (a (20 + g))), (1, .int x)] := hl
  have hiX1 : ∀ w ∈ u_ws RX1 TX1 8, w ∈ wsX1_burn := fun _ h => (List.mem_cons_of_mem _ (List.mem_append_right _ h))
  have w0 := hts (.fieldLink RX1 34 "Islandgrid$Generator" "gave" "I") (List.mem_cons_of_mem _ (List.mem_append_left _ (List.mem_of_getElem? (i := 0) rfl)))
  have w1 := hts (.fieldLink RX1 28 "Islandgrid$Generator" "tank" "I") (List.mem_cons_of_mem _ (List.mem_append_left _ (List.mem_of_getElem? (i := 1) rfl)))
  refine lv_aload_n hX_ hB_ dX1_burn_0 rfl (lv_at hl 0 rfl) ?_
  refine lv_iload_n hX_ hB_ dX1_burn_1 rfl (lv_at hl 1 rfl) ?_
  refine ze_put (ci := 1) (C := RX1) (T := TX1) (N := 8) (v := .int x) S hiX1 tyX1 tyX1_ok nmX1 hK hW (18 + g) (ze_atG (g := g) (by omega)) rfl 7 (by decide) (Nat.le_of_ble_eq_true rfl) rfl rfl rfl w0 dX1_burn_2 (ze_pG7 g (x) _ _ _ _ _ _ (by omega)) (fun H locs hW => ?_)
  have hW : ze_W D (ze_wC c a n (ze_sE A 12 g x) B E) F s.heap _ _ := hW
  refine lv_aload_n hX_ hB_ dX1_burn_5 rfl (lv_at hl 0 rfl) ?_
  refine lv_dup hX_ hB_ dX1_burn_6 rfl ?_
  refine ze_get (ci := 1) (C := RX1) (T := TX1) (N := 8) (v := .int (A 10 g)) S hiX1 hK hW (18 + g) (ze_atG (g := g) (by omega)) rfl 4 (by decide) rfl w1 dX1_burn_7 ?_
  refine lv_iload_n hX_ hB_ dX1_burn_10 rfl (lv_at hl 1 rfl) ?_
  refine lv_isub hX_ hB_ dX1_burn_11 ?_
  refine ze_put (ci := 1) (C := RX1) (T := TX1) (N := 8) (v := .int (A 10 g - x)) S hiX1 tyX1 tyX1_ok nmX1 hK hW (18 + g) (ze_atG (g := g) (by omega)) rfl 4 (by decide) (Nat.le_of_ble_eq_true rfl) rfl rfl rfl w1 dX1_burn_12 (ze_pG4 g (A 10 g - x) _ _ _ _ _ _ (by omega)) (fun H locs hW => ?_)
  have hW : ze_W D (ze_wC c a n (ze_sE (ze_sE A 12 g x) 10 g (A 10 g - x)) B E) F s.heap _ _ := hW
  exact ze_vret S hr hlocks hF hK hW dX1_burn_15 (Nat.le_of_ble_eq_true rfl) (Nat.le_of_ble_eq_true rfl) rfl
set_option maxHeartbeats 4000000 in
set_option maxRecDepth 100000 in
theorem zc_1_startsAhead (l : Launch) (D : va_G) (c : Nat → ClassId) (a n : Nat → Nat) (A : Nat → Nat → Int32) (B : Nat → Int64) (E : Nat → Nat → Int32) (g h : Nat) (hN : zf_N n) (hg : g < n 2) (hh : h < n 2) : ze_I l yX1_startsAhead wsX1_startsAhead 0 0 0 0 D c (ze_wC c a n A B E) [.ref (a (20 + g)), .ref (a (20 + h))] (ze_b (zf_better A g h)) (ze_wC c a n A B E) := by
  intro sz
  refine ze_start (cc := cX1_startsAhead) (maxL := 2) (ret := (some .boolean)) (own := RX1) (by decide) rfl rfl (Nat.le_of_ble_eq_true rfl) ?_
  obtain ⟨hn0, hn1, hn2, hn3, hn4⟩ := id hN
  intro p e s m_ below meth cd F ls hF hsz E0
  obtain ⟨S, hr, hlocks, hK, hW, hA, hl⟩ := E0
  have hX_ := S.1
  have hB_ := S.2.1
  have hts := S.2.2.2.2
  have hl : lv_has ls 2 [(0, .ref (a (20 + g))), (1, .ref (a (20 + h)))] := hl
  have hiX1 : ∀ w ∈ u_ws RX1 TX1 8, w ∈ wsX1_startsAhead := fun _ h => (List.mem_cons_of_mem _ (List.mem_append_right _ h))
  have w0 := hts (.fieldLink RX1 25 "Islandgrid$Generator" "warmUp" "I") (List.mem_cons_of_mem _ (List.mem_append_left _ (List.mem_of_getElem? (i := 0) rfl)))
  have w1 := hts (.fieldLink RX1 22 "Islandgrid$Generator" "greatest" "I") (List.mem_cons_of_mem _ (List.mem_append_left _ (List.mem_of_getElem? (i := 1) rfl)))
  refine lv_aload_n hX_ hB_ dX1_startsAhead_0 rfl (lv_at hl 0 rfl) ?_
  refine ze_get (ci := 1) (C := RX1) (T := TX1) (N := 8) (v := .int (A 9 g)) S hiX1 hK hW (18 + g) (ze_atG (g := g) (by omega)) rfl 3 (by decide) rfl w0 dX1_startsAhead_1 ?_
  refine lv_aload_n hX_ hB_ dX1_startsAhead_4 rfl (lv_at hl 1 rfl) ?_
  refine ze_get (ci := 1) (C := RX1) (T := TX1) (N := 8) (v := .int (A 9 h)) S hiX1 hK hW (18 + h) (ze_atG (g := h) (by omega)) rfl 3 (by decide) rfl w0 dX1_startsAhead_5 ?_
  refine lv_icmp_eq (tgt := 28) hX_ hB_ dX1_startsAhead_8 (by decide) (fun c8 => ?_) (fun c8 => ?_)
  · refine lv_aload_n hX_ hB_ dX1_startsAhead_28 rfl (lv_at hl 0 rfl) ?_
    refine ze_get (ci := 1) (C := RX1) (T := TX1) (N := 8) (v := .int (A 8 g)) S hiX1 hK hW (18 + g) (ze_atG (g := g) (by omega)) rfl 2 (by decide) rfl w1 dX1_startsAhead_29 ?_
    refine lv_aload_n hX_ hB_ dX1_startsAhead_32 rfl (lv_at hl 1 rfl) ?_
    refine ze_get (ci := 1) (C := RX1) (T := TX1) (N := 8) (v := .int (A 8 h)) S hiX1 hK hW (18 + h) (ze_atG (g := h) (by omega)) rfl 2 (by decide) rfl w1 dX1_startsAhead_33 ?_
    refine lv_icmp_le (tgt := 43) hX_ hB_ dX1_startsAhead_36 (by decide) (fun c36 => ?_) (fun c36 => ?_)
    · refine lv_iconst (v := 0) hX_ hB_ dX1_startsAhead_43 (by decide) ?_
      exact ze_iret S hr hlocks hF hK hW rfl dX1_startsAhead_44 (Nat.le_of_ble_eq_true rfl) (Nat.le_of_ble_eq_true rfl) (by simp only [ze_b, zf_better, eq_true c8, eq_true c36, not_true_eq_false, not_false_eq_true, and_true, true_and, and_false, false_and, or_true, true_or, or_false, false_or, and_self, or_self, Decidable.not_not, if_true, if_false, reduceIte, reduceCtorEq, ne_eq, eq_self, Int32.lt_irrefl, Int32.le_refl, Nat.lt_irrefl, eq_self]) rfl
    · refine lv_iconst (v := 1) hX_ hB_ dX1_startsAhead_39 (by decide) ?_
      refine lv_goto (tgt := 44) hX_ hB_ dX1_startsAhead_40 (by decide) ?_
      exact ze_iret S hr hlocks hF hK hW rfl dX1_startsAhead_44 (Nat.le_of_ble_eq_true rfl) (Nat.le_of_ble_eq_true rfl) (by simp only [ze_b, zf_better, eq_true c8, eq_false c36, not_true_eq_false, not_false_eq_true, and_true, true_and, and_false, false_and, or_true, true_or, or_false, false_or, and_self, or_self, Decidable.not_not, if_true, if_false, reduceIte, reduceCtorEq, ne_eq, eq_self, Int32.lt_irrefl, Int32.le_refl, Nat.lt_irrefl, eq_self]) rfl
  · refine lv_aload_n hX_ hB_ dX1_startsAhead_11 rfl (lv_at hl 0 rfl) ?_
    refine ze_get (ci := 1) (C := RX1) (T := TX1) (N := 8) (v := .int (A 9 g)) S hiX1 hK hW (18 + g) (ze_atG (g := g) (by omega)) rfl 3 (by decide) rfl w0 dX1_startsAhead_12 ?_
    refine lv_aload_n hX_ hB_ dX1_startsAhead_15 rfl (lv_at hl 1 rfl) ?_
    refine ze_get (ci := 1) (C := RX1) (T := TX1) (N := 8) (v := .int (A 9 h)) S hiX1 hK hW (18 + h) (ze_atG (g := h) (by omega)) rfl 3 (by decide) rfl w0 dX1_startsAhead_16 ?_
    refine lv_icmp_ge (tgt := 26) hX_ hB_ dX1_startsAhead_19 (by decide) (fun c19 => ?_) (fun c19 => ?_)
    · refine lv_iconst (v := 0) hX_ hB_ dX1_startsAhead_26 (by decide) ?_
      exact ze_iret S hr hlocks hF hK hW rfl dX1_startsAhead_27 (Nat.le_of_ble_eq_true rfl) (Nat.le_of_ble_eq_true rfl) (by simp only [ze_b, zf_better, eq_false c8, eq_true c19, not_true_eq_false, not_false_eq_true, and_true, true_and, and_false, false_and, or_true, true_or, or_false, false_or, and_self, or_self, Decidable.not_not, if_true, if_false, reduceIte, reduceCtorEq, ne_eq, eq_self, Int32.lt_irrefl, Int32.le_refl, Nat.lt_irrefl, eq_self]) rfl
    · refine lv_iconst (v := 1) hX_ hB_ dX1_startsAhead_22 (by decide) ?_
      refine lv_goto (tgt := 27) hX_ hB_ dX1_startsAhead_23 (by decide) ?_
      exact ze_iret S hr hlocks hF hK hW rfl dX1_startsAhead_27 (Nat.le_of_ble_eq_true rfl) (Nat.le_of_ble_eq_true rfl) (by simp only [ze_b, zf_better, eq_false c8, eq_false c19, not_true_eq_false, not_false_eq_true, and_true, true_and, and_false, false_and, or_true, true_or, or_false, false_or, and_self, or_self, Decidable.not_not, if_true, if_false, reduceIte, reduceCtorEq, ne_eq, eq_self, Int32.lt_irrefl, Int32.le_refl, Nat.lt_irrefl, eq_self]) rfl
set_option maxHeartbeats 4000000 in
set_option maxRecDepth 100000 in
theorem zc_7_supply (l : Launch) (D : va_G) (c : Nat → ClassId) (a n : Nat → Nat) (A : Nat → Nat → Int32) (B : Nat → Int64) (E : Nat → Nat → Int32) (g : Nat) (hN : zf_N n) (hg : g < n 3) : ze_I l yX7_supply wsX7_supply 1 13 0 0 D c (ze_wC c a n A B E) [.ref (a (30 + g))] (ze_mn (A 16 g) (A 17 g)) (ze_wC c a n A B E) := by
  intro sz
  refine ze_start (cc := cX7_supply) (maxL := 1) (ret := (some .int)) (own := RX7) (by decide) rfl rfl (Nat.le_of_ble_eq_true rfl) ?_
  obtain ⟨hn0, hn1, hn2, hn3, hn4⟩ := id hN
  intro p e s m_ below meth cd F ls hF hsz E0
  obtain ⟨S, hr, hlocks, hK, hW, hA, hl⟩ := E0
  have hX_ := S.1
  have hB_ := S.2.1
  have hts := S.2.2.2.2
  have hl : lv_has ls 1 [(0, .ref (a (30 + g)))] := hl
  have hiX7 : ∀ w ∈ u_ws RX7 TX7 5, w ∈ wsX7_supply := fun _ h => (List.mem_cons_of_mem _ (List.mem_append_right _ h))
  have w0 := hts (.fieldLink RX7 16 "Islandgrid$Store" "rate" "I") (List.mem_cons_of_mem _ (List.mem_append_left _ (List.mem_of_getElem? (i := 0) rfl)))
  have w1 := hts (.fieldLink RX7 19 "Islandgrid$Store" "held" "I") (List.mem_cons_of_mem _ (List.mem_append_left _ (List.mem_of_getElem? (i := 1) rfl)))
  have w2 := hts (.methodLink RX7 22 Lib.Math.min.name) (List.mem_cons_of_mem _ (List.mem_append_left _ (List.mem_of_getElem? (i := 2) rfl)))
  have w3 := hts (.static Lib.Math.min.name) (List.mem_cons_of_mem _ (List.mem_append_left _ (List.mem_of_getElem? (i := 3) rfl)))
  have w4 := hts (.initialized "java/lang/Math") (List.mem_cons_of_mem _ (List.mem_append_left _ (List.mem_of_getElem? (i := 4) rfl)))
  have w5 := hts (.code Lib.Math.min.name Lib.Math.min.code 2 (some .int)) (List.mem_cons_of_mem _ (List.mem_append_left _ (List.mem_of_getElem? (i := 5) rfl)))
  refine lv_aload_n hX_ hB_ dX7_supply_0 rfl (lv_at hl 0 rfl) ?_
  refine ze_get (ci := 7) (C := RX7) (T := TX7) (N := 5) (v := .int (A 16 g)) S hiX7 hK hW (18 + (n 2 + g)) (ze_atT (g := g) (by omega)) rfl 2 (by decide) rfl w0 dX7_supply_1 ?_
  refine lv_aload_n hX_ hB_ dX7_supply_4 rfl (lv_at hl 0 rfl) ?_
  refine ze_get (ci := 7) (C := RX7) (T := TX7) (N := 5) (v := .int (A 17 g)) S hiX7 hK hW (18 + (n 2 + g)) (ze_atT (g := g) (by omega)) rfl 3 (by decide) rfl w1 dX7_supply_5 ?_
  refine ze_min S hl.1 w2 w3 w4 w5 ⟨Nat.le_of_ble_eq_true rfl, Nat.le_of_ble_eq_true rfl, Nat.le_of_ble_eq_true rfl, Nat.le_of_ble_eq_true rfl⟩ dX7_supply_8 ?_
  exact ze_iret S hr hlocks hF hK hW rfl dX7_supply_11 (Nat.le_of_ble_eq_true rfl) (Nat.le_of_ble_eq_true rfl) rfl rfl
set_option maxHeartbeats 4000000 in
set_option maxRecDepth 100000 in
theorem zc_7_room (l : Launch) (D : va_G) (c : Nat → ClassId) (a n : Nat → Nat) (A : Nat → Nat → Int32) (B : Nat → Int64) (E : Nat → Nat → Int32) (g : Nat) (hN : zf_N n) (hg : g < n 3) : ze_I l yX7_room wsX7_room 1 13 0 0 D c (ze_wC c a n A B E) [.ref (a (30 + g))] (ze_mn (A 16 g) (A 15 g - A 17 g)) (ze_wC c a n A B E) := by
  intro sz
  refine ze_start (cc := cX7_room) (maxL := 1) (ret := (some .int)) (own := RX7) (by decide) rfl rfl (Nat.le_of_ble_eq_true rfl) ?_
  obtain ⟨hn0, hn1, hn2, hn3, hn4⟩ := id hN
  intro p e s m_ below meth cd F ls hF hsz E0
  obtain ⟨S, hr, hlocks, hK, hW, hA, hl⟩ := E0
  have hX_ := S.1
  have hB_ := S.2.1
  have hts := S.2.2.2.2
  have hl : lv_has ls 1 [(0, .ref (a (30 + g)))] := hl
  have hiX7 : ∀ w ∈ u_ws RX7 TX7 5, w ∈ wsX7_room := fun _ h => (List.mem_cons_of_mem _ (List.mem_append_right _ h))
  have w0 := hts (.fieldLink RX7 16 "Islandgrid$Store" "rate" "I") (List.mem_cons_of_mem _ (List.mem_append_left _ (List.mem_of_getElem? (i := 0) rfl)))
  have w1 := hts (.fieldLink RX7 13 "Islandgrid$Store" "capacity" "I") (List.mem_cons_of_mem _ (List.mem_append_left _ (List.mem_of_getElem? (i := 1) rfl)))
  have w2 := hts (.fieldLink RX7 19 "Islandgrid$Store" "held" "I") (List.mem_cons_of_mem _ (List.mem_append_left _ (List.mem_of_getElem? (i := 2) rfl)))
  have w3 := hts (.methodLink RX7 22 Lib.Math.min.name) (List.mem_cons_of_mem _ (List.mem_append_left _ (List.mem_of_getElem? (i := 3) rfl)))
  have w4 := hts (.static Lib.Math.min.name) (List.mem_cons_of_mem _ (List.mem_append_left _ (List.mem_of_getElem? (i := 4) rfl)))
  have w5 := hts (.initialized "java/lang/Math") (List.mem_cons_of_mem _ (List.mem_append_left _ (List.mem_of_getElem? (i := 5) rfl)))
  have w6 := hts (.code Lib.Math.min.name Lib.Math.min.code 2 (some .int)) (List.mem_cons_of_mem _ (List.mem_append_left _ (List.mem_of_getElem? (i := 6) rfl)))
  refine lv_aload_n hX_ hB_ dX7_room_0 rfl (lv_at hl 0 rfl) ?_
  refine ze_get (ci := 7) (C := RX7) (T := TX7) (N := 5) (v := .int (A 16 g)) S hiX7 hK hW (18 + (n 2 + g)) (ze_atT (g := g) (by omega)) rfl 2 (by decide) rfl w0 dX7_room_1 ?_
  refine lv_aload_n hX_ hB_ dX7_room_4 rfl (lv_at hl 0 rfl) ?_
  refine ze_get (ci := 7) (C := RX7) (T := TX7) (N := 5) (v := .int (A 15 g)) S hiX7 hK hW (18 + (n 2 + g)) (ze_atT (g := g) (by omega)) rfl 1 (by decide) rfl w1 dX7_room_5 ?_
  refine lv_aload_n hX_ hB_ dX7_room_8 rfl (lv_at hl 0 rfl) ?_
  refine ze_get (ci := 7) (C := RX7) (T := TX7) (N := 5) (v := .int (A 17 g)) S hiX7 hK hW (18 + (n 2 + g)) (ze_atT (g := g) (by omega)) rfl 3 (by decide) rfl w2 dX7_room_9 ?_
  refine lv_isub hX_ hB_ dX7_room_12 ?_
  refine ze_min S hl.1 w3 w4 w5 w6 ⟨Nat.le_of_ble_eq_true rfl, Nat.le_of_ble_eq_true rfl, Nat.le_of_ble_eq_true rfl, Nat.le_of_ble_eq_true rfl⟩ dX7_room_13 ?_
  exact ze_iret S hr hlocks hF hK hW rfl dX7_room_16 (Nat.le_of_ble_eq_true rfl) (Nat.le_of_ble_eq_true rfl) rfl rfl
set_option maxHeartbeats 4000000 in
set_option maxRecDepth 100000 in
theorem zc_7_move (l : Launch) (D : va_G) (c : Nat → ClassId) (a n : Nat → Nat) (A : Nat → Nat → Int32) (B : Nat → Int64) (E : Nat → Nat → Int32) (g : Nat) (x : Int32) (hN : zf_N n) (hg : g < n 3) : ze_V l yX7_move wsX7_move 0 0 0 0 D c (ze_wC c a n A B E) [.ref (a (30 + g)), .int x] (ze_wC c a n (ze_sE (ze_sE A 18 g x) 17 g (A 17 g - x)) B E) := by
  intro sz
  refine ze_start (cc := cX7_move) (maxL := 2) (ret := none) (own := RX7) (by decide) rfl rfl (Nat.le_of_ble_eq_true rfl) ?_
  obtain ⟨hn0, hn1, hn2, hn3, hn4⟩ := id hN
  intro p e s m_ below meth cd F ls hF hsz E0
  obtain ⟨S, hr, hlocks, hK, hW, hA, hl⟩ := E0
  have hX_ := S.1
  have hB_ := S.2.1
  have hts := S.2.2.2.2
  have hl : lv_has ls 2 [(0, .ref (a (30 + g))), (1, .int x)] := hl
  have hiX7 : ∀ w ∈ u_ws RX7 TX7 5, w ∈ wsX7_move := fun _ h => (List.mem_cons_of_mem _ (List.mem_append_right _ h))
  have w0 := hts (.fieldLink RX7 28 "Islandgrid$Store" "gave" "I") (List.mem_cons_of_mem _ (List.mem_append_left _ (List.mem_of_getElem? (i := 0) rfl)))
  have w1 := hts (.fieldLink RX7 19 "Islandgrid$Store" "held" "I") (List.mem_cons_of_mem _ (List.mem_append_left _ (List.mem_of_getElem? (i := 1) rfl)))
  refine lv_aload_n hX_ hB_ dX7_move_0 rfl (lv_at hl 0 rfl) ?_
  refine lv_iload_n hX_ hB_ dX7_move_1 rfl (lv_at hl 1 rfl) ?_
  refine ze_put (ci := 7) (C := RX7) (T := TX7) (N := 5) (v := .int x) S hiX7 tyX7 tyX7_ok nmX7 hK hW (18 + (n 2 + g)) (ze_atT (g := g) (by omega)) rfl 4 (by decide) (Nat.le_of_ble_eq_true rfl) rfl rfl rfl w0 dX7_move_2 (ze_pT4 g (x) _ _ _ _ _ _ (by omega)) (fun H locs hW => ?_)
  have hW : ze_W D (ze_wC c a n (ze_sE A 18 g x) B E) F s.heap _ _ := hW
  refine lv_aload_n hX_ hB_ dX7_move_5 rfl (lv_at hl 0 rfl) ?_
  refine lv_dup hX_ hB_ dX7_move_6 rfl ?_
  refine ze_get (ci := 7) (C := RX7) (T := TX7) (N := 5) (v := .int (A 17 g)) S hiX7 hK hW (18 + (n 2 + g)) (ze_atT (g := g) (by omega)) rfl 3 (by decide) rfl w1 dX7_move_7 ?_
  refine lv_iload_n hX_ hB_ dX7_move_10 rfl (lv_at hl 1 rfl) ?_
  refine lv_isub hX_ hB_ dX7_move_11 ?_
  refine ze_put (ci := 7) (C := RX7) (T := TX7) (N := 5) (v := .int (A 17 g - x)) S hiX7 tyX7 tyX7_ok nmX7 hK hW (18 + (n 2 + g)) (ze_atT (g := g) (by omega)) rfl 3 (by decide) (Nat.le_of_ble_eq_true rfl) rfl rfl rfl w1 dX7_move_12 (ze_pT3 g (A 17 g - x) _ _ _ _ _ _ (by omega)) (fun H locs hW => ?_)
  have hW : ze_W D (ze_wC c a n (ze_sE (ze_sE A 18 g x) 17 g (A 17 g - x)) B E) F s.heap _ _ := hW
  exact ze_vret S hr hlocks hF hK hW dX7_move_15 (Nat.le_of_ble_eq_true rfl) (Nat.le_of_ble_eq_true rfl) rfl
set_option maxHeartbeats 4000000 in
set_option maxRecDepth 100000 in
theorem zc_3_comesAhead (l : Launch) (D : va_G) (c : Nat → ClassId) (a n : Nat → Nat) (A : Nat → Nat → Int32) (B : Nat → Int64) (E : Nat → Nat → Int32) (k o : Nat) (hN : zf_N n) (hk : k < n 4) (ho : o < n 4) : ze_I l yX3_comesAhead wsX3_comesAhead 0 0 0 0 D c (ze_wC c a n A B E) [.ref (a (40 + k)), .ref (a (40 + o))] (ze_b (zf_ca A k o)) (ze_wC c a n A B E) := by
  intro sz
  refine ze_start (cc := cX3_comesAhead) (maxL := 2) (ret := (some .boolean)) (own := RX3) (by decide) rfl rfl (Nat.le_of_ble_eq_true rfl) ?_
  obtain ⟨hn0, hn1, hn2, hn3, hn4⟩ := id hN
  intro p e s m_ below meth cd F ls hF hsz E0
  obtain ⟨S, hr, hlocks, hK, hW, hA, hl⟩ := E0
  have hX_ := S.1
  have hB_ := S.2.1
  have hts := S.2.2.2.2
  have hl : lv_has ls 2 [(0, .ref (a (40 + k))), (1, .ref (a (40 + o)))] := hl
  have hiX3 : ∀ w ∈ u_ws RX3 TX3 6, w ∈ wsX3_comesAhead := fun _ h => (List.mem_cons_of_mem _ (List.mem_append_right _ h))
  have w0 := hts (.fieldLink RX3 23 "Islandgrid$Load" "rank" "I") (List.mem_cons_of_mem _ (List.mem_append_left _ (List.mem_of_getElem? (i := 0) rfl)))
  have w1 := hts (.fieldLink RX3 13 "Islandgrid$Load" "number" "I") (List.mem_cons_of_mem _ (List.mem_append_left _ (List.mem_of_getElem? (i := 1) rfl)))
  refine lv_aload_n hX_ hB_ dX3_comesAhead_0 rfl (lv_at hl 0 rfl) ?_
  refine ze_get (ci := 3) (C := RX3) (T := TX3) (N := 6) (v := .int (A 21 k)) S hiX3 hK hW (18 + (n 2 + (n 3 + k))) (ze_atL (g := k) (by omega)) rfl 3 (by decide) rfl w0 dX3_comesAhead_1 ?_
  refine lv_aload_n hX_ hB_ dX3_comesAhead_4 rfl (lv_at hl 1 rfl) ?_
  refine ze_get (ci := 3) (C := RX3) (T := TX3) (N := 6) (v := .int (A 21 o)) S hiX3 hK hW (18 + (n 2 + (n 3 + o))) (ze_atL (g := o) (by omega)) rfl 3 (by decide) rfl w0 dX3_comesAhead_5 ?_
  refine lv_icmp_lt (tgt := 33) hX_ hB_ dX3_comesAhead_8 (by decide) (fun c8 => ?_) (fun c8 => ?_)
  · refine lv_iconst (v := 1) hX_ hB_ dX3_comesAhead_33 (by decide) ?_
    refine lv_goto (tgt := 38) hX_ hB_ dX3_comesAhead_34 (by decide) ?_
    exact ze_iret S hr hlocks hF hK hW rfl dX3_comesAhead_38 (Nat.le_of_ble_eq_true rfl) (Nat.le_of_ble_eq_true rfl) (by simp only [ze_b, zf_ca, eq_true c8, not_true_eq_false, not_false_eq_true, and_true, true_and, and_false, false_and, or_true, true_or, or_false, false_or, and_self, or_self, Decidable.not_not, if_true, if_false, reduceIte, reduceCtorEq, ne_eq, eq_self, Int32.lt_irrefl, Int32.le_refl, Nat.lt_irrefl]) rfl
  · refine lv_aload_n hX_ hB_ dX3_comesAhead_11 rfl (lv_at hl 0 rfl) ?_
    refine ze_get (ci := 3) (C := RX3) (T := TX3) (N := 6) (v := .int (A 21 k)) S hiX3 hK hW (18 + (n 2 + (n 3 + k))) (ze_atL (g := k) (by omega)) rfl 3 (by decide) rfl w0 dX3_comesAhead_12 ?_
    refine lv_aload_n hX_ hB_ dX3_comesAhead_15 rfl (lv_at hl 1 rfl) ?_
    refine ze_get (ci := 3) (C := RX3) (T := TX3) (N := 6) (v := .int (A 21 o)) S hiX3 hK hW (18 + (n 2 + (n 3 + o))) (ze_atL (g := o) (by omega)) rfl 3 (by decide) rfl w0 dX3_comesAhead_16 ?_
    refine lv_icmp_ne (tgt := 37) hX_ hB_ dX3_comesAhead_19 (by decide) (fun c19 => ?_) (fun c19 => ?_)
    · refine lv_iconst (v := 0) hX_ hB_ dX3_comesAhead_37 (by decide) ?_
      exact ze_iret S hr hlocks hF hK hW rfl dX3_comesAhead_38 (Nat.le_of_ble_eq_true rfl) (Nat.le_of_ble_eq_true rfl) (by simp only [ze_b, zf_ca, eq_false c8, eq_false c19, not_true_eq_false, not_false_eq_true, and_true, true_and, and_false, false_and, or_true, true_or, or_false, false_or, and_self, or_self, Decidable.not_not, if_true, if_false, reduceIte, reduceCtorEq, ne_eq, eq_self, Int32.lt_irrefl, Int32.le_refl, Nat.lt_irrefl]) rfl
    · refine lv_aload_n hX_ hB_ dX3_comesAhead_22 rfl (lv_at hl 0 rfl) ?_
      refine ze_get (ci := 3) (C := RX3) (T := TX3) (N := 6) (v := .int (nI k)) S hiX3 hK hW (18 + (n 2 + (n 3 + k))) (ze_atL (g := k) (by omega)) rfl 0 (by decide) rfl w1 dX3_comesAhead_23 ?_
      refine lv_aload_n hX_ hB_ dX3_comesAhead_26 rfl (lv_at hl 1 rfl) ?_
      refine ze_get (ci := 3) (C := RX3) (T := TX3) (N := 6) (v := .int (nI o)) S hiX3 hK hW (18 + (n 2 + (n 3 + o))) (ze_atL (g := o) (by omega)) rfl 0 (by decide) rfl w1 dX3_comesAhead_27 ?_
      refine lv_icmp_ge (tgt := 37) hX_ hB_ dX3_comesAhead_30 (by decide) (fun c30 => ?_) (fun c30 => ?_)
      · have c30 : ¬ k < o := Nat.not_lt.mpr ((nI_leI (a := o) (b := k) (by omega) (by omega)).mp c30)
        refine lv_iconst (v := 0) hX_ hB_ dX3_comesAhead_37 (by decide) ?_
        exact ze_iret S hr hlocks hF hK hW rfl dX3_comesAhead_38 (Nat.le_of_ble_eq_true rfl) (Nat.le_of_ble_eq_true rfl) (by simp only [ze_b, zf_ca, eq_false c8, eq_true c19, eq_false c30, not_true_eq_false, not_false_eq_true, and_true, true_and, and_false, false_and, or_true, true_or, or_false, false_or, and_self, or_self, Decidable.not_not, if_true, if_false, reduceIte, reduceCtorEq, ne_eq, eq_self, Int32.lt_irrefl, Int32.le_refl, Nat.lt_irrefl]) rfl
      · have c30 : k < o := Nat.lt_of_not_le (fun h9 => c30 ((nI_leI (a := o) (b := k) (by omega) (by omega)).mpr h9))
        refine lv_iconst (v := 1) hX_ hB_ dX3_comesAhead_33 (by decide) ?_
        refine lv_goto (tgt := 38) hX_ hB_ dX3_comesAhead_34 (by decide) ?_
        exact ze_iret S hr hlocks hF hK hW rfl dX3_comesAhead_38 (Nat.le_of_ble_eq_true rfl) (Nat.le_of_ble_eq_true rfl) (by simp only [ze_b, zf_ca, eq_false c8, eq_true c19, eq_true c30, not_true_eq_false, not_false_eq_true, and_true, true_and, and_false, false_and, or_true, true_or, or_false, false_or, and_self, or_self, Decidable.not_not, if_true, if_false, reduceIte, reduceCtorEq, ne_eq, eq_self, Int32.lt_irrefl, Int32.le_refl, Nat.lt_irrefl]) rfl
set_option maxHeartbeats 4000000 in
set_option maxRecDepth 100000 in
theorem zc_3_update (l : Launch) (D : va_G) (c : Nat → ClassId) (a n : Nat → Nat) (A : Nat → Nat → Int32) (B : Nat → Int64) (E : Nat → Nat → Int32) (k : Nat) (P : Prop) [Decidable P] (dl : Int32) (hN : zf_N n) (hk : k < n 4) : ze_V l yX3_update wsX3_update 0 0 0 0 D c (ze_wC c a n A B E) [.ref (a (40 + k)), .int (ze_b P), .int dl] (ze_wC c a n (ze_sE (ze_sE A 5 k (zf_cD P A k)) 22 k (zf_cW P A k dl)) B E) := by
  intro sz
  refine ze_start (cc := cX3_update) (maxL := 3) (ret := none) (own := RX3) (by decide) rfl rfl (Nat.le_of_ble_eq_true rfl) ?_
  obtain ⟨hn0, hn1, hn2, hn3, hn4⟩ := id hN
  intro p e s m_ below meth cd F ls hF hsz E0
  obtain ⟨S, hr, hlocks, hK, hW, hA, hl⟩ := E0
  have hX_ := S.1
  have hB_ := S.2.1
  have hts := S.2.2.2.2
  have hl : lv_has ls 3 [(0, .ref (a (40 + k))), (1, .int (ze_b P)), (2, .int dl)] := hl
  have hiX3 : ∀ w ∈ u_ws RX3 TX3 6, w ∈ wsX3_update := fun _ h => (List.mem_cons_of_mem _ (List.mem_append_right _ h))
  have w0 := hts (.fieldLink RX3 7 "Islandgrid$Load" "lit" "Z") (List.mem_cons_of_mem _ (List.mem_append_left _ (List.mem_of_getElem? (i := 0) rfl)))
  have w1 := hts (.fieldLink RX3 26 "Islandgrid$Load" "wait" "I") (List.mem_cons_of_mem _ (List.mem_append_left _ (List.mem_of_getElem? (i := 1) rfl)))
  refine lv_iload_n hX_ hB_ dX3_update_0 rfl (lv_at hl 1 rfl) ?_
  refine lv_if_ne (tgt := 17) hX_ hB_ dX3_update_1 (by decide) (fun c1 => ?_) (fun c1 => ?_)
  · have c1 : P := ze_bt c1
    refine lv_aload_n hX_ hB_ dX3_update_17 rfl (lv_at hl 0 rfl) ?_
    refine ze_get (ci := 3) (C := RX3) (T := TX3) (N := 6) (v := .int (ze_nt (A 5 k))) S hiX3 hK hW (18 + (n 2 + (n 3 + k))) (ze_atL (g := k) (by omega)) rfl 4 (by decide) rfl w0 dX3_update_18 ?_
    refine lv_if_ne (tgt := 49) hX_ hB_ dX3_update_21 (by decide) (fun c21 => ?_) (fun c21 => ?_)
    · have c21 : A 5 k = 0 := ze_ntt c21
      exact ze_vret S hr hlocks hF hK hW dX3_update_49 (Nat.le_of_ble_eq_true rfl) (Nat.le_of_ble_eq_true rfl) (by have e5 : zf_cD P A k = A 5 k := (by simp only [ze_b, zf_cD, eq_true c1, eq_true c21, not_true_eq_false, not_false_eq_true, and_true, true_and, and_false, false_and, or_true, true_or, or_false, false_or, and_self, or_self, Decidable.not_not, if_true, if_false, reduceIte, reduceCtorEq, ne_eq, eq_self, Int32.lt_irrefl, Int32.le_refl, Nat.lt_irrefl]); have e22 : zf_cW P A k dl = A 22 k := (by simp only [ze_b, zf_cW, eq_true c1, eq_true c21, not_true_eq_false, not_false_eq_true, and_true, true_and, and_false, false_and, or_true, true_or, or_false, false_or, and_self, or_self, Decidable.not_not, if_true, if_false, reduceIte, reduceCtorEq, ne_eq, eq_self, Int32.lt_irrefl, Int32.le_refl, Nat.lt_irrefl]); rw [e5, e22]; first | done | simp (decide := true) only [ze_sEid, ze_sE2, ze_sEid2, ze_sEid3])
    · have c21 : ¬ A 5 k = 0 := ze_ntf c21
      refine lv_aload_n hX_ hB_ dX3_update_24 rfl (lv_at hl 0 rfl) ?_
      refine ze_get (ci := 3) (C := RX3) (T := TX3) (N := 6) (v := .int (A 22 k)) S hiX3 hK hW (18 + (n 2 + (n 3 + k))) (ze_atL (g := k) (by omega)) rfl 5 (by decide) rfl w1 dX3_update_25 ?_
      refine lv_if_ne (tgt := 39) hX_ hB_ dX3_update_28 (by decide) (fun c28 => ?_) (fun c28 => ?_)
      · refine lv_aload_n hX_ hB_ dX3_update_39 rfl (lv_at hl 0 rfl) ?_
        refine lv_dup hX_ hB_ dX3_update_40 rfl ?_
        refine ze_get (ci := 3) (C := RX3) (T := TX3) (N := 6) (v := .int (A 22 k)) S hiX3 hK hW (18 + (n 2 + (n 3 + k))) (ze_atL (g := k) (by omega)) rfl 5 (by decide) rfl w1 dX3_update_41 ?_
        refine lv_iconst (v := 1) hX_ hB_ dX3_update_44 (by decide) ?_
        refine lv_isub hX_ hB_ dX3_update_45 ?_
        refine ze_put (ci := 3) (C := RX3) (T := TX3) (N := 6) (v := .int (A 22 k - 1)) S hiX3 tyX3 tyX3_ok nmX3 hK hW (18 + (n 2 + (n 3 + k))) (ze_atL (g := k) (by omega)) rfl 5 (by decide) (Nat.le_of_ble_eq_true rfl) rfl rfl rfl w1 dX3_update_46 (ze_pL5 k (A 22 k - 1) _ _ _ _ _ _ (by omega)) (fun H locs hW => ?_)
        have hW : ze_W D (ze_wC c a n (ze_sE A 22 k (A 22 k - 1)) B E) F s.heap _ _ := hW
        exact ze_vret S hr hlocks hF hK hW dX3_update_49 (Nat.le_of_ble_eq_true rfl) (Nat.le_of_ble_eq_true rfl) (by have e5 : zf_cD P A k = A 5 k := (by simp only [ze_b, zf_cD, eq_true c1, eq_false c21, eq_false c28, not_true_eq_false, not_false_eq_true, and_true, true_and, and_false, false_and, or_true, true_or, or_false, false_or, and_self, or_self, Decidable.not_not, if_true, if_false, reduceIte, reduceCtorEq, ne_eq, eq_self, Int32.lt_irrefl, Int32.le_refl, Nat.lt_irrefl]); have e22 : zf_cW P A k dl = A 22 k - 1 := (by simp only [ze_b, zf_cW, eq_true c1, eq_false c21, eq_false c28, not_true_eq_false, not_false_eq_true, and_true, true_and, and_false, false_and, or_true, true_or, or_false, false_or, and_self, or_self, Decidable.not_not, if_true, if_false, reduceIte, reduceCtorEq, ne_eq, eq_self, Int32.lt_irrefl, Int32.le_refl, Nat.lt_irrefl]); rw [e5, e22]; first | done | simp (decide := true) only [ze_sEid, ze_sE2, ze_sEid2, ze_sEid3])
      · refine lv_aload_n hX_ hB_ dX3_update_31 rfl (lv_at hl 0 rfl) ?_
        refine lv_iconst (v := 1) hX_ hB_ dX3_update_32 (by decide) ?_
        refine ze_put (ci := 3) (C := RX3) (T := TX3) (N := 6) (v := .int 1) S hiX3 tyX3 tyX3_ok nmX3 hK hW (18 + (n 2 + (n 3 + k))) (ze_atL (g := k) (by omega)) rfl 4 (by decide) (Nat.le_of_ble_eq_true rfl) rfl rfl rfl w0 dX3_update_33 (ze_pL4 k (0) _ _ _ _ _ _ (by omega)) (fun H locs hW => ?_)
        have hW : ze_W D (ze_wC c a n (ze_sE A 5 k 0) B E) F s.heap _ _ := hW
        refine lv_goto (tgt := 49) hX_ hB_ dX3_update_36 (by decide) ?_
        exact ze_vret S hr hlocks hF hK hW dX3_update_49 (Nat.le_of_ble_eq_true rfl) (Nat.le_of_ble_eq_true rfl) (by have e5 : zf_cD P A k = 0 := (by simp only [ze_b, zf_cD, eq_true c1, eq_false c21, eq_true c28, not_true_eq_false, not_false_eq_true, and_true, true_and, and_false, false_and, or_true, true_or, or_false, false_or, and_self, or_self, Decidable.not_not, if_true, if_false, reduceIte, reduceCtorEq, ne_eq, eq_self, Int32.lt_irrefl, Int32.le_refl, Nat.lt_irrefl]); have e22 : zf_cW P A k dl = A 22 k := (by simp only [ze_b, zf_cW, eq_true c1, eq_false c21, eq_true c28, not_true_eq_false, not_false_eq_true, and_true, true_and, and_false, false_and, or_true, true_or, or_false, false_or, and_self, or_self, Decidable.not_not, if_true, if_false, reduceIte, reduceCtorEq, ne_eq, eq_self, Int32.lt_irrefl, Int32.le_refl, Nat.lt_irrefl]); rw [e5, e22]; first | done | simp (decide := true) only [ze_sEid, ze_sE2, ze_sEid2, ze_sEid3])
  · have c1 : ¬ (P) := ze_bf c1
    refine lv_aload_n hX_ hB_ dX3_update_4 rfl (lv_at hl 0 rfl) ?_
    refine lv_iconst (v := 0) hX_ hB_ dX3_update_5 (by decide) ?_
    refine ze_put (ci := 3) (C := RX3) (T := TX3) (N := 6) (v := .int 0) S hiX3 tyX3 tyX3_ok nmX3 hK hW (18 + (n 2 + (n 3 + k))) (ze_atL (g := k) (by omega)) rfl 4 (by decide) (Nat.le_of_ble_eq_true rfl) rfl rfl rfl w0 dX3_update_6 (ze_pL4 k (1) _ _ _ _ _ _ (by omega)) (fun H locs hW => ?_)
    have hW : ze_W D (ze_wC c a n (ze_sE A 5 k 1) B E) F s.heap _ _ := hW
    refine lv_aload_n hX_ hB_ dX3_update_9 rfl (lv_at hl 0 rfl) ?_
    refine lv_iload_n hX_ hB_ dX3_update_10 rfl (lv_at hl 2 rfl) ?_
    refine ze_put (ci := 3) (C := RX3) (T := TX3) (N := 6) (v := .int dl) S hiX3 tyX3 tyX3_ok nmX3 hK hW (18 + (n 2 + (n 3 + k))) (ze_atL (g := k) (by omega)) rfl 5 (by decide) (Nat.le_of_ble_eq_true rfl) rfl rfl rfl w1 dX3_update_11 (ze_pL5 k (dl) _ _ _ _ _ _ (by omega)) (fun H locs hW => ?_)
    have hW : ze_W D (ze_wC c a n (ze_sE (ze_sE A 5 k 1) 22 k dl) B E) F s.heap _ _ := hW
    refine lv_goto (tgt := 49) hX_ hB_ dX3_update_14 (by decide) ?_
    exact ze_vret S hr hlocks hF hK hW dX3_update_49 (Nat.le_of_ble_eq_true rfl) (Nat.le_of_ble_eq_true rfl) (by have e5 : zf_cD P A k = 1 := (by simp only [ze_b, zf_cD, eq_false c1, not_true_eq_false, not_false_eq_true, and_true, true_and, and_false, false_and, or_true, true_or, or_false, false_or, and_self, or_self, Decidable.not_not, if_true, if_false, reduceIte, reduceCtorEq, ne_eq, eq_self, Int32.lt_irrefl, Int32.le_refl, Nat.lt_irrefl]); have e22 : zf_cW P A k dl = dl := (by simp only [ze_b, zf_cW, eq_false c1, not_true_eq_false, not_false_eq_true, and_true, true_and, and_false, false_and, or_true, true_or, or_false, false_or, and_self, or_self, Decidable.not_not, if_true, if_false, reduceIte, reduceCtorEq, ne_eq, eq_self, Int32.lt_irrefl, Int32.le_refl, Nat.lt_irrefl]); rw [e5, e22]; first | done | simp (decide := true) only [ze_sEid, ze_sE2, ze_sEid2, ze_sEid3])
set_option maxHeartbeats 4000000 in
set_option maxRecDepth 100000 in
theorem zc_2_takeFromGrid (l : Launch) (D : va_G) (c : Nat → ClassId) (a n : Nat → Nat) (A : Nat → Nat → Int32) (B : Nat → Int64) (E : Nat → Nat → Int32) (x : Int32) : ze_V l yX2_takeFromGrid wsX2_takeFromGrid 0 0 0 0 D c (ze_wC c a n A B E) [.ref (a 17), .int x] (ze_wC c a n (ze_sC A 31 (A 31 0 + x)) (ze_sB B 36 (B 36 + x.toInt64)) E) := by
  intro sz
  refine ze_start (cc := cX2_takeFromGrid) (maxL := 2) (ret := none) (own := RX2) (by decide) rfl rfl (Nat.le_of_ble_eq_true rfl) ?_
  intro p e s m_ below meth cd F ls hF hsz E0
  obtain ⟨S, hr, hlocks, hK, hW, hA, hl⟩ := E0
  have hX_ := S.1
  have hB_ := S.2.1
  have hts := S.2.2.2.2
  have hl : lv_has ls 2 [(0, .ref (a 17)), (1, .int x)] := hl
  have hiX2 : ∀ w ∈ u_ws RX2 TX2 6, w ∈ wsX2_takeFromGrid := fun _ h => (List.mem_cons_of_mem _ (List.mem_append_right _ h))
  have w0 := hts (.fieldLink RX2 7 "Islandgrid$Ledger" "gridGave" "I") (List.mem_cons_of_mem _ (List.mem_append_left _ (List.mem_of_getElem? (i := 0) rfl)))
  have w1 := hts (.fieldLink RX2 13 "Islandgrid$Ledger" "fromGridSum" "J") (List.mem_cons_of_mem _ (List.mem_append_left _ (List.mem_of_getElem? (i := 1) rfl)))
  refine lv_aload_n hX_ hB_ dX2_takeFromGrid_0 rfl (lv_at hl 0 rfl) ?_
  refine lv_dup hX_ hB_ dX2_takeFromGrid_1 rfl ?_
  refine ze_get (ci := 2) (C := RX2) (T := TX2) (N := 6) (v := .int (A 31 0)) S hiX2 hK hW 17 (ze_at0 17 rfl) rfl 0 (by decide) rfl w0 dX2_takeFromGrid_2 ?_
  refine lv_iload_n hX_ hB_ dX2_takeFromGrid_5 rfl (lv_at hl 1 rfl) ?_
  refine lv_iadd hX_ hB_ dX2_takeFromGrid_6 ?_
  refine ze_put (ci := 2) (C := RX2) (T := TX2) (N := 6) (v := .int (A 31 0 + x)) S hiX2 tyX2 tyX2_ok nmX2 hK hW 17 (ze_at0 17 rfl) rfl 0 (by decide) (Nat.le_of_ble_eq_true rfl) rfl rfl rfl w0 dX2_takeFromGrid_7 (ze_pC17_0 (A 31 0 + x) _ _ _ _ _ _) (fun H locs hW => ?_)
  have hW : ze_W D (ze_wC c a n (ze_sC A 31 (A 31 0 + x)) B E) F s.heap _ _ := hW
  refine lv_aload_n hX_ hB_ dX2_takeFromGrid_10 rfl (lv_at hl 0 rfl) ?_
  refine lv_dup hX_ hB_ dX2_takeFromGrid_11 rfl ?_
  refine ze_get (ci := 2) (C := RX2) (T := TX2) (N := 6) (v := .long (B 36)) S hiX2 hK hW 17 (ze_at0 17 rfl) rfl 4 (by decide) rfl w1 dX2_takeFromGrid_12 ?_
  refine lv_iload_n hX_ hB_ dX2_takeFromGrid_15 rfl (lv_at hl 1 rfl) ?_
  refine lv_i2l (v := x.toInt64) hX_ hB_ dX2_takeFromGrid_16 rfl ?_
  refine lv_ladd hX_ hB_ dX2_takeFromGrid_17 ?_
  refine ze_put (ci := 2) (C := RX2) (T := TX2) (N := 6) (v := .long (B 36 + x.toInt64)) S hiX2 tyX2 tyX2_ok nmX2 hK hW 17 (ze_at0 17 rfl) rfl 4 (by decide) (Nat.le_of_ble_eq_true rfl) rfl rfl rfl w1 dX2_takeFromGrid_18 (ze_pC17_4 (B 36 + x.toInt64) _ _ _ _ _ _) (fun H locs hW => ?_)
  have hW : ze_W D (ze_wC c a n (ze_sC A 31 (A 31 0 + x)) (ze_sB B 36 (B 36 + x.toInt64)) E) F s.heap _ _ := hW
  exact ze_vret S hr hlocks hF hK hW dX2_takeFromGrid_21 (Nat.le_of_ble_eq_true rfl) (Nat.le_of_ble_eq_true rfl) rfl
set_option maxHeartbeats 4000000 in
set_option maxRecDepth 100000 in
theorem zc_2_giveToGrid (l : Launch) (D : va_G) (c : Nat → ClassId) (a n : Nat → Nat) (A : Nat → Nat → Int32) (B : Nat → Int64) (E : Nat → Nat → Int32) (x : Int32) : ze_V l yX2_giveToGrid wsX2_giveToGrid 0 0 0 0 D c (ze_wC c a n A B E) [.ref (a 17), .int x] (ze_wC c a n (ze_sC A 31 (A 31 0 - x)) (ze_sB B 37 (B 37 + x.toInt64)) E) := by
  intro sz
  refine ze_start (cc := cX2_giveToGrid) (maxL := 2) (ret := none) (own := RX2) (by decide) rfl rfl (Nat.le_of_ble_eq_true rfl) ?_
  intro p e s m_ below meth cd F ls hF hsz E0
  obtain ⟨S, hr, hlocks, hK, hW, hA, hl⟩ := E0
  have hX_ := S.1
  have hB_ := S.2.1
  have hts := S.2.2.2.2
  have hl : lv_has ls 2 [(0, .ref (a 17)), (1, .int x)] := hl
  have hiX2 : ∀ w ∈ u_ws RX2 TX2 6, w ∈ wsX2_giveToGrid := fun _ h => (List.mem_cons_of_mem _ (List.mem_append_right _ h))
  have w0 := hts (.fieldLink RX2 7 "Islandgrid$Ledger" "gridGave" "I") (List.mem_cons_of_mem _ (List.mem_append_left _ (List.mem_of_getElem? (i := 0) rfl)))
  have w1 := hts (.fieldLink RX2 17 "Islandgrid$Ledger" "toGridSum" "J") (List.mem_cons_of_mem _ (List.mem_append_left _ (List.mem_of_getElem? (i := 1) rfl)))
  refine lv_aload_n hX_ hB_ dX2_giveToGrid_0 rfl (lv_at hl 0 rfl) ?_
  refine lv_dup hX_ hB_ dX2_giveToGrid_1 rfl ?_
  refine ze_get (ci := 2) (C := RX2) (T := TX2) (N := 6) (v := .int (A 31 0)) S hiX2 hK hW 17 (ze_at0 17 rfl) rfl 0 (by decide) rfl w0 dX2_giveToGrid_2 ?_
  refine lv_iload_n hX_ hB_ dX2_giveToGrid_5 rfl (lv_at hl 1 rfl) ?_
  refine lv_isub hX_ hB_ dX2_giveToGrid_6 ?_
  refine ze_put (ci := 2) (C := RX2) (T := TX2) (N := 6) (v := .int (A 31 0 - x)) S hiX2 tyX2 tyX2_ok nmX2 hK hW 17 (ze_at0 17 rfl) rfl 0 (by decide) (Nat.le_of_ble_eq_true rfl) rfl rfl rfl w0 dX2_giveToGrid_7 (ze_pC17_0 (A 31 0 - x) _ _ _ _ _ _) (fun H locs hW => ?_)
  have hW : ze_W D (ze_wC c a n (ze_sC A 31 (A 31 0 - x)) B E) F s.heap _ _ := hW
  refine lv_aload_n hX_ hB_ dX2_giveToGrid_10 rfl (lv_at hl 0 rfl) ?_
  refine lv_dup hX_ hB_ dX2_giveToGrid_11 rfl ?_
  refine ze_get (ci := 2) (C := RX2) (T := TX2) (N := 6) (v := .long (B 37)) S hiX2 hK hW 17 (ze_at0 17 rfl) rfl 5 (by decide) rfl w1 dX2_giveToGrid_12 ?_
  refine lv_iload_n hX_ hB_ dX2_giveToGrid_15 rfl (lv_at hl 1 rfl) ?_
  refine lv_i2l (v := x.toInt64) hX_ hB_ dX2_giveToGrid_16 rfl ?_
  refine lv_ladd hX_ hB_ dX2_giveToGrid_17 ?_
  refine ze_put (ci := 2) (C := RX2) (T := TX2) (N := 6) (v := .long (B 37 + x.toInt64)) S hiX2 tyX2 tyX2_ok nmX2 hK hW 17 (ze_at0 17 rfl) rfl 5 (by decide) (Nat.le_of_ble_eq_true rfl) rfl rfl rfl w1 dX2_giveToGrid_18 (ze_pC17_5 (B 37 + x.toInt64) _ _ _ _ _ _) (fun H locs hW => ?_)
  have hW : ze_W D (ze_wC c a n (ze_sC A 31 (A 31 0 - x)) (ze_sB B 37 (B 37 + x.toInt64)) E) F s.heap _ _ := hW
  exact ze_vret S hr hlocks hF hK hW dX2_giveToGrid_21 (Nat.le_of_ble_eq_true rfl) (Nat.le_of_ble_eq_true rfl) rfl
