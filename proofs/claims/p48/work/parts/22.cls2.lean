set_option maxHeartbeats 4000000 in
set_option maxRecDepth 100000 in
theorem zc_0_runsOn (l : Launch) (D : va_G) (c : Nat → ClassId) (a n : Nat → Nat) (A : Nat → Nat → Int32) (B : Nat → Int64) (E : Nat → Nat → Int32) (g : Nat) (m : Int32) (hN : zf_N n) (hS : zf_S n A) (hg : g < n 2) : ze_I l yX0_runsOn wsX0_runsOn 0 0 0 0 D c (ze_wC c a n A B E) [.ref (a 9), .int (nI g), .int m] (ze_b (zf_runs A (E 0) g m)) (ze_wC c a n A B E) := by
  intro sz
  refine ze_start (cc := cX0_runsOn) (maxL := 3) (ret := (some .boolean)) (own := RX0) (by decide) rfl rfl (Nat.le_of_ble_eq_true rfl) ?_
  obtain ⟨hn0, hn1, hn2, hn3, hn4⟩ := id hN
  intro p e s m_ below meth cd F ls hF hsz E0
  obtain ⟨S, hr, hlocks, hK, hW, hA, hl⟩ := E0
  have hX_ := S.1
  have hB_ := S.2.1
  have hts := S.2.2.2.2
  have hl : lv_has ls 3 [(0, .ref (a 9)), (1, .int (nI g)), (2, .int m)] := hl
  have hiX0 : ∀ w ∈ u_ws RX0 TX0 5, w ∈ wsX0_runsOn := fun _ h => (List.mem_cons_of_mem _ (List.mem_append_left _ (List.mem_append_left _ (List.mem_append_right _ h))))
  have hiX1 : ∀ w ∈ u_ws RX1 TX1 8, w ∈ wsX0_runsOn := fun _ h => (List.mem_cons_of_mem _ (List.mem_append_left _ (List.mem_append_right _ h)))
  have hiX5 : ∀ w ∈ u_ws RX5 TX5 10, w ∈ wsX0_runsOn := fun _ h => (List.mem_cons_of_mem _ (List.mem_append_right _ h))
  have w0 := hts (.fieldLink RX0 11 "Islandgrid$Fleet" "all" "[LIslandgrid$Generator;") (List.mem_cons_of_mem _ (List.mem_append_left _ (List.mem_append_left _ (List.mem_append_left _ (List.mem_of_getElem? (i := 0) rfl)))))
  have w1 := hts (.fieldLink RX0 32 "Islandgrid$Generator" "mode" "C") (List.mem_cons_of_mem _ (List.mem_append_left _ (List.mem_append_left _ (List.mem_append_left _ (List.mem_of_getElem? (i := 1) rfl)))))
  have w2 := hts (.fieldLink RX0 24 "Islandgrid$Fleet" "network" "LIslandgrid$Network;") (List.mem_cons_of_mem _ (List.mem_append_left _ (List.mem_append_left _ (List.mem_append_left _ (List.mem_of_getElem? (i := 2) rfl)))))
  have w3 := hts (.fieldLink RX0 36 "Islandgrid$Network" "islandOf" "[I") (List.mem_cons_of_mem _ (List.mem_append_left _ (List.mem_append_left _ (List.mem_append_left _ (List.mem_of_getElem? (i := 3) rfl)))))
  have w4 := hts (.fieldLink RX0 41 "Islandgrid$Generator" "site" "I") (List.mem_cons_of_mem _ (List.mem_append_left _ (List.mem_append_left _ (List.mem_append_left _ (List.mem_of_getElem? (i := 4) rfl)))))
  refine lv_aload_n hX_ hB_ dX0_runsOn_0 rfl (lv_at hl 0 rfl) ?_
  refine ze_get (ci := 0) (C := RX0) (T := TX0) (N := 5) (v := .ref (a 10)) S hiX0 hK hW 9 (ze_at0 9 rfl) rfl 1 (by decide) rfl w0 dX0_runsOn_1 ?_
  refine lv_iload_n hX_ hB_ dX0_runsOn_4 rfl (lv_at hl 1 rfl) ?_
  refine ze_aldN hX_ hB_ hK hW 10 3 (ze_at0 10 rfl) rfl (i := g) (by omega) (by omega) (by decide) dX0_runsOn_5 ?_
  refine ze_get (ci := 1) (C := RX1) (T := TX1) (N := 8) (v := .int (A 13 g)) S hiX1 hK hW (18 + g) (ze_atG (g := g) (by omega)) rfl 5 (by decide) rfl w1 dX0_runsOn_6 ?_
  refine lv_bipush (v := 114) hX_ hB_ dX0_runsOn_9 (by decide) ?_
  refine lv_icmp_ne (tgt := 39) hX_ hB_ dX0_runsOn_11 (by decide) (fun c11 => ?_) (fun c11 => ?_)
  · refine lv_iconst (v := 0) hX_ hB_ dX0_runsOn_39 (by decide) ?_
    exact ze_iret S hr hlocks hF hK hW rfl dX0_runsOn_40 (Nat.le_of_ble_eq_true rfl) (Nat.le_of_ble_eq_true rfl) (by simp only [ze_b, zf_runs, eq_false c11, not_true_eq_false, not_false_eq_true, and_true, true_and, and_false, false_and, or_true, true_or, or_false, false_or, and_self, or_self, Decidable.not_not, if_true, if_false, reduceIte, reduceCtorEq, ne_eq, eq_self, Int32.lt_irrefl, Int32.le_refl, Nat.lt_irrefl]) rfl
  · refine lv_aload_n hX_ hB_ dX0_runsOn_14 rfl (lv_at hl 0 rfl) ?_
    refine ze_get (ci := 0) (C := RX0) (T := TX0) (N := 5) (v := .ref (a 1)) S hiX0 hK hW 9 (ze_at0 9 rfl) rfl 0 (by decide) rfl w2 dX0_runsOn_15 ?_
    refine ze_get (ci := 5) (C := RX5) (T := TX5) (N := 10) (v := .ref (a 3)) S hiX5 hK hW 1 (ze_at0 1 rfl) rfl 4 (by decide) rfl w3 dX0_runsOn_18 ?_
    refine lv_aload_n hX_ hB_ dX0_runsOn_21 rfl (lv_at hl 0 rfl) ?_
    refine ze_get (ci := 0) (C := RX0) (T := TX0) (N := 5) (v := .ref (a 10)) S hiX0 hK hW 9 (ze_at0 9 rfl) rfl 1 (by decide) rfl w0 dX0_runsOn_22 ?_
    refine lv_iload_n hX_ hB_ dX0_runsOn_25 rfl (lv_at hl 1 rfl) ?_
    refine ze_aldN hX_ hB_ hK hW 10 3 (ze_at0 10 rfl) rfl (i := g) (by omega) (by omega) (by decide) dX0_runsOn_26 ?_
    refine ze_get (ci := 1) (C := RX1) (T := TX1) (N := 8) (v := .int (A 6 g)) S hiX1 hK hW (18 + g) (ze_atG (g := g) (by omega)) rfl 0 (by decide) rfl w4 dX0_runsOn_27 ?_
    refine ze_iald hX_ hB_ hK hW 3 (f := E 0) (ze_at0 3 rfl) (zf_in hN (hS.2.1 g hg)) dX0_runsOn_30 ?_
    refine lv_iload_n hX_ hB_ dX0_runsOn_31 rfl (lv_at hl 2 rfl) ?_
    refine lv_icmp_ne (tgt := 39) hX_ hB_ dX0_runsOn_32 (by decide) (fun c32 => ?_) (fun c32 => ?_)
    · refine lv_iconst (v := 0) hX_ hB_ dX0_runsOn_39 (by decide) ?_
      exact ze_iret S hr hlocks hF hK hW rfl dX0_runsOn_40 (Nat.le_of_ble_eq_true rfl) (Nat.le_of_ble_eq_true rfl) (by simp only [ze_b, zf_runs, eq_true c11, eq_false c32, not_true_eq_false, not_false_eq_true, and_true, true_and, and_false, false_and, or_true, true_or, or_false, false_or, and_self, or_self, Decidable.not_not, if_true, if_false, reduceIte, reduceCtorEq, ne_eq, eq_self, Int32.lt_irrefl, Int32.le_refl, Nat.lt_irrefl]) rfl
    · refine lv_iconst (v := 1) hX_ hB_ dX0_runsOn_35 (by decide) ?_
      refine lv_goto (tgt := 40) hX_ hB_ dX0_runsOn_36 (by decide) ?_
      exact ze_iret S hr hlocks hF hK hW rfl dX0_runsOn_40 (Nat.le_of_ble_eq_true rfl) (Nat.le_of_ble_eq_true rfl) (by simp only [ze_b, zf_runs, eq_true c11, eq_true c32, not_true_eq_false, not_false_eq_true, and_true, true_and, and_false, false_and, or_true, true_or, or_false, false_or, and_self, or_self, Decidable.not_not, if_true, if_false, reduceIte, reduceCtorEq, ne_eq, eq_self, Int32.lt_irrefl, Int32.le_refl, Nat.lt_irrefl]) rfl
set_option maxHeartbeats 4000000 in
set_option maxRecDepth 100000 in
theorem zc_0_nextToStart (l : Launch) (D : va_G) (c : Nat → ClassId) (a n : Nat → Nat) (A : Nat → Nat → Int32) (B : Nat → Int64) (E : Nat → Nat → Int32) (m : Int32) (hN : zf_N n) (hS : zf_S n A) : ze_I l yX0_nextToStart wsX0_nextToStart 1 21 0 0 D c (ze_wC c a n A B E) [.ref (a 9), .int m] (zf_on (zf_nx A (E 0) m (n 2))) (ze_wC c a n A B E) := by
  intro sz
  refine ze_start (cc := cX0_nextToStart) (maxL := 6) (ret := (some .int)) (own := RX0) (by decide) rfl rfl (Nat.le_of_ble_eq_true rfl) ?_
  obtain ⟨hn0, hn1, hn2, hn3, hn4⟩ := id hN
  intro p e s m_ below meth cd F ls hF hsz E0
  obtain ⟨S, hr, hlocks, hK, hW, hA, hl⟩ := E0
  have hX_ := S.1
  have hB_ := S.2.1
  have hts := S.2.2.2.2
  have hl : lv_has ls 6 [(0, .ref (a 9)), (1, .int m)] := hl
  have hiX0 : ∀ w ∈ u_ws RX0 TX0 5, w ∈ wsX0_nextToStart := fun _ h => (List.mem_cons_of_mem _ (List.mem_append_left _ (List.mem_append_left _ (List.mem_append_right _ h))))
  have hiX1 : ∀ w ∈ u_ws RX1 TX1 8, w ∈ wsX0_nextToStart := fun _ h => (List.mem_cons_of_mem _ (List.mem_append_left _ (List.mem_append_right _ h)))
  have hiX5 : ∀ w ∈ u_ws RX5 TX5 10, w ∈ wsX0_nextToStart := fun _ h => (List.mem_cons_of_mem _ (List.mem_append_right _ h))
  have w0 := hts (.fieldLink RX0 28 "Islandgrid$Fleet" "count" "I") (List.mem_cons_of_mem _ (List.mem_append_left _ (List.mem_append_left _ (List.mem_append_left _ (List.mem_of_getElem? (i := 0) rfl)))))
  have w1 := hts (.fieldLink RX0 11 "Islandgrid$Fleet" "all" "[LIslandgrid$Generator;") (List.mem_cons_of_mem _ (List.mem_append_left _ (List.mem_append_left _ (List.mem_append_left _ (List.mem_of_getElem? (i := 1) rfl)))))
  have w2 := hts (.fieldLink RX0 32 "Islandgrid$Generator" "mode" "C") (List.mem_cons_of_mem _ (List.mem_append_left _ (List.mem_append_left _ (List.mem_append_left _ (List.mem_of_getElem? (i := 2) rfl)))))
  have w3 := hts (.fieldLink RX0 24 "Islandgrid$Fleet" "network" "LIslandgrid$Network;") (List.mem_cons_of_mem _ (List.mem_append_left _ (List.mem_append_left _ (List.mem_append_left _ (List.mem_of_getElem? (i := 3) rfl)))))
  have w4 := hts (.fieldLink RX0 36 "Islandgrid$Network" "islandOf" "[I") (List.mem_cons_of_mem _ (List.mem_append_left _ (List.mem_append_left _ (List.mem_append_left _ (List.mem_of_getElem? (i := 4) rfl)))))
  have w5 := hts (.fieldLink RX0 41 "Islandgrid$Generator" "site" "I") (List.mem_cons_of_mem _ (List.mem_append_left _ (List.mem_append_left _ (List.mem_append_left _ (List.mem_of_getElem? (i := 5) rfl)))))
  refine lv_iconst (v := (-1)) hX_ hB_ dX0_nextToStart_0 (by decide) ?_
  refine lv_istore_n (lv' := [(2, .int (-1)), (0, .ref (a 9)), (1, .int m)]) hX_ hB_ dX0_nextToStart_1 rfl hl (by decide) rfl (fun ls hl => ?_)
  refine lv_iconst (v := 0) hX_ hB_ dX0_nextToStart_2 (by decide) ?_
  refine lv_istore_n (lv' := [(3, .int 0), (2, .int (-1)), (0, .ref (a 9)), (1, .int m)]) hX_ hB_ dX0_nextToStart_3 rfl hl (by decide) rfl (fun ls hl => ?_)
  have L4 : ∀ (k4 : Nat) (i4 : Nat), (i4 ≤ n 2) → (n 2 - i4) < k4 → ∀ (H : Heap) (locs : List Loc) (ls : Array Slot), ze_W D (ze_wC c a n A B E) F s.heap H locs → lv_has ls 6 [(3, .int (nI i4)), (2, .int (zf_on (zf_nx A (E 0) m i4))), (0, .ref (a 9)), (1, .int m)] → W p l e { frames := 1, cells := 0, slots := 0, locals := 21 } s m_ ([.ref (a 9), .int m] : List Value).toArray below meth cd H locs 0 0 (MQ below (ze_Qi D c (ze_wC c a n A B E) sz (zf_on (zf_nx A (E 0) m (n 2))) (ze_wC c a n A B E)) ([.ref (a 9), .int m] : List Value).toArray s 0 0 F) (F0 m_ 4 ls []) := by
    intro k4
    induction k4 with
    | zero =>
      intro i4 h4 hk4
      exact absurd hk4 (Nat.not_lt_zero _)
    | succ k4 ih4 =>
      intro i4 h4 hk4 H locs ls hW hl
      refine lv_iload_n hX_ hB_ dX0_nextToStart_4 rfl (lv_at hl 0 rfl) ?_
      refine lv_aload_n hX_ hB_ dX0_nextToStart_5 rfl (lv_at hl 2 rfl) ?_
      refine ze_get (ci := 0) (C := RX0) (T := TX0) (N := 5) (v := .int (nI (n 2))) S hiX0 hK hW 9 (ze_at0 9 rfl) rfl 2 (by decide) rfl w0 dX0_nextToStart_6 ?_
      refine lv_icmp_ge (tgt := 94) hX_ hB_ dX0_nextToStart_9 (by decide) (fun c9 => ?_) (fun c9 => ?_)
      · have c9 : ¬ i4 < (n 2) := Nat.not_lt.mpr ((nI_leI (a := (n 2)) (b := i4) (by omega) (by omega)).mp c9)
        have e4 : i4 = n 2 := by omega
        subst e4
        refine lv_iload_n hX_ hB_ dX0_nextToStart_94 rfl (lv_at hl 1 rfl) ?_
        exact ze_iret S hr hlocks hF hK hW rfl dX0_nextToStart_95 (Nat.le_of_ble_eq_true rfl) (Nat.le_of_ble_eq_true rfl) rfl rfl
      · have c9 : i4 < (n 2) := Nat.lt_of_not_le (fun h9 => c9 ((nI_leI (a := (n 2)) (b := i4) (by omega) (by omega)).mpr h9))
        refine lv_aload_n hX_ hB_ dX0_nextToStart_12 rfl (lv_at hl 2 rfl) ?_
        refine ze_get (ci := 0) (C := RX0) (T := TX0) (N := 5) (v := .ref (a 10)) S hiX0 hK hW 9 (ze_at0 9 rfl) rfl 1 (by decide) rfl w1 dX0_nextToStart_13 ?_
        refine lv_iload_n hX_ hB_ dX0_nextToStart_16 rfl (lv_at hl 0 rfl) ?_
        refine ze_aldN hX_ hB_ hK hW 10 3 (ze_at0 10 rfl) rfl (i := i4) (by omega) (by omega) (by decide) dX0_nextToStart_17 ?_
        refine lv_astore (lv' := [(4, .ref (a (20 + i4))), (3, .int (nI i4)), (2, .int (zf_on (zf_nx A (E 0) m i4))), (0, .ref (a 9)), (1, .int m)]) hX_ hB_ dX0_nextToStart_18 hl (by decide) rfl (fun ls hl => ?_)
        refine lv_aload hX_ hB_ dX0_nextToStart_20 (lv_at hl 0 rfl) ?_
        refine ze_get (ci := 1) (C := RX1) (T := TX1) (N := 8) (v := .int (A 13 i4)) S hiX1 hK hW (18 + i4) (ze_atG (g := i4) (by omega)) rfl 5 (by decide) rfl w2 dX0_nextToStart_22 ?_
        refine lv_bipush (v := 111) hX_ hB_ dX0_nextToStart_25 (by decide) ?_
        refine lv_icmp_ne (tgt := 59) hX_ hB_ dX0_nextToStart_27 (by decide) (fun c27 => ?_) (fun c27 => ?_)
        · refine lv_iconst (v := 0) hX_ hB_ dX0_nextToStart_59 (by decide) ?_
          refine lv_istore (lv' := [(5, .int 0), (4, .ref (a (20 + i4))), (3, .int (nI i4)), (2, .int (zf_on (zf_nx A (E 0) m i4))), (0, .ref (a 9)), (1, .int m)]) hX_ hB_ dX0_nextToStart_60 hl (by decide) rfl (fun ls hl => ?_)
          refine lv_iload hX_ hB_ dX0_nextToStart_62 (lv_at hl 0 rfl) ?_
          refine lv_if_eq (tgt := 88) hX_ hB_ dX0_nextToStart_64 (by decide) (fun c64 => ?_) (fun c64 => ?_)
          · refine lv_iinc (v := nI (i4 + 1)) (lv' := [(3, .int (nI (i4 + 1))), (5, .int 0), (4, .ref (a (20 + i4))), (2, .int (zf_on (zf_nx A (E 0) m i4))), (0, .ref (a 9)), (1, .int m)]) hX_ hB_ dX0_nextToStart_88 hl (k := 2) rfl (ze_inc _) (by decide) rfl (fun ls hl => ?_)
            refine lv_goto (tgt := 4) hX_ hB_ dX0_nextToStart_91 (by decide) ?_
            have eL2 : zf_on (zf_nx A (E 0) m i4) = zf_on (zf_nx A (E 0) m (i4 + 1)) := (by simp only [ze_b, zf_nx, zf_bO, zf_on, eq_true c9, eq_false c27, eq_true c64, not_true_eq_false, not_false_eq_true, and_true, true_and, and_false, false_and, or_true, true_or, or_false, false_or, and_self, or_self, Decidable.not_not, if_true, if_false, reduceIte, reduceCtorEq, ne_eq, eq_self, Int32.lt_irrefl, Int32.le_refl, Nat.lt_irrefl, decide_true, decide_false, Bool.false_eq_true, decide_eq_true_eq, eq_self])
            have hl : lv_has ls 6 [(3, .int (nI (i4 + 1))), (5, .int 0), (4, .ref (a (20 + i4))), (2, .int (zf_on (zf_nx A (E 0) m (i4 + 1)))), (0, .ref (a 9)), (1, .int m)] := by
              first | (rw [← eL2]; exact hl) | (simp only [← eL2]; exact hl)
            exact ih4 (i4 + 1) (by omega) (by omega) _ _ ls hW (lv_sub hl [0, 3, 4, 5] rfl)
          · exact absurd c64 (by decide)
        · refine lv_aload hX_ hB_ dX0_nextToStart_30 (lv_at hl 0 rfl) ?_
          refine ze_Vi (As := []) (rest := []) (ci := 1) (q0 := (18 + i4)) (k := (RX1, TX1, 8)) S (zc_1_isShort l D c a n A B E i4 hN (by omega)) (cwV 0 hts gX0_nextToStart_X1_isShort rfl rfl rfl (by decide +kernel) ⟨Nat.le_of_ble_eq_true rfl, Nat.le_of_ble_eq_true rfl⟩) hK hW hA rfl (ze_atG (g := i4) (by omega)) rfl hl.1 rfl (lv_room (Nat.le_of_ble_eq_true rfl)) dX0_nextToStart_32 ⟨Nat.le_of_ble_eq_true rfl, Nat.le_of_ble_eq_true rfl⟩ (fun H locs hW => ?_)
          refine lv_if_ne (tgt := 59) hX_ hB_ dX0_nextToStart_35 (by decide) (fun c35 => ?_) (fun c35 => ?_)
          · have c35 : zf_short A i4 := ze_bt c35
            refine lv_iconst (v := 0) hX_ hB_ dX0_nextToStart_59 (by decide) ?_
            refine lv_istore (lv' := [(5, .int 0), (4, .ref (a (20 + i4))), (3, .int (nI i4)), (2, .int (zf_on (zf_nx A (E 0) m i4))), (0, .ref (a 9)), (1, .int m)]) hX_ hB_ dX0_nextToStart_60 hl (by decide) rfl (fun ls hl => ?_)
            refine lv_iload hX_ hB_ dX0_nextToStart_62 (lv_at hl 0 rfl) ?_
            refine lv_if_eq (tgt := 88) hX_ hB_ dX0_nextToStart_64 (by decide) (fun c64 => ?_) (fun c64 => ?_)
            · refine lv_iinc (v := nI (i4 + 1)) (lv' := [(3, .int (nI (i4 + 1))), (5, .int 0), (4, .ref (a (20 + i4))), (2, .int (zf_on (zf_nx A (E 0) m i4))), (0, .ref (a 9)), (1, .int m)]) hX_ hB_ dX0_nextToStart_88 hl (k := 2) rfl (ze_inc _) (by decide) rfl (fun ls hl => ?_)
              refine lv_goto (tgt := 4) hX_ hB_ dX0_nextToStart_91 (by decide) ?_
              have eL2 : zf_on (zf_nx A (E 0) m i4) = zf_on (zf_nx A (E 0) m (i4 + 1)) := (by simp only [ze_b, zf_nx, zf_bO, zf_on, eq_true c9, eq_true c27, eq_true c35, eq_true c64, not_true_eq_false, not_false_eq_true, and_true, true_and, and_false, false_and, or_true, true_or, or_false, false_or, and_self, or_self, Decidable.not_not, if_true, if_false, reduceIte, reduceCtorEq, ne_eq, eq_self, Int32.lt_irrefl, Int32.le_refl, Nat.lt_irrefl, decide_true, decide_false, Bool.false_eq_true, decide_eq_true_eq, eq_self])
              have hl : lv_has ls 6 [(3, .int (nI (i4 + 1))), (5, .int 0), (4, .ref (a (20 + i4))), (2, .int (zf_on (zf_nx A (E 0) m (i4 + 1)))), (0, .ref (a 9)), (1, .int m)] := by
                first | (rw [← eL2]; exact hl) | (simp only [← eL2]; exact hl)
              exact ih4 (i4 + 1) (by omega) (by omega) _ _ ls hW (lv_sub hl [0, 3, 4, 5] rfl)
            · exact absurd c64 (by decide)
          · have c35 : ¬ (zf_short A i4) := ze_bf c35
            refine lv_aload_n hX_ hB_ dX0_nextToStart_38 rfl (lv_at hl 3 rfl) ?_
            refine ze_get (ci := 0) (C := RX0) (T := TX0) (N := 5) (v := .ref (a 1)) S hiX0 hK hW 9 (ze_at0 9 rfl) rfl 0 (by decide) rfl w3 dX0_nextToStart_39 ?_
            refine ze_get (ci := 5) (C := RX5) (T := TX5) (N := 10) (v := .ref (a 3)) S hiX5 hK hW 1 (ze_at0 1 rfl) rfl 4 (by decide) rfl w4 dX0_nextToStart_42 ?_
            refine lv_aload hX_ hB_ dX0_nextToStart_45 (lv_at hl 0 rfl) ?_
            refine ze_get (ci := 1) (C := RX1) (T := TX1) (N := 8) (v := .int (A 6 i4)) S hiX1 hK hW (18 + i4) (ze_atG (g := i4) (by omega)) rfl 0 (by decide) rfl w5 dX0_nextToStart_47 ?_
            refine ze_iald hX_ hB_ hK hW 3 (f := E 0) (ze_at0 3 rfl) (zf_in hN (hS.2.1 i4 (by omega))) dX0_nextToStart_50 ?_
            refine lv_iload_n hX_ hB_ dX0_nextToStart_51 rfl (lv_at hl 4 rfl) ?_
            refine lv_icmp_ne (tgt := 59) hX_ hB_ dX0_nextToStart_52 (by decide) (fun c52 => ?_) (fun c52 => ?_)
            · refine lv_iconst (v := 0) hX_ hB_ dX0_nextToStart_59 (by decide) ?_
              refine lv_istore (lv' := [(5, .int 0), (4, .ref (a (20 + i4))), (3, .int (nI i4)), (2, .int (zf_on (zf_nx A (E 0) m i4))), (0, .ref (a 9)), (1, .int m)]) hX_ hB_ dX0_nextToStart_60 hl (by decide) rfl (fun ls hl => ?_)
              refine lv_iload hX_ hB_ dX0_nextToStart_62 (lv_at hl 0 rfl) ?_
              refine lv_if_eq (tgt := 88) hX_ hB_ dX0_nextToStart_64 (by decide) (fun c64 => ?_) (fun c64 => ?_)
              · refine lv_iinc (v := nI (i4 + 1)) (lv' := [(3, .int (nI (i4 + 1))), (5, .int 0), (4, .ref (a (20 + i4))), (2, .int (zf_on (zf_nx A (E 0) m i4))), (0, .ref (a 9)), (1, .int m)]) hX_ hB_ dX0_nextToStart_88 hl (k := 2) rfl (ze_inc _) (by decide) rfl (fun ls hl => ?_)
                refine lv_goto (tgt := 4) hX_ hB_ dX0_nextToStart_91 (by decide) ?_
                have eL2 : zf_on (zf_nx A (E 0) m i4) = zf_on (zf_nx A (E 0) m (i4 + 1)) := (by simp only [ze_b, zf_nx, zf_bO, zf_on, eq_true c9, eq_true c27, eq_false c35, eq_false c52, eq_true c64, not_true_eq_false, not_false_eq_true, and_true, true_and, and_false, false_and, or_true, true_or, or_false, false_or, and_self, or_self, Decidable.not_not, if_true, if_false, reduceIte, reduceCtorEq, ne_eq, eq_self, Int32.lt_irrefl, Int32.le_refl, Nat.lt_irrefl, decide_true, decide_false, Bool.false_eq_true, decide_eq_true_eq, eq_self])
                have hl : lv_has ls 6 [(3, .int (nI (i4 + 1))), (5, .int 0), (4, .ref (a (20 + i4))), (2, .int (zf_on (zf_nx A (E 0) m (i4 + 1)))), (0, .ref (a 9)), (1, .int m)] := by
                  first | (rw [← eL2]; exact hl) | (simp only [← eL2]; exact hl)
                exact ih4 (i4 + 1) (by omega) (by omega) _ _ ls hW (lv_sub hl [0, 3, 4, 5] rfl)
              · exact absurd c64 (by decide)
            · refine lv_iconst (v := 1) hX_ hB_ dX0_nextToStart_55 (by decide) ?_
              refine lv_goto (tgt := 60) hX_ hB_ dX0_nextToStart_56 (by decide) ?_
              refine lv_istore (lv' := [(5, .int 1), (4, .ref (a (20 + i4))), (3, .int (nI i4)), (2, .int (zf_on (zf_nx A (E 0) m i4))), (0, .ref (a 9)), (1, .int m)]) hX_ hB_ dX0_nextToStart_60 hl (by decide) rfl (fun ls hl => ?_)
              refine lv_iload hX_ hB_ dX0_nextToStart_62 (lv_at hl 0 rfl) ?_
              refine lv_if_eq (tgt := 88) hX_ hB_ dX0_nextToStart_64 (by decide) (fun c64 => ?_) (fun c64 => ?_)
              · exact absurd c64 (by decide)
              · rcases hpk : zf_nx A (E 0) m i4 with _ | b
                · have hl : lv_has ls 6 [(5, .int 1), (4, .ref (a (20 + i4))), (3, .int (nI i4)), (2, .int (-1)), (0, .ref (a 9)), (1, .int m)] := by
                    rw [hpk] at hl
                    exact hl
                  refine lv_iload_n hX_ hB_ dX0_nextToStart_67 rfl (lv_at hl 3 rfl) ?_
                  refine lv_iconst (v := (-1)) hX_ hB_ dX0_nextToStart_68 (by decide) ?_
                  refine lv_icmp_eq (tgt := 86) hX_ hB_ dX0_nextToStart_69 (by decide) (fun c69 => ?_) (fun c69 => ?_)
                  · refine lv_iload_n hX_ hB_ dX0_nextToStart_86 rfl (lv_at hl 2 rfl) ?_
                    refine lv_istore_n (lv' := [(2, .int (nI i4)), (5, .int 1), (4, .ref (a (20 + i4))), (3, .int (nI i4)), (0, .ref (a 9)), (1, .int m)]) hX_ hB_ dX0_nextToStart_87 rfl hl (by decide) rfl (fun ls hl => ?_)
                    refine lv_iinc (v := nI (i4 + 1)) (lv' := [(3, .int (nI (i4 + 1))), (2, .int (nI i4)), (5, .int 1), (4, .ref (a (20 + i4))), (0, .ref (a 9)), (1, .int m)]) hX_ hB_ dX0_nextToStart_88 hl (k := 3) rfl (ze_inc _) (by decide) rfl (fun ls hl => ?_)
                    refine lv_goto (tgt := 4) hX_ hB_ dX0_nextToStart_91 (by decide) ?_
                    have eL2 : nI i4 = zf_on (zf_nx A (E 0) m (i4 + 1)) := (by simp only [ze_b, zf_nx, zf_bO, zf_on, eq_true c9, eq_true c27, eq_false c35, eq_true c52, eq_false c64, hpk, eq_true c69, not_true_eq_false, not_false_eq_true, and_true, true_and, and_false, false_and, or_true, true_or, or_false, false_or, and_self, or_self, Decidable.not_not, if_true, if_false, reduceIte, reduceCtorEq, ne_eq, eq_self, Int32.lt_irrefl, Int32.le_refl, Nat.lt_irrefl, decide_true, decide_false, Bool.false_eq_true, decide_eq_true_eq, eq_self])
                    have hl : lv_has ls 6 [(3, .int (nI (i4 + 1))), (2, .int (zf_on (zf_nx A (E 0) m (i4 + 1)))), (5, .int 1), (4, .ref (a (20 + i4))), (0, .ref (a 9)), (1, .int m)] := by
                      first | (rw [← eL2]; exact hl) | (simp only [← eL2]; exact hl)
                    exact ih4 (i4 + 1) (by omega) (by omega) _ _ ls hW (lv_sub hl [0, 1, 4, 5] rfl)
                  · exact absurd c69 (by decide)
                · have hl : lv_has ls 6 [(5, .int 1), (4, .ref (a (20 + i4))), (3, .int (nI i4)), (2, .int (nI b)), (0, .ref (a 9)), (1, .int m)] := by
                    rw [hpk] at hl
                    exact hl
                  have hb9 : b < n 2 := zf_nxlt (by omega) hpk
                  refine lv_iload_n hX_ hB_ dX0_nextToStart_67 rfl (lv_at hl 3 rfl) ?_
                  refine lv_iconst (v := (-1)) hX_ hB_ dX0_nextToStart_68 (by decide) ?_
                  refine lv_icmp_eq (tgt := 86) hX_ hB_ dX0_nextToStart_69 (by decide) (fun c69 => ?_) (fun c69 => ?_)
                  · exact absurd c69 (zf_nIm1 (by omega))
                  · refine lv_aload hX_ hB_ dX0_nextToStart_72 (lv_at hl 1 rfl) ?_
                    refine lv_aload_n hX_ hB_ dX0_nextToStart_74 rfl (lv_at hl 4 rfl) ?_
                    refine ze_get (ci := 0) (C := RX0) (T := TX0) (N := 5) (v := .ref (a 10)) S hiX0 hK hW 9 (ze_at0 9 rfl) rfl 1 (by decide) rfl w1 dX0_nextToStart_75 ?_
                    refine lv_iload_n hX_ hB_ dX0_nextToStart_78 rfl (lv_at hl 3 rfl) ?_
                    refine ze_aldN hX_ hB_ hK hW 10 3 (ze_at0 10 rfl) rfl (i := b) (by omega) (by omega) (by decide) dX0_nextToStart_79 ?_
                    refine ze_Vi (As := [.ref (a (20 + b))]) (rest := []) (ci := 1) (q0 := (18 + i4)) (k := (RX1, TX1, 8)) S (zc_1_startsAhead l D c a n A B E i4 b hN (by omega) (by omega)) (cwV 1 hts gX0_nextToStart_X1_startsAhead rfl rfl rfl (by decide +kernel) ⟨Nat.le_of_ble_eq_true rfl, Nat.le_of_ble_eq_true rfl⟩) hK hW hA rfl (ze_atG (g := i4) (by omega)) rfl hl.1 rfl (lv_room (Nat.le_of_ble_eq_true rfl)) dX0_nextToStart_80 ⟨Nat.le_of_ble_eq_true rfl, Nat.le_of_ble_eq_true rfl⟩ (fun H locs hW => ?_)
                    refine lv_if_eq (tgt := 88) hX_ hB_ dX0_nextToStart_83 (by decide) (fun c83 => ?_) (fun c83 => ?_)
                    · have c83 : ¬ (zf_better A i4 b) := ze_bf c83
                      refine lv_iinc (v := nI (i4 + 1)) (lv' := [(3, .int (nI (i4 + 1))), (5, .int 1), (4, .ref (a (20 + i4))), (2, .int (nI b)), (0, .ref (a 9)), (1, .int m)]) hX_ hB_ dX0_nextToStart_88 hl (k := 2) rfl (ze_inc _) (by decide) rfl (fun ls hl => ?_)
                      refine lv_goto (tgt := 4) hX_ hB_ dX0_nextToStart_91 (by decide) ?_
                      have eL2 : nI b = zf_on (zf_nx A (E 0) m (i4 + 1)) := (by simp only [ze_b, zf_nx, zf_bO, zf_on, eq_true c9, eq_true c27, eq_false c35, eq_true c52, eq_false c64, hpk, eq_false c69, eq_false c83, not_true_eq_false, not_false_eq_true, and_true, true_and, and_false, false_and, or_true, true_or, or_false, false_or, and_self, or_self, Decidable.not_not, if_true, if_false, reduceIte, reduceCtorEq, ne_eq, eq_self, Int32.lt_irrefl, Int32.le_refl, Nat.lt_irrefl, decide_true, decide_false, Bool.false_eq_true, decide_eq_true_eq, eq_self])
                      have hl : lv_has ls 6 [(3, .int (nI (i4 + 1))), (5, .int 1), (4, .ref (a (20 + i4))), (2, .int (zf_on (zf_nx A (E 0) m (i4 + 1)))), (0, .ref (a 9)), (1, .int m)] := by
                        first | (rw [← eL2]; exact hl) | (simp only [← eL2]; exact hl)
                      exact ih4 (i4 + 1) (by omega) (by omega) _ _ ls hW (lv_sub hl [0, 3, 4, 5] rfl)
                    · have c83 : zf_better A i4 b := ze_bt c83
                      refine lv_iload_n hX_ hB_ dX0_nextToStart_86 rfl (lv_at hl 2 rfl) ?_
                      refine lv_istore_n (lv' := [(2, .int (nI i4)), (5, .int 1), (4, .ref (a (20 + i4))), (3, .int (nI i4)), (0, .ref (a 9)), (1, .int m)]) hX_ hB_ dX0_nextToStart_87 rfl hl (by decide) rfl (fun ls hl => ?_)
                      refine lv_iinc (v := nI (i4 + 1)) (lv' := [(3, .int (nI (i4 + 1))), (2, .int (nI i4)), (5, .int 1), (4, .ref (a (20 + i4))), (0, .ref (a 9)), (1, .int m)]) hX_ hB_ dX0_nextToStart_88 hl (k := 3) rfl (ze_inc _) (by decide) rfl (fun ls hl => ?_)
                      refine lv_goto (tgt := 4) hX_ hB_ dX0_nextToStart_91 (by decide) ?_
                      have eL2 : nI i4 = zf_on (zf_nx A (E 0) m (i4 + 1)) := (by simp only [ze_b, zf_nx, zf_bO, zf_on, eq_true c9, eq_true c27, eq_false c35, eq_true c52, eq_false c64, hpk, eq_false c69, eq_true c83, not_true_eq_false, not_false_eq_true, and_true, true_and, and_false, false_and, or_true, true_or, or_false, false_or, and_self, or_self, Decidable.not_not, if_true, if_false, reduceIte, reduceCtorEq, ne_eq, eq_self, Int32.lt_irrefl, Int32.le_refl, Nat.lt_irrefl, decide_true, decide_false, Bool.false_eq_true, decide_eq_true_eq, eq_self])
                      have hl : lv_has ls 6 [(3, .int (nI (i4 + 1))), (2, .int (zf_on (zf_nx A (E 0) m (i4 + 1)))), (5, .int 1), (4, .ref (a (20 + i4))), (0, .ref (a 9)), (1, .int m)] := by
                        first | (rw [← eL2]; exact hl) | (simp only [← eL2]; exact hl)
                      exact ih4 (i4 + 1) (by omega) (by omega) _ _ ls hW (lv_sub hl [0, 1, 4, 5] rfl)
  have hl : lv_has ls 6 [(3, .int (nI 0)), (2, .int (zf_on (zf_nx A (E 0) m 0))), (0, .ref (a 9)), (1, .int m)] := hl
  have hW : ze_W D (ze_wC c a n A B E) F s.heap _ _ := hW
  exact L4 _ 0 (by omega) (Nat.lt_succ_self _) _ _ ls hW (lv_sub hl [0, 1, 2, 3] rfl)
set_option maxHeartbeats 4000000 in
set_option maxRecDepth 100000 in
theorem zc_0_beginTick (l : Launch) (D : va_G) (c : Nat → ClassId) (a n : Nat → Nat) (A : Nat → Nat → Int32) (B : Nat → Int64) (E : Nat → Nat → Int32) (hN : zf_N n) : ze_V l yX0_beginTick wsX0_beginTick 2 40 0 0 D c (ze_wC c a n A B E) [.ref (a 9)] (ze_wC c a n (ze_sA (ze_sA (ze_sA A 12 (ze_up (fun _ => 0) (A 12) (n 2))) 11 (ze_up (zf_tG A) (A 11) (n 2))) 13 (ze_up (zf_tS A) (A 13) (n 2))) B E) := by
  intro sz
  refine ze_start (cc := cX0_beginTick) (maxL := 2) (ret := none) (own := RX0) (by decide) rfl rfl (Nat.le_of_ble_eq_true rfl) ?_
  obtain ⟨hn0, hn1, hn2, hn3, hn4⟩ := id hN
  intro p e s m_ below meth cd F ls hF hsz E0
  obtain ⟨S, hr, hlocks, hK, hW, hA, hl⟩ := E0
  have hX_ := S.1
  have hB_ := S.2.1
  have hts := S.2.2.2.2
  have hl : lv_has ls 2 [(0, .ref (a 9))] := hl
  have hiX0 : ∀ w ∈ u_ws RX0 TX0 5, w ∈ wsX0_beginTick := fun _ h => (List.mem_cons_of_mem _ (List.mem_append_left _ (List.mem_append_right _ h)))
  have w0 := hts (.fieldLink RX0 28 "Islandgrid$Fleet" "count" "I") (List.mem_cons_of_mem _ (List.mem_append_left _ (List.mem_append_left _ (List.mem_of_getElem? (i := 0) rfl))))
  have w1 := hts (.fieldLink RX0 11 "Islandgrid$Fleet" "all" "[LIslandgrid$Generator;") (List.mem_cons_of_mem _ (List.mem_append_left _ (List.mem_append_left _ (List.mem_of_getElem? (i := 1) rfl))))
  refine lv_iconst (v := 0) hX_ hB_ dX0_beginTick_0 (by decide) ?_
  refine lv_istore_n (lv' := [(1, .int 0), (0, .ref (a 9))]) hX_ hB_ dX0_beginTick_1 rfl hl (by decide) rfl (fun ls hl => ?_)
  have L2 : ∀ (k2 : Nat) (i2 : Nat), (i2 ≤ n 2) → (n 2 - i2) < k2 → ∀ (H : Heap) (locs : List Loc) (ls : Array Slot), ze_W D (ze_wC c a n (ze_sA (ze_sA (ze_sA A 12 (ze_up (fun _ => 0) (A 12) i2)) 11 (ze_up (zf_tG A) (A 11) i2)) 13 (ze_up (zf_tS A) (A 13) i2)) B E) F s.heap H locs → lv_has ls 2 [(1, .int (nI i2)), (0, .ref (a 9))] → W p l e { frames := 2, cells := 0, slots := 0, locals := 40 } s m_ ([.ref (a 9)] : List Value).toArray below meth cd H locs 0 0 (MQ below (ze_Qv D c (ze_wC c a n A B E) sz (ze_wC c a n (ze_sA (ze_sA (ze_sA A 12 (ze_up (fun _ => 0) (A 12) (n 2))) 11 (ze_up (zf_tG A) (A 11) (n 2))) 13 (ze_up (zf_tS A) (A 13) (n 2))) B E)) ([.ref (a 9)] : List Value).toArray s 0 0 F) (F0 m_ 2 ls []) := by
    intro k2
    induction k2 with
    | zero =>
      intro i2 h2 hk2
      exact absurd hk2 (Nat.not_lt_zero _)
    | succ k2 ih2 =>
      intro i2 h2 hk2 H locs ls hW hl
      refine lv_iload_n hX_ hB_ dX0_beginTick_2 rfl (lv_at hl 0 rfl) ?_
      refine lv_aload_n hX_ hB_ dX0_beginTick_3 rfl (lv_at hl 1 rfl) ?_
      refine ze_get (ci := 0) (C := RX0) (T := TX0) (N := 5) (v := .int (nI (n 2))) S hiX0 hK hW 9 (ze_at0 9 rfl) rfl 2 (by decide) rfl w0 dX0_beginTick_4 ?_
      refine lv_icmp_ge (tgt := 25) hX_ hB_ dX0_beginTick_7 (by decide) (fun c7 => ?_) (fun c7 => ?_)
      · have c7 : ¬ i2 < (n 2) := Nat.not_lt.mpr ((nI_leI (a := (n 2)) (b := i2) (by omega) (by omega)).mp c7)
        have e2 : i2 = n 2 := by omega
        subst e2
        exact ze_vret S hr hlocks hF hK hW dX0_beginTick_25 (Nat.le_of_ble_eq_true rfl) (Nat.le_of_ble_eq_true rfl) rfl
      · have c7 : i2 < (n 2) := Nat.lt_of_not_le (fun h9 => c7 ((nI_leI (a := (n 2)) (b := i2) (by omega) (by omega)).mpr h9))
        refine lv_aload_n hX_ hB_ dX0_beginTick_10 rfl (lv_at hl 1 rfl) ?_
        refine ze_get (ci := 0) (C := RX0) (T := TX0) (N := 5) (v := .ref (a 10)) S hiX0 hK hW 9 (ze_at0 9 rfl) rfl 1 (by decide) rfl w1 dX0_beginTick_11 ?_
        refine lv_iload_n hX_ hB_ dX0_beginTick_14 rfl (lv_at hl 0 rfl) ?_
        refine ze_aldN hX_ hB_ hK hW 10 3 (ze_at0 10 rfl) rfl (i := i2) (by omega) (by omega) (by decide) dX0_beginTick_15 ?_
        refine ze_Vv (As := []) (rest := []) (ci := 1) (q0 := (18 + i2)) (k := (RX1, TX1, 8)) S (zc_1_beginTick l D c a n (ze_sA (ze_sA (ze_sA A 12 (ze_up (fun _ => 0) (A 12) i2)) 11 (ze_up (zf_tG A) (A 11) i2)) 13 (ze_up (zf_tS A) (A 13) i2)) B E i2 hN (by omega)) (cwV 0 hts gX0_beginTick_X1_beginTick rfl rfl rfl (by decide +kernel) ⟨Nat.le_of_ble_eq_true rfl, Nat.le_of_ble_eq_true rfl⟩) hK hW hA rfl (ze_atG (g := i2) (by omega)) rfl hl.1 rfl (lv_room (Nat.le_of_ble_eq_true rfl)) dX0_beginTick_16 ⟨Nat.le_of_ble_eq_true rfl, Nat.le_of_ble_eq_true rfl⟩ (fun H locs hW => ?_)
        have hW : ze_W D (ze_wC c a n (ze_sE (ze_sE (ze_sE (ze_sA (ze_sA (ze_sA A 12 (ze_up (fun _ => 0) (A 12) i2)) 11 (ze_up (zf_tG A) (A 11) i2)) 13 (ze_up (zf_tS A) (A 13) i2)) 12 i2 0) 11 i2 (zf_tG (ze_sA (ze_sA (ze_sA A 12 (ze_up (fun _ => 0) (A 12) i2)) 11 (ze_up (zf_tG A) (A 11) i2)) 13 (ze_up (zf_tS A) (A 13) i2)) i2)) 13 i2 (zf_tS (ze_sA (ze_sA (ze_sA A 12 (ze_up (fun _ => 0) (A 12) i2)) 11 (ze_up (zf_tG A) (A 11) i2)) 13 (ze_up (zf_tS A) (A 13) i2)) i2)) B E) F s.heap _ _ := hW
        refine lv_iinc (v := nI (i2 + 1)) (lv' := [(1, .int (nI (i2 + 1))), (0, .ref (a 9))]) hX_ hB_ dX0_beginTick_19 hl (k := 0) rfl (ze_inc _) (by decide) rfl (fun ls hl => ?_)
        refine lv_goto (tgt := 2) hX_ hB_ dX0_beginTick_22 (by decide) ?_
        have eW : (ze_wC c a n (ze_sE (ze_sE (ze_sE (ze_sA (ze_sA (ze_sA A 12 (ze_up (fun _ => 0) (A 12) i2)) 11 (ze_up (zf_tG A) (A 11) i2)) 13 (ze_up (zf_tS A) (A 13) i2)) 12 i2 0) 11 i2 (zf_tG (ze_sA (ze_sA (ze_sA A 12 (ze_up (fun _ => 0) (A 12) i2)) 11 (ze_up (zf_tG A) (A 11) i2)) 13 (ze_up (zf_tS A) (A 13) i2)) i2)) 13 i2 (zf_tS (ze_sA (ze_sA (ze_sA A 12 (ze_up (fun _ => 0) (A 12) i2)) 11 (ze_up (zf_tG A) (A 11) i2)) 13 (ze_up (zf_tS A) (A 13) i2)) i2)) B E) = (ze_wC c a n (ze_sA (ze_sA (ze_sA A 12 (ze_up (fun _ => 0) (A 12) (i2 + 1))) 11 (ze_up (zf_tG A) (A 11) (i2 + 1))) 13 (ze_up (zf_tS A) (A 13) (i2 + 1))) B E) := (by rw [zf_tGup, zf_tSup]; simp (decide := true) only [ze_e1, ze_e2]; rw [ze_up_s rfl, ze_up_s rfl, ze_up_s rfl])
        rw [eW] at hW
        exact ih2 (i2 + 1) (by omega) (by omega) _ _ ls hW (lv_sub hl [0, 1] rfl)
  have hl : lv_has ls 2 [(1, .int (nI 0)), (0, .ref (a 9))] := hl
  have hW : ze_W D (ze_wC c a n (ze_sA (ze_sA (ze_sA A 12 (ze_up (fun _ => 0) (A 12) 0)) 11 (ze_up (zf_tG A) (A 11) 0)) 13 (ze_up (zf_tS A) (A 13) 0)) B E) F s.heap _ _ := (by rw [ze_up_0, ze_up_0, ze_up_0]; rw [ze_sAid3 (A := A) (f := A 12) (g := A 11) (h := A 13) rfl rfl rfl]; exact hW)
  exact L2 _ 0 (by omega) (Nat.lt_succ_self _) _ _ ls hW (lv_sub hl [0, 1] rfl)
set_option maxHeartbeats 4000000 in
set_option maxRecDepth 100000 in
theorem zc_0_sumOfSupply (l : Launch) (D : va_G) (c : Nat → ClassId) (a n : Nat → Nat) (A : Nat → Nat → Int32) (B : Nat → Int64) (E : Nat → Nat → Int32) (m : Int32) (hN : zf_N n) (hS : zf_S n A) : ze_I l yX0_sumOfSupply wsX0_sumOfSupply 2 33 0 0 D c (ze_wC c a n A B E) [.ref (a 9), .int m] (zf_supG A (E 0) m 0 (n 2)) (ze_wC c a n A B E) := by
  intro sz
  refine ze_start (cc := cX0_sumOfSupply) (maxL := 4) (ret := (some .int)) (own := RX0) (by decide) rfl rfl (Nat.le_of_ble_eq_true rfl) ?_
  obtain ⟨hn0, hn1, hn2, hn3, hn4⟩ := id hN
  intro p e s m_ below meth cd F ls hF hsz E0
  obtain ⟨S, hr, hlocks, hK, hW, hA, hl⟩ := E0
  have hX_ := S.1
  have hB_ := S.2.1
  have hts := S.2.2.2.2
  have hl : lv_has ls 4 [(0, .ref (a 9)), (1, .int m)] := hl
  have hiX0 : ∀ w ∈ u_ws RX0 TX0 5, w ∈ wsX0_sumOfSupply := fun _ h => (List.mem_cons_of_mem _ (List.mem_append_left _ (List.mem_append_left _ (List.mem_append_right _ h))))
  have w0 := hts (.fieldLink RX0 28 "Islandgrid$Fleet" "count" "I") (List.mem_cons_of_mem _ (List.mem_append_left _ (List.mem_append_left _ (List.mem_append_left _ (List.mem_of_getElem? (i := 0) rfl)))))
  have w1 := hts (.fieldLink RX0 11 "Islandgrid$Fleet" "all" "[LIslandgrid$Generator;") (List.mem_cons_of_mem _ (List.mem_append_left _ (List.mem_append_left _ (List.mem_append_left _ (List.mem_of_getElem? (i := 1) rfl)))))
  refine lv_iconst (v := 0) hX_ hB_ dX0_sumOfSupply_0 (by decide) ?_
  refine lv_istore_n (lv' := [(2, .int 0), (0, .ref (a 9)), (1, .int m)]) hX_ hB_ dX0_sumOfSupply_1 rfl hl (by decide) rfl (fun ls hl => ?_)
  refine lv_iconst (v := 0) hX_ hB_ dX0_sumOfSupply_2 (by decide) ?_
  refine lv_istore_n (lv' := [(3, .int 0), (2, .int 0), (0, .ref (a 9)), (1, .int m)]) hX_ hB_ dX0_sumOfSupply_3 rfl hl (by decide) rfl (fun ls hl => ?_)
  have L4 : ∀ (k4 : Nat) (i4 : Nat), (i4 ≤ n 2) → (n 2 - i4) < k4 → ∀ (H : Heap) (locs : List Loc) (ls : Array Slot), ze_W D (ze_wC c a n A B E) F s.heap H locs → lv_has ls 4 [(3, .int (nI i4)), (2, .int (zf_supG A (E 0) m 0 i4)), (0, .ref (a 9)), (1, .int m)] → W p l e { frames := 2, cells := 0, slots := 0, locals := 33 } s m_ ([.ref (a 9), .int m] : List Value).toArray below meth cd H locs 0 0 (MQ below (ze_Qi D c (ze_wC c a n A B E) sz (zf_supG A (E 0) m 0 (n 2)) (ze_wC c a n A B E)) ([.ref (a 9), .int m] : List Value).toArray s 0 0 F) (F0 m_ 4 ls []) := by
    intro k4
    induction k4 with
    | zero =>
      intro i4 h4 hk4
      exact absurd hk4 (Nat.not_lt_zero _)
    | succ k4 ih4 =>
      intro i4 h4 hk4 H locs ls hW hl
      refine lv_iload_n hX_ hB_ dX0_sumOfSupply_4 rfl (lv_at hl 0 rfl) ?_
      refine lv_aload_n hX_ hB_ dX0_sumOfSupply_5 rfl (lv_at hl 2 rfl) ?_
      refine ze_get (ci := 0) (C := RX0) (T := TX0) (N := 5) (v := .int (nI (n 2))) S hiX0 hK hW 9 (ze_at0 9 rfl) rfl 2 (by decide) rfl w0 dX0_sumOfSupply_6 ?_
      refine lv_icmp_ge (tgt := 39) hX_ hB_ dX0_sumOfSupply_9 (by decide) (fun c9 => ?_) (fun c9 => ?_)
      · have c9 : ¬ i4 < (n 2) := Nat.not_lt.mpr ((nI_leI (a := (n 2)) (b := i4) (by omega) (by omega)).mp c9)
        have e4 : i4 = n 2 := by omega
        subst e4
        refine lv_iload_n hX_ hB_ dX0_sumOfSupply_39 rfl (lv_at hl 1 rfl) ?_
        exact ze_iret S hr hlocks hF hK hW rfl dX0_sumOfSupply_40 (Nat.le_of_ble_eq_true rfl) (Nat.le_of_ble_eq_true rfl) rfl rfl
      · have c9 : i4 < (n 2) := Nat.lt_of_not_le (fun h9 => c9 ((nI_leI (a := (n 2)) (b := i4) (by omega) (by omega)).mpr h9))
        refine lv_aload_n hX_ hB_ dX0_sumOfSupply_12 rfl (lv_at hl 2 rfl) ?_
        refine lv_iload_n hX_ hB_ dX0_sumOfSupply_13 rfl (lv_at hl 0 rfl) ?_
        refine lv_iload_n hX_ hB_ dX0_sumOfSupply_14 rfl (lv_at hl 3 rfl) ?_
        refine ze_Vi (As := [.int (nI i4), .int m]) (rest := []) (ci := 0) (q0 := 9) (k := (RX0, TX0, 5)) S (zc_0_runsOn l D c a n A B E i4 m hN hS (by omega)) (cwV 2 hts gX0_sumOfSupply_X0_runsOn rfl rfl rfl (by decide +kernel) ⟨Nat.le_of_ble_eq_true rfl, Nat.le_of_ble_eq_true rfl⟩) hK hW hA rfl (ze_at0 9 rfl) rfl hl.1 rfl (lv_room (Nat.le_of_ble_eq_true rfl)) dX0_sumOfSupply_15 ⟨Nat.le_of_ble_eq_true rfl, Nat.le_of_ble_eq_true rfl⟩ (fun H locs hW => ?_)
        refine lv_if_eq (tgt := 33) hX_ hB_ dX0_sumOfSupply_18 (by decide) (fun c18 => ?_) (fun c18 => ?_)
        · have c18 : ¬ (zf_runs A (E 0) i4 m) := ze_bf c18
          refine lv_iinc (v := nI (i4 + 1)) (lv' := [(3, .int (nI (i4 + 1))), (2, .int (zf_supG A (E 0) m 0 i4)), (0, .ref (a 9)), (1, .int m)]) hX_ hB_ dX0_sumOfSupply_33 hl (k := 0) rfl (ze_inc _) (by decide) rfl (fun ls hl => ?_)
          refine lv_goto (tgt := 4) hX_ hB_ dX0_sumOfSupply_36 (by decide) ?_
          have eL2 : zf_supG A (E 0) m 0 i4 = zf_supG A (E 0) m 0 (i4 + 1) := (by simp only [ze_b, zf_supG, ze_sum, eq_true c9, eq_false c18, not_true_eq_false, not_false_eq_true, and_true, true_and, and_false, false_and, or_true, true_or, or_false, false_or, and_self, or_self, Decidable.not_not, if_true, if_false, reduceIte, reduceCtorEq, ne_eq, eq_self, Int32.lt_irrefl, Int32.le_refl, Nat.lt_irrefl, Int32.add_zero, zf_can])
          have hl : lv_has ls 4 [(3, .int (nI (i4 + 1))), (2, .int (zf_supG A (E 0) m 0 (i4 + 1))), (0, .ref (a 9)), (1, .int m)] := by
            first | (rw [← eL2]; exact hl) | (simp only [← eL2]; exact hl)
          exact ih4 (i4 + 1) (by omega) (by omega) _ _ ls hW (lv_sub hl [0, 1, 2, 3] rfl)
        · have c18 : zf_runs A (E 0) i4 m := ze_bt c18
          refine lv_iload_n hX_ hB_ dX0_sumOfSupply_21 rfl (lv_at hl 1 rfl) ?_
          refine lv_aload_n hX_ hB_ dX0_sumOfSupply_22 rfl (lv_at hl 2 rfl) ?_
          refine ze_get (ci := 0) (C := RX0) (T := TX0) (N := 5) (v := .ref (a 10)) S hiX0 hK hW 9 (ze_at0 9 rfl) rfl 1 (by decide) rfl w1 dX0_sumOfSupply_23 ?_
          refine lv_iload_n hX_ hB_ dX0_sumOfSupply_26 rfl (lv_at hl 0 rfl) ?_
          refine ze_aldN hX_ hB_ hK hW 10 3 (ze_at0 10 rfl) rfl (i := i4) (by omega) (by omega) (by decide) dX0_sumOfSupply_27 ?_
          refine ze_Vi (As := []) (rest := [.int (zf_supG A (E 0) m 0 i4)]) (ci := 1) (q0 := (18 + i4)) (k := (RX1, TX1, 8)) S (zc_1_supply l D c a n A B E i4 hN (by omega)) (cwV 0 hts gX0_sumOfSupply_X1_supply rfl rfl rfl (by decide +kernel) ⟨Nat.le_of_ble_eq_true rfl, Nat.le_of_ble_eq_true rfl⟩) hK hW hA rfl (ze_atG (g := i4) (by omega)) rfl hl.1 rfl (lv_room (Nat.le_of_ble_eq_true rfl)) dX0_sumOfSupply_28 ⟨Nat.le_of_ble_eq_true rfl, Nat.le_of_ble_eq_true rfl⟩ (fun H locs hW => ?_)
          refine lv_iadd hX_ hB_ dX0_sumOfSupply_31 ?_
          refine lv_istore_n (lv' := [(2, .int (zf_supG A (E 0) m 0 i4 + zf_can A i4)), (3, .int (nI i4)), (0, .ref (a 9)), (1, .int m)]) hX_ hB_ dX0_sumOfSupply_32 rfl hl (by decide) rfl (fun ls hl => ?_)
          refine lv_iinc (v := nI (i4 + 1)) (lv' := [(3, .int (nI (i4 + 1))), (2, .int (zf_supG A (E 0) m 0 i4 + zf_can A i4)), (0, .ref (a 9)), (1, .int m)]) hX_ hB_ dX0_sumOfSupply_33 hl (k := 1) rfl (ze_inc _) (by decide) rfl (fun ls hl => ?_)
          refine lv_goto (tgt := 4) hX_ hB_ dX0_sumOfSupply_36 (by decide) ?_
          have eL2 : zf_supG A (E 0) m 0 i4 + zf_can A i4 = zf_supG A (E 0) m 0 (i4 + 1) := (by simp only [ze_b, zf_supG, ze_sum, eq_true c9, eq_true c18, not_true_eq_false, not_false_eq_true, and_true, true_and, and_false, false_and, or_true, true_or, or_false, false_or, and_self, or_self, Decidable.not_not, if_true, if_false, reduceIte, reduceCtorEq, ne_eq, eq_self, Int32.lt_irrefl, Int32.le_refl, Nat.lt_irrefl, Int32.add_zero, zf_can])
          have hl : lv_has ls 4 [(3, .int (nI (i4 + 1))), (2, .int (zf_supG A (E 0) m 0 (i4 + 1))), (0, .ref (a 9)), (1, .int m)] := by
            first | (rw [← eL2]; exact hl) | (simp only [← eL2]; exact hl)
          exact ih4 (i4 + 1) (by omega) (by omega) _ _ ls hW (lv_sub hl [0, 1, 2, 3] rfl)
  have hl : lv_has ls 4 [(3, .int (nI 0)), (2, .int (zf_supG A (E 0) m 0 0)), (0, .ref (a 9)), (1, .int m)] := hl
  have hW : ze_W D (ze_wC c a n A B E) F s.heap _ _ := hW
  exact L4 _ 0 (by omega) (Nat.lt_succ_self _) _ _ ls hW (lv_sub hl [0, 1, 2, 3] rfl)
set_option maxHeartbeats 4000000 in
set_option maxRecDepth 100000 in
theorem zc_0_sumOfLeast (l : Launch) (D : va_G) (c : Nat → ClassId) (a n : Nat → Nat) (A : Nat → Nat → Int32) (B : Nat → Int64) (E : Nat → Nat → Int32) (m : Int32) (hN : zf_N n) (hS : zf_S n A) : ze_I l yX0_sumOfLeast wsX0_sumOfLeast 1 22 0 0 D c (ze_wC c a n A B E) [.ref (a 9), .int m] (zf_gs A (E 0) m (n 2)) (ze_wC c a n A B E) := by
  intro sz
  refine ze_start (cc := cX0_sumOfLeast) (maxL := 4) (ret := (some .int)) (own := RX0) (by decide) rfl rfl (Nat.le_of_ble_eq_true rfl) ?_
  obtain ⟨hn0, hn1, hn2, hn3, hn4⟩ := id hN
  intro p e s m_ below meth cd F ls hF hsz E0
  obtain ⟨S, hr, hlocks, hK, hW, hA, hl⟩ := E0
  have hX_ := S.1
  have hB_ := S.2.1
  have hts := S.2.2.2.2
  have hl : lv_has ls 4 [(0, .ref (a 9)), (1, .int m)] := hl
  have hiX0 : ∀ w ∈ u_ws RX0 TX0 5, w ∈ wsX0_sumOfLeast := fun _ h => (List.mem_cons_of_mem _ (List.mem_append_left _ (List.mem_append_left _ (List.mem_append_right _ h))))
  have hiX1 : ∀ w ∈ u_ws RX1 TX1 8, w ∈ wsX0_sumOfLeast := fun _ h => (List.mem_cons_of_mem _ (List.mem_append_left _ (List.mem_append_right _ h)))
  have w0 := hts (.fieldLink RX0 28 "Islandgrid$Fleet" "count" "I") (List.mem_cons_of_mem _ (List.mem_append_left _ (List.mem_append_left _ (List.mem_append_left _ (List.mem_of_getElem? (i := 0) rfl)))))
  have w1 := hts (.fieldLink RX0 11 "Islandgrid$Fleet" "all" "[LIslandgrid$Generator;") (List.mem_cons_of_mem _ (List.mem_append_left _ (List.mem_append_left _ (List.mem_append_left _ (List.mem_of_getElem? (i := 1) rfl)))))
  have w2 := hts (.fieldLink RX0 63 "Islandgrid$Generator" "least" "I") (List.mem_cons_of_mem _ (List.mem_append_left _ (List.mem_append_left _ (List.mem_append_left _ (List.mem_of_getElem? (i := 2) rfl)))))
  refine lv_iconst (v := 0) hX_ hB_ dX0_sumOfLeast_0 (by decide) ?_
  refine lv_istore_n (lv' := [(2, .int 0), (0, .ref (a 9)), (1, .int m)]) hX_ hB_ dX0_sumOfLeast_1 rfl hl (by decide) rfl (fun ls hl => ?_)
  refine lv_iconst (v := 0) hX_ hB_ dX0_sumOfLeast_2 (by decide) ?_
  refine lv_istore_n (lv' := [(3, .int 0), (2, .int 0), (0, .ref (a 9)), (1, .int m)]) hX_ hB_ dX0_sumOfLeast_3 rfl hl (by decide) rfl (fun ls hl => ?_)
  have L4 : ∀ (k4 : Nat) (i4 : Nat), (i4 ≤ n 2) → (n 2 - i4) < k4 → ∀ (H : Heap) (locs : List Loc) (ls : Array Slot), ze_W D (ze_wC c a n A B E) F s.heap H locs → lv_has ls 4 [(3, .int (nI i4)), (2, .int (zf_gs A (E 0) m i4)), (0, .ref (a 9)), (1, .int m)] → W p l e { frames := 1, cells := 0, slots := 0, locals := 22 } s m_ ([.ref (a 9), .int m] : List Value).toArray below meth cd H locs 0 0 (MQ below (ze_Qi D c (ze_wC c a n A B E) sz (zf_gs A (E 0) m (n 2)) (ze_wC c a n A B E)) ([.ref (a 9), .int m] : List Value).toArray s 0 0 F) (F0 m_ 4 ls []) := by
    intro k4
    induction k4 with
    | zero =>
      intro i4 h4 hk4
      exact absurd hk4 (Nat.not_lt_zero _)
    | succ k4 ih4 =>
      intro i4 h4 hk4 H locs ls hW hl
      refine lv_iload_n hX_ hB_ dX0_sumOfLeast_4 rfl (lv_at hl 0 rfl) ?_
      refine lv_aload_n hX_ hB_ dX0_sumOfLeast_5 rfl (lv_at hl 2 rfl) ?_
      refine ze_get (ci := 0) (C := RX0) (T := TX0) (N := 5) (v := .int (nI (n 2))) S hiX0 hK hW 9 (ze_at0 9 rfl) rfl 2 (by decide) rfl w0 dX0_sumOfLeast_6 ?_
      refine lv_icmp_ge (tgt := 39) hX_ hB_ dX0_sumOfLeast_9 (by decide) (fun c9 => ?_) (fun c9 => ?_)
      · have c9 : ¬ i4 < (n 2) := Nat.not_lt.mpr ((nI_leI (a := (n 2)) (b := i4) (by omega) (by omega)).mp c9)
        have e4 : i4 = n 2 := by omega
        subst e4
        refine lv_iload_n hX_ hB_ dX0_sumOfLeast_39 rfl (lv_at hl 1 rfl) ?_
        exact ze_iret S hr hlocks hF hK hW rfl dX0_sumOfLeast_40 (Nat.le_of_ble_eq_true rfl) (Nat.le_of_ble_eq_true rfl) rfl rfl
      · have c9 : i4 < (n 2) := Nat.lt_of_not_le (fun h9 => c9 ((nI_leI (a := (n 2)) (b := i4) (by omega) (by omega)).mpr h9))
        refine lv_aload_n hX_ hB_ dX0_sumOfLeast_12 rfl (lv_at hl 2 rfl) ?_
        refine lv_iload_n hX_ hB_ dX0_sumOfLeast_13 rfl (lv_at hl 0 rfl) ?_
        refine lv_iload_n hX_ hB_ dX0_sumOfLeast_14 rfl (lv_at hl 3 rfl) ?_
        refine ze_Vi (As := [.int (nI i4), .int m]) (rest := []) (ci := 0) (q0 := 9) (k := (RX0, TX0, 5)) S (zc_0_runsOn l D c a n A B E i4 m hN hS (by omega)) (cwV 2 hts gX0_sumOfLeast_X0_runsOn rfl rfl rfl (by decide +kernel) ⟨Nat.le_of_ble_eq_true rfl, Nat.le_of_ble_eq_true rfl⟩) hK hW hA rfl (ze_at0 9 rfl) rfl hl.1 rfl (lv_room (Nat.le_of_ble_eq_true rfl)) dX0_sumOfLeast_15 ⟨Nat.le_of_ble_eq_true rfl, Nat.le_of_ble_eq_true rfl⟩ (fun H locs hW => ?_)
        refine lv_if_eq (tgt := 33) hX_ hB_ dX0_sumOfLeast_18 (by decide) (fun c18 => ?_) (fun c18 => ?_)
        · have c18 : ¬ (zf_runs A (E 0) i4 m) := ze_bf c18
          refine lv_iinc (v := nI (i4 + 1)) (lv' := [(3, .int (nI (i4 + 1))), (2, .int (zf_gs A (E 0) m i4)), (0, .ref (a 9)), (1, .int m)]) hX_ hB_ dX0_sumOfLeast_33 hl (k := 0) rfl (ze_inc _) (by decide) rfl (fun ls hl => ?_)
          refine lv_goto (tgt := 4) hX_ hB_ dX0_sumOfLeast_36 (by decide) ?_
          have eL2 : zf_gs A (E 0) m i4 = zf_gs A (E 0) m (i4 + 1) := (by simp only [ze_b, zf_gs, ze_sum, eq_true c9, eq_false c18, not_true_eq_false, not_false_eq_true, and_true, true_and, and_false, false_and, or_true, true_or, or_false, false_or, and_self, or_self, Decidable.not_not, if_true, if_false, reduceIte, reduceCtorEq, ne_eq, eq_self, Int32.lt_irrefl, Int32.le_refl, Nat.lt_irrefl, Int32.add_zero])
          have hl : lv_has ls 4 [(3, .int (nI (i4 + 1))), (2, .int (zf_gs A (E 0) m (i4 + 1))), (0, .ref (a 9)), (1, .int m)] := by
            first | (rw [← eL2]; exact hl) | (simp only [← eL2]; exact hl)
          exact ih4 (i4 + 1) (by omega) (by omega) _ _ ls hW (lv_sub hl [0, 1, 2, 3] rfl)
        · have c18 : zf_runs A (E 0) i4 m := ze_bt c18
          refine lv_iload_n hX_ hB_ dX0_sumOfLeast_21 rfl (lv_at hl 1 rfl) ?_
          refine lv_aload_n hX_ hB_ dX0_sumOfLeast_22 rfl (lv_at hl 2 rfl) ?_
          refine ze_get (ci := 0) (C := RX0) (T := TX0) (N := 5) (v := .ref (a 10)) S hiX0 hK hW 9 (ze_at0 9 rfl) rfl 1 (by decide) rfl w1 dX0_sumOfLeast_23 ?_
          refine lv_iload_n hX_ hB_ dX0_sumOfLeast_26 rfl (lv_at hl 0 rfl) ?_
          refine ze_aldN hX_ hB_ hK hW 10 3 (ze_at0 10 rfl) rfl (i := i4) (by omega) (by omega) (by decide) dX0_sumOfLeast_27 ?_
          refine ze_get (ci := 1) (C := RX1) (T := TX1) (N := 8) (v := .int (A 7 i4)) S hiX1 hK hW (18 + i4) (ze_atG (g := i4) (by omega)) rfl 1 (by decide) rfl w2 dX0_sumOfLeast_28 ?_
          refine lv_iadd hX_ hB_ dX0_sumOfLeast_31 ?_
          refine lv_istore_n (lv' := [(2, .int (zf_gs A (E 0) m i4 + A 7 i4)), (3, .int (nI i4)), (0, .ref (a 9)), (1, .int m)]) hX_ hB_ dX0_sumOfLeast_32 rfl hl (by decide) rfl (fun ls hl => ?_)
          refine lv_iinc (v := nI (i4 + 1)) (lv' := [(3, .int (nI (i4 + 1))), (2, .int (zf_gs A (E 0) m i4 + A 7 i4)), (0, .ref (a 9)), (1, .int m)]) hX_ hB_ dX0_sumOfLeast_33 hl (k := 1) rfl (ze_inc _) (by decide) rfl (fun ls hl => ?_)
          refine lv_goto (tgt := 4) hX_ hB_ dX0_sumOfLeast_36 (by decide) ?_
          have eL2 : zf_gs A (E 0) m i4 + A 7 i4 = zf_gs A (E 0) m (i4 + 1) := (by simp only [ze_b, zf_gs, ze_sum, eq_true c9, eq_true c18, not_true_eq_false, not_false_eq_true, and_true, true_and, and_false, false_and, or_true, true_or, or_false, false_or, and_self, or_self, Decidable.not_not, if_true, if_false, reduceIte, reduceCtorEq, ne_eq, eq_self, Int32.lt_irrefl, Int32.le_refl, Nat.lt_irrefl, Int32.add_zero])
          have hl : lv_has ls 4 [(3, .int (nI (i4 + 1))), (2, .int (zf_gs A (E 0) m (i4 + 1))), (0, .ref (a 9)), (1, .int m)] := by
            first | (rw [← eL2]; exact hl) | (simp only [← eL2]; exact hl)
          exact ih4 (i4 + 1) (by omega) (by omega) _ _ ls hW (lv_sub hl [0, 1, 2, 3] rfl)
  have hl : lv_has ls 4 [(3, .int (nI 0)), (2, .int (zf_gs A (E 0) m 0)), (0, .ref (a 9)), (1, .int m)] := hl
  have hW : ze_W D (ze_wC c a n A B E) F s.heap _ _ := hW
  exact L4 _ 0 (by omega) (Nat.lt_succ_self _) _ _ ls hW (lv_sub hl [0, 1, 2, 3] rfl)
set_option maxHeartbeats 4000000 in
set_option maxRecDepth 100000 in
theorem zc_0_measureSteps (l : Launch) (D : va_G) (c : Nat → ClassId) (a n : Nat → Nat) (A : Nat → Nat → Int32) (B : Nat → Int64) (E : Nat → Nat → Int32) (m : Int32) (hN : zf_N n) (hS : zf_S n A) : ze_V l yX0_measureSteps wsX0_measureSteps 3 53 0 0 D c (ze_wC c a n A B E) [.ref (a 9), .int m] (ze_wC c a n A B (ze_sA E 3 (ze_up (zf_stp A (E 0) m) (E 3) (n 2)))) := by
  intro sz
  refine ze_start (cc := cX0_measureSteps) (maxL := 3) (ret := none) (own := RX0) (by decide) rfl rfl (Nat.le_of_ble_eq_true rfl) ?_
  obtain ⟨hn0, hn1, hn2, hn3, hn4⟩ := id hN
  intro p e s m_ below meth cd F ls hF hsz E0
  obtain ⟨S, hr, hlocks, hK, hW, hA, hl⟩ := E0
  have hX_ := S.1
  have hB_ := S.2.1
  have hts := S.2.2.2.2
  have hl : lv_has ls 3 [(0, .ref (a 9)), (1, .int m)] := hl
  have hiX0 : ∀ w ∈ u_ws RX0 TX0 5, w ∈ wsX0_measureSteps := fun _ h => (List.mem_cons_of_mem _ (List.mem_append_left _ (List.mem_append_left _ (List.mem_append_right _ h))))
  have w0 := hts (.fieldLink RX0 28 "Islandgrid$Fleet" "count" "I") (List.mem_cons_of_mem _ (List.mem_append_left _ (List.mem_append_left _ (List.mem_append_left _ (List.mem_append_left _ (List.mem_of_getElem? (i := 0) rfl))))))
  have w1 := hts (.fieldLink RX0 17 "Islandgrid$Fleet" "steps" "[I") (List.mem_cons_of_mem _ (List.mem_append_left _ (List.mem_append_left _ (List.mem_append_left _ (List.mem_append_left _ (List.mem_of_getElem? (i := 1) rfl))))))
  have w2 := hts (.fieldLink RX0 11 "Islandgrid$Fleet" "all" "[LIslandgrid$Generator;") (List.mem_cons_of_mem _ (List.mem_append_left _ (List.mem_append_left _ (List.mem_append_left _ (List.mem_append_left _ (List.mem_of_getElem? (i := 2) rfl))))))
  refine lv_iconst (v := 0) hX_ hB_ dX0_measureSteps_0 (by decide) ?_
  refine lv_istore_n (lv' := [(2, .int 0), (0, .ref (a 9)), (1, .int m)]) hX_ hB_ dX0_measureSteps_1 rfl hl (by decide) rfl (fun ls hl => ?_)
  have L2 : ∀ (k2 : Nat) (i2 : Nat), (i2 ≤ n 2) → (n 2 - i2) < k2 → ∀ (H : Heap) (locs : List Loc) (ls : Array Slot), ze_W D (ze_wC c a n A B (ze_sA E 3 (ze_up (zf_stp A (E 0) m) (E 3) i2))) F s.heap H locs → lv_has ls 3 [(2, .int (nI i2)), (0, .ref (a 9)), (1, .int m)] → W p l e { frames := 3, cells := 0, slots := 0, locals := 53 } s m_ ([.ref (a 9), .int m] : List Value).toArray below meth cd H locs 0 0 (MQ below (ze_Qv D c (ze_wC c a n A B E) sz (ze_wC c a n A B (ze_sA E 3 (ze_up (zf_stp A (E 0) m) (E 3) (n 2))))) ([.ref (a 9), .int m] : List Value).toArray s 0 0 F) (F0 m_ 2 ls []) := by
    intro k2
    induction k2 with
    | zero =>
      intro i2 h2 hk2
      exact absurd hk2 (Nat.not_lt_zero _)
    | succ k2 ih2 =>
      intro i2 h2 hk2 H locs ls hW hl
      refine lv_iload_n hX_ hB_ dX0_measureSteps_2 rfl (lv_at hl 0 rfl) ?_
      refine lv_aload_n hX_ hB_ dX0_measureSteps_3 rfl (lv_at hl 1 rfl) ?_
      refine ze_get (ci := 0) (C := RX0) (T := TX0) (N := 5) (v := .int (nI (n 2))) S hiX0 hK hW 9 (ze_at0 9 rfl) rfl 2 (by decide) rfl w0 dX0_measureSteps_4 ?_
      refine lv_icmp_ge (tgt := 44) hX_ hB_ dX0_measureSteps_7 (by decide) (fun c7 => ?_) (fun c7 => ?_)
      · have c7 : ¬ i2 < (n 2) := Nat.not_lt.mpr ((nI_leI (a := (n 2)) (b := i2) (by omega) (by omega)).mp c7)
        have e2 : i2 = n 2 := by omega
        subst e2
        exact ze_vret S hr hlocks hF hK hW dX0_measureSteps_44 (Nat.le_of_ble_eq_true rfl) (Nat.le_of_ble_eq_true rfl) rfl
      · have c7 : i2 < (n 2) := Nat.lt_of_not_le (fun h9 => c7 ((nI_leI (a := (n 2)) (b := i2) (by omega) (by omega)).mpr h9))
        refine lv_aload_n hX_ hB_ dX0_measureSteps_10 rfl (lv_at hl 1 rfl) ?_
        refine ze_get (ci := 0) (C := RX0) (T := TX0) (N := 5) (v := .ref (a 11)) S hiX0 hK hW 9 (ze_at0 9 rfl) rfl 3 (by decide) rfl w1 dX0_measureSteps_11 ?_
        refine lv_iload_n hX_ hB_ dX0_measureSteps_14 rfl (lv_at hl 0 rfl) ?_
        refine lv_aload_n hX_ hB_ dX0_measureSteps_15 rfl (lv_at hl 1 rfl) ?_
        refine lv_iload_n hX_ hB_ dX0_measureSteps_16 rfl (lv_at hl 0 rfl) ?_
        refine lv_iload_n hX_ hB_ dX0_measureSteps_17 rfl (lv_at hl 2 rfl) ?_
        refine ze_Vi (As := [.int (nI i2), .int m]) (rest := [.int (nI i2), .ref (a 11)]) (ci := 0) (q0 := 9) (k := (RX0, TX0, 5)) S (zc_0_runsOn l D c a n A B (ze_sA E 3 (ze_up (zf_stp A (E 0) m) (E 3) i2)) i2 m hN hS (by omega)) (cwV 2 hts gX0_measureSteps_X0_runsOn rfl rfl rfl (by decide +kernel) ⟨Nat.le_of_ble_eq_true rfl, Nat.le_of_ble_eq_true rfl⟩) hK hW hA rfl (ze_at0 9 rfl) rfl hl.1 rfl (lv_room (Nat.le_of_ble_eq_true rfl)) dX0_measureSteps_18 ⟨Nat.le_of_ble_eq_true rfl, Nat.le_of_ble_eq_true rfl⟩ (fun H locs hW => ?_)
        refine lv_if_eq (tgt := 36) hX_ hB_ dX0_measureSteps_21 (by decide) (fun c21 => ?_) (fun c21 => ?_)
        · have c21 : ¬ (zf_runs A (E 0) i2 m) := ze_bf c21
          refine lv_iconst (v := 0) hX_ hB_ dX0_measureSteps_36 (by decide) ?_
          refine ze_iastN hX_ hB_ hK hW 11 (f := (ze_up (zf_stp A (E 0) m) (E 3) i2)) (ze_at0 11 rfl) (i := i2) (by omega) (by decide) dX0_measureSteps_37 (ze_qC11 i2 0 _ _ _ _ _ _) (fun H locs hW => ?_)
          have hW : ze_W D (ze_wC c a n A B (ze_sE (ze_sA E 3 (ze_up (zf_stp A (E 0) m) (E 3) i2)) 3 i2 0)) F s.heap _ _ := hW
          refine lv_iinc (v := nI (i2 + 1)) (lv' := [(2, .int (nI (i2 + 1))), (0, .ref (a 9)), (1, .int m)]) hX_ hB_ dX0_measureSteps_38 hl (k := 0) rfl (ze_inc _) (by decide) rfl (fun ls hl => ?_)
          refine lv_goto (tgt := 2) hX_ hB_ dX0_measureSteps_41 (by decide) ?_
          have eW : (ze_wC c a n A B (ze_sE (ze_sA E 3 (ze_up (zf_stp A (E 0) m) (E 3) i2)) 3 i2 0)) = (ze_wC c a n A B (ze_sA E 3 (ze_up (zf_stp A (E 0) m) (E 3) (i2 + 1)))) := (by rw [ze_e1, ze_up_s (by simp only [ze_b, zf_stp, eq_true c7, eq_false c21, not_true_eq_false, not_false_eq_true, and_true, true_and, and_false, false_and, or_true, true_or, or_false, false_or, and_self, or_self, Decidable.not_not, if_true, if_false, reduceIte, reduceCtorEq, ne_eq, eq_self, Int32.lt_irrefl, Int32.le_refl, Nat.lt_irrefl])])
          rw [eW] at hW
          exact ih2 (i2 + 1) (by omega) (by omega) _ _ ls hW (lv_sub hl [0, 1, 2] rfl)
        · have c21 : zf_runs A (E 0) i2 m := ze_bt c21
          refine lv_aload_n hX_ hB_ dX0_measureSteps_24 rfl (lv_at hl 1 rfl) ?_
          refine ze_get (ci := 0) (C := RX0) (T := TX0) (N := 5) (v := .ref (a 10)) S hiX0 hK hW 9 (ze_at0 9 rfl) rfl 1 (by decide) rfl w2 dX0_measureSteps_25 ?_
          refine lv_iload_n hX_ hB_ dX0_measureSteps_28 rfl (lv_at hl 0 rfl) ?_
          refine ze_aldN hX_ hB_ hK hW 10 3 (ze_at0 10 rfl) rfl (i := i2) (by omega) (by omega) (by decide) dX0_measureSteps_29 ?_
          refine ze_Vi (As := []) (rest := [.int (nI i2), .ref (a 11)]) (ci := 1) (q0 := (18 + i2)) (k := (RX1, TX1, 8)) S (zc_1_steps l D c a n A B (ze_sA E 3 (ze_up (zf_stp A (E 0) m) (E 3) i2)) i2 hN (by omega)) (cwV 0 hts gX0_measureSteps_X1_steps rfl rfl rfl (by decide +kernel) ⟨Nat.le_of_ble_eq_true rfl, Nat.le_of_ble_eq_true rfl⟩) hK hW hA rfl (ze_atG (g := i2) (by omega)) rfl hl.1 rfl (lv_room (Nat.le_of_ble_eq_true rfl)) dX0_measureSteps_30 ⟨Nat.le_of_ble_eq_true rfl, Nat.le_of_ble_eq_true rfl⟩ (fun H locs hW => ?_)
          refine lv_goto (tgt := 37) hX_ hB_ dX0_measureSteps_33 (by decide) ?_
          refine ze_iastN hX_ hB_ hK hW 11 (f := (ze_up (zf_stp A (E 0) m) (E 3) i2)) (ze_at0 11 rfl) (i := i2) (by omega) (by decide) dX0_measureSteps_37 (ze_qC11 i2 (zf_steps A i2) _ _ _ _ _ _) (fun H locs hW => ?_)
          have hW : ze_W D (ze_wC c a n A B (ze_sE (ze_sA E 3 (ze_up (zf_stp A (E 0) m) (E 3) i2)) 3 i2 (zf_steps A i2))) F s.heap _ _ := hW
          refine lv_iinc (v := nI (i2 + 1)) (lv' := [(2, .int (nI (i2 + 1))), (0, .ref (a 9)), (1, .int m)]) hX_ hB_ dX0_measureSteps_38 hl (k := 0) rfl (ze_inc _) (by decide) rfl (fun ls hl => ?_)
          refine lv_goto (tgt := 2) hX_ hB_ dX0_measureSteps_41 (by decide) ?_
          have eW : (ze_wC c a n A B (ze_sE (ze_sA E 3 (ze_up (zf_stp A (E 0) m) (E 3) i2)) 3 i2 (zf_steps A i2))) = (ze_wC c a n A B (ze_sA E 3 (ze_up (zf_stp A (E 0) m) (E 3) (i2 + 1)))) := (by rw [ze_e1, ze_up_s (by simp only [ze_b, zf_stp, eq_true c7, eq_true c21, not_true_eq_false, not_false_eq_true, and_true, true_and, and_false, false_and, or_true, true_or, or_false, false_or, and_self, or_self, Decidable.not_not, if_true, if_false, reduceIte, reduceCtorEq, ne_eq, eq_self, Int32.lt_irrefl, Int32.le_refl, Nat.lt_irrefl])])
          rw [eW] at hW
          exact ih2 (i2 + 1) (by omega) (by omega) _ _ ls hW (lv_sub hl [0, 1, 2] rfl)
  have hl : lv_has ls 3 [(2, .int (nI 0)), (0, .ref (a 9)), (1, .int m)] := hl
  have hW : ze_W D (ze_wC c a n A B (ze_sA E 3 (ze_up (zf_stp A (E 0) m) (E 3) 0))) F s.heap _ _ := (by rw [ze_up_0, ze_sAid]; exact hW)
  exact L2 _ 0 (by omega) (Nat.lt_succ_self _) _ _ ls hW (lv_sub hl [0, 1, 2] rfl)
set_option maxHeartbeats 4000000 in
set_option maxRecDepth 100000 in
theorem zc_0_stepsAhead (l : Launch) (D : va_G) (c : Nat → ClassId) (a n : Nat → Nat) (A : Nat → Nat → Int32) (B : Nat → Int64) (E : Nat → Nat → Int32) (g : Nat) (x : Int32) (hN : zf_N n) (hg : g < n 2) : ze_I l yX0_stepsAhead wsX0_stepsAhead 1 14 0 0 D c (ze_wC c a n A B E) [.ref (a 9), .int (nI g), .int x] (zf_sa (E 3) (n 2) g x) (ze_wC c a n A B E) := by
  intro sz
  refine ze_start (cc := cX0_stepsAhead) (maxL := 8) (ret := (some .int)) (own := RX0) (by decide) rfl rfl (Nat.le_of_ble_eq_true rfl) ?_
  obtain ⟨hn0, hn1, hn2, hn3, hn4⟩ := id hN
  intro p e s m_ below meth cd F ls hF hsz E0
  obtain ⟨S, hr, hlocks, hK, hW, hA, hl⟩ := E0
  have hX_ := S.1
  have hB_ := S.2.1
  have hts := S.2.2.2.2
  have hl : lv_has ls 8 [(0, .ref (a 9)), (1, .int (nI g)), (2, .int x)] := hl
  have hiX0 : ∀ w ∈ u_ws RX0 TX0 5, w ∈ wsX0_stepsAhead := fun _ h => (List.mem_cons_of_mem _ (List.mem_append_right _ h))
  have w0 := hts (.fieldLink RX0 17 "Islandgrid$Fleet" "steps" "[I") (List.mem_cons_of_mem _ (List.mem_append_left _ (List.mem_of_getElem? (i := 0) rfl)))
  have w1 := hts (.fieldLink RX0 28 "Islandgrid$Fleet" "count" "I") (List.mem_cons_of_mem _ (List.mem_append_left _ (List.mem_of_getElem? (i := 1) rfl)))
  have w2 := hts (.methodLink RX0 83 Lib.Math.min.name) (List.mem_cons_of_mem _ (List.mem_append_left _ (List.mem_of_getElem? (i := 2) rfl)))
  have w3 := hts (.static Lib.Math.min.name) (List.mem_cons_of_mem _ (List.mem_append_left _ (List.mem_of_getElem? (i := 3) rfl)))
  have w4 := hts (.initialized "java/lang/Math") (List.mem_cons_of_mem _ (List.mem_append_left _ (List.mem_of_getElem? (i := 4) rfl)))
  have w5 := hts (.code Lib.Math.min.name Lib.Math.min.code 2 (some .int)) (List.mem_cons_of_mem _ (List.mem_append_left _ (List.mem_of_getElem? (i := 5) rfl)))
  refine lv_aload_n hX_ hB_ dX0_stepsAhead_0 rfl (lv_at hl 0 rfl) ?_
  refine ze_get (ci := 0) (C := RX0) (T := TX0) (N := 5) (v := .ref (a 11)) S hiX0 hK hW 9 (ze_at0 9 rfl) rfl 3 (by decide) rfl w0 dX0_stepsAhead_1 ?_
  refine lv_iload_n hX_ hB_ dX0_stepsAhead_4 rfl (lv_at hl 1 rfl) ?_
  refine ze_ialdN hX_ hB_ hK hW 11 (f := E 3) (ze_at0 11 rfl) (i := g) (by omega) (by decide) dX0_stepsAhead_5 ?_
  refine lv_istore_n (lv' := [(3, .int (E 3 g)), (0, .ref (a 9)), (1, .int (nI g)), (2, .int x)]) hX_ hB_ dX0_stepsAhead_6 rfl hl (by decide) rfl (fun ls hl => ?_)
  refine lv_iload_n hX_ hB_ dX0_stepsAhead_7 rfl (lv_at hl 0 rfl) ?_
  refine lv_if_gt (tgt := 13) hX_ hB_ dX0_stepsAhead_8 (by decide) (fun c8 => ?_) (fun c8 => ?_)
  · refine lv_iconst (v := 0) hX_ hB_ dX0_stepsAhead_13 (by decide) ?_
    refine lv_istore (lv' := [(4, .int 0), (3, .int (E 3 g)), (0, .ref (a 9)), (1, .int (nI g)), (2, .int x)]) hX_ hB_ dX0_stepsAhead_14 hl (by decide) rfl (fun ls hl => ?_)
    refine lv_iconst (v := 0) hX_ hB_ dX0_stepsAhead_16 (by decide) ?_
    refine lv_istore (lv' := [(5, .int 0), (4, .int 0), (3, .int (E 3 g)), (0, .ref (a 9)), (1, .int (nI g)), (2, .int x)]) hX_ hB_ dX0_stepsAhead_17 hl (by decide) rfl (fun ls hl => ?_)
    have L19 : ∀ (k19 : Nat) (i19 : Nat), (i19 ≤ n 2) → (n 2 - i19) < k19 → ∀ (H : Heap) (locs : List Loc) (ls : Array Slot), ze_W D (ze_wC c a n A B E) F s.heap H locs → lv_has ls 8 [(5, .int (nI i19)), (4, .int (ze_sum 0 (fun o => ze_mn (E 3 o) (if o < g then x * E 3 o / E 3 g + 1 else (x * E 3 o + E 3 g - 1) / E 3 g)) i19)), (3, .int (E 3 g)), (0, .ref (a 9)), (1, .int (nI g)), (2, .int x)] → W p l e { frames := 1, cells := 0, slots := 0, locals := 14 } s m_ ([.ref (a 9), .int (nI g), .int x] : List Value).toArray below meth cd H locs 0 0 (MQ below (ze_Qi D c (ze_wC c a n A B E) sz (zf_sa (E 3) (n 2) g x) (ze_wC c a n A B E)) ([.ref (a 9), .int (nI g), .int x] : List Value).toArray s 0 0 F) (F0 m_ 19 ls []) := by
      intro k19
      induction k19 with
      | zero =>
        intro i19 h19 hk19
        exact absurd hk19 (Nat.not_lt_zero _)
      | succ k19 ih19 =>
        intro i19 h19 hk19 H locs ls hW hl
        refine lv_iload hX_ hB_ dX0_stepsAhead_19 (lv_at hl 0 rfl) ?_
        refine lv_aload_n hX_ hB_ dX0_stepsAhead_21 rfl (lv_at hl 3 rfl) ?_
        refine ze_get (ci := 0) (C := RX0) (T := TX0) (N := 5) (v := .int (nI (n 2))) S hiX0 hK hW 9 (ze_at0 9 rfl) rfl 2 (by decide) rfl w1 dX0_stepsAhead_22 ?_
        refine lv_icmp_ge (tgt := 87) hX_ hB_ dX0_stepsAhead_25 (by decide) (fun c25 => ?_) (fun c25 => ?_)
        · have c25 : ¬ i19 < (n 2) := Nat.not_lt.mpr ((nI_leI (a := (n 2)) (b := i19) (by omega) (by omega)).mp c25)
          have e19 : i19 = n 2 := by omega
          subst e19
          refine lv_iload hX_ hB_ dX0_stepsAhead_87 (lv_at hl 1 rfl) ?_
          exact ze_iret S hr hlocks hF hK hW rfl dX0_stepsAhead_89 (Nat.le_of_ble_eq_true rfl) (Nat.le_of_ble_eq_true rfl) (by simp only [ze_b, zf_sa, eq_true c8, eq_false c25, not_true_eq_false, not_false_eq_true, and_true, true_and, and_false, false_and, or_true, true_or, or_false, false_or, and_self, or_self, Decidable.not_not, if_true, if_false, reduceIte, reduceCtorEq, ne_eq, eq_self, Int32.lt_irrefl, Int32.le_refl, Nat.lt_irrefl]) rfl
        · have c25 : i19 < (n 2) := Nat.lt_of_not_le (fun h9 => c25 ((nI_leI (a := (n 2)) (b := i19) (by omega) (by omega)).mpr h9))
          refine lv_iload_n hX_ hB_ dX0_stepsAhead_28 rfl (lv_at hl 5 rfl) ?_
          refine lv_aload_n hX_ hB_ dX0_stepsAhead_29 rfl (lv_at hl 3 rfl) ?_
          refine ze_get (ci := 0) (C := RX0) (T := TX0) (N := 5) (v := .ref (a 11)) S hiX0 hK hW 9 (ze_at0 9 rfl) rfl 3 (by decide) rfl w0 dX0_stepsAhead_30 ?_
          refine lv_iload hX_ hB_ dX0_stepsAhead_33 (lv_at hl 0 rfl) ?_
          refine ze_ialdN hX_ hB_ hK hW 11 (f := E 3) (ze_at0 11 rfl) (i := i19) (by omega) (by decide) dX0_stepsAhead_35 ?_
          refine lv_imul hX_ hB_ dX0_stepsAhead_36 ?_
          refine lv_istore (lv' := [(6, .int (x * E 3 i19)), (5, .int (nI i19)), (4, .int (ze_sum 0 (fun o => ze_mn (E 3 o) (if o < g then x * E 3 o / E 3 g + 1 else (x * E 3 o + E 3 g - 1) / E 3 g)) i19)), (3, .int (E 3 g)), (0, .ref (a 9)), (1, .int (nI g)), (2, .int x)]) hX_ hB_ dX0_stepsAhead_37 hl (by decide) rfl (fun ls hl => ?_)
          refine lv_iload hX_ hB_ dX0_stepsAhead_39 (lv_at hl 1 rfl) ?_
          refine lv_iload_n hX_ hB_ dX0_stepsAhead_41 rfl (lv_at hl 5 rfl) ?_
          refine lv_icmp_ge (tgt := 54) hX_ hB_ dX0_stepsAhead_42 (by decide) (fun c42 => ?_) (fun c42 => ?_)
          · have c42 : ¬ i19 < g := Nat.not_lt.mpr ((nI_leI (a := g) (b := i19) (by omega) (by omega)).mp c42)
            refine lv_iload hX_ hB_ dX0_stepsAhead_54 (lv_at hl 0 rfl) ?_
            refine lv_iload_n hX_ hB_ dX0_stepsAhead_56 rfl (lv_at hl 3 rfl) ?_
            refine lv_iadd hX_ hB_ dX0_stepsAhead_57 ?_
            refine lv_iconst (v := 1) hX_ hB_ dX0_stepsAhead_58 (by decide) ?_
            refine lv_isub hX_ hB_ dX0_stepsAhead_59 ?_
            refine lv_iload_n hX_ hB_ dX0_stepsAhead_60 rfl (lv_at hl 3 rfl) ?_
            refine lv_idiv hX_ hB_ dX0_stepsAhead_61 (fun h9 => absurd c8 (by rw [h9]; decide)) ?_
            refine lv_istore (lv' := [(7, .int ((((x * E 3 i19) + E 3 g) - 1) / (E 3 g))), (6, .int (x * E 3 i19)), (5, .int (nI i19)), (4, .int (ze_sum 0 (fun o => ze_mn (E 3 o) (if o < g then x * E 3 o / E 3 g + 1 else (x * E 3 o + E 3 g - 1) / E 3 g)) i19)), (3, .int (E 3 g)), (0, .ref (a 9)), (1, .int (nI g)), (2, .int x)]) hX_ hB_ dX0_stepsAhead_62 hl (by decide) rfl (fun ls hl => ?_)
            refine lv_iload hX_ hB_ dX0_stepsAhead_64 (lv_at hl 3 rfl) ?_
            refine lv_aload_n hX_ hB_ dX0_stepsAhead_66 rfl (lv_at hl 5 rfl) ?_
            refine ze_get (ci := 0) (C := RX0) (T := TX0) (N := 5) (v := .ref (a 11)) S hiX0 hK hW 9 (ze_at0 9 rfl) rfl 3 (by decide) rfl w0 dX0_stepsAhead_67 ?_
            refine lv_iload hX_ hB_ dX0_stepsAhead_70 (lv_at hl 2 rfl) ?_
            refine ze_ialdN hX_ hB_ hK hW 11 (f := E 3) (ze_at0 11 rfl) (i := i19) (by omega) (by decide) dX0_stepsAhead_72 ?_
            refine lv_iload hX_ hB_ dX0_stepsAhead_73 (lv_at hl 0 rfl) ?_
            refine ze_min S hl.1 w2 w3 w4 w5 ⟨Nat.le_of_ble_eq_true rfl, Nat.le_of_ble_eq_true rfl, Nat.le_of_ble_eq_true rfl, Nat.le_of_ble_eq_true rfl⟩ dX0_stepsAhead_75 ?_
            refine lv_iadd hX_ hB_ dX0_stepsAhead_78 ?_
            refine lv_istore (lv' := [(4, .int (ze_sum 0 (fun o => ze_mn (E 3 o) (if o < g then x * E 3 o / E 3 g + 1 else (x * E 3 o + E 3 g - 1) / E 3 g)) i19 + ze_mn (E 3 i19) ((((x * E 3 i19) + E 3 g) - 1) / (E 3 g)))), (7, .int ((((x * E 3 i19) + E 3 g) - 1) / (E 3 g))), (6, .int (x * E 3 i19)), (5, .int (nI i19)), (3, .int (E 3 g)), (0, .ref (a 9)), (1, .int (nI g)), (2, .int x)]) hX_ hB_ dX0_stepsAhead_79 hl (by decide) rfl (fun ls hl => ?_)
            refine lv_iinc (v := nI (i19 + 1)) (lv' := [(5, .int (nI (i19 + 1))), (4, .int (ze_sum 0 (fun o => ze_mn (E 3 o) (if o < g then x * E 3 o / E 3 g + 1 else (x * E 3 o + E 3 g - 1) / E 3 g)) i19 + ze_mn (E 3 i19) ((((x * E 3 i19) + E 3 g) - 1) / (E 3 g)))), (7, .int ((((x * E 3 i19) + E 3 g) - 1) / (E 3 g))), (6, .int (x * E 3 i19)), (3, .int (E 3 g)), (0, .ref (a 9)), (1, .int (nI g)), (2, .int x)]) hX_ hB_ dX0_stepsAhead_81 hl (k := 3) rfl (ze_inc _) (by decide) rfl (fun ls hl => ?_)
            refine lv_goto (tgt := 19) hX_ hB_ dX0_stepsAhead_84 (by decide) ?_
            have eL4 : ze_sum 0 (fun o => ze_mn (E 3 o) (if o < g then x * E 3 o / E 3 g + 1 else (x * E 3 o + E 3 g - 1) / E 3 g)) i19 + ze_mn (E 3 i19) ((((x * E 3 i19) + E 3 g) - 1) / (E 3 g)) = ze_sum 0 (fun o => ze_mn (E 3 o) (if o < g then x * E 3 o / E 3 g + 1 else (x * E 3 o + E 3 g - 1) / E 3 g)) (i19 + 1) := (by simp only [ze_b, ze_sum, ze_sum, eq_true c8, eq_true c25, eq_false c42, not_true_eq_false, not_false_eq_true, and_true, true_and, and_false, false_and, or_true, true_or, or_false, false_or, and_self, or_self, Decidable.not_not, if_true, if_false, reduceIte, reduceCtorEq, ne_eq, eq_self, Int32.lt_irrefl, Int32.le_refl, Nat.lt_irrefl, Int32.add_zero])
            have hl : lv_has ls 8 [(5, .int (nI (i19 + 1))), (4, .int (ze_sum 0 (fun o => ze_mn (E 3 o) (if o < g then x * E 3 o / E 3 g + 1 else (x * E 3 o + E 3 g - 1) / E 3 g)) (i19 + 1))), (7, .int ((((x * E 3 i19) + E 3 g) - 1) / (E 3 g))), (6, .int (x * E 3 i19)), (3, .int (E 3 g)), (0, .ref (a 9)), (1, .int (nI g)), (2, .int x)] := by
              first | (rw [← eL4]; exact hl) | (simp only [← eL4]; exact hl)
            exact ih19 (i19 + 1) (by omega) (by omega) _ _ ls hW (lv_sub hl [0, 1, 4, 5, 6, 7] rfl)
          · have c42 : i19 < g := Nat.lt_of_not_le (fun h9 => c42 ((nI_leI (a := g) (b := i19) (by omega) (by omega)).mpr h9))
            refine lv_iload hX_ hB_ dX0_stepsAhead_45 (lv_at hl 0 rfl) ?_
            refine lv_iload_n hX_ hB_ dX0_stepsAhead_47 rfl (lv_at hl 3 rfl) ?_
            refine lv_idiv hX_ hB_ dX0_stepsAhead_48 (fun h9 => absurd c8 (by rw [h9]; decide)) ?_
            refine lv_iconst (v := 1) hX_ hB_ dX0_stepsAhead_49 (by decide) ?_
            refine lv_iadd hX_ hB_ dX0_stepsAhead_50 ?_
            refine lv_goto (tgt := 62) hX_ hB_ dX0_stepsAhead_51 (by decide) ?_
            refine lv_istore (lv' := [(7, .int (((x * E 3 i19) / (E 3 g)) + 1)), (6, .int (x * E 3 i19)), (5, .int (nI i19)), (4, .int (ze_sum 0 (fun o => ze_mn (E 3 o) (if o < g then x * E 3 o / E 3 g + 1 else (x * E 3 o + E 3 g - 1) / E 3 g)) i19)), (3, .int (E 3 g)), (0, .ref (a 9)), (1, .int (nI g)), (2, .int x)]) hX_ hB_ dX0_stepsAhead_62 hl (by decide) rfl (fun ls hl => ?_)
            refine lv_iload hX_ hB_ dX0_stepsAhead_64 (lv_at hl 3 rfl) ?_
            refine lv_aload_n hX_ hB_ dX0_stepsAhead_66 rfl (lv_at hl 5 rfl) ?_
            refine ze_get (ci := 0) (C := RX0) (T := TX0) (N := 5) (v := .ref (a 11)) S hiX0 hK hW 9 (ze_at0 9 rfl) rfl 3 (by decide) rfl w0 dX0_stepsAhead_67 ?_
            refine lv_iload hX_ hB_ dX0_stepsAhead_70 (lv_at hl 2 rfl) ?_
            refine ze_ialdN hX_ hB_ hK hW 11 (f := E 3) (ze_at0 11 rfl) (i := i19) (by omega) (by decide) dX0_stepsAhead_72 ?_
            refine lv_iload hX_ hB_ dX0_stepsAhead_73 (lv_at hl 0 rfl) ?_
            refine ze_min S hl.1 w2 w3 w4 w5 ⟨Nat.le_of_ble_eq_true rfl, Nat.le_of_ble_eq_true rfl, Nat.le_of_ble_eq_true rfl, Nat.le_of_ble_eq_true rfl⟩ dX0_stepsAhead_75 ?_
            refine lv_iadd hX_ hB_ dX0_stepsAhead_78 ?_
            refine lv_istore (lv' := [(4, .int (ze_sum 0 (fun o => ze_mn (E 3 o) (if o < g then x * E 3 o / E 3 g + 1 else (x * E 3 o + E 3 g - 1) / E 3 g)) i19 + ze_mn (E 3 i19) (((x * E 3 i19) / (E 3 g)) + 1))), (7, .int (((x * E 3 i19) / (E 3 g)) + 1)), (6, .int (x * E 3 i19)), (5, .int (nI i19)), (3, .int (E 3 g)), (0, .ref (a 9)), (1, .int (nI g)), (2, .int x)]) hX_ hB_ dX0_stepsAhead_79 hl (by decide) rfl (fun ls hl => ?_)
            refine lv_iinc (v := nI (i19 + 1)) (lv' := [(5, .int (nI (i19 + 1))), (4, .int (ze_sum 0 (fun o => ze_mn (E 3 o) (if o < g then x * E 3 o / E 3 g + 1 else (x * E 3 o + E 3 g - 1) / E 3 g)) i19 + ze_mn (E 3 i19) (((x * E 3 i19) / (E 3 g)) + 1))), (7, .int (((x * E 3 i19) / (E 3 g)) + 1)), (6, .int (x * E 3 i19)), (3, .int (E 3 g)), (0, .ref (a 9)), (1, .int (nI g)), (2, .int x)]) hX_ hB_ dX0_stepsAhead_81 hl (k := 3) rfl (ze_inc _) (by decide) rfl (fun ls hl => ?_)
            refine lv_goto (tgt := 19) hX_ hB_ dX0_stepsAhead_84 (by decide) ?_
            have eL4 : ze_sum 0 (fun o => ze_mn (E 3 o) (if o < g then x * E 3 o / E 3 g + 1 else (x * E 3 o + E 3 g - 1) / E 3 g)) i19 + ze_mn (E 3 i19) (((x * E 3 i19) / (E 3 g)) + 1) = ze_sum 0 (fun o => ze_mn (E 3 o) (if o < g then x * E 3 o / E 3 g + 1 else (x * E 3 o + E 3 g - 1) / E 3 g)) (i19 + 1) := (by simp only [ze_b, ze_sum, ze_sum, eq_true c8, eq_true c25, eq_true c42, not_true_eq_false, not_false_eq_true, and_true, true_and, and_false, false_and, or_true, true_or, or_false, false_or, and_self, or_self, Decidable.not_not, if_true, if_false, reduceIte, reduceCtorEq, ne_eq, eq_self, Int32.lt_irrefl, Int32.le_refl, Nat.lt_irrefl, Int32.add_zero])
            have hl : lv_has ls 8 [(5, .int (nI (i19 + 1))), (4, .int (ze_sum 0 (fun o => ze_mn (E 3 o) (if o < g then x * E 3 o / E 3 g + 1 else (x * E 3 o + E 3 g - 1) / E 3 g)) (i19 + 1))), (7, .int (((x * E 3 i19) / (E 3 g)) + 1)), (6, .int (x * E 3 i19)), (3, .int (E 3 g)), (0, .ref (a 9)), (1, .int (nI g)), (2, .int x)] := by
              first | (rw [← eL4]; exact hl) | (simp only [← eL4]; exact hl)
            exact ih19 (i19 + 1) (by omega) (by omega) _ _ ls hW (lv_sub hl [0, 1, 4, 5, 6, 7] rfl)
    have hl : lv_has ls 8 [(5, .int (nI 0)), (4, .int (ze_sum 0 (fun o => ze_mn (E 3 o) (if o < g then x * E 3 o / E 3 g + 1 else (x * E 3 o + E 3 g - 1) / E 3 g)) 0)), (3, .int (E 3 g)), (0, .ref (a 9)), (1, .int (nI g)), (2, .int x)] := hl
    have hW : ze_W D (ze_wC c a n A B E) F s.heap _ _ := hW
    exact L19 _ 0 (by omega) (Nat.lt_succ_self _) _ _ ls hW (lv_sub hl [0, 1, 2, 3, 4, 5] rfl)
  · refine lv_iconst (v := 0) hX_ hB_ dX0_stepsAhead_11 (by decide) ?_
    exact ze_iret S hr hlocks hF hK hW rfl dX0_stepsAhead_12 (Nat.le_of_ble_eq_true rfl) (Nat.le_of_ble_eq_true rfl) (by simp only [ze_b, zf_sa, eq_false c8, not_true_eq_false, not_false_eq_true, and_true, true_and, and_false, false_and, or_true, true_or, or_false, false_or, and_self, or_self, Decidable.not_not, if_true, if_false, reduceIte, reduceCtorEq, ne_eq, eq_self, Int32.lt_irrefl, Int32.le_refl, Nat.lt_irrefl]) rfl
set_option maxHeartbeats 4000000 in
set_option maxRecDepth 100000 in
theorem zc_0_stepsWithin (l : Launch) (D : va_G) (c : Nat → ClassId) (a n : Nat → Nat) (A : Nat → Nat → Int32) (B : Nat → Int64) (E : Nat → Nat → Int32) (g : Nat) (x : Int32) (hN : zf_N n) (hg : g < n 2) : ze_I l yX0_stepsWithin wsX0_stepsWithin 2 41 0 0 D c (ze_wC c a n A B E) [.ref (a 9), .int (nI g), .int x] (zf_swr (E 3) (n 2) g x) (ze_wC c a n A B E) := by
  intro sz
  refine ze_start (cc := cX0_stepsWithin) (maxL := 6) (ret := (some .int)) (own := RX0) (by decide) rfl rfl (Nat.le_of_ble_eq_true rfl) ?_
  obtain ⟨hn0, hn1, hn2, hn3, hn4⟩ := id hN
  intro p e s m_ below meth cd F ls hF hsz E0
  obtain ⟨S, hr, hlocks, hK, hW, hA, hl⟩ := E0
  have hX_ := S.1
  have hB_ := S.2.1
  have hts := S.2.2.2.2
  have hl : lv_has ls 6 [(0, .ref (a 9)), (1, .int (nI g)), (2, .int x)] := hl
  have hiX0 : ∀ w ∈ u_ws RX0 TX0 5, w ∈ wsX0_stepsWithin := fun _ h => (List.mem_cons_of_mem _ (List.mem_append_right _ h))
  have w0 := hts (.fieldLink RX0 17 "Islandgrid$Fleet" "steps" "[I") (List.mem_cons_of_mem _ (List.mem_append_left _ (List.mem_of_getElem? (i := 0) rfl)))
  refine lv_iconst (v := 0) hX_ hB_ dX0_stepsWithin_0 (by decide) ?_
  refine lv_istore_n (lv' := [(3, .int 0), (0, .ref (a 9)), (1, .int (nI g)), (2, .int x)]) hX_ hB_ dX0_stepsWithin_1 rfl hl (by decide) rfl (fun ls hl => ?_)
  refine lv_sipush (v := 128) hX_ hB_ dX0_stepsWithin_2 (by decide) ?_
  refine lv_istore (lv' := [(4, .int 128), (3, .int 0), (0, .ref (a 9)), (1, .int (nI g)), (2, .int x)]) hX_ hB_ dX0_stepsWithin_5 hl (by decide) rfl (fun ls hl => ?_)
  have L7 : ∀ (k7 : Nat) (kq : Nat) (wi : Int32), (kq ≤ 8) → (zf_sw (E 3) (n 2) g x kq wi = zf_swr (E 3) (n 2) g x) → kq < k7 → ∀ (H : Heap) (locs : List Loc) (ls : Array Slot), ze_W D (ze_wC c a n A B E) F s.heap H locs → lv_has ls 6 [(4, .int (zf_leap kq)), (3, .int wi), (0, .ref (a 9)), (1, .int (nI g)), (2, .int x)] → W p l e { frames := 2, cells := 0, slots := 0, locals := 41 } s m_ ([.ref (a 9), .int (nI g), .int x] : List Value).toArray below meth cd H locs 0 0 (MQ below (ze_Qi D c (ze_wC c a n A B E) sz (zf_swr (E 3) (n 2) g x) (ze_wC c a n A B E)) ([.ref (a 9), .int (nI g), .int x] : List Value).toArray s 0 0 F) (F0 m_ 7 ls []) := by
    intro k7
    induction k7 with
    | zero =>
      intro kq wi hq hres hk7
      exact absurd hk7 (Nat.not_lt_zero _)
    | succ k7 ih7 =>
      intro kq wi hq hres hk7 H locs ls hW hl
      rcases kq with _ | kk
      · have hl : lv_has ls 6 [(4, .int 0), (3, .int wi), (0, .ref (a 9)), (1, .int (nI g)), (2, .int x)] := hl
        refine lv_iload hX_ hB_ dX0_stepsWithin_7 (lv_at hl 0 rfl) ?_
        refine lv_if_le (tgt := 54) hX_ hB_ dX0_stepsWithin_9 (by decide) (fun c9 => ?_) (fun c9 => ?_)
        · refine lv_iload_n hX_ hB_ dX0_stepsWithin_54 rfl (lv_at hl 1 rfl) ?_
          exact ze_iret S hr hlocks hF hK hW rfl dX0_stepsWithin_55 (Nat.le_of_ble_eq_true rfl) (Nat.le_of_ble_eq_true rfl) hres rfl
        · exact absurd c9 (by decide)
      · have hl : lv_has ls 6 [(4, .int (nI (2 ^ kk))), (3, .int wi), (0, .ref (a 9)), (1, .int (nI g)), (2, .int x)] := hl
        have hp1 : 2 ^ kk ≤ 2 ^ 7 := Nat.pow_le_pow_right (by decide) (by omega)
        have hp0 : 0 < 2 ^ kk := Nat.pow_pos (by decide)
        refine lv_iload hX_ hB_ dX0_stepsWithin_7 (lv_at hl 0 rfl) ?_
        refine lv_if_le (tgt := 54) hX_ hB_ dX0_stepsWithin_9 (by decide) (fun c9 => ?_) (fun c9 => ?_)
        · exact absurd c9 (nI_nle hp0 (by omega))
        · refine lv_iload_n hX_ hB_ dX0_stepsWithin_12 rfl (lv_at hl 1 rfl) ?_
          refine lv_iload hX_ hB_ dX0_stepsWithin_13 (lv_at hl 0 rfl) ?_
          refine lv_iadd hX_ hB_ dX0_stepsWithin_15 ?_
          refine lv_istore (lv' := [(5, .int (wi + nI (2 ^ kk))), (4, .int (nI (2 ^ kk))), (3, .int wi), (0, .ref (a 9)), (1, .int (nI g)), (2, .int x)]) hX_ hB_ dX0_stepsWithin_16 hl (by decide) rfl (fun ls hl => ?_)
          refine lv_iload hX_ hB_ dX0_stepsWithin_18 (lv_at hl 0 rfl) ?_
          refine lv_aload_n hX_ hB_ dX0_stepsWithin_20 rfl (lv_at hl 3 rfl) ?_
          refine ze_get (ci := 0) (C := RX0) (T := TX0) (N := 5) (v := .ref (a 11)) S hiX0 hK hW 9 (ze_at0 9 rfl) rfl 3 (by decide) rfl w0 dX0_stepsWithin_21 ?_
          refine lv_iload_n hX_ hB_ dX0_stepsWithin_24 rfl (lv_at hl 4 rfl) ?_
          refine ze_ialdN hX_ hB_ hK hW 11 (f := E 3) (ze_at0 11 rfl) (i := g) (by omega) (by decide) dX0_stepsWithin_25 ?_
          refine lv_icmp_gt (tgt := 45) hX_ hB_ dX0_stepsWithin_26 (by decide) (fun c26 => ?_) (fun c26 => ?_)
          · refine lv_iload hX_ hB_ dX0_stepsWithin_45 (lv_at hl 1 rfl) ?_
            refine lv_iconst (v := 2) hX_ hB_ dX0_stepsWithin_47 (by decide) ?_
            refine lv_idiv hX_ hB_ dX0_stepsWithin_48 (by decide) ?_
            refine ze_top (zf_leap2 (k := kk) (by omega)) ?_
            refine lv_istore (lv' := [(4, .int (zf_leap kk)), (5, .int (wi + nI (2 ^ kk))), (3, .int wi), (0, .ref (a 9)), (1, .int (nI g)), (2, .int x)]) hX_ hB_ dX0_stepsWithin_49 hl (by decide) rfl (fun ls hl => ?_)
            refine lv_goto (tgt := 7) hX_ hB_ dX0_stepsWithin_51 (by decide) ?_
            exact ih7 kk wi (by omega) (by rw [← hres, zf_sw, if_neg (fun h9 => h9.1 c26)]) (by omega) _ _ ls hW (lv_sub hl [0, 2, 3, 4, 5] rfl)
          · refine lv_aload_n hX_ hB_ dX0_stepsWithin_29 rfl (lv_at hl 3 rfl) ?_
            refine lv_iload_n hX_ hB_ dX0_stepsWithin_30 rfl (lv_at hl 4 rfl) ?_
            refine lv_iload hX_ hB_ dX0_stepsWithin_31 (lv_at hl 0 rfl) ?_
            refine lv_iconst (v := 1) hX_ hB_ dX0_stepsWithin_33 (by decide) ?_
            refine lv_isub hX_ hB_ dX0_stepsWithin_34 ?_
            refine ze_Vi (As := [.int (nI g), .int ((wi + nI (2 ^ kk)) - 1)]) (rest := []) (ci := 0) (q0 := 9) (k := (RX0, TX0, 5)) S (zc_0_stepsAhead l D c a n A B E g ((wi + nI (2 ^ kk)) - 1) hN (by omega)) (cwV 2 hts gX0_stepsWithin_X0_stepsAhead rfl rfl rfl (by decide +kernel) ⟨Nat.le_of_ble_eq_true rfl, Nat.le_of_ble_eq_true rfl⟩) hK hW hA rfl (ze_at0 9 rfl) rfl hl.1 rfl (lv_room (Nat.le_of_ble_eq_true rfl)) dX0_stepsWithin_35 ⟨Nat.le_of_ble_eq_true rfl, Nat.le_of_ble_eq_true rfl⟩ (fun H locs hW => ?_)
            refine lv_iload_n hX_ hB_ dX0_stepsWithin_38 rfl (lv_at hl 5 rfl) ?_
            refine lv_icmp_ge (tgt := 45) hX_ hB_ dX0_stepsWithin_39 (by decide) (fun c39 => ?_) (fun c39 => ?_)
            · refine lv_iload hX_ hB_ dX0_stepsWithin_45 (lv_at hl 1 rfl) ?_
              refine lv_iconst (v := 2) hX_ hB_ dX0_stepsWithin_47 (by decide) ?_
              refine lv_idiv hX_ hB_ dX0_stepsWithin_48 (by decide) ?_
              refine ze_top (zf_leap2 (k := kk) (by omega)) ?_
              refine lv_istore (lv' := [(4, .int (zf_leap kk)), (5, .int (wi + nI (2 ^ kk))), (3, .int wi), (0, .ref (a 9)), (1, .int (nI g)), (2, .int x)]) hX_ hB_ dX0_stepsWithin_49 hl (by decide) rfl (fun ls hl => ?_)
              refine lv_goto (tgt := 7) hX_ hB_ dX0_stepsWithin_51 (by decide) ?_
              exact ih7 kk wi (by omega) (by rw [← hres, zf_sw, if_neg (fun h9 => h9.2 c39)]) (by omega) _ _ ls hW (lv_sub hl [0, 2, 3, 4, 5] rfl)
            · refine lv_iload hX_ hB_ dX0_stepsWithin_42 (lv_at hl 0 rfl) ?_
              refine lv_istore_n (lv' := [(3, .int (wi + nI (2 ^ kk))), (5, .int (wi + nI (2 ^ kk))), (4, .int (nI (2 ^ kk))), (0, .ref (a 9)), (1, .int (nI g)), (2, .int x)]) hX_ hB_ dX0_stepsWithin_44 rfl hl (by decide) rfl (fun ls hl => ?_)
              refine lv_iload hX_ hB_ dX0_stepsWithin_45 (lv_at hl 2 rfl) ?_
              refine lv_iconst (v := 2) hX_ hB_ dX0_stepsWithin_47 (by decide) ?_
              refine lv_idiv hX_ hB_ dX0_stepsWithin_48 (by decide) ?_
              refine ze_top (zf_leap2 (k := kk) (by omega)) ?_
              refine lv_istore (lv' := [(4, .int (zf_leap kk)), (3, .int (wi + nI (2 ^ kk))), (5, .int (wi + nI (2 ^ kk))), (0, .ref (a 9)), (1, .int (nI g)), (2, .int x)]) hX_ hB_ dX0_stepsWithin_49 hl (by decide) rfl (fun ls hl => ?_)
              refine lv_goto (tgt := 7) hX_ hB_ dX0_stepsWithin_51 (by decide) ?_
              exact ih7 kk (wi + nI (2 ^ kk)) (by omega) (by rw [← hres, zf_sw, if_pos ⟨c26, c39⟩]) (by omega) _ _ ls hW (lv_sub hl [0, 1, 3, 4, 5] rfl)
  have hl : lv_has ls 6 [(4, .int (zf_leap 8)), (3, .int 0), (0, .ref (a 9)), (1, .int (nI g)), (2, .int x)] := hl
  exact L7 _ 8 0 (by decide) rfl (Nat.lt_succ_self _) _ _ ls hW (lv_sub hl [0, 1, 2, 3, 4] rfl)
set_option maxHeartbeats 4000000 in
set_option maxRecDepth 100000 in
theorem zc_0_giveFor (l : Launch) (D : va_G) (c : Nat → ClassId) (a n : Nat → Nat) (A : Nat → Nat → Int32) (B : Nat → Int64) (E : Nat → Nat → Int32) (m t : Int32) (hN : zf_N n) (hS : zf_S n A) : ze_I l yX0_giveFor wsX0_giveFor 4 75 0 0 D c (ze_wC c a n A B E) [.ref (a 9), .int m, .int t] (zf_gsC A (ze_up (zf_stp A (E 0) m) (E 3) (n 2)) (n 2) (E 0) m (t - zf_gs A (E 0) m (n 2)) (n 2)) (ze_wC c a n (ze_sA (ze_sA A 12 (ze_up (zf_gvC A (ze_up (zf_stp A (E 0) m) (E 3) (n 2)) (n 2) (E 0) m (t - zf_gs A (E 0) m (n 2))) (A 12) (n 2))) 10 (ze_up (zf_gfC A (ze_up (zf_stp A (E 0) m) (E 3) (n 2)) (n 2) (E 0) m (t - zf_gs A (E 0) m (n 2))) (A 10) (n 2))) B (ze_sA E 3 (ze_up (zf_stp A (E 0) m) (E 3) (n 2)))) := by
  intro sz
  refine ze_start (cc := cX0_giveFor) (maxL := 6) (ret := (some .int)) (own := RX0) (by decide) rfl rfl (Nat.le_of_ble_eq_true rfl) ?_
  obtain ⟨hn0, hn1, hn2, hn3, hn4⟩ := id hN
  intro p e s m_ below meth cd F ls hF hsz E0
  obtain ⟨S, hr, hlocks, hK, hW, hA, hl⟩ := E0
  have hX_ := S.1
  have hB_ := S.2.1
  have hts := S.2.2.2.2
  have hl : lv_has ls 6 [(0, .ref (a 9)), (1, .int m), (2, .int t)] := hl
  have hiX0 : ∀ w ∈ u_ws RX0 TX0 5, w ∈ wsX0_giveFor := fun _ h => (List.mem_cons_of_mem _ (List.mem_append_left _ (List.mem_append_left _ (List.mem_append_right _ h))))
  have hiX1 : ∀ w ∈ u_ws RX1 TX1 8, w ∈ wsX0_giveFor := fun _ h => (List.mem_cons_of_mem _ (List.mem_append_left _ (List.mem_append_right _ h)))
  have w0 := hts (.fieldLink RX0 28 "Islandgrid$Fleet" "count" "I") (List.mem_cons_of_mem _ (List.mem_append_left _ (List.mem_append_left _ (List.mem_append_left _ (List.mem_append_left _ (List.mem_of_getElem? (i := 0) rfl))))))
  have w1 := hts (.fieldLink RX0 11 "Islandgrid$Fleet" "all" "[LIslandgrid$Generator;") (List.mem_cons_of_mem _ (List.mem_append_left _ (List.mem_append_left _ (List.mem_append_left _ (List.mem_append_left _ (List.mem_of_getElem? (i := 1) rfl))))))
  have w2 := hts (.fieldLink RX0 63 "Islandgrid$Generator" "least" "I") (List.mem_cons_of_mem _ (List.mem_append_left _ (List.mem_append_left _ (List.mem_append_left _ (List.mem_append_left _ (List.mem_of_getElem? (i := 2) rfl))))))
  have w3 := hts (.fieldLink RX0 97 "Islandgrid$Generator" "gave" "I") (List.mem_cons_of_mem _ (List.mem_append_left _ (List.mem_append_left _ (List.mem_append_left _ (List.mem_append_left _ (List.mem_of_getElem? (i := 3) rfl))))))
  refine lv_aload_n hX_ hB_ dX0_giveFor_0 rfl (lv_at hl 0 rfl) ?_
  refine lv_iload_n hX_ hB_ dX0_giveFor_1 rfl (lv_at hl 1 rfl) ?_
  refine ze_Vv (As := [.int m]) (rest := []) (ci := 0) (q0 := 9) (k := (RX0, TX0, 5)) S (zc_0_measureSteps l D c a n A B E m hN hS) (cwV 1 hts gX0_giveFor_X0_measureSteps rfl rfl rfl (by decide +kernel) ⟨Nat.le_of_ble_eq_true rfl, Nat.le_of_ble_eq_true rfl⟩) hK hW hA rfl (ze_at0 9 rfl) rfl hl.1 rfl (lv_room (Nat.le_of_ble_eq_true rfl)) dX0_giveFor_2 ⟨Nat.le_of_ble_eq_true rfl, Nat.le_of_ble_eq_true rfl⟩ (fun H locs hW => ?_)
  have hW : ze_W D (ze_wC c a n A B (ze_sA E 3 (ze_up (zf_stp A (E 0) m) (E 3) (n 2)))) F s.heap _ _ := hW
  refine lv_iload_n hX_ hB_ dX0_giveFor_5 rfl (lv_at hl 2 rfl) ?_
  refine lv_aload_n hX_ hB_ dX0_giveFor_6 rfl (lv_at hl 0 rfl) ?_
  refine lv_iload_n hX_ hB_ dX0_giveFor_7 rfl (lv_at hl 1 rfl) ?_
  refine ze_Vi (As := [.int m]) (rest := [.int t]) (ci := 0) (q0 := 9) (k := (RX0, TX0, 5)) S (zc_0_sumOfLeast l D c a n A B (ze_sA E 3 (ze_up (zf_stp A (E 0) m) (E 3) (n 2))) m hN hS) (cwV 1 hts gX0_giveFor_X0_sumOfLeast rfl rfl rfl (by decide +kernel) ⟨Nat.le_of_ble_eq_true rfl, Nat.le_of_ble_eq_true rfl⟩) hK hW hA rfl (ze_at0 9 rfl) rfl hl.1 rfl (lv_room (Nat.le_of_ble_eq_true rfl)) dX0_giveFor_8 ⟨Nat.le_of_ble_eq_true rfl, Nat.le_of_ble_eq_true rfl⟩ (fun H locs hW => ?_)
  refine lv_isub hX_ hB_ dX0_giveFor_11 ?_
  refine lv_istore_n (lv' := [(3, .int (t - zf_gs A (E 0) m (n 2))), (0, .ref (a 9)), (1, .int m), (2, .int t)]) hX_ hB_ dX0_giveFor_12 rfl hl (by decide) rfl (fun ls hl => ?_)
  refine lv_iconst (v := 0) hX_ hB_ dX0_giveFor_13 (by decide) ?_
  refine lv_istore (lv' := [(4, .int 0), (3, .int (t - zf_gs A (E 0) m (n 2))), (0, .ref (a 9)), (1, .int m), (2, .int t)]) hX_ hB_ dX0_giveFor_14 hl (by decide) rfl (fun ls hl => ?_)
  refine lv_iconst (v := 0) hX_ hB_ dX0_giveFor_16 (by decide) ?_
  refine lv_istore (lv' := [(5, .int 0), (4, .int 0), (3, .int (t - zf_gs A (E 0) m (n 2))), (0, .ref (a 9)), (1, .int m), (2, .int t)]) hX_ hB_ dX0_giveFor_17 hl (by decide) rfl (fun ls hl => ?_)
  have L19 : ∀ (k19 : Nat) (i19 : Nat), (i19 ≤ n 2) → (n 2 - i19) < k19 → ∀ (H : Heap) (locs : List Loc) (ls : Array Slot), ze_W D (ze_wC c a n (ze_sA (ze_sA A 12 (ze_up (zf_gvC A (ze_up (zf_stp A (E 0) m) (E 3) (n 2)) (n 2) (E 0) m (t - zf_gs A (E 0) m (n 2))) (A 12) i19)) 10 (ze_up (zf_gfC A (ze_up (zf_stp A (E 0) m) (E 3) (n 2)) (n 2) (E 0) m (t - zf_gs A (E 0) m (n 2))) (A 10) i19)) B (ze_sA E 3 (ze_up (zf_stp A (E 0) m) (E 3) (n 2)))) F s.heap H locs → lv_has ls 6 [(5, .int (nI i19)), (4, .int (zf_gsC A (ze_up (zf_stp A (E 0) m) (E 3) (n 2)) (n 2) (E 0) m (t - zf_gs A (E 0) m (n 2)) i19)), (3, .int (t - zf_gs A (E 0) m (n 2))), (0, .ref (a 9)), (1, .int m), (2, .int t)] → W p l e { frames := 4, cells := 0, slots := 0, locals := 75 } s m_ ([.ref (a 9), .int m, .int t] : List Value).toArray below meth cd H locs 0 0 (MQ below (ze_Qi D c (ze_wC c a n A B E) sz (zf_gsC A (ze_up (zf_stp A (E 0) m) (E 3) (n 2)) (n 2) (E 0) m (t - zf_gs A (E 0) m (n 2)) (n 2)) (ze_wC c a n (ze_sA (ze_sA A 12 (ze_up (zf_gvC A (ze_up (zf_stp A (E 0) m) (E 3) (n 2)) (n 2) (E 0) m (t - zf_gs A (E 0) m (n 2))) (A 12) (n 2))) 10 (ze_up (zf_gfC A (ze_up (zf_stp A (E 0) m) (E 3) (n 2)) (n 2) (E 0) m (t - zf_gs A (E 0) m (n 2))) (A 10) (n 2))) B (ze_sA E 3 (ze_up (zf_stp A (E 0) m) (E 3) (n 2))))) ([.ref (a 9), .int m, .int t] : List Value).toArray s 0 0 F) (F0 m_ 19 ls []) := by
    intro k19
    induction k19 with
    | zero =>
      intro i19 h19 hk19
      exact absurd hk19 (Nat.not_lt_zero _)
    | succ k19 ih19 =>
      intro i19 h19 hk19 H locs ls hW hl
      refine lv_iload hX_ hB_ dX0_giveFor_19 (lv_at hl 0 rfl) ?_
      refine lv_aload_n hX_ hB_ dX0_giveFor_21 rfl (lv_at hl 3 rfl) ?_
      refine ze_get (ci := 0) (C := RX0) (T := TX0) (N := 5) (v := .int (nI (n 2))) S hiX0 hK hW 9 (ze_at0 9 rfl) rfl 2 (by decide) rfl w0 dX0_giveFor_22 ?_
      refine lv_icmp_ge (tgt := 87) hX_ hB_ dX0_giveFor_25 (by decide) (fun c25 => ?_) (fun c25 => ?_)
      · have c25 : ¬ i19 < (n 2) := Nat.not_lt.mpr ((nI_leI (a := (n 2)) (b := i19) (by omega) (by omega)).mp c25)
        have e19 : i19 = n 2 := by omega
        subst e19
        refine lv_iload hX_ hB_ dX0_giveFor_87 (lv_at hl 1 rfl) ?_
        exact ze_iret S hr hlocks hF hK hW rfl dX0_giveFor_89 (Nat.le_of_ble_eq_true rfl) (Nat.le_of_ble_eq_true rfl) rfl rfl
      · have c25 : i19 < (n 2) := Nat.lt_of_not_le (fun h9 => c25 ((nI_leI (a := (n 2)) (b := i19) (by omega) (by omega)).mpr h9))
        refine lv_aload_n hX_ hB_ dX0_giveFor_28 rfl (lv_at hl 3 rfl) ?_
        refine lv_iload hX_ hB_ dX0_giveFor_29 (lv_at hl 0 rfl) ?_
        refine lv_iload_n hX_ hB_ dX0_giveFor_31 rfl (lv_at hl 4 rfl) ?_
        refine ze_Vi (As := [.int (nI i19), .int m]) (rest := []) (ci := 0) (q0 := 9) (k := (RX0, TX0, 5)) S (zc_0_runsOn l D c a n (ze_sA (ze_sA A 12 (ze_up (zf_gvC A (ze_up (zf_stp A (E 0) m) (E 3) (n 2)) (n 2) (E 0) m (t - zf_gs A (E 0) m (n 2))) (A 12) i19)) 10 (ze_up (zf_gfC A (ze_up (zf_stp A (E 0) m) (E 3) (n 2)) (n 2) (E 0) m (t - zf_gs A (E 0) m (n 2))) (A 10) i19)) B (ze_sA E 3 (ze_up (zf_stp A (E 0) m) (E 3) (n 2))) i19 m hN hS (by omega)) (cwV 2 hts gX0_giveFor_X0_runsOn rfl rfl rfl (by decide +kernel) ⟨Nat.le_of_ble_eq_true rfl, Nat.le_of_ble_eq_true rfl⟩) hK hW hA rfl (ze_at0 9 rfl) rfl hl.1 rfl (lv_room (Nat.le_of_ble_eq_true rfl)) dX0_giveFor_32 ⟨Nat.le_of_ble_eq_true rfl, Nat.le_of_ble_eq_true rfl⟩ (fun H locs hW => ?_)
        refine lv_if_eq (tgt := 81) hX_ hB_ dX0_giveFor_35 (by decide) (fun c35 => ?_) (fun c35 => ?_)
        · have c35 : ¬ (zf_runs A (E 0) i19 m) := ze_bf c35
          refine lv_iinc (v := nI (i19 + 1)) (lv' := [(5, .int (nI (i19 + 1))), (4, .int (zf_gsC A (ze_up (zf_stp A (E 0) m) (E 3) (n 2)) (n 2) (E 0) m (t - zf_gs A (E 0) m (n 2)) i19)), (3, .int (t - zf_gs A (E 0) m (n 2))), (0, .ref (a 9)), (1, .int m), (2, .int t)]) hX_ hB_ dX0_giveFor_81 hl (k := 0) rfl (ze_inc _) (by decide) rfl (fun ls hl => ?_)
          refine lv_goto (tgt := 19) hX_ hB_ dX0_giveFor_84 (by decide) ?_
          have eL4 : zf_gsC A (ze_up (zf_stp A (E 0) m) (E 3) (n 2)) (n 2) (E 0) m (t - zf_gs A (E 0) m (n 2)) i19 = zf_gsC A (ze_up (zf_stp A (E 0) m) (E 3) (n 2)) (n 2) (E 0) m (t - zf_gs A (E 0) m (n 2)) (i19 + 1) := (by simp only [ze_b, zf_gsC, ze_sum, eq_true c25, eq_false c35, not_true_eq_false, not_false_eq_true, and_true, true_and, and_false, false_and, or_true, true_or, or_false, false_or, and_self, or_self, Decidable.not_not, if_true, if_false, reduceIte, reduceCtorEq, ne_eq, eq_self, Int32.lt_irrefl, Int32.le_refl, Nat.lt_irrefl, Int32.add_zero])
          have hl : lv_has ls 6 [(5, .int (nI (i19 + 1))), (4, .int (zf_gsC A (ze_up (zf_stp A (E 0) m) (E 3) (n 2)) (n 2) (E 0) m (t - zf_gs A (E 0) m (n 2)) (i19 + 1))), (3, .int (t - zf_gs A (E 0) m (n 2))), (0, .ref (a 9)), (1, .int m), (2, .int t)] := by
            first | (rw [← eL4]; exact hl) | (simp only [← eL4]; exact hl)
          have eW : (ze_wC c a n (ze_sA (ze_sA A 12 (ze_up (zf_gvC A (ze_up (zf_stp A (E 0) m) (E 3) (n 2)) (n 2) (E 0) m (t - zf_gs A (E 0) m (n 2))) (A 12) i19)) 10 (ze_up (zf_gfC A (ze_up (zf_stp A (E 0) m) (E 3) (n 2)) (n 2) (E 0) m (t - zf_gs A (E 0) m (n 2))) (A 10) i19)) B (ze_sA E 3 (ze_up (zf_stp A (E 0) m) (E 3) (n 2)))) = (ze_wC c a n (ze_sA (ze_sA A 12 (ze_up (zf_gvC A (ze_up (zf_stp A (E 0) m) (E 3) (n 2)) (n 2) (E 0) m (t - zf_gs A (E 0) m (n 2))) (A 12) (i19 + 1))) 10 (ze_up (zf_gfC A (ze_up (zf_stp A (E 0) m) (E 3) (n 2)) (n 2) (E 0) m (t - zf_gs A (E 0) m (n 2))) (A 10) (i19 + 1))) B (ze_sA E 3 (ze_up (zf_stp A (E 0) m) (E 3) (n 2)))) := (by rw [ze_up_k (f := (zf_gvC A (ze_up (zf_stp A (E 0) m) (E 3) (n 2)) (n 2) (E 0) m (t - zf_gs A (E 0) m (n 2)))) (g := A 12) (i := i19) (by simp only [ze_b, zf_gvC, eq_true c25, eq_false c35, not_true_eq_false, not_false_eq_true, and_true, true_and, and_false, false_and, or_true, true_or, or_false, false_or, and_self, or_self, Decidable.not_not, if_true, if_false, reduceIte, reduceCtorEq, ne_eq, eq_self, Int32.lt_irrefl, Int32.le_refl, Nat.lt_irrefl]), ze_up_k (f := (zf_gfC A (ze_up (zf_stp A (E 0) m) (E 3) (n 2)) (n 2) (E 0) m (t - zf_gs A (E 0) m (n 2)))) (g := A 10) (i := i19) (by simp only [ze_b, zf_gfC, eq_true c25, eq_false c35, not_true_eq_false, not_false_eq_true, and_true, true_and, and_false, false_and, or_true, true_or, or_false, false_or, and_self, or_self, Decidable.not_not, if_true, if_false, reduceIte, reduceCtorEq, ne_eq, eq_self, Int32.lt_irrefl, Int32.le_refl, Nat.lt_irrefl])])
          rw [eW] at hW
          exact ih19 (i19 + 1) (by omega) (by omega) _ _ ls hW (lv_sub hl [0, 1, 2, 3, 4, 5] rfl)
        · have c35 : zf_runs A (E 0) i19 m := ze_bt c35
          refine lv_aload_n hX_ hB_ dX0_giveFor_38 rfl (lv_at hl 3 rfl) ?_
          refine ze_get (ci := 0) (C := RX0) (T := TX0) (N := 5) (v := .ref (a 10)) S hiX0 hK hW 9 (ze_at0 9 rfl) rfl 1 (by decide) rfl w1 dX0_giveFor_39 ?_
          refine lv_iload hX_ hB_ dX0_giveFor_42 (lv_at hl 0 rfl) ?_
          refine ze_aldN hX_ hB_ hK hW 10 3 (ze_at0 10 rfl) rfl (i := i19) (by omega) (by omega) (by decide) dX0_giveFor_44 ?_
          refine lv_aload_n hX_ hB_ dX0_giveFor_45 rfl (lv_at hl 3 rfl) ?_
          refine ze_get (ci := 0) (C := RX0) (T := TX0) (N := 5) (v := .ref (a 10)) S hiX0 hK hW 9 (ze_at0 9 rfl) rfl 1 (by decide) rfl w1 dX0_giveFor_46 ?_
          refine lv_iload hX_ hB_ dX0_giveFor_49 (lv_at hl 0 rfl) ?_
          refine ze_aldN hX_ hB_ hK hW 10 3 (ze_at0 10 rfl) rfl (i := i19) (by omega) (by omega) (by decide) dX0_giveFor_51 ?_
          refine ze_get (ci := 1) (C := RX1) (T := TX1) (N := 8) (v := .int (A 7 i19)) S hiX1 hK hW (18 + i19) (ze_atG (g := i19) (by omega)) rfl 1 (by decide) rfl w2 dX0_giveFor_52 ?_
          refine lv_aload_n hX_ hB_ dX0_giveFor_55 rfl (lv_at hl 3 rfl) ?_
          refine lv_iload hX_ hB_ dX0_giveFor_56 (lv_at hl 0 rfl) ?_
          refine lv_iload_n hX_ hB_ dX0_giveFor_58 rfl (lv_at hl 2 rfl) ?_
          refine ze_Vi (As := [.int (nI i19), .int (t - zf_gs A (E 0) m (n 2))]) (rest := [.int (A 7 i19), .ref (a (20 + i19))]) (ci := 0) (q0 := 9) (k := (RX0, TX0, 5)) S (zc_0_stepsWithin l D c a n (ze_sA (ze_sA A 12 (ze_up (zf_gvC A (ze_up (zf_stp A (E 0) m) (E 3) (n 2)) (n 2) (E 0) m (t - zf_gs A (E 0) m (n 2))) (A 12) i19)) 10 (ze_up (zf_gfC A (ze_up (zf_stp A (E 0) m) (E 3) (n 2)) (n 2) (E 0) m (t - zf_gs A (E 0) m (n 2))) (A 10) i19)) B (ze_sA E 3 (ze_up (zf_stp A (E 0) m) (E 3) (n 2))) i19 (t - zf_gs A (E 0) m (n 2)) hN (by omega)) (cwV 2 hts gX0_giveFor_X0_stepsWithin rfl rfl rfl (by decide +kernel) ⟨Nat.le_of_ble_eq_true rfl, Nat.le_of_ble_eq_true rfl⟩) hK hW hA rfl (ze_at0 9 rfl) rfl hl.1 rfl (lv_room (Nat.le_of_ble_eq_true rfl)) dX0_giveFor_59 ⟨Nat.le_of_ble_eq_true rfl, Nat.le_of_ble_eq_true rfl⟩ (fun H locs hW => ?_)
          refine lv_iadd hX_ hB_ dX0_giveFor_62 ?_
          refine ze_Vv (As := [.int (A 7 i19 + zf_swr ((ze_up (zf_stp A (E 0) m) (E 3) (n 2))) (n 2) i19 (t - zf_gs A (E 0) m (n 2)))]) (rest := []) (ci := 1) (q0 := (18 + i19)) (k := (RX1, TX1, 8)) S (zc_1_burn l D c a n (ze_sA (ze_sA A 12 (ze_up (zf_gvC A (ze_up (zf_stp A (E 0) m) (E 3) (n 2)) (n 2) (E 0) m (t - zf_gs A (E 0) m (n 2))) (A 12) i19)) 10 (ze_up (zf_gfC A (ze_up (zf_stp A (E 0) m) (E 3) (n 2)) (n 2) (E 0) m (t - zf_gs A (E 0) m (n 2))) (A 10) i19)) B (ze_sA E 3 (ze_up (zf_stp A (E 0) m) (E 3) (n 2))) i19 (A 7 i19 + zf_swr ((ze_up (zf_stp A (E 0) m) (E 3) (n 2))) (n 2) i19 (t - zf_gs A (E 0) m (n 2))) hN (by omega)) (cwV 1 hts gX0_giveFor_X1_burn rfl rfl rfl (by decide +kernel) ⟨Nat.le_of_ble_eq_true rfl, Nat.le_of_ble_eq_true rfl⟩) hK hW hA rfl (ze_atG (g := i19) (by omega)) rfl hl.1 rfl (lv_room (Nat.le_of_ble_eq_true rfl)) dX0_giveFor_63 ⟨Nat.le_of_ble_eq_true rfl, Nat.le_of_ble_eq_true rfl⟩ (fun H locs hW => ?_)
          have hW : ze_W D (ze_wC c a n (ze_sE (ze_sE (ze_sA (ze_sA A 12 (ze_up (zf_gvC A (ze_up (zf_stp A (E 0) m) (E 3) (n 2)) (n 2) (E 0) m (t - zf_gs A (E 0) m (n 2))) (A 12) i19)) 10 (ze_up (zf_gfC A (ze_up (zf_stp A (E 0) m) (E 3) (n 2)) (n 2) (E 0) m (t - zf_gs A (E 0) m (n 2))) (A 10) i19)) 12 i19 (A 7 i19 + zf_swr ((ze_up (zf_stp A (E 0) m) (E 3) (n 2))) (n 2) i19 (t - zf_gs A (E 0) m (n 2)))) 10 i19 ((ze_up (zf_gfC A (ze_up (zf_stp A (E 0) m) (E 3) (n 2)) (n 2) (E 0) m (t - zf_gs A (E 0) m (n 2))) (A 10) i19) i19 - (A 7 i19 + zf_swr ((ze_up (zf_stp A (E 0) m) (E 3) (n 2))) (n 2) i19 (t - zf_gs A (E 0) m (n 2))))) B (ze_sA E 3 (ze_up (zf_stp A (E 0) m) (E 3) (n 2)))) F s.heap _ _ := hW
          refine lv_iload hX_ hB_ dX0_giveFor_66 (lv_at hl 1 rfl) ?_
          refine lv_aload_n hX_ hB_ dX0_giveFor_68 rfl (lv_at hl 3 rfl) ?_
          refine ze_get (ci := 0) (C := RX0) (T := TX0) (N := 5) (v := .ref (a 10)) S hiX0 hK hW 9 (ze_at0 9 rfl) rfl 1 (by decide) rfl w1 dX0_giveFor_69 ?_
          refine lv_iload hX_ hB_ dX0_giveFor_72 (lv_at hl 0 rfl) ?_
          refine ze_aldN hX_ hB_ hK hW 10 3 (ze_at0 10 rfl) rfl (i := i19) (by omega) (by omega) (by decide) dX0_giveFor_74 ?_
          refine ze_get (ci := 1) (C := RX1) (T := TX1) (N := 8) (v := .int ((upd (ze_up (zf_gvC A (ze_up (zf_stp A (E 0) m) (E 3) (n 2)) (n 2) (E 0) m (t - zf_gs A (E 0) m (n 2))) (A 12) i19) i19 (A 7 i19 + zf_swr ((ze_up (zf_stp A (E 0) m) (E 3) (n 2))) (n 2) i19 (t - zf_gs A (E 0) m (n 2)))) i19)) S hiX1 hK hW (18 + i19) (ze_atG (g := i19) (by omega)) rfl 7 (by decide) rfl w3 dX0_giveFor_75 ?_
          refine ze_top (ze_updat _ _ _) ?_
          refine lv_iadd hX_ hB_ dX0_giveFor_78 ?_
          refine lv_istore (lv' := [(4, .int (zf_gsC A (ze_up (zf_stp A (E 0) m) (E 3) (n 2)) (n 2) (E 0) m (t - zf_gs A (E 0) m (n 2)) i19 + (A 7 i19 + zf_swr ((ze_up (zf_stp A (E 0) m) (E 3) (n 2))) (n 2) i19 (t - zf_gs A (E 0) m (n 2))))), (5, .int (nI i19)), (3, .int (t - zf_gs A (E 0) m (n 2))), (0, .ref (a 9)), (1, .int m), (2, .int t)]) hX_ hB_ dX0_giveFor_79 hl (by decide) rfl (fun ls hl => ?_)
          refine lv_iinc (v := nI (i19 + 1)) (lv' := [(5, .int (nI (i19 + 1))), (4, .int (zf_gsC A (ze_up (zf_stp A (E 0) m) (E 3) (n 2)) (n 2) (E 0) m (t - zf_gs A (E 0) m (n 2)) i19 + (A 7 i19 + zf_swr ((ze_up (zf_stp A (E 0) m) (E 3) (n 2))) (n 2) i19 (t - zf_gs A (E 0) m (n 2))))), (3, .int (t - zf_gs A (E 0) m (n 2))), (0, .ref (a 9)), (1, .int m), (2, .int t)]) hX_ hB_ dX0_giveFor_81 hl (k := 1) rfl (ze_inc _) (by decide) rfl (fun ls hl => ?_)
          refine lv_goto (tgt := 19) hX_ hB_ dX0_giveFor_84 (by decide) ?_
          have eL4 : zf_gsC A (ze_up (zf_stp A (E 0) m) (E 3) (n 2)) (n 2) (E 0) m (t - zf_gs A (E 0) m (n 2)) i19 + (A 7 i19 + zf_swr ((ze_up (zf_stp A (E 0) m) (E 3) (n 2))) (n 2) i19 (t - zf_gs A (E 0) m (n 2))) = zf_gsC A (ze_up (zf_stp A (E 0) m) (E 3) (n 2)) (n 2) (E 0) m (t - zf_gs A (E 0) m (n 2)) (i19 + 1) := (by simp only [ze_b, zf_gsC, ze_sum, eq_true c25, eq_true c35, not_true_eq_false, not_false_eq_true, and_true, true_and, and_false, false_and, or_true, true_or, or_false, false_or, and_self, or_self, Decidable.not_not, if_true, if_false, reduceIte, reduceCtorEq, ne_eq, eq_self, Int32.lt_irrefl, Int32.le_refl, Nat.lt_irrefl, Int32.add_zero])
          have hl : lv_has ls 6 [(5, .int (nI (i19 + 1))), (4, .int (zf_gsC A (ze_up (zf_stp A (E 0) m) (E 3) (n 2)) (n 2) (E 0) m (t - zf_gs A (E 0) m (n 2)) (i19 + 1))), (3, .int (t - zf_gs A (E 0) m (n 2))), (0, .ref (a 9)), (1, .int m), (2, .int t)] := by
            first | (rw [← eL4]; exact hl) | (simp only [← eL4]; exact hl)
          have eW : (ze_wC c a n (ze_sE (ze_sE (ze_sA (ze_sA A 12 (ze_up (zf_gvC A (ze_up (zf_stp A (E 0) m) (E 3) (n 2)) (n 2) (E 0) m (t - zf_gs A (E 0) m (n 2))) (A 12) i19)) 10 (ze_up (zf_gfC A (ze_up (zf_stp A (E 0) m) (E 3) (n 2)) (n 2) (E 0) m (t - zf_gs A (E 0) m (n 2))) (A 10) i19)) 12 i19 (A 7 i19 + zf_swr ((ze_up (zf_stp A (E 0) m) (E 3) (n 2))) (n 2) i19 (t - zf_gs A (E 0) m (n 2)))) 10 i19 ((ze_up (zf_gfC A (ze_up (zf_stp A (E 0) m) (E 3) (n 2)) (n 2) (E 0) m (t - zf_gs A (E 0) m (n 2))) (A 10) i19) i19 - (A 7 i19 + zf_swr ((ze_up (zf_stp A (E 0) m) (E 3) (n 2))) (n 2) i19 (t - zf_gs A (E 0) m (n 2))))) B (ze_sA E 3 (ze_up (zf_stp A (E 0) m) (E 3) (n 2)))) = (ze_wC c a n (ze_sA (ze_sA A 12 (ze_up (zf_gvC A (ze_up (zf_stp A (E 0) m) (E 3) (n 2)) (n 2) (E 0) m (t - zf_gs A (E 0) m (n 2))) (A 12) (i19 + 1))) 10 (ze_up (zf_gfC A (ze_up (zf_stp A (E 0) m) (E 3) (n 2)) (n 2) (E 0) m (t - zf_gs A (E 0) m (n 2))) (A 10) (i19 + 1))) B (ze_sA E 3 (ze_up (zf_stp A (E 0) m) (E 3) (n 2)))) := (by simp (decide := true) only [ze_e1, ze_e2, ze_upd2, ze_up_at]; rw [ze_up_s (f := (zf_gvC A (ze_up (zf_stp A (E 0) m) (E 3) (n 2)) (n 2) (E 0) m (t - zf_gs A (E 0) m (n 2)))) (g := A 12) (i := i19) (by simp only [ze_b, zf_gvC, eq_true c25, eq_true c35, not_true_eq_false, not_false_eq_true, and_true, true_and, and_false, false_and, or_true, true_or, or_false, false_or, and_self, or_self, Decidable.not_not, if_true, if_false, reduceIte, reduceCtorEq, ne_eq, eq_self, Int32.lt_irrefl, Int32.le_refl, Nat.lt_irrefl]), ze_up_s (f := (zf_gfC A (ze_up (zf_stp A (E 0) m) (E 3) (n 2)) (n 2) (E 0) m (t - zf_gs A (E 0) m (n 2)))) (g := A 10) (i := i19) (by simp only [ze_b, zf_gfC, eq_true c25, eq_true c35, not_true_eq_false, not_false_eq_true, and_true, true_and, and_false, false_and, or_true, true_or, or_false, false_or, and_self, or_self, Decidable.not_not, if_true, if_false, reduceIte, reduceCtorEq, ne_eq, eq_self, Int32.lt_irrefl, Int32.le_refl, Nat.lt_irrefl])])
          rw [eW] at hW
          exact ih19 (i19 + 1) (by omega) (by omega) _ _ ls hW (lv_sub hl [0, 1, 2, 3, 4, 5] rfl)
  have hl : lv_has ls 6 [(5, .int (nI 0)), (4, .int (zf_gsC A (ze_up (zf_stp A (E 0) m) (E 3) (n 2)) (n 2) (E 0) m (t - zf_gs A (E 0) m (n 2)) 0)), (3, .int (t - zf_gs A (E 0) m (n 2))), (0, .ref (a 9)), (1, .int m), (2, .int t)] := hl
  have hW : ze_W D (ze_wC c a n (ze_sA (ze_sA A 12 (ze_up (zf_gvC A (ze_up (zf_stp A (E 0) m) (E 3) (n 2)) (n 2) (E 0) m (t - zf_gs A (E 0) m (n 2))) (A 12) 0)) 10 (ze_up (zf_gfC A (ze_up (zf_stp A (E 0) m) (E 3) (n 2)) (n 2) (E 0) m (t - zf_gs A (E 0) m (n 2))) (A 10) 0)) B (ze_sA E 3 (ze_up (zf_stp A (E 0) m) (E 3) (n 2)))) F s.heap _ _ := (by rw [ze_up_0 _ (A 12), ze_up_0 _ (A 10), ze_sAid, ze_sAid2]; exact hW)
  exact L19 _ 0 (by omega) (Nat.lt_succ_self _) _ _ ls hW (lv_sub hl [0, 1, 2, 3, 4, 5] rfl)
