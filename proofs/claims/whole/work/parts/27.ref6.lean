set_option maxHeartbeats 4000000 in
set_option maxRecDepth 100000 in
theorem zr_startNext_t1 (l : Launch) (D : va_G) (c : Nat → ClassId) (d n : Nat → Nat) (A : Nat → Nat → Int32) (B : Nat → Int64) (mk : Nat → Int32) (th : Int32) (x : Int32) (hN : zf_N n) (hx : ¬ zf_isIn x 0 (nI (n 0) - 1)) : ze_I l yX9_startNext wsX9_startNext 2 43 0 0 D c (ze_wR c d n A B mk th) [.ref (d 0), .int x] 0 (ze_wR c d n A B mk 1) := by
  intro sz
  refine ze_start (cc := cX9_startNext) (maxL := 6) (ret := (some .int)) (own := RX9) (by decide) rfl rfl (Nat.le_of_ble_eq_true rfl) ?_
  obtain ⟨hn0, hn1, hn2, hn3, hn4⟩ := id hN
  intro p e s m_ below meth cd F ls hF hsz E0
  obtain ⟨S, hr, hlocks, hK, hW, hA, hl⟩ := E0
  have hX_ := S.1
  have hB_ := S.2.1
  have hts := S.2.2.2.2
  have hl : lv_has ls 6 [(0, .ref (d 0)), (1, .int x)] := hl
  refine lv_aload_n hX_ hB_ dX9_startNext_0 rfl (lv_at hl 0 rfl) ?_
  refine lv_iload_n hX_ hB_ dX9_startNext_1 rfl (lv_at hl 1 rfl) ?_
  refine ze_Vi (As := [.int x]) (rest := []) (ci := 9) (q0 := 0) (k := (RX9, TX9, 39)) S (zr_isNoSite l D c d n A B mk th x) (cwV 1 hts gX9_startNext_X9_isNoSite rfl rfl rfl (by decide +kernel) ⟨Nat.le_of_ble_eq_true rfl, Nat.le_of_ble_eq_true rfl⟩) hK hW hA rfl rfl rfl hl.1 rfl (lv_room (Nat.le_of_ble_eq_true rfl)) dX9_startNext_2 ⟨Nat.le_of_ble_eq_true rfl, Nat.le_of_ble_eq_true rfl⟩ (fun H locs hW => ?_)
  have hW : ze_W D (ze_wR c d n A B mk (if zf_isIn x 0 (nI (n 0) - 1) then 0 else 1)) F s.heap _ _ := hW
  refine lv_if_eq (tgt := 10) hX_ hB_ dX9_startNext_5 (by decide) (fun c5 => ?_) (fun c5 => ?_)
  · have c5 : ¬ (¬ zf_isIn x 0 (nI (n 0) - 1)) := ze_bf c5
    have c5 : zf_isIn x 0 (nI (n 0) - 1) := Decidable.of_not_not c5
    exact absurd c5 hx
  · have c5 : ¬ zf_isIn x 0 (nI (n 0) - 1) := ze_bt c5
    refine lv_iconst (v := 0) hX_ hB_ dX9_startNext_8 (by decide) ?_
    exact ze_iret S hr hlocks hF hK hW rfl dX9_startNext_9 (Nat.le_of_ble_eq_true rfl) (Nat.le_of_ble_eq_true rfl) rfl (by simp only [ze_b, eq_false hx, eq_false c5, not_true_eq_false, not_false_eq_true, and_true, true_and, and_false, false_and, or_true, true_or, or_false, false_or, and_self, or_self, Decidable.not_not, if_true, if_false, reduceIte, reduceCtorEq, ne_eq, eq_self, Int32.lt_irrefl, Int32.le_refl, Nat.lt_irrefl])
set_option maxHeartbeats 4000000 in
set_option maxRecDepth 100000 in
theorem zr_startNext_t2 (l : Launch) (D : va_G) (c : Nat → ClassId) (d n : Nat → Nat) (A : Nat → Nat → Int32) (B : Nat → Int64) (mk : Nat → Int32) (th : Int32) (j : Nat) (hN : zf_N n) (hj : j < n 0) (hS : zf_S n A) (hz : ∀ s, n 0 ≤ s → mk s = 0) (hpick : zf_nr A (zf_CI n A) (zf_CI n A j) (n 2) = none) : ze_I l yX9_startNext wsX9_startNext 3 57 0 0 D c (ze_wR c d n A B mk th) [.ref (d 0), .int (nI j)] 0 (ze_wR c d n A B (zf_CI n A) 2) := by
  intro sz
  refine ze_start (cc := cX9_startNext) (maxL := 6) (ret := (some .int)) (own := RX9) (by decide) rfl rfl (Nat.le_of_ble_eq_true rfl) ?_
  obtain ⟨hn0, hn1, hn2, hn3, hn4⟩ := id hN
  have hinj : zf_isIn (nI j) 0 (nI (n 0) - 1) := zf_isInN hj (by omega)
  intro p e s m_ below meth cd F ls hF hsz E0
  obtain ⟨S, hr, hlocks, hK, hW, hA, hl⟩ := E0
  have hX_ := S.1
  have hB_ := S.2.1
  have hts := S.2.2.2.2
  have hl : lv_has ls 6 [(0, .ref (d 0)), (1, .int (nI j))] := hl
  have hiX9 : ∀ w ∈ u_ws RX9 TX9 39, w ∈ wsX9_startNext := fun _ h => (List.mem_cons_of_mem _ (List.mem_append_right _ h))
  have w0 := hts (.fieldLink RX9 102 "IslandgridModel" "generators" "I") (List.mem_cons_of_mem _ (List.mem_append_left _ (List.mem_append_left _ (List.mem_of_getElem? (i := 0) rfl))))
  have w1 := hts (.fieldLink RX9 13 "IslandgridModel" "mark" "[I") (List.mem_cons_of_mem _ (List.mem_append_left _ (List.mem_append_left _ (List.mem_of_getElem? (i := 1) rfl))))
  have w2 := hts (.fieldLink RX9 29 "IslandgridModel" "genSite" "[I") (List.mem_cons_of_mem _ (List.mem_append_left _ (List.mem_append_left _ (List.mem_of_getElem? (i := 2) rfl))))
  have w3 := hts (.fieldLink RX9 50 "IslandgridModel" "state" "[C") (List.mem_cons_of_mem _ (List.mem_append_left _ (List.mem_append_left _ (List.mem_of_getElem? (i := 3) rfl))))
  have w4 := hts (.fieldLink RX9 41 "IslandgridModel" "fuel" "[I") (List.mem_cons_of_mem _ (List.mem_append_left _ (List.mem_append_left _ (List.mem_of_getElem? (i := 4) rfl))))
  have w5 := hts (.fieldLink RX9 32 "IslandgridModel" "least" "[I") (List.mem_cons_of_mem _ (List.mem_append_left _ (List.mem_append_left _ (List.mem_of_getElem? (i := 5) rfl))))
  have w6 := hts (.fieldLink RX9 38 "IslandgridModel" "warmUp" "[I") (List.mem_cons_of_mem _ (List.mem_append_left _ (List.mem_append_left _ (List.mem_of_getElem? (i := 6) rfl))))
  have w7 := hts (.fieldLink RX9 35 "IslandgridModel" "greatest" "[I") (List.mem_cons_of_mem _ (List.mem_append_left _ (List.mem_append_left _ (List.mem_of_getElem? (i := 7) rfl))))
  refine lv_aload_n hX_ hB_ dX9_startNext_0 rfl (lv_at hl 0 rfl) ?_
  refine lv_iload_n hX_ hB_ dX9_startNext_1 rfl (lv_at hl 1 rfl) ?_
  refine ze_Vi (As := [.int (nI j)]) (rest := []) (ci := 9) (q0 := 0) (k := (RX9, TX9, 39)) S (zr_isNoSite l D c d n A B mk th (nI j)) (cwV 1 hts gX9_startNext_X9_isNoSite rfl rfl rfl (by decide +kernel) ⟨Nat.le_of_ble_eq_true rfl, Nat.le_of_ble_eq_true rfl⟩) hK hW hA rfl rfl rfl hl.1 rfl (lv_room (Nat.le_of_ble_eq_true rfl)) dX9_startNext_2 ⟨Nat.le_of_ble_eq_true rfl, Nat.le_of_ble_eq_true rfl⟩ (fun H locs hW => ?_)
  have hW : ze_W D (ze_wR c d n A B mk (if zf_isIn (nI j) 0 (nI (n 0) - 1) then 0 else 1)) F s.heap _ _ := hW
  refine lv_if_eq (tgt := 10) hX_ hB_ dX9_startNext_5 (by decide) (fun c5 => ?_) (fun c5 => ?_)
  · have c5 : ¬ (¬ zf_isIn (nI j) 0 (nI (n 0) - 1)) := ze_bf c5
    have c5 : zf_isIn (nI j) 0 (nI (n 0) - 1) := Decidable.of_not_not c5
    refine lv_aload_n hX_ hB_ dX9_startNext_10 rfl (lv_at hl 0 rfl) ?_
    refine lv_iload_n hX_ hB_ dX9_startNext_11 rfl (lv_at hl 1 rfl) ?_
    refine ze_Vi (As := [.int (nI j)]) (rest := []) (ci := 9) (q0 := 0) (k := (RX9, TX9, 39)) S (zr_islandOf l D c d n A B mk (if zf_isIn (nI j) 0 (nI (n 0) - 1) then 0 else 1) (nI j) hN hS hz ⟨j, by omega, rfl⟩) (cwV 1 hts gX9_startNext_X9_islandOf rfl rfl rfl (by decide +kernel) ⟨Nat.le_of_ble_eq_true rfl, Nat.le_of_ble_eq_true rfl⟩) hK hW hA rfl rfl rfl hl.1 rfl (lv_room (Nat.le_of_ble_eq_true rfl)) dX9_startNext_12 ⟨Nat.le_of_ble_eq_true rfl, Nat.le_of_ble_eq_true rfl⟩ (fun H locs hW => ?_)
    have hW : ze_W D (ze_wR c d n A B (zf_CI n A) (if zf_isIn (nI j) 0 (nI (n 0) - 1) then 0 else 1)) F s.heap _ _ := hW
    refine ze_top (congrArg (zf_CI n A) (zf_ixN (j := j) (by omega))) ?_
    refine lv_istore_n (lv' := [(2, .int (zf_CI n A j)), (0, .ref (d 0)), (1, .int (nI j))]) hX_ hB_ dX9_startNext_15 rfl hl (by decide) rfl (fun ls hl => ?_)
    refine lv_iconst (v := (-1)) hX_ hB_ dX9_startNext_16 (by decide) ?_
    refine lv_istore_n (lv' := [(3, .int (-1)), (2, .int (zf_CI n A j)), (0, .ref (d 0)), (1, .int (nI j))]) hX_ hB_ dX9_startNext_17 rfl hl (by decide) rfl (fun ls hl => ?_)
    refine lv_iconst (v := 0) hX_ hB_ dX9_startNext_18 (by decide) ?_
    refine lv_istore (lv' := [(4, .int 0), (3, .int (-1)), (2, .int (zf_CI n A j)), (0, .ref (d 0)), (1, .int (nI j))]) hX_ hB_ dX9_startNext_19 hl (by decide) rfl (fun ls hl => ?_)
    have L21 : ∀ (k21 : Nat) (i21 : Nat), (i21 ≤ n 2) → (n 2 - i21) < k21 → ∀ (H : Heap) (locs : List Loc) (ls : Array Slot), ze_W D (ze_wR c d n A B (zf_CI n A) (if zf_isIn (nI j) 0 (nI (n 0) - 1) then 0 else 1)) F s.heap H locs → lv_has ls 6 [(4, .int (nI i21)), (3, .int (zf_on (zf_nr A (zf_CI n A) (zf_CI n A j) i21))), (2, .int (zf_CI n A j)), (0, .ref (d 0)), (1, .int (nI j))] → W p l e { frames := 3, cells := 0, slots := 0, locals := 57 } s m_ ([.ref (d 0), .int (nI j)] : List Value).toArray below meth cd H locs 0 0 (MQ below (ze_Qi D c (ze_wR c d n A B mk th) sz 0 (ze_wR c d n A B (zf_CI n A) 2)) ([.ref (d 0), .int (nI j)] : List Value).toArray s 0 0 F) (F0 m_ 21 ls []) := by
      intro k21
      induction k21 with
      | zero =>
        intro i21 h21 hk21
        exact absurd hk21 (Nat.not_lt_zero _)
      | succ k21 ih21 =>
        intro i21 h21 hk21 H locs ls hW hl
        refine lv_iload hX_ hB_ dX9_startNext_21 (lv_at hl 0 rfl) ?_
        refine lv_aload_n hX_ hB_ dX9_startNext_23 rfl (lv_at hl 3 rfl) ?_
        refine ze_get (ci := 9) (C := RX9) (T := TX9) (N := 39) (v := .int (nI (n 2))) S hiX9 hK hW 0 rfl rfl 25 (by decide) rfl w0 dX9_startNext_24 ?_
        refine lv_icmp_ge (tgt := 152) hX_ hB_ dX9_startNext_27 (by decide) (fun c27 => ?_) (fun c27 => ?_)
        · have c27 : ¬ i21 < (n 2) := Nat.not_lt.mpr ((nI_leI (a := (n 2)) (b := i21) (by omega) (by omega)).mp c27)
          have e21 : i21 = n 2 := by omega
          subst e21
          have hl : lv_has ls 6 [(4, .int (nI (n 2))), (3, .int (-1)), (2, .int (zf_CI n A j)), (0, .ref (d 0)), (1, .int (nI j))] := by
            rw [hpick] at hl
            exact hl
          refine lv_aload_n hX_ hB_ dX9_startNext_152 rfl (lv_at hl 3 rfl) ?_
          refine lv_iload_n hX_ hB_ dX9_startNext_153 rfl (lv_at hl 1 rfl) ?_
          refine lv_if_ge (tgt := 161) hX_ hB_ dX9_startNext_154 (by decide) (fun c154 => ?_) (fun c154 => ?_)
          · exact absurd c154 (by decide)
          · refine lv_iconst (v := 1) hX_ hB_ dX9_startNext_157 (by decide) ?_
            refine lv_goto (tgt := 162) hX_ hB_ dX9_startNext_158 (by decide) ?_
            refine lv_iconst (v := 2) hX_ hB_ dX9_startNext_162 (by decide) ?_
            refine ze_Vi (As := [.int 1, .int 2]) (rest := []) (ci := 9) (q0 := 0) (k := (RX9, TX9, 39)) S (zr_isThrown l D c d n A B (zf_CI n A) (if zf_isIn (nI j) 0 (nI (n 0) - 1) then 0 else 1) 1 2 2 rfl (if_neg (by decide))) (cwV 2 hts gX9_startNext_X9_isThrown rfl rfl rfl (by decide +kernel) ⟨Nat.le_of_ble_eq_true rfl, Nat.le_of_ble_eq_true rfl⟩) hK hW hA rfl rfl rfl hl.1 rfl (lv_room (Nat.le_of_ble_eq_true rfl)) dX9_startNext_163 ⟨Nat.le_of_ble_eq_true rfl, Nat.le_of_ble_eq_true rfl⟩ (fun H locs hW => ?_)
            have hW : ze_W D (ze_wR c d n A B (zf_CI n A) 2) F s.heap _ _ := hW
            refine lv_if_eq (tgt := 171) hX_ hB_ dX9_startNext_166 (by decide) (fun c166 => ?_) (fun c166 => ?_)
            · exact absurd c166 (by decide)
            · refine lv_iconst (v := 0) hX_ hB_ dX9_startNext_169 (by decide) ?_
              exact ze_iret S hr hlocks hF hK hW rfl dX9_startNext_170 (Nat.le_of_ble_eq_true rfl) (Nat.le_of_ble_eq_true rfl) rfl rfl
        · have c27 : i21 < (n 2) := Nat.lt_of_not_le (fun h9 => c27 ((nI_leI (a := (n 2)) (b := i21) (by omega) (by omega)).mpr h9))
          refine lv_aload_n hX_ hB_ dX9_startNext_30 rfl (lv_at hl 3 rfl) ?_
          refine ze_get (ci := 9) (C := RX9) (T := TX9) (N := 39) (v := .ref (d 2)) S hiX9 hK hW 0 rfl rfl 1 (by decide) rfl w1 dX9_startNext_31 ?_
          refine lv_aload_n hX_ hB_ dX9_startNext_34 rfl (lv_at hl 3 rfl) ?_
          refine ze_get (ci := 9) (C := RX9) (T := TX9) (N := 39) (v := .ref (d 7)) S hiX9 hK hW 0 rfl rfl 6 (by decide) rfl w2 dX9_startNext_35 ?_
          refine lv_iload hX_ hB_ dX9_startNext_38 (lv_at hl 0 rfl) ?_
          refine ze_ialdN hX_ hB_ hK hW 7 (f := A 6) rfl (i := i21) (by omega) (by decide) dX9_startNext_40 ?_
          refine ze_iald hX_ hB_ hK hW 2 (f := (zf_CI n A)) rfl (zf_in hN (hS.2.1 i21 (by omega))) dX9_startNext_41 ?_
          refine lv_iload_n hX_ hB_ dX9_startNext_42 rfl (lv_at hl 2 rfl) ?_
          refine lv_icmp_ne (tgt := 146) hX_ hB_ dX9_startNext_43 (by decide) (fun c43 => ?_) (fun c43 => ?_)
          · refine lv_iinc (v := nI (i21 + 1)) (lv' := [(4, .int (nI (i21 + 1))), (3, .int (zf_on (zf_nr A (zf_CI n A) (zf_CI n A j) i21))), (2, .int (zf_CI n A j)), (0, .ref (d 0)), (1, .int (nI j))]) hX_ hB_ dX9_startNext_146 hl (k := 0) rfl (ze_inc _) (by decide) rfl (fun ls hl => ?_)
            refine lv_goto (tgt := 21) hX_ hB_ dX9_startNext_149 (by decide) ?_
            have eL3 : zf_on (zf_nr A (zf_CI n A) (zf_CI n A j) i21) = zf_on (zf_nr A (zf_CI n A) (zf_CI n A j) (i21 + 1)) := (by simp only [ze_b, zf_nr, zf_nrO, zf_on, eq_true hinj, eq_true c5, eq_true c27, eq_false c43, not_true_eq_false, not_false_eq_true, and_true, true_and, and_false, false_and, or_true, true_or, or_false, false_or, and_self, or_self, Decidable.not_not, if_true, if_false, reduceIte, reduceCtorEq, ne_eq, eq_self, Int32.lt_irrefl, Int32.le_refl, Nat.lt_irrefl, decide_true, decide_false, Bool.false_eq_true, decide_eq_true_eq])
            have hl : lv_has ls 6 [(4, .int (nI (i21 + 1))), (3, .int (zf_on (zf_nr A (zf_CI n A) (zf_CI n A j) (i21 + 1)))), (2, .int (zf_CI n A j)), (0, .ref (d 0)), (1, .int (nI j))] := by
              first | (rw [← eL3]; exact hl) | (simp only [← eL3]; exact hl)
            exact ih21 (i21 + 1) (by omega) (by omega) _ _ ls hW (lv_sub hl [0, 1, 2, 3, 4] rfl)
          · refine lv_aload_n hX_ hB_ dX9_startNext_46 rfl (lv_at hl 3 rfl) ?_
            refine ze_get (ci := 9) (C := RX9) (T := TX9) (N := 39) (v := .ref (d 14)) S hiX9 hK hW 0 rfl rfl 13 (by decide) rfl w3 dX9_startNext_47 ?_
            refine lv_iload hX_ hB_ dX9_startNext_50 (lv_at hl 0 rfl) ?_
            refine ze_caldN hX_ hB_ hK hW 14 (f := A 13) rfl (i := i21) (by omega) (by decide) dX9_startNext_52 ?_
            refine lv_bipush (v := 111) hX_ hB_ dX9_startNext_53 (by decide) ?_
            refine lv_icmp_ne (tgt := 146) hX_ hB_ dX9_startNext_55 (by decide) (fun c55 => ?_) (fun c55 => ?_)
            · refine lv_iinc (v := nI (i21 + 1)) (lv' := [(4, .int (nI (i21 + 1))), (3, .int (zf_on (zf_nr A (zf_CI n A) (zf_CI n A j) i21))), (2, .int (zf_CI n A j)), (0, .ref (d 0)), (1, .int (nI j))]) hX_ hB_ dX9_startNext_146 hl (k := 0) rfl (ze_inc _) (by decide) rfl (fun ls hl => ?_)
              refine lv_goto (tgt := 21) hX_ hB_ dX9_startNext_149 (by decide) ?_
              have eL3 : zf_on (zf_nr A (zf_CI n A) (zf_CI n A j) i21) = zf_on (zf_nr A (zf_CI n A) (zf_CI n A j) (i21 + 1)) := (by simp only [ze_b, zf_nr, zf_nrO, zf_on, eq_true hinj, eq_true c5, eq_true c27, eq_true c43, eq_false c55, not_true_eq_false, not_false_eq_true, and_true, true_and, and_false, false_and, or_true, true_or, or_false, false_or, and_self, or_self, Decidable.not_not, if_true, if_false, reduceIte, reduceCtorEq, ne_eq, eq_self, Int32.lt_irrefl, Int32.le_refl, Nat.lt_irrefl, decide_true, decide_false, Bool.false_eq_true, decide_eq_true_eq])
              have hl : lv_has ls 6 [(4, .int (nI (i21 + 1))), (3, .int (zf_on (zf_nr A (zf_CI n A) (zf_CI n A j) (i21 + 1)))), (2, .int (zf_CI n A j)), (0, .ref (d 0)), (1, .int (nI j))] := by
                first | (rw [← eL3]; exact hl) | (simp only [← eL3]; exact hl)
              exact ih21 (i21 + 1) (by omega) (by omega) _ _ ls hW (lv_sub hl [0, 1, 2, 3, 4] rfl)
            · refine lv_aload_n hX_ hB_ dX9_startNext_58 rfl (lv_at hl 3 rfl) ?_
              refine ze_get (ci := 9) (C := RX9) (T := TX9) (N := 39) (v := .ref (d 11)) S hiX9 hK hW 0 rfl rfl 10 (by decide) rfl w4 dX9_startNext_59 ?_
              refine lv_iload hX_ hB_ dX9_startNext_62 (lv_at hl 0 rfl) ?_
              refine ze_ialdN hX_ hB_ hK hW 11 (f := A 10) rfl (i := i21) (by omega) (by decide) dX9_startNext_64 ?_
              refine lv_aload_n hX_ hB_ dX9_startNext_65 rfl (lv_at hl 3 rfl) ?_
              refine ze_get (ci := 9) (C := RX9) (T := TX9) (N := 39) (v := .ref (d 8)) S hiX9 hK hW 0 rfl rfl 7 (by decide) rfl w5 dX9_startNext_66 ?_
              refine lv_iload hX_ hB_ dX9_startNext_69 (lv_at hl 0 rfl) ?_
              refine ze_ialdN hX_ hB_ hK hW 8 (f := A 7) rfl (i := i21) (by omega) (by decide) dX9_startNext_71 ?_
              refine lv_icmp_lt (tgt := 146) hX_ hB_ dX9_startNext_72 (by decide) (fun c72 => ?_) (fun c72 => ?_)
              · refine lv_iinc (v := nI (i21 + 1)) (lv' := [(4, .int (nI (i21 + 1))), (3, .int (zf_on (zf_nr A (zf_CI n A) (zf_CI n A j) i21))), (2, .int (zf_CI n A j)), (0, .ref (d 0)), (1, .int (nI j))]) hX_ hB_ dX9_startNext_146 hl (k := 0) rfl (ze_inc _) (by decide) rfl (fun ls hl => ?_)
                refine lv_goto (tgt := 21) hX_ hB_ dX9_startNext_149 (by decide) ?_
                have eL3 : zf_on (zf_nr A (zf_CI n A) (zf_CI n A j) i21) = zf_on (zf_nr A (zf_CI n A) (zf_CI n A j) (i21 + 1)) := (by simp only [ze_b, zf_nr, zf_nrO, zf_on, eq_true hinj, eq_true c5, eq_true c27, eq_true c43, eq_true c55, eq_true c72, not_true_eq_false, not_false_eq_true, and_true, true_and, and_false, false_and, or_true, true_or, or_false, false_or, and_self, or_self, Decidable.not_not, if_true, if_false, reduceIte, reduceCtorEq, ne_eq, eq_self, Int32.lt_irrefl, Int32.le_refl, Nat.lt_irrefl, decide_true, decide_false, Bool.false_eq_true, decide_eq_true_eq])
                have hl : lv_has ls 6 [(4, .int (nI (i21 + 1))), (3, .int (zf_on (zf_nr A (zf_CI n A) (zf_CI n A j) (i21 + 1)))), (2, .int (zf_CI n A j)), (0, .ref (d 0)), (1, .int (nI j))] := by
                  first | (rw [← eL3]; exact hl) | (simp only [← eL3]; exact hl)
                exact ih21 (i21 + 1) (by omega) (by omega) _ _ ls hW (lv_sub hl [0, 1, 2, 3, 4] rfl)
              · rcases hpk : zf_nr A (zf_CI n A) (zf_CI n A j) i21 with _ | b
                · have hl : lv_has ls 6 [(4, .int (nI i21)), (3, .int (-1)), (2, .int (zf_CI n A j)), (0, .ref (d 0)), (1, .int (nI j))] := by
                    rw [hpk] at hl
                    exact hl
                  refine lv_iload_n hX_ hB_ dX9_startNext_75 rfl (lv_at hl 1 rfl) ?_
                  refine lv_if_lt (tgt := 127) hX_ hB_ dX9_startNext_76 (by decide) (fun c76 => ?_) (fun c76 => ?_)
                  · refine lv_iconst (v := 1) hX_ hB_ dX9_startNext_127 (by decide) ?_
                    refine lv_goto (tgt := 132) hX_ hB_ dX9_startNext_128 (by decide) ?_
                    refine lv_istore (lv' := [(5, .int 1), (4, .int (nI i21)), (3, .int (-1)), (2, .int (zf_CI n A j)), (0, .ref (d 0)), (1, .int (nI j))]) hX_ hB_ dX9_startNext_132 hl (by decide) rfl (fun ls hl => ?_)
                    refine lv_iload hX_ hB_ dX9_startNext_134 (lv_at hl 0 rfl) ?_
                    refine lv_if_eq (tgt := 144) hX_ hB_ dX9_startNext_136 (by decide) (fun c136 => ?_) (fun c136 => ?_)
                    · exact absurd c136 (by decide)
                    · refine lv_iload hX_ hB_ dX9_startNext_139 (lv_at hl 1 rfl) ?_
                      refine lv_goto (tgt := 145) hX_ hB_ dX9_startNext_141 (by decide) ?_
                      refine lv_istore_n (lv' := [(3, .int (nI i21)), (5, .int 1), (4, .int (nI i21)), (2, .int (zf_CI n A j)), (0, .ref (d 0)), (1, .int (nI j))]) hX_ hB_ dX9_startNext_145 rfl hl (by decide) rfl (fun ls hl => ?_)
                      refine lv_iinc (v := nI (i21 + 1)) (lv' := [(4, .int (nI (i21 + 1))), (3, .int (nI i21)), (5, .int 1), (2, .int (zf_CI n A j)), (0, .ref (d 0)), (1, .int (nI j))]) hX_ hB_ dX9_startNext_146 hl (k := 2) rfl (ze_inc _) (by decide) rfl (fun ls hl => ?_)
                      refine lv_goto (tgt := 21) hX_ hB_ dX9_startNext_149 (by decide) ?_
                      have eL3 : nI i21 = zf_on (zf_nr A (zf_CI n A) (zf_CI n A j) (i21 + 1)) := (by simp only [ze_b, zf_nr, zf_nrO, zf_on, eq_true hinj, eq_true c5, eq_true c27, eq_true c43, eq_true c55, eq_false c72, hpk, eq_true c76, eq_false c136, not_true_eq_false, not_false_eq_true, and_true, true_and, and_false, false_and, or_true, true_or, or_false, false_or, and_self, or_self, Decidable.not_not, if_true, if_false, reduceIte, reduceCtorEq, ne_eq, eq_self, Int32.lt_irrefl, Int32.le_refl, Nat.lt_irrefl, decide_true, decide_false, Bool.false_eq_true, decide_eq_true_eq])
                      have hl : lv_has ls 6 [(4, .int (nI (i21 + 1))), (3, .int (zf_on (zf_nr A (zf_CI n A) (zf_CI n A j) (i21 + 1)))), (5, .int 1), (2, .int (zf_CI n A j)), (0, .ref (d 0)), (1, .int (nI j))] := by
                        first | (rw [← eL3]; exact hl) | (simp only [← eL3]; exact hl)
                      exact ih21 (i21 + 1) (by omega) (by omega) _ _ ls hW (lv_sub hl [0, 1, 3, 4, 5] rfl)
                  · exact absurd c76 (by decide)
                · have hl : lv_has ls 6 [(4, .int (nI i21)), (3, .int (nI b)), (2, .int (zf_CI n A j)), (0, .ref (d 0)), (1, .int (nI j))] := by
                    rw [hpk] at hl
                    exact hl
                  have hb9 : b < n 2 := zf_nrlt (by omega) hpk
                  refine lv_iload_n hX_ hB_ dX9_startNext_75 rfl (lv_at hl 1 rfl) ?_
                  refine lv_if_lt (tgt := 127) hX_ hB_ dX9_startNext_76 (by decide) (fun c76 => ?_) (fun c76 => ?_)
                  · exact absurd c76 (nI_pos (by omega))
                  · refine lv_aload_n hX_ hB_ dX9_startNext_79 rfl (lv_at hl 3 rfl) ?_
                    refine ze_get (ci := 9) (C := RX9) (T := TX9) (N := 39) (v := .ref (d 10)) S hiX9 hK hW 0 rfl rfl 9 (by decide) rfl w6 dX9_startNext_80 ?_
                    refine lv_iload hX_ hB_ dX9_startNext_83 (lv_at hl 0 rfl) ?_
                    refine ze_ialdN hX_ hB_ hK hW 10 (f := A 9) rfl (i := i21) (by omega) (by decide) dX9_startNext_85 ?_
                    refine lv_aload_n hX_ hB_ dX9_startNext_86 rfl (lv_at hl 3 rfl) ?_
                    refine ze_get (ci := 9) (C := RX9) (T := TX9) (N := 39) (v := .ref (d 10)) S hiX9 hK hW 0 rfl rfl 9 (by decide) rfl w6 dX9_startNext_87 ?_
                    refine lv_iload_n hX_ hB_ dX9_startNext_90 rfl (lv_at hl 1 rfl) ?_
                    refine ze_ialdN hX_ hB_ hK hW 10 (f := A 9) rfl (i := b) (by omega) (by decide) dX9_startNext_91 ?_
                    refine lv_icmp_lt (tgt := 127) hX_ hB_ dX9_startNext_92 (by decide) (fun c92 => ?_) (fun c92 => ?_)
                    · refine lv_iconst (v := 1) hX_ hB_ dX9_startNext_127 (by decide) ?_
                      refine lv_goto (tgt := 132) hX_ hB_ dX9_startNext_128 (by decide) ?_
                      refine lv_istore (lv' := [(5, .int 1), (4, .int (nI i21)), (3, .int (nI b)), (2, .int (zf_CI n A j)), (0, .ref (d 0)), (1, .int (nI j))]) hX_ hB_ dX9_startNext_132 hl (by decide) rfl (fun ls hl => ?_)
                      refine lv_iload hX_ hB_ dX9_startNext_134 (lv_at hl 0 rfl) ?_
                      refine lv_if_eq (tgt := 144) hX_ hB_ dX9_startNext_136 (by decide) (fun c136 => ?_) (fun c136 => ?_)
                      · exact absurd c136 (by decide)
                      · refine lv_iload hX_ hB_ dX9_startNext_139 (lv_at hl 1 rfl) ?_
                        refine lv_goto (tgt := 145) hX_ hB_ dX9_startNext_141 (by decide) ?_
                        refine lv_istore_n (lv' := [(3, .int (nI i21)), (5, .int 1), (4, .int (nI i21)), (2, .int (zf_CI n A j)), (0, .ref (d 0)), (1, .int (nI j))]) hX_ hB_ dX9_startNext_145 rfl hl (by decide) rfl (fun ls hl => ?_)
                        refine lv_iinc (v := nI (i21 + 1)) (lv' := [(4, .int (nI (i21 + 1))), (3, .int (nI i21)), (5, .int 1), (2, .int (zf_CI n A j)), (0, .ref (d 0)), (1, .int (nI j))]) hX_ hB_ dX9_startNext_146 hl (k := 2) rfl (ze_inc _) (by decide) rfl (fun ls hl => ?_)
                        refine lv_goto (tgt := 21) hX_ hB_ dX9_startNext_149 (by decide) ?_
                        have eL3 : nI i21 = zf_on (zf_nr A (zf_CI n A) (zf_CI n A j) (i21 + 1)) := (by simp only [ze_b, zf_nr, zf_nrO, zf_on, eq_true hinj, eq_true c5, eq_true c27, eq_true c43, eq_true c55, eq_false c72, hpk, eq_false c76, eq_true c92, eq_false c136, not_true_eq_false, not_false_eq_true, and_true, true_and, and_false, false_and, or_true, true_or, or_false, false_or, and_self, or_self, Decidable.not_not, if_true, if_false, reduceIte, reduceCtorEq, ne_eq, eq_self, Int32.lt_irrefl, Int32.le_refl, Nat.lt_irrefl, decide_true, decide_false, Bool.false_eq_true, decide_eq_true_eq])
                        have hl : lv_has ls 6 [(4, .int (nI (i21 + 1))), (3, .int (zf_on (zf_nr A (zf_CI n A) (zf_CI n A j) (i21 + 1)))), (5, .int 1), (2, .int (zf_CI n A j)), (0, .ref (d 0)), (1, .int (nI j))] := by
                          first | (rw [← eL3]; exact hl) | (simp only [← eL3]; exact hl)
                        exact ih21 (i21 + 1) (by omega) (by omega) _ _ ls hW (lv_sub hl [0, 1, 3, 4, 5] rfl)
                    · refine lv_aload_n hX_ hB_ dX9_startNext_95 rfl (lv_at hl 3 rfl) ?_
                      refine ze_get (ci := 9) (C := RX9) (T := TX9) (N := 39) (v := .ref (d 10)) S hiX9 hK hW 0 rfl rfl 9 (by decide) rfl w6 dX9_startNext_96 ?_
                      refine lv_iload hX_ hB_ dX9_startNext_99 (lv_at hl 0 rfl) ?_
                      refine ze_ialdN hX_ hB_ hK hW 10 (f := A 9) rfl (i := i21) (by omega) (by decide) dX9_startNext_101 ?_
                      refine lv_aload_n hX_ hB_ dX9_startNext_102 rfl (lv_at hl 3 rfl) ?_
                      refine ze_get (ci := 9) (C := RX9) (T := TX9) (N := 39) (v := .ref (d 10)) S hiX9 hK hW 0 rfl rfl 9 (by decide) rfl w6 dX9_startNext_103 ?_
                      refine lv_iload_n hX_ hB_ dX9_startNext_106 rfl (lv_at hl 1 rfl) ?_
                      refine ze_ialdN hX_ hB_ hK hW 10 (f := A 9) rfl (i := b) (by omega) (by decide) dX9_startNext_107 ?_
                      refine lv_icmp_ne (tgt := 131) hX_ hB_ dX9_startNext_108 (by decide) (fun c108 => ?_) (fun c108 => ?_)
                      · refine lv_iconst (v := 0) hX_ hB_ dX9_startNext_131 (by decide) ?_
                        refine lv_istore (lv' := [(5, .int 0), (4, .int (nI i21)), (3, .int (nI b)), (2, .int (zf_CI n A j)), (0, .ref (d 0)), (1, .int (nI j))]) hX_ hB_ dX9_startNext_132 hl (by decide) rfl (fun ls hl => ?_)
                        refine lv_iload hX_ hB_ dX9_startNext_134 (lv_at hl 0 rfl) ?_
                        refine lv_if_eq (tgt := 144) hX_ hB_ dX9_startNext_136 (by decide) (fun c136 => ?_) (fun c136 => ?_)
                        · refine lv_iload_n hX_ hB_ dX9_startNext_144 rfl (lv_at hl 2 rfl) ?_
                          refine lv_istore_n (lv' := [(3, .int (nI b)), (5, .int 0), (4, .int (nI i21)), (2, .int (zf_CI n A j)), (0, .ref (d 0)), (1, .int (nI j))]) hX_ hB_ dX9_startNext_145 rfl hl (by decide) rfl (fun ls hl => ?_)
                          refine lv_iinc (v := nI (i21 + 1)) (lv' := [(4, .int (nI (i21 + 1))), (3, .int (nI b)), (5, .int 0), (2, .int (zf_CI n A j)), (0, .ref (d 0)), (1, .int (nI j))]) hX_ hB_ dX9_startNext_146 hl (k := 2) rfl (ze_inc _) (by decide) rfl (fun ls hl => ?_)
                          refine lv_goto (tgt := 21) hX_ hB_ dX9_startNext_149 (by decide) ?_
                          have eL3 : nI b = zf_on (zf_nr A (zf_CI n A) (zf_CI n A j) (i21 + 1)) := (by simp only [ze_b, zf_nr, zf_nrO, zf_on, eq_true hinj, eq_true c5, eq_true c27, eq_true c43, eq_true c55, eq_false c72, hpk, eq_false c76, eq_false c92, eq_false c108, eq_true c136, not_true_eq_false, not_false_eq_true, and_true, true_and, and_false, false_and, or_true, true_or, or_false, false_or, and_self, or_self, Decidable.not_not, if_true, if_false, reduceIte, reduceCtorEq, ne_eq, eq_self, Int32.lt_irrefl, Int32.le_refl, Nat.lt_irrefl, decide_true, decide_false, Bool.false_eq_true, decide_eq_true_eq])
                          have hl : lv_has ls 6 [(4, .int (nI (i21 + 1))), (3, .int (zf_on (zf_nr A (zf_CI n A) (zf_CI n A j) (i21 + 1)))), (5, .int 0), (2, .int (zf_CI n A j)), (0, .ref (d 0)), (1, .int (nI j))] := by
                            first | (rw [← eL3]; exact hl) | (simp only [← eL3]; exact hl)
                          exact ih21 (i21 + 1) (by omega) (by omega) _ _ ls hW (lv_sub hl [0, 1, 3, 4, 5] rfl)
                        · exact absurd c136 (by decide)
                      · refine lv_aload_n hX_ hB_ dX9_startNext_111 rfl (lv_at hl 3 rfl) ?_
                        refine ze_get (ci := 9) (C := RX9) (T := TX9) (N := 39) (v := .ref (d 9)) S hiX9 hK hW 0 rfl rfl 8 (by decide) rfl w7 dX9_startNext_112 ?_
                        refine lv_iload hX_ hB_ dX9_startNext_115 (lv_at hl 0 rfl) ?_
                        refine ze_ialdN hX_ hB_ hK hW 9 (f := A 8) rfl (i := i21) (by omega) (by decide) dX9_startNext_117 ?_
                        refine lv_aload_n hX_ hB_ dX9_startNext_118 rfl (lv_at hl 3 rfl) ?_
                        refine ze_get (ci := 9) (C := RX9) (T := TX9) (N := 39) (v := .ref (d 9)) S hiX9 hK hW 0 rfl rfl 8 (by decide) rfl w7 dX9_startNext_119 ?_
                        refine lv_iload_n hX_ hB_ dX9_startNext_122 rfl (lv_at hl 1 rfl) ?_
                        refine ze_ialdN hX_ hB_ hK hW 9 (f := A 8) rfl (i := b) (by omega) (by decide) dX9_startNext_123 ?_
                        refine lv_icmp_le (tgt := 131) hX_ hB_ dX9_startNext_124 (by decide) (fun c124 => ?_) (fun c124 => ?_)
                        · refine lv_iconst (v := 0) hX_ hB_ dX9_startNext_131 (by decide) ?_
                          refine lv_istore (lv' := [(5, .int 0), (4, .int (nI i21)), (3, .int (nI b)), (2, .int (zf_CI n A j)), (0, .ref (d 0)), (1, .int (nI j))]) hX_ hB_ dX9_startNext_132 hl (by decide) rfl (fun ls hl => ?_)
                          refine lv_iload hX_ hB_ dX9_startNext_134 (lv_at hl 0 rfl) ?_
                          refine lv_if_eq (tgt := 144) hX_ hB_ dX9_startNext_136 (by decide) (fun c136 => ?_) (fun c136 => ?_)
                          · refine lv_iload_n hX_ hB_ dX9_startNext_144 rfl (lv_at hl 2 rfl) ?_
                            refine lv_istore_n (lv' := [(3, .int (nI b)), (5, .int 0), (4, .int (nI i21)), (2, .int (zf_CI n A j)), (0, .ref (d 0)), (1, .int (nI j))]) hX_ hB_ dX9_startNext_145 rfl hl (by decide) rfl (fun ls hl => ?_)
                            refine lv_iinc (v := nI (i21 + 1)) (lv' := [(4, .int (nI (i21 + 1))), (3, .int (nI b)), (5, .int 0), (2, .int (zf_CI n A j)), (0, .ref (d 0)), (1, .int (nI j))]) hX_ hB_ dX9_startNext_146 hl (k := 2) rfl (ze_inc _) (by decide) rfl (fun ls hl => ?_)
                            refine lv_goto (tgt := 21) hX_ hB_ dX9_startNext_149 (by decide) ?_
                            have eL3 : nI b = zf_on (zf_nr A (zf_CI n A) (zf_CI n A j) (i21 + 1)) := (by simp only [ze_b, zf_nr, zf_nrO, zf_on, eq_true hinj, eq_true c5, eq_true c27, eq_true c43, eq_true c55, eq_false c72, hpk, eq_false c76, eq_false c92, eq_true c108, eq_true c124, eq_true c136, not_true_eq_false, not_false_eq_true, and_true, true_and, and_false, false_and, or_true, true_or, or_false, false_or, and_self, or_self, Decidable.not_not, if_true, if_false, reduceIte, reduceCtorEq, ne_eq, eq_self, Int32.lt_irrefl, Int32.le_refl, Nat.lt_irrefl, decide_true, decide_false, Bool.false_eq_true, decide_eq_true_eq])
                            have hl : lv_has ls 6 [(4, .int (nI (i21 + 1))), (3, .int (zf_on (zf_nr A (zf_CI n A) (zf_CI n A j) (i21 + 1)))), (5, .int 0), (2, .int (zf_CI n A j)), (0, .ref (d 0)), (1, .int (nI j))] := by
                              first | (rw [← eL3]; exact hl) | (simp only [← eL3]; exact hl)
                            exact ih21 (i21 + 1) (by omega) (by omega) _ _ ls hW (lv_sub hl [0, 1, 3, 4, 5] rfl)
                          · exact absurd c136 (by decide)
                        · refine lv_iconst (v := 1) hX_ hB_ dX9_startNext_127 (by decide) ?_
                          refine lv_goto (tgt := 132) hX_ hB_ dX9_startNext_128 (by decide) ?_
                          refine lv_istore (lv' := [(5, .int 1), (4, .int (nI i21)), (3, .int (nI b)), (2, .int (zf_CI n A j)), (0, .ref (d 0)), (1, .int (nI j))]) hX_ hB_ dX9_startNext_132 hl (by decide) rfl (fun ls hl => ?_)
                          refine lv_iload hX_ hB_ dX9_startNext_134 (lv_at hl 0 rfl) ?_
                          refine lv_if_eq (tgt := 144) hX_ hB_ dX9_startNext_136 (by decide) (fun c136 => ?_) (fun c136 => ?_)
                          · exact absurd c136 (by decide)
                          · refine lv_iload hX_ hB_ dX9_startNext_139 (lv_at hl 1 rfl) ?_
                            refine lv_goto (tgt := 145) hX_ hB_ dX9_startNext_141 (by decide) ?_
                            refine lv_istore_n (lv' := [(3, .int (nI i21)), (5, .int 1), (4, .int (nI i21)), (2, .int (zf_CI n A j)), (0, .ref (d 0)), (1, .int (nI j))]) hX_ hB_ dX9_startNext_145 rfl hl (by decide) rfl (fun ls hl => ?_)
                            refine lv_iinc (v := nI (i21 + 1)) (lv' := [(4, .int (nI (i21 + 1))), (3, .int (nI i21)), (5, .int 1), (2, .int (zf_CI n A j)), (0, .ref (d 0)), (1, .int (nI j))]) hX_ hB_ dX9_startNext_146 hl (k := 2) rfl (ze_inc _) (by decide) rfl (fun ls hl => ?_)
                            refine lv_goto (tgt := 21) hX_ hB_ dX9_startNext_149 (by decide) ?_
                            have eL3 : nI i21 = zf_on (zf_nr A (zf_CI n A) (zf_CI n A j) (i21 + 1)) := (by simp only [ze_b, zf_nr, zf_nrO, zf_on, eq_true hinj, eq_true c5, eq_true c27, eq_true c43, eq_true c55, eq_false c72, hpk, eq_false c76, eq_false c92, eq_true c108, eq_false c124, eq_false c136, not_true_eq_false, not_false_eq_true, and_true, true_and, and_false, false_and, or_true, true_or, or_false, false_or, and_self, or_self, Decidable.not_not, if_true, if_false, reduceIte, reduceCtorEq, ne_eq, eq_self, Int32.lt_irrefl, Int32.le_refl, Nat.lt_irrefl, decide_true, decide_false, Bool.false_eq_true, decide_eq_true_eq])
                            have hl : lv_has ls 6 [(4, .int (nI (i21 + 1))), (3, .int (zf_on (zf_nr A (zf_CI n A) (zf_CI n A j) (i21 + 1)))), (5, .int 1), (2, .int (zf_CI n A j)), (0, .ref (d 0)), (1, .int (nI j))] := by
                              first | (rw [← eL3]; exact hl) | (simp only [← eL3]; exact hl)
                            exact ih21 (i21 + 1) (by omega) (by omega) _ _ ls hW (lv_sub hl [0, 1, 3, 4, 5] rfl)
    have hl : lv_has ls 6 [(4, .int (nI 0)), (3, .int (zf_on (zf_nr A (zf_CI n A) (zf_CI n A j) 0))), (2, .int (zf_CI n A j)), (0, .ref (d 0)), (1, .int (nI j))] := hl
    have hW : ze_W D (ze_wR c d n A B (zf_CI n A) (if zf_isIn (nI j) 0 (nI (n 0) - 1) then 0 else 1)) F s.heap _ _ := hW
    exact L21 _ 0 (by omega) (Nat.lt_succ_self _) _ _ ls hW (lv_sub hl [0, 1, 2, 3, 4] rfl)
  · have c5 : ¬ zf_isIn (nI j) 0 (nI (n 0) - 1) := ze_bt c5
    exact absurd hinj c5
set_option maxHeartbeats 4000000 in
set_option maxRecDepth 100000 in
theorem zr_startNext_f (l : Launch) (D : va_G) (c : Nat → ClassId) (d n : Nat → Nat) (A : Nat → Nat → Int32) (B : Nat → Int64) (mk : Nat → Int32) (th : Int32) (j : Nat) (hN : zf_N n) (hj : j < n 0) (hS : zf_S n A) (hz : ∀ s, n 0 ≤ s → mk s = 0) (v : Nat) (hpick : zf_nr A (zf_CI n A) (zf_CI n A j) (n 2) = some v) : ze_I l yX9_startNext wsX9_startNext 3 57 0 0 D c (ze_wR c d n A B mk th) [.ref (d 0), .int (nI j)] (nI v) (ze_wR c d n (zf_start A v) B (zf_CI n A) 0) := by
  intro sz
  refine ze_start (cc := cX9_startNext) (maxL := 6) (ret := (some .int)) (own := RX9) (by decide) rfl rfl (Nat.le_of_ble_eq_true rfl) ?_
  obtain ⟨hn0, hn1, hn2, hn3, hn4⟩ := id hN
  have hinj : zf_isIn (nI j) 0 (nI (n 0) - 1) := zf_isInN hj (by omega)
  have hv9 : v < n 2 := zf_nrlt (Nat.le_refl _) hpick
  intro p e s m_ below meth cd F ls hF hsz E0
  obtain ⟨S, hr, hlocks, hK, hW, hA, hl⟩ := E0
  have hX_ := S.1
  have hB_ := S.2.1
  have hts := S.2.2.2.2
  have hl : lv_has ls 6 [(0, .ref (d 0)), (1, .int (nI j))] := hl
  have hiX9 : ∀ w ∈ u_ws RX9 TX9 39, w ∈ wsX9_startNext := fun _ h => (List.mem_cons_of_mem _ (List.mem_append_right _ h))
  have w0 := hts (.fieldLink RX9 102 "IslandgridModel" "generators" "I") (List.mem_cons_of_mem _ (List.mem_append_left _ (List.mem_append_left _ (List.mem_of_getElem? (i := 0) rfl))))
  have w1 := hts (.fieldLink RX9 13 "IslandgridModel" "mark" "[I") (List.mem_cons_of_mem _ (List.mem_append_left _ (List.mem_append_left _ (List.mem_of_getElem? (i := 1) rfl))))
  have w2 := hts (.fieldLink RX9 29 "IslandgridModel" "genSite" "[I") (List.mem_cons_of_mem _ (List.mem_append_left _ (List.mem_append_left _ (List.mem_of_getElem? (i := 2) rfl))))
  have w3 := hts (.fieldLink RX9 50 "IslandgridModel" "state" "[C") (List.mem_cons_of_mem _ (List.mem_append_left _ (List.mem_append_left _ (List.mem_of_getElem? (i := 3) rfl))))
  have w4 := hts (.fieldLink RX9 41 "IslandgridModel" "fuel" "[I") (List.mem_cons_of_mem _ (List.mem_append_left _ (List.mem_append_left _ (List.mem_of_getElem? (i := 4) rfl))))
  have w5 := hts (.fieldLink RX9 32 "IslandgridModel" "least" "[I") (List.mem_cons_of_mem _ (List.mem_append_left _ (List.mem_append_left _ (List.mem_of_getElem? (i := 5) rfl))))
  have w6 := hts (.fieldLink RX9 38 "IslandgridModel" "warmUp" "[I") (List.mem_cons_of_mem _ (List.mem_append_left _ (List.mem_append_left _ (List.mem_of_getElem? (i := 6) rfl))))
  have w7 := hts (.fieldLink RX9 35 "IslandgridModel" "greatest" "[I") (List.mem_cons_of_mem _ (List.mem_append_left _ (List.mem_append_left _ (List.mem_of_getElem? (i := 7) rfl))))
  refine lv_aload_n hX_ hB_ dX9_startNext_0 rfl (lv_at hl 0 rfl) ?_
  refine lv_iload_n hX_ hB_ dX9_startNext_1 rfl (lv_at hl 1 rfl) ?_
  refine ze_Vi (As := [.int (nI j)]) (rest := []) (ci := 9) (q0 := 0) (k := (RX9, TX9, 39)) S (zr_isNoSite l D c d n A B mk th (nI j)) (cwV 1 hts gX9_startNext_X9_isNoSite rfl rfl rfl (by decide +kernel) ⟨Nat.le_of_ble_eq_true rfl, Nat.le_of_ble_eq_true rfl⟩) hK hW hA rfl rfl rfl hl.1 rfl (lv_room (Nat.le_of_ble_eq_true rfl)) dX9_startNext_2 ⟨Nat.le_of_ble_eq_true rfl, Nat.le_of_ble_eq_true rfl⟩ (fun H locs hW => ?_)
  have hW : ze_W D (ze_wR c d n A B mk (if zf_isIn (nI j) 0 (nI (n 0) - 1) then 0 else 1)) F s.heap _ _ := hW
  refine lv_if_eq (tgt := 10) hX_ hB_ dX9_startNext_5 (by decide) (fun c5 => ?_) (fun c5 => ?_)
  · have c5 : ¬ (¬ zf_isIn (nI j) 0 (nI (n 0) - 1)) := ze_bf c5
    have c5 : zf_isIn (nI j) 0 (nI (n 0) - 1) := Decidable.of_not_not c5
    refine lv_aload_n hX_ hB_ dX9_startNext_10 rfl (lv_at hl 0 rfl) ?_
    refine lv_iload_n hX_ hB_ dX9_startNext_11 rfl (lv_at hl 1 rfl) ?_
    refine ze_Vi (As := [.int (nI j)]) (rest := []) (ci := 9) (q0 := 0) (k := (RX9, TX9, 39)) S (zr_islandOf l D c d n A B mk (if zf_isIn (nI j) 0 (nI (n 0) - 1) then 0 else 1) (nI j) hN hS hz ⟨j, by omega, rfl⟩) (cwV 1 hts gX9_startNext_X9_islandOf rfl rfl rfl (by decide +kernel) ⟨Nat.le_of_ble_eq_true rfl, Nat.le_of_ble_eq_true rfl⟩) hK hW hA rfl rfl rfl hl.1 rfl (lv_room (Nat.le_of_ble_eq_true rfl)) dX9_startNext_12 ⟨Nat.le_of_ble_eq_true rfl, Nat.le_of_ble_eq_true rfl⟩ (fun H locs hW => ?_)
    have hW : ze_W D (ze_wR c d n A B (zf_CI n A) (if zf_isIn (nI j) 0 (nI (n 0) - 1) then 0 else 1)) F s.heap _ _ := hW
    refine ze_top (congrArg (zf_CI n A) (zf_ixN (j := j) (by omega))) ?_
    refine lv_istore_n (lv' := [(2, .int (zf_CI n A j)), (0, .ref (d 0)), (1, .int (nI j))]) hX_ hB_ dX9_startNext_15 rfl hl (by decide) rfl (fun ls hl => ?_)
    refine lv_iconst (v := (-1)) hX_ hB_ dX9_startNext_16 (by decide) ?_
    refine lv_istore_n (lv' := [(3, .int (-1)), (2, .int (zf_CI n A j)), (0, .ref (d 0)), (1, .int (nI j))]) hX_ hB_ dX9_startNext_17 rfl hl (by decide) rfl (fun ls hl => ?_)
    refine lv_iconst (v := 0) hX_ hB_ dX9_startNext_18 (by decide) ?_
    refine lv_istore (lv' := [(4, .int 0), (3, .int (-1)), (2, .int (zf_CI n A j)), (0, .ref (d 0)), (1, .int (nI j))]) hX_ hB_ dX9_startNext_19 hl (by decide) rfl (fun ls hl => ?_)
    have L21 : ∀ (k21 : Nat) (i21 : Nat), (i21 ≤ n 2) → (n 2 - i21) < k21 → ∀ (H : Heap) (locs : List Loc) (ls : Array Slot), ze_W D (ze_wR c d n A B (zf_CI n A) (if zf_isIn (nI j) 0 (nI (n 0) - 1) then 0 else 1)) F s.heap H locs → lv_has ls 6 [(4, .int (nI i21)), (3, .int (zf_on (zf_nr A (zf_CI n A) (zf_CI n A j) i21))), (2, .int (zf_CI n A j)), (0, .ref (d 0)), (1, .int (nI j))] → W p l e { frames := 3, cells := 0, slots := 0, locals := 57 } s m_ ([.ref (d 0), .int (nI j)] : List Value).toArray below meth cd H locs 0 0 (MQ below (ze_Qi D c (ze_wR c d n A B mk th) sz (nI v) (ze_wR c d n (zf_start A v) B (zf_CI n A) 0)) ([.ref (d 0), .int (nI j)] : List Value).toArray s 0 0 F) (F0 m_ 21 ls []) := by
      intro k21
      induction k21 with
      | zero =>
        intro i21 h21 hk21
        exact absurd hk21 (Nat.not_lt_zero _)
      | succ k21 ih21 =>
        intro i21 h21 hk21 H locs ls hW hl
        refine lv_iload hX_ hB_ dX9_startNext_21 (lv_at hl 0 rfl) ?_
        refine lv_aload_n hX_ hB_ dX9_startNext_23 rfl (lv_at hl 3 rfl) ?_
        refine ze_get (ci := 9) (C := RX9) (T := TX9) (N := 39) (v := .int (nI (n 2))) S hiX9 hK hW 0 rfl rfl 25 (by decide) rfl w0 dX9_startNext_24 ?_
        refine lv_icmp_ge (tgt := 152) hX_ hB_ dX9_startNext_27 (by decide) (fun c27 => ?_) (fun c27 => ?_)
        · have c27 : ¬ i21 < (n 2) := Nat.not_lt.mpr ((nI_leI (a := (n 2)) (b := i21) (by omega) (by omega)).mp c27)
          have e21 : i21 = n 2 := by omega
          subst e21
          have hl : lv_has ls 6 [(4, .int (nI (n 2))), (3, .int (nI v)), (2, .int (zf_CI n A j)), (0, .ref (d 0)), (1, .int (nI j))] := by
            rw [hpick] at hl
            exact hl
          refine lv_aload_n hX_ hB_ dX9_startNext_152 rfl (lv_at hl 3 rfl) ?_
          refine lv_iload_n hX_ hB_ dX9_startNext_153 rfl (lv_at hl 1 rfl) ?_
          refine lv_if_ge (tgt := 161) hX_ hB_ dX9_startNext_154 (by decide) (fun c154 => ?_) (fun c154 => ?_)
          · refine lv_iconst (v := 0) hX_ hB_ dX9_startNext_161 (by decide) ?_
            refine lv_iconst (v := 2) hX_ hB_ dX9_startNext_162 (by decide) ?_
            refine ze_Vi (As := [.int 0, .int 2]) (rest := []) (ci := 9) (q0 := 0) (k := (RX9, TX9, 39)) S (zr_isThrown l D c d n A B (zf_CI n A) (if zf_isIn (nI j) 0 (nI (n 0) - 1) then 0 else 1) 0 2 0 rfl (if_pos rfl)) (cwV 2 hts gX9_startNext_X9_isThrown rfl rfl rfl (by decide +kernel) ⟨Nat.le_of_ble_eq_true rfl, Nat.le_of_ble_eq_true rfl⟩) hK hW hA rfl rfl rfl hl.1 rfl (lv_room (Nat.le_of_ble_eq_true rfl)) dX9_startNext_163 ⟨Nat.le_of_ble_eq_true rfl, Nat.le_of_ble_eq_true rfl⟩ (fun H locs hW => ?_)
            have hW : ze_W D (ze_wR c d n A B (zf_CI n A) 0) F s.heap _ _ := hW
            refine lv_if_eq (tgt := 171) hX_ hB_ dX9_startNext_166 (by decide) (fun c166 => ?_) (fun c166 => ?_)
            · refine lv_aload_n hX_ hB_ dX9_startNext_171 rfl (lv_at hl 3 rfl) ?_
              refine lv_iload_n hX_ hB_ dX9_startNext_172 rfl (lv_at hl 1 rfl) ?_
              refine ze_Vv (As := [.int (nI v)]) (rest := []) (ci := 9) (q0 := 0) (k := (RX9, TX9, 39)) S (zr_starts l D c d n A B (zf_CI n A) 0 v hN (by omega)) (cwV 1 hts gX9_startNext_X9_starts rfl rfl rfl (by decide +kernel) ⟨Nat.le_of_ble_eq_true rfl, Nat.le_of_ble_eq_true rfl⟩) hK hW hA rfl rfl rfl hl.1 rfl (lv_room (Nat.le_of_ble_eq_true rfl)) dX9_startNext_173 ⟨Nat.le_of_ble_eq_true rfl, Nat.le_of_ble_eq_true rfl⟩ (fun H locs hW => ?_)
              have hW : ze_W D (ze_wR c d n (zf_start A v) B (zf_CI n A) 0) F s.heap _ _ := hW
              refine lv_iload_n hX_ hB_ dX9_startNext_176 rfl (lv_at hl 1 rfl) ?_
              exact ze_iret S hr hlocks hF hK hW rfl dX9_startNext_177 (Nat.le_of_ble_eq_true rfl) (Nat.le_of_ble_eq_true rfl) rfl rfl
            · exact absurd c166 (by decide)
          · exact absurd (nI_pos' (by omega)) c154
        · have c27 : i21 < (n 2) := Nat.lt_of_not_le (fun h9 => c27 ((nI_leI (a := (n 2)) (b := i21) (by omega) (by omega)).mpr h9))
          refine lv_aload_n hX_ hB_ dX9_startNext_30 rfl (lv_at hl 3 rfl) ?_
          refine ze_get (ci := 9) (C := RX9) (T := TX9) (N := 39) (v := .ref (d 2)) S hiX9 hK hW 0 rfl rfl 1 (by decide) rfl w1 dX9_startNext_31 ?_
          refine lv_aload_n hX_ hB_ dX9_startNext_34 rfl (lv_at hl 3 rfl) ?_
          refine ze_get (ci := 9) (C := RX9) (T := TX9) (N := 39) (v := .ref (d 7)) S hiX9 hK hW 0 rfl rfl 6 (by decide) rfl w2 dX9_startNext_35 ?_
          refine lv_iload hX_ hB_ dX9_startNext_38 (lv_at hl 0 rfl) ?_
          refine ze_ialdN hX_ hB_ hK hW 7 (f := A 6) rfl (i := i21) (by omega) (by decide) dX9_startNext_40 ?_
          refine ze_iald hX_ hB_ hK hW 2 (f := (zf_CI n A)) rfl (zf_in hN (hS.2.1 i21 (by omega))) dX9_startNext_41 ?_
          refine lv_iload_n hX_ hB_ dX9_startNext_42 rfl (lv_at hl 2 rfl) ?_
          refine lv_icmp_ne (tgt := 146) hX_ hB_ dX9_startNext_43 (by decide) (fun c43 => ?_) (fun c43 => ?_)
          · refine lv_iinc (v := nI (i21 + 1)) (lv' := [(4, .int (nI (i21 + 1))), (3, .int (zf_on (zf_nr A (zf_CI n A) (zf_CI n A j) i21))), (2, .int (zf_CI n A j)), (0, .ref (d 0)), (1, .int (nI j))]) hX_ hB_ dX9_startNext_146 hl (k := 0) rfl (ze_inc _) (by decide) rfl (fun ls hl => ?_)
            refine lv_goto (tgt := 21) hX_ hB_ dX9_startNext_149 (by decide) ?_
            have eL3 : zf_on (zf_nr A (zf_CI n A) (zf_CI n A j) i21) = zf_on (zf_nr A (zf_CI n A) (zf_CI n A j) (i21 + 1)) := (by simp only [ze_b, zf_nr, zf_nrO, zf_on, eq_true hinj, eq_true c5, eq_true c27, eq_false c43, not_true_eq_false, not_false_eq_true, and_true, true_and, and_false, false_and, or_true, true_or, or_false, false_or, and_self, or_self, Decidable.not_not, if_true, if_false, reduceIte, reduceCtorEq, ne_eq, eq_self, Int32.lt_irrefl, Int32.le_refl, Nat.lt_irrefl, decide_true, decide_false, Bool.false_eq_true, decide_eq_true_eq])
            have hl : lv_has ls 6 [(4, .int (nI (i21 + 1))), (3, .int (zf_on (zf_nr A (zf_CI n A) (zf_CI n A j) (i21 + 1)))), (2, .int (zf_CI n A j)), (0, .ref (d 0)), (1, .int (nI j))] := by
              first | (rw [← eL3]; exact hl) | (simp only [← eL3]; exact hl)
            exact ih21 (i21 + 1) (by omega) (by omega) _ _ ls hW (lv_sub hl [0, 1, 2, 3, 4] rfl)
          · refine lv_aload_n hX_ hB_ dX9_startNext_46 rfl (lv_at hl 3 rfl) ?_
            refine ze_get (ci := 9) (C := RX9) (T := TX9) (N := 39) (v := .ref (d 14)) S hiX9 hK hW 0 rfl rfl 13 (by decide) rfl w3 dX9_startNext_47 ?_
            refine lv_iload hX_ hB_ dX9_startNext_50 (lv_at hl 0 rfl) ?_
            refine ze_caldN hX_ hB_ hK hW 14 (f := A 13) rfl (i := i21) (by omega) (by decide) dX9_startNext_52 ?_
            refine lv_bipush (v := 111) hX_ hB_ dX9_startNext_53 (by decide) ?_
            refine lv_icmp_ne (tgt := 146) hX_ hB_ dX9_startNext_55 (by decide) (fun c55 => ?_) (fun c55 => ?_)
            · refine lv_iinc (v := nI (i21 + 1)) (lv' := [(4, .int (nI (i21 + 1))), (3, .int (zf_on (zf_nr A (zf_CI n A) (zf_CI n A j) i21))), (2, .int (zf_CI n A j)), (0, .ref (d 0)), (1, .int (nI j))]) hX_ hB_ dX9_startNext_146 hl (k := 0) rfl (ze_inc _) (by decide) rfl (fun ls hl => ?_)
              refine lv_goto (tgt := 21) hX_ hB_ dX9_startNext_149 (by decide) ?_
              have eL3 : zf_on (zf_nr A (zf_CI n A) (zf_CI n A j) i21) = zf_on (zf_nr A (zf_CI n A) (zf_CI n A j) (i21 + 1)) := (by simp only [ze_b, zf_nr, zf_nrO, zf_on, eq_true hinj, eq_true c5, eq_true c27, eq_true c43, eq_false c55, not_true_eq_false, not_false_eq_true, and_true, true_and, and_false, false_and, or_true, true_or, or_false, false_or, and_self, or_self, Decidable.not_not, if_true, if_false, reduceIte, reduceCtorEq, ne_eq, eq_self, Int32.lt_irrefl, Int32.le_refl, Nat.lt_irrefl, decide_true, decide_false, Bool.false_eq_true, decide_eq_true_eq])
              have hl : lv_has ls 6 [(4, .int (nI (i21 + 1))), (3, .int (zf_on (zf_nr A (zf_CI n A) (zf_CI n A j) (i21 + 1)))), (2, .int (zf_CI n A j)), (0, .ref (d 0)), (1, .int (nI j))] := by
                first | (rw [← eL3]; exact hl) | (simp only [← eL3]; exact hl)
              exact ih21 (i21 + 1) (by omega) (by omega) _ _ ls hW (lv_sub hl [0, 1, 2, 3, 4] rfl)
            · refine lv_aload_n hX_ hB_ dX9_startNext_58 rfl (lv_at hl 3 rfl) ?_
              refine ze_get (ci := 9) (C := RX9) (T := TX9) (N := 39) (v := .ref (d 11)) S hiX9 hK hW 0 rfl rfl 10 (by decide) rfl w4 dX9_startNext_59 ?_
              refine lv_iload hX_ hB_ dX9_startNext_62 (lv_at hl 0 rfl) ?_
              refine ze_ialdN hX_ hB_ hK hW 11 (f := A 10) rfl (i := i21) (by omega) (by decide) dX9_startNext_64 ?_
              refine lv_aload_n hX_ hB_ dX9_startNext_65 rfl (lv_at hl 3 rfl) ?_
              refine ze_get (ci := 9) (C := RX9) (T := TX9) (N := 39) (v := .ref (d 8)) S hiX9 hK hW 0 rfl rfl 7 (by decide) rfl w5 dX9_startNext_66 ?_
              refine lv_iload hX_ hB_ dX9_startNext_69 (lv_at hl 0 rfl) ?_
              refine ze_ialdN hX_ hB_ hK hW 8 (f := A 7) rfl (i := i21) (by omega) (by decide) dX9_startNext_71 ?_
              refine lv_icmp_lt (tgt := 146) hX_ hB_ dX9_startNext_72 (by decide) (fun c72 => ?_) (fun c72 => ?_)
              · refine lv_iinc (v := nI (i21 + 1)) (lv' := [(4, .int (nI (i21 + 1))), (3, .int (zf_on (zf_nr A (zf_CI n A) (zf_CI n A j) i21))), (2, .int (zf_CI n A j)), (0, .ref (d 0)), (1, .int (nI j))]) hX_ hB_ dX9_startNext_146 hl (k := 0) rfl (ze_inc _) (by decide) rfl (fun ls hl => ?_)
                refine lv_goto (tgt := 21) hX_ hB_ dX9_startNext_149 (by decide) ?_
                have eL3 : zf_on (zf_nr A (zf_CI n A) (zf_CI n A j) i21) = zf_on (zf_nr A (zf_CI n A) (zf_CI n A j) (i21 + 1)) := (by simp only [ze_b, zf_nr, zf_nrO, zf_on, eq_true hinj, eq_true c5, eq_true c27, eq_true c43, eq_true c55, eq_true c72, not_true_eq_false, not_false_eq_true, and_true, true_and, and_false, false_and, or_true, true_or, or_false, false_or, and_self, or_self, Decidable.not_not, if_true, if_false, reduceIte, reduceCtorEq, ne_eq, eq_self, Int32.lt_irrefl, Int32.le_refl, Nat.lt_irrefl, decide_true, decide_false, Bool.false_eq_true, decide_eq_true_eq])
                have hl : lv_has ls 6 [(4, .int (nI (i21 + 1))), (3, .int (zf_on (zf_nr A (zf_CI n A) (zf_CI n A j) (i21 + 1)))), (2, .int (zf_CI n A j)), (0, .ref (d 0)), (1, .int (nI j))] := by
                  first | (rw [← eL3]; exact hl) | (simp only [← eL3]; exact hl)
                exact ih21 (i21 + 1) (by omega) (by omega) _ _ ls hW (lv_sub hl [0, 1, 2, 3, 4] rfl)
              · rcases hpk : zf_nr A (zf_CI n A) (zf_CI n A j) i21 with _ | b
                · have hl : lv_has ls 6 [(4, .int (nI i21)), (3, .int (-1)), (2, .int (zf_CI n A j)), (0, .ref (d 0)), (1, .int (nI j))] := by
                    rw [hpk] at hl
                    exact hl
                  refine lv_iload_n hX_ hB_ dX9_startNext_75 rfl (lv_at hl 1 rfl) ?_
                  refine lv_if_lt (tgt := 127) hX_ hB_ dX9_startNext_76 (by decide) (fun c76 => ?_) (fun c76 => ?_)
                  · refine lv_iconst (v := 1) hX_ hB_ dX9_startNext_127 (by decide) ?_
                    refine lv_goto (tgt := 132) hX_ hB_ dX9_startNext_128 (by decide) ?_
                    refine lv_istore (lv' := [(5, .int 1), (4, .int (nI i21)), (3, .int (-1)), (2, .int (zf_CI n A j)), (0, .ref (d 0)), (1, .int (nI j))]) hX_ hB_ dX9_startNext_132 hl (by decide) rfl (fun ls hl => ?_)
                    refine lv_iload hX_ hB_ dX9_startNext_134 (lv_at hl 0 rfl) ?_
                    refine lv_if_eq (tgt := 144) hX_ hB_ dX9_startNext_136 (by decide) (fun c136 => ?_) (fun c136 => ?_)
                    · exact absurd c136 (by decide)
                    · refine lv_iload hX_ hB_ dX9_startNext_139 (lv_at hl 1 rfl) ?_
                      refine lv_goto (tgt := 145) hX_ hB_ dX9_startNext_141 (by decide) ?_
                      refine lv_istore_n (lv' := [(3, .int (nI i21)), (5, .int 1), (4, .int (nI i21)), (2, .int (zf_CI n A j)), (0, .ref (d 0)), (1, .int (nI j))]) hX_ hB_ dX9_startNext_145 rfl hl (by decide) rfl (fun ls hl => ?_)
                      refine lv_iinc (v := nI (i21 + 1)) (lv' := [(4, .int (nI (i21 + 1))), (3, .int (nI i21)), (5, .int 1), (2, .int (zf_CI n A j)), (0, .ref (d 0)), (1, .int (nI j))]) hX_ hB_ dX9_startNext_146 hl (k := 2) rfl (ze_inc _) (by decide) rfl (fun ls hl => ?_)
                      refine lv_goto (tgt := 21) hX_ hB_ dX9_startNext_149 (by decide) ?_
                      have eL3 : nI i21 = zf_on (zf_nr A (zf_CI n A) (zf_CI n A j) (i21 + 1)) := (by simp only [ze_b, zf_nr, zf_nrO, zf_on, eq_true hinj, eq_true c5, eq_true c27, eq_true c43, eq_true c55, eq_false c72, hpk, eq_true c76, eq_false c136, not_true_eq_false, not_false_eq_true, and_true, true_and, and_false, false_and, or_true, true_or, or_false, false_or, and_self, or_self, Decidable.not_not, if_true, if_false, reduceIte, reduceCtorEq, ne_eq, eq_self, Int32.lt_irrefl, Int32.le_refl, Nat.lt_irrefl, decide_true, decide_false, Bool.false_eq_true, decide_eq_true_eq])
                      have hl : lv_has ls 6 [(4, .int (nI (i21 + 1))), (3, .int (zf_on (zf_nr A (zf_CI n A) (zf_CI n A j) (i21 + 1)))), (5, .int 1), (2, .int (zf_CI n A j)), (0, .ref (d 0)), (1, .int (nI j))] := by
                        first | (rw [← eL3]; exact hl) | (simp only [← eL3]; exact hl)
                      exact ih21 (i21 + 1) (by omega) (by omega) _ _ ls hW (lv_sub hl [0, 1, 3, 4, 5] rfl)
                  · exact absurd c76 (by decide)
                · have hl : lv_has ls 6 [(4, .int (nI i21)), (3, .int (nI b)), (2, .int (zf_CI n A j)), (0, .ref (d 0)), (1, .int (nI j))] := by
                    rw [hpk] at hl
                    exact hl
                  have hb9 : b < n 2 := zf_nrlt (by omega) hpk
                  refine lv_iload_n hX_ hB_ dX9_startNext_75 rfl (lv_at hl 1 rfl) ?_
                  refine lv_if_lt (tgt := 127) hX_ hB_ dX9_startNext_76 (by decide) (fun c76 => ?_) (fun c76 => ?_)
                  · exact absurd c76 (nI_pos (by omega))
                  · refine lv_aload_n hX_ hB_ dX9_startNext_79 rfl (lv_at hl 3 rfl) ?_
                    refine ze_get (ci := 9) (C := RX9) (T := TX9) (N := 39) (v := .ref (d 10)) S hiX9 hK hW 0 rfl rfl 9 (by decide) rfl w6 dX9_startNext_80 ?_
                    refine lv_iload hX_ hB_ dX9_startNext_83 (lv_at hl 0 rfl) ?_
                    refine ze_ialdN hX_ hB_ hK hW 10 (f := A 9) rfl (i := i21) (by omega) (by decide) dX9_startNext_85 ?_
                    refine lv_aload_n hX_ hB_ dX9_startNext_86 rfl (lv_at hl 3 rfl) ?_
                    refine ze_get (ci := 9) (C := RX9) (T := TX9) (N := 39) (v := .ref (d 10)) S hiX9 hK hW 0 rfl rfl 9 (by decide) rfl w6 dX9_startNext_87 ?_
                    refine lv_iload_n hX_ hB_ dX9_startNext_90 rfl (lv_at hl 1 rfl) ?_
                    refine ze_ialdN hX_ hB_ hK hW 10 (f := A 9) rfl (i := b) (by omega) (by decide) dX9_startNext_91 ?_
                    refine lv_icmp_lt (tgt := 127) hX_ hB_ dX9_startNext_92 (by decide) (fun c92 => ?_) (fun c92 => ?_)
                    · refine lv_iconst (v := 1) hX_ hB_ dX9_startNext_127 (by decide) ?_
                      refine lv_goto (tgt := 132) hX_ hB_ dX9_startNext_128 (by decide) ?_
                      refine lv_istore (lv' := [(5, .int 1), (4, .int (nI i21)), (3, .int (nI b)), (2, .int (zf_CI n A j)), (0, .ref (d 0)), (1, .int (nI j))]) hX_ hB_ dX9_startNext_132 hl (by decide) rfl (fun ls hl => ?_)
                      refine lv_iload hX_ hB_ dX9_startNext_134 (lv_at hl 0 rfl) ?_
                      refine lv_if_eq (tgt := 144) hX_ hB_ dX9_startNext_136 (by decide) (fun c136 => ?_) (fun c136 => ?_)
                      · exact absurd c136 (by decide)
                      · refine lv_iload hX_ hB_ dX9_startNext_139 (lv_at hl 1 rfl) ?_
                        refine lv_goto (tgt := 145) hX_ hB_ dX9_startNext_141 (by decide) ?_
                        refine lv_istore_n (lv' := [(3, .int (nI i21)), (5, .int 1), (4, .int (nI i21)), (2, .int (zf_CI n A j)), (0, .ref (d 0)), (1, .int (nI j))]) hX_ hB_ dX9_startNext_145 rfl hl (by decide) rfl (fun ls hl => ?_)
                        refine lv_iinc (v := nI (i21 + 1)) (lv' := [(4, .int (nI (i21 + 1))), (3, .int (nI i21)), (5, .int 1), (2, .int (zf_CI n A j)), (0, .ref (d 0)), (1, .int (nI j))]) hX_ hB_ dX9_startNext_146 hl (k := 2) rfl (ze_inc _) (by decide) rfl (fun ls hl => ?_)
                        refine lv_goto (tgt := 21) hX_ hB_ dX9_startNext_149 (by decide) ?_
                        have eL3 : nI i21 = zf_on (zf_nr A (zf_CI n A) (zf_CI n A j) (i21 + 1)) := (by simp only [ze_b, zf_nr, zf_nrO, zf_on, eq_true hinj, eq_true c5, eq_true c27, eq_true c43, eq_true c55, eq_false c72, hpk, eq_false c76, eq_true c92, eq_false c136, not_true_eq_false, not_false_eq_true, and_true, true_and, and_false, false_and, or_true, true_or, or_false, false_or, and_self, or_self, Decidable.not_not, if_true, if_false, reduceIte, reduceCtorEq, ne_eq, eq_self, Int32.lt_irrefl, Int32.le_refl, Nat.lt_irrefl, decide_true, decide_false, Bool.false_eq_true, decide_eq_true_eq])
                        have hl : lv_has ls 6 [(4, .int (nI (i21 + 1))), (3, .int (zf_on (zf_nr A (zf_CI n A) (zf_CI n A j) (i21 + 1)))), (5, .int 1), (2, .int (zf_CI n A j)), (0, .ref (d 0)), (1, .int (nI j))] := by
                          first | (rw [← eL3]; exact hl) | (simp only [← eL3]; exact hl)
                        exact ih21 (i21 + 1) (by omega) (by omega) _ _ ls hW (lv_sub hl [0, 1, 3, 4, 5] rfl)
                    · refine lv_aload_n hX_ hB_ dX9_startNext_95 rfl (lv_at hl 3 rfl) ?_
                      refine ze_get (ci := 9) (C := RX9) (T := TX9) (N := 39) (v := .ref (d 10)) S hiX9 hK hW 0 rfl rfl 9 (by decide) rfl w6 dX9_startNext_96 ?_
                      refine lv_iload hX_ hB_ dX9_startNext_99 (lv_at hl 0 rfl) ?_
                      refine ze_ialdN hX_ hB_ hK hW 10 (f := A 9) rfl (i := i21) (by omega) (by decide) dX9_startNext_101 ?_
                      refine lv_aload_n hX_ hB_ dX9_startNext_102 rfl (lv_at hl 3 rfl) ?_
                      refine ze_get (ci := 9) (C := RX9) (T := TX9) (N := 39) (v := .ref (d 10)) S hiX9 hK hW 0 rfl rfl 9 (by decide) rfl w6 dX9_startNext_103 ?_
                      refine lv_iload_n hX_ hB_ dX9_startNext_106 rfl (lv_at hl 1 rfl) ?_
                      refine ze_ialdN hX_ hB_ hK hW 10 (f := A 9) rfl (i := b) (by omega) (by decide) dX9_startNext_107 ?_
                      refine lv_icmp_ne (tgt := 131) hX_ hB_ dX9_startNext_108 (by decide) (fun c108 => ?_) (fun c108 => ?_)
                      · refine lv_iconst (v := 0) hX_ hB_ dX9_startNext_131 (by decide) ?_
                        refine lv_istore (lv' := [(5, .int 0), (4, .int (nI i21)), (3, .int (nI b)), (2, .int (zf_CI n A j)), (0, .ref (d 0)), (1, .int (nI j))]) hX_ hB_ dX9_startNext_132 hl (by decide) rfl (fun ls hl => ?_)
                        refine lv_iload hX_ hB_ dX9_startNext_134 (lv_at hl 0 rfl) ?_
                        refine lv_if_eq (tgt := 144) hX_ hB_ dX9_startNext_136 (by decide) (fun c136 => ?_) (fun c136 => ?_)
                        · refine lv_iload_n hX_ hB_ dX9_startNext_144 rfl (lv_at hl 2 rfl) ?_
                          refine lv_istore_n (lv' := [(3, .int (nI b)), (5, .int 0), (4, .int (nI i21)), (2, .int (zf_CI n A j)), (0, .ref (d 0)), (1, .int (nI j))]) hX_ hB_ dX9_startNext_145 rfl hl (by decide) rfl (fun ls hl => ?_)
                          refine lv_iinc (v := nI (i21 + 1)) (lv' := [(4, .int (nI (i21 + 1))), (3, .int (nI b)), (5, .int 0), (2, .int (zf_CI n A j)), (0, .ref (d 0)), (1, .int (nI j))]) hX_ hB_ dX9_startNext_146 hl (k := 2) rfl (ze_inc _) (by decide) rfl (fun ls hl => ?_)
                          refine lv_goto (tgt := 21) hX_ hB_ dX9_startNext_149 (by decide) ?_
                          have eL3 : nI b = zf_on (zf_nr A (zf_CI n A) (zf_CI n A j) (i21 + 1)) := (by simp only [ze_b, zf_nr, zf_nrO, zf_on, eq_true hinj, eq_true c5, eq_true c27, eq_true c43, eq_true c55, eq_false c72, hpk, eq_false c76, eq_false c92, eq_false c108, eq_true c136, not_true_eq_false, not_false_eq_true, and_true, true_and, and_false, false_and, or_true, true_or, or_false, false_or, and_self, or_self, Decidable.not_not, if_true, if_false, reduceIte, reduceCtorEq, ne_eq, eq_self, Int32.lt_irrefl, Int32.le_refl, Nat.lt_irrefl, decide_true, decide_false, Bool.false_eq_true, decide_eq_true_eq])
                          have hl : lv_has ls 6 [(4, .int (nI (i21 + 1))), (3, .int (zf_on (zf_nr A (zf_CI n A) (zf_CI n A j) (i21 + 1)))), (5, .int 0), (2, .int (zf_CI n A j)), (0, .ref (d 0)), (1, .int (nI j))] := by
                            first | (rw [← eL3]; exact hl) | (simp only [← eL3]; exact hl)
                          exact ih21 (i21 + 1) (by omega) (by omega) _ _ ls hW (lv_sub hl [0, 1, 3, 4, 5] rfl)
                        · exact absurd c136 (by decide)
                      · refine lv_aload_n hX_ hB_ dX9_startNext_111 rfl (lv_at hl 3 rfl) ?_
                        refine ze_get (ci := 9) (C := RX9) (T := TX9) (N := 39) (v := .ref (d 9)) S hiX9 hK hW 0 rfl rfl 8 (by decide) rfl w7 dX9_startNext_112 ?_
                        refine lv_iload hX_ hB_ dX9_startNext_115 (lv_at hl 0 rfl) ?_
                        refine ze_ialdN hX_ hB_ hK hW 9 (f := A 8) rfl (i := i21) (by omega) (by decide) dX9_startNext_117 ?_
                        refine lv_aload_n hX_ hB_ dX9_startNext_118 rfl (lv_at hl 3 rfl) ?_
                        refine ze_get (ci := 9) (C := RX9) (T := TX9) (N := 39) (v := .ref (d 9)) S hiX9 hK hW 0 rfl rfl 8 (by decide) rfl w7 dX9_startNext_119 ?_
                        refine lv_iload_n hX_ hB_ dX9_startNext_122 rfl (lv_at hl 1 rfl) ?_
                        refine ze_ialdN hX_ hB_ hK hW 9 (f := A 8) rfl (i := b) (by omega) (by decide) dX9_startNext_123 ?_
                        refine lv_icmp_le (tgt := 131) hX_ hB_ dX9_startNext_124 (by decide) (fun c124 => ?_) (fun c124 => ?_)
                        · refine lv_iconst (v := 0) hX_ hB_ dX9_startNext_131 (by decide) ?_
                          refine lv_istore (lv' := [(5, .int 0), (4, .int (nI i21)), (3, .int (nI b)), (2, .int (zf_CI n A j)), (0, .ref (d 0)), (1, .int (nI j))]) hX_ hB_ dX9_startNext_132 hl (by decide) rfl (fun ls hl => ?_)
                          refine lv_iload hX_ hB_ dX9_startNext_134 (lv_at hl 0 rfl) ?_
                          refine lv_if_eq (tgt := 144) hX_ hB_ dX9_startNext_136 (by decide) (fun c136 => ?_) (fun c136 => ?_)
                          · refine lv_iload_n hX_ hB_ dX9_startNext_144 rfl (lv_at hl 2 rfl) ?_
                            refine lv_istore_n (lv' := [(3, .int (nI b)), (5, .int 0), (4, .int (nI i21)), (2, .int (zf_CI n A j)), (0, .ref (d 0)), (1, .int (nI j))]) hX_ hB_ dX9_startNext_145 rfl hl (by decide) rfl (fun ls hl => ?_)
                            refine lv_iinc (v := nI (i21 + 1)) (lv' := [(4, .int (nI (i21 + 1))), (3, .int (nI b)), (5, .int 0), (2, .int (zf_CI n A j)), (0, .ref (d 0)), (1, .int (nI j))]) hX_ hB_ dX9_startNext_146 hl (k := 2) rfl (ze_inc _) (by decide) rfl (fun ls hl => ?_)
                            refine lv_goto (tgt := 21) hX_ hB_ dX9_startNext_149 (by decide) ?_
                            have eL3 : nI b = zf_on (zf_nr A (zf_CI n A) (zf_CI n A j) (i21 + 1)) := (by simp only [ze_b, zf_nr, zf_nrO, zf_on, eq_true hinj, eq_true c5, eq_true c27, eq_true c43, eq_true c55, eq_false c72, hpk, eq_false c76, eq_false c92, eq_true c108, eq_true c124, eq_true c136, not_true_eq_false, not_false_eq_true, and_true, true_and, and_false, false_and, or_true, true_or, or_false, false_or, and_self, or_self, Decidable.not_not, if_true, if_false, reduceIte, reduceCtorEq, ne_eq, eq_self, Int32.lt_irrefl, Int32.le_refl, Nat.lt_irrefl, decide_true, decide_false, Bool.false_eq_true, decide_eq_true_eq])
                            have hl : lv_has ls 6 [(4, .int (nI (i21 + 1))), (3, .int (zf_on (zf_nr A (zf_CI n A) (zf_CI n A j) (i21 + 1)))), (5, .int 0), (2, .int (zf_CI n A j)), (0, .ref (d 0)), (1, .int (nI j))] := by
                              first | (rw [← eL3]; exact hl) | (simp only [← eL3]; exact hl)
                            exact ih21 (i21 + 1) (by omega) (by omega) _ _ ls hW (lv_sub hl [0, 1, 3, 4, 5] rfl)
                          · exact absurd c136 (by decide)
                        · refine lv_iconst (v := 1) hX_ hB_ dX9_startNext_127 (by decide) ?_
                          refine lv_goto (tgt := 132) hX_ hB_ dX9_startNext_128 (by decide) ?_
                          refine lv_istore (lv' := [(5, .int 1), (4, .int (nI i21)), (3, .int (nI b)), (2, .int (zf_CI n A j)), (0, .ref (d 0)), (1, .int (nI j))]) hX_ hB_ dX9_startNext_132 hl (by decide) rfl (fun ls hl => ?_)
                          refine lv_iload hX_ hB_ dX9_startNext_134 (lv_at hl 0 rfl) ?_
                          refine lv_if_eq (tgt := 144) hX_ hB_ dX9_startNext_136 (by decide) (fun c136 => ?_) (fun c136 => ?_)
                          · exact absurd c136 (by decide)
                          · refine lv_iload hX_ hB_ dX9_startNext_139 (lv_at hl 1 rfl) ?_
                            refine lv_goto (tgt := 145) hX_ hB_ dX9_startNext_141 (by decide) ?_
                            refine lv_istore_n (lv' := [(3, .int (nI i21)), (5, .int 1), (4, .int (nI i21)), (2, .int (zf_CI n A j)), (0, .ref (d 0)), (1, .int (nI j))]) hX_ hB_ dX9_startNext_145 rfl hl (by decide) rfl (fun ls hl => ?_)
                            refine lv_iinc (v := nI (i21 + 1)) (lv' := [(4, .int (nI (i21 + 1))), (3, .int (nI i21)), (5, .int 1), (2, .int (zf_CI n A j)), (0, .ref (d 0)), (1, .int (nI j))]) hX_ hB_ dX9_startNext_146 hl (k := 2) rfl (ze_inc _) (by decide) rfl (fun ls hl => ?_)
                            refine lv_goto (tgt := 21) hX_ hB_ dX9_startNext_149 (by decide) ?_
                            have eL3 : nI i21 = zf_on (zf_nr A (zf_CI n A) (zf_CI n A j) (i21 + 1)) := (by simp only [ze_b, zf_nr, zf_nrO, zf_on, eq_true hinj, eq_true c5, eq_true c27, eq_true c43, eq_true c55, eq_false c72, hpk, eq_false c76, eq_false c92, eq_true c108, eq_false c124, eq_false c136, not_true_eq_false, not_false_eq_true, and_true, true_and, and_false, false_and, or_true, true_or, or_false, false_or, and_self, or_self, Decidable.not_not, if_true, if_false, reduceIte, reduceCtorEq, ne_eq, eq_self, Int32.lt_irrefl, Int32.le_refl, Nat.lt_irrefl, decide_true, decide_false, Bool.false_eq_true, decide_eq_true_eq])
                            have hl : lv_has ls 6 [(4, .int (nI (i21 + 1))), (3, .int (zf_on (zf_nr A (zf_CI n A) (zf_CI n A j) (i21 + 1)))), (5, .int 1), (2, .int (zf_CI n A j)), (0, .ref (d 0)), (1, .int (nI j))] := by
                              first | (rw [← eL3]; exact hl) | (simp only [← eL3]; exact hl)
                            exact ih21 (i21 + 1) (by omega) (by omega) _ _ ls hW (lv_sub hl [0, 1, 3, 4, 5] rfl)
    have hl : lv_has ls 6 [(4, .int (nI 0)), (3, .int (zf_on (zf_nr A (zf_CI n A) (zf_CI n A j) 0))), (2, .int (zf_CI n A j)), (0, .ref (d 0)), (1, .int (nI j))] := hl
    have hW : ze_W D (ze_wR c d n A B (zf_CI n A) (if zf_isIn (nI j) 0 (nI (n 0) - 1) then 0 else 1)) F s.heap _ _ := hW
    exact L21 _ 0 (by omega) (Nat.lt_succ_self _) _ _ ls hW (lv_sub hl [0, 1, 2, 3, 4] rfl)
  · have c5 : ¬ zf_isIn (nI j) 0 (nI (n 0) - 1) := ze_bt c5
    exact absurd hinj c5
set_option maxHeartbeats 4000000 in
set_option maxRecDepth 100000 in
theorem zr_pass_t1 (l : Launch) (D : va_G) (c : Nat → ClassId) (d n : Nat → Nat) (A : Nat → Nat → Int32) (B : Nat → Int64) (mk : Nat → Int32) (th : Int32) (x : Int32) (h : ¬ zf_isIn x 1 12) : ze_I l yX9_pass wsX9_pass 1 22 0 0 D c (ze_wR c d n A B mk th) [.ref (d 0), .int x] 0 (ze_wR c d n A B mk 1) := by
  intro sz
  refine ze_start (cc := cX9_pass) (maxL := 4) (ret := (some .int)) (own := RX9) (by decide) rfl rfl (Nat.le_of_ble_eq_true rfl) ?_
  intro p e s m_ below meth cd F ls hF hsz E0
  obtain ⟨S, hr, hlocks, hK, hW, hA, hl⟩ := E0
  have hX_ := S.1
  have hB_ := S.2.1
  have hts := S.2.2.2.2
  have hl : lv_has ls 4 [(0, .ref (d 0)), (1, .int x)] := hl
  refine lv_aload_n hX_ hB_ dX9_pass_0 rfl (lv_at hl 0 rfl) ?_
  refine lv_iload_n hX_ hB_ dX9_pass_1 rfl (lv_at hl 1 rfl) ?_
  refine lv_iconst (v := 1) hX_ hB_ dX9_pass_2 (by decide) ?_
  refine lv_bipush (v := 12) hX_ hB_ dX9_pass_3 (by decide) ?_
  refine ze_Si (As := [.int x, .int 1, .int 12]) (rest := [.ref (d 0)]) S (zr_isIn l D c (ze_wR c d n A B mk th) x 1 12) (va_cwS 3 hts gX9_pass_X9_isIn rfl rfl rfl (by decide +kernel) ⟨Nat.le_of_ble_eq_true rfl, Nat.le_of_ble_eq_true rfl⟩) hK hW hA rfl hl.1 rfl (lv_room (Nat.le_of_ble_eq_true rfl)) dX9_pass_5 ⟨Nat.le_of_ble_eq_true rfl, Nat.le_of_ble_eq_true rfl⟩ (fun H locs hW => ?_)
  refine lv_if_ne (tgt := 15) hX_ hB_ dX9_pass_8 (by decide) (fun c8 => ?_) (fun c8 => ?_)
  · have c8 : zf_isIn x 1 12 := ze_bt c8
    exact absurd c8 h
  · have c8 : ¬ (zf_isIn x 1 12) := ze_bf c8
    refine lv_iconst (v := 1) hX_ hB_ dX9_pass_11 (by decide) ?_
    refine lv_goto (tgt := 16) hX_ hB_ dX9_pass_12 (by decide) ?_
    refine lv_iconst (v := 1) hX_ hB_ dX9_pass_16 (by decide) ?_
    refine ze_Vi (As := [.int 1, .int 1]) (rest := []) (ci := 9) (q0 := 0) (k := (RX9, TX9, 39)) S (zr_isThrown l D c d n A B mk th 1 1 1 rfl (if_neg (by decide))) (cwV 2 hts gX9_pass_X9_isThrown rfl rfl rfl (by decide +kernel) ⟨Nat.le_of_ble_eq_true rfl, Nat.le_of_ble_eq_true rfl⟩) hK hW hA rfl rfl rfl hl.1 rfl (lv_room (Nat.le_of_ble_eq_true rfl)) dX9_pass_17 ⟨Nat.le_of_ble_eq_true rfl, Nat.le_of_ble_eq_true rfl⟩ (fun H locs hW => ?_)
    have hW : ze_W D (ze_wR c d n A B mk 1) F s.heap _ _ := hW
    refine lv_if_eq (tgt := 25) hX_ hB_ dX9_pass_20 (by decide) (fun c20 => ?_) (fun c20 => ?_)
    · exact absurd c20 (by decide)
    · refine lv_iconst (v := 0) hX_ hB_ dX9_pass_23 (by decide) ?_
      exact ze_iret S hr hlocks hF hK hW rfl dX9_pass_24 (Nat.le_of_ble_eq_true rfl) (Nat.le_of_ble_eq_true rfl) rfl rfl
set_option maxHeartbeats 4000000 in
set_option maxRecDepth 100000 in
theorem zr_pass_f (l : Launch) (D : va_G) (c : Nat → ClassId) (d n : Nat → Nat) (A : Nat → Nat → Int32) (B : Nat → Int64) (mk : Nat → Int32) (th : Int32) (t : Nat) (h1 : 1 ≤ t) (h2 : t ≤ 12) (hN : zf_N n) (hS : zf_S n A) (hz : ∀ s, n 0 ≤ s → mk s = 0) (hC : ∀ g, g < n 2 → zf_chr (A 13 g)) : ze_I l yX9_pass wsX9_pass 6 140 0 0 D c (ze_wR c d n A B mk th) [.ref (d 0), .int (nI t)] (zf_lits ((zf_tks n A B t).1) (n 4)) (ze_wR c d n ((zf_tks n A B t).1) (zf_tks n A B t).2 (zf_CI n A) 0) := by
  intro sz
  refine ze_start (cc := cX9_pass) (maxL := 4) (ret := (some .int)) (own := RX9) (by decide) rfl rfl (Nat.le_of_ble_eq_true rfl) ?_
  obtain ⟨hn0, hn1, hn2, hn3, hn4⟩ := id hN
  have hin : zf_isIn (nI t) 1 12 := zf_isInK h1 h2
  intro p e s m_ below meth cd F ls hF hsz E0
  obtain ⟨S, hr, hlocks, hK, hW, hA, hl⟩ := E0
  have hX_ := S.1
  have hB_ := S.2.1
  have hts := S.2.2.2.2
  have hl : lv_has ls 4 [(0, .ref (d 0)), (1, .int (nI t))] := hl
  have hiX9 : ∀ w ∈ u_ws RX9 TX9 39, w ∈ wsX9_pass := fun _ h => (List.mem_cons_of_mem _ (List.mem_append_right _ h))
  have w0 := hts (.fieldLink RX9 108 "IslandgridModel" "loads" "I") (List.mem_cons_of_mem _ (List.mem_append_left _ (List.mem_append_left _ (List.mem_of_getElem? (i := 0) rfl))))
  have w1 := hts (.fieldLink RX9 26 "IslandgridModel" "isDark" "[Z") (List.mem_cons_of_mem _ (List.mem_append_left _ (List.mem_append_left _ (List.mem_of_getElem? (i := 1) rfl))))
  refine lv_aload_n hX_ hB_ dX9_pass_0 rfl (lv_at hl 0 rfl) ?_
  refine lv_iload_n hX_ hB_ dX9_pass_1 rfl (lv_at hl 1 rfl) ?_
  refine lv_iconst (v := 1) hX_ hB_ dX9_pass_2 (by decide) ?_
  refine lv_bipush (v := 12) hX_ hB_ dX9_pass_3 (by decide) ?_
  refine ze_Si (As := [.int (nI t), .int 1, .int 12]) (rest := [.ref (d 0)]) S (zr_isIn l D c (ze_wR c d n A B mk th) (nI t) 1 12) (va_cwS 3 hts gX9_pass_X9_isIn rfl rfl rfl (by decide +kernel) ⟨Nat.le_of_ble_eq_true rfl, Nat.le_of_ble_eq_true rfl⟩) hK hW hA rfl hl.1 rfl (lv_room (Nat.le_of_ble_eq_true rfl)) dX9_pass_5 ⟨Nat.le_of_ble_eq_true rfl, Nat.le_of_ble_eq_true rfl⟩ (fun H locs hW => ?_)
  refine lv_if_ne (tgt := 15) hX_ hB_ dX9_pass_8 (by decide) (fun c8 => ?_) (fun c8 => ?_)
  · have c8 : zf_isIn (nI t) 1 12 := ze_bt c8
    refine lv_iconst (v := 0) hX_ hB_ dX9_pass_15 (by decide) ?_
    refine lv_iconst (v := 1) hX_ hB_ dX9_pass_16 (by decide) ?_
    refine ze_Vi (As := [.int 0, .int 1]) (rest := []) (ci := 9) (q0 := 0) (k := (RX9, TX9, 39)) S (zr_isThrown l D c d n A B mk th 0 1 0 rfl (if_pos rfl)) (cwV 2 hts gX9_pass_X9_isThrown rfl rfl rfl (by decide +kernel) ⟨Nat.le_of_ble_eq_true rfl, Nat.le_of_ble_eq_true rfl⟩) hK hW hA rfl rfl rfl hl.1 rfl (lv_room (Nat.le_of_ble_eq_true rfl)) dX9_pass_17 ⟨Nat.le_of_ble_eq_true rfl, Nat.le_of_ble_eq_true rfl⟩ (fun H locs hW => ?_)
    have hW : ze_W D (ze_wR c d n A B mk 0) F s.heap _ _ := hW
    refine lv_if_eq (tgt := 25) hX_ hB_ dX9_pass_20 (by decide) (fun c20 => ?_) (fun c20 => ?_)
    · refine lv_iconst (v := 0) hX_ hB_ dX9_pass_25 (by decide) ?_
      refine lv_istore_n (lv' := [(2, .int 0), (0, .ref (d 0)), (1, .int (nI t))]) hX_ hB_ dX9_pass_26 rfl hl (by decide) rfl (fun ls hl => ?_)
      have L27 : ∀ (k27 : Nat) (i27 : Nat), (i27 ≤ t) → (t - i27) < k27 → ∀ (H : Heap) (locs : List Loc) (ls : Array Slot), ze_W D (ze_wR c d n ((zf_tks n A B i27).1) (zf_tks n A B i27).2 (zf_tkm n A mk i27) 0) F s.heap H locs → lv_has ls 4 [(2, .int (nI i27)), (0, .ref (d 0)), (1, .int (nI t))] → W p l e { frames := 6, cells := 0, slots := 0, locals := 140 } s m_ ([.ref (d 0), .int (nI t)] : List Value).toArray below meth cd H locs 0 0 (MQ below (ze_Qi D c (ze_wR c d n A B mk th) sz (zf_lits ((zf_tks n A B t).1) (n 4)) (ze_wR c d n ((zf_tks n A B t).1) (zf_tks n A B t).2 (zf_CI n A) 0)) ([.ref (d 0), .int (nI t)] : List Value).toArray s 0 0 F) (F0 m_ 27 ls []) := by
        intro k27
        induction k27 with
        | zero =>
          intro i27 h27 hk27
          exact absurd hk27 (Nat.not_lt_zero _)
        | succ k27 ih27 =>
          intro i27 h27 hk27 H locs ls hW hl
          have hS2 := zf_tksS (B := B) hS i27
          refine lv_iload_n hX_ hB_ dX9_pass_27 rfl (lv_at hl 0 rfl) ?_
          refine lv_iload_n hX_ hB_ dX9_pass_28 rfl (lv_at hl 2 rfl) ?_
          refine lv_icmp_ge (tgt := 42) hX_ hB_ dX9_pass_29 (by decide) (fun c29 => ?_) (fun c29 => ?_)
          · have c29 : ¬ i27 < t := Nat.not_lt.mpr ((nI_leI (a := t) (b := i27) (by omega) (by omega)).mp c29)
            have e27 : t = i27 := by omega
            subst e27
            rw [zf_tkm1 h1] at hW
            refine lv_iconst (v := 0) hX_ hB_ dX9_pass_42 (by decide) ?_
            refine lv_istore_n (lv' := [(2, .int 0), (0, .ref (d 0)), (1, .int (nI t))]) hX_ hB_ dX9_pass_43 rfl hl (by decide) rfl (fun ls hl => ?_)
            refine lv_iconst (v := 0) hX_ hB_ dX9_pass_44 (by decide) ?_
            refine lv_istore_n (lv' := [(3, .int 0), (2, .int 0), (0, .ref (d 0)), (1, .int (nI t))]) hX_ hB_ dX9_pass_45 rfl hl (by decide) rfl (fun ls hl => ?_)
            have L46 : ∀ (k46 : Nat) (i46 : Nat), (i46 ≤ n 4) → (n 4 - i46) < k46 → ∀ (H : Heap) (locs : List Loc) (ls : Array Slot), ze_W D (ze_wR c d n ((zf_tks n A B t).1) (zf_tks n A B t).2 (zf_CI n A) 0) F s.heap H locs → lv_has ls 4 [(3, .int (nI i46)), (2, .int (zf_lits ((zf_tks n A B t).1) i46)), (0, .ref (d 0)), (1, .int (nI t))] → W p l e { frames := 6, cells := 0, slots := 0, locals := 140 } s m_ ([.ref (d 0), .int (nI t)] : List Value).toArray below meth cd H locs 0 0 (MQ below (ze_Qi D c (ze_wR c d n A B mk th) sz (zf_lits ((zf_tks n A B t).1) (n 4)) (ze_wR c d n ((zf_tks n A B t).1) (zf_tks n A B t).2 (zf_CI n A) 0)) ([.ref (d 0), .int (nI t)] : List Value).toArray s 0 0 F) (F0 m_ 46 ls []) := by
              intro k46
              induction k46 with
              | zero =>
                intro i46 h46 hk46
                exact absurd hk46 (Nat.not_lt_zero _)
              | succ k46 ih46 =>
                intro i46 h46 hk46 H locs ls hW hl
                refine lv_iload_n hX_ hB_ dX9_pass_46 rfl (lv_at hl 0 rfl) ?_
                refine lv_aload_n hX_ hB_ dX9_pass_47 rfl (lv_at hl 2 rfl) ?_
                refine ze_get (ci := 9) (C := RX9) (T := TX9) (N := 39) (v := .int (nI (n 4))) S hiX9 hK hW 0 rfl rfl 27 (by decide) rfl w0 dX9_pass_48 ?_
                refine lv_icmp_ge (tgt := 77) hX_ hB_ dX9_pass_51 (by decide) (fun c51 => ?_) (fun c51 => ?_)
                · have c51 : ¬ i46 < (n 4) := Nat.not_lt.mpr ((nI_leI (a := (n 4)) (b := i46) (by omega) (by omega)).mp c51)
                  have e46 : i46 = n 4 := by omega
                  subst e46
                  refine lv_iload_n hX_ hB_ dX9_pass_77 rfl (lv_at hl 1 rfl) ?_
                  exact ze_iret S hr hlocks hF hK hW rfl dX9_pass_78 (Nat.le_of_ble_eq_true rfl) (Nat.le_of_ble_eq_true rfl) rfl rfl
                · have c51 : i46 < (n 4) := Nat.lt_of_not_le (fun h9 => c51 ((nI_leI (a := (n 4)) (b := i46) (by omega) (by omega)).mpr h9))
                  refine lv_iload_n hX_ hB_ dX9_pass_54 rfl (lv_at hl 1 rfl) ?_
                  refine lv_aload_n hX_ hB_ dX9_pass_55 rfl (lv_at hl 2 rfl) ?_
                  refine ze_get (ci := 9) (C := RX9) (T := TX9) (N := 39) (v := .ref (d 6)) S hiX9 hK hW 0 rfl rfl 5 (by decide) rfl w1 dX9_pass_56 ?_
                  refine lv_iload_n hX_ hB_ dX9_pass_59 rfl (lv_at hl 0 rfl) ?_
                  refine ze_zaldN hX_ hB_ hK hW 6 (f := ((zf_tks n A B t).1) 5) rfl (i := i46) (by omega) (by decide) dX9_pass_60 ?_
                  refine lv_if_eq (tgt := 68) hX_ hB_ dX9_pass_61 (by decide) (fun c61 => ?_) (fun c61 => ?_)
                  · refine lv_iconst (v := 1) hX_ hB_ dX9_pass_68 (by decide) ?_
                    refine lv_iadd hX_ hB_ dX9_pass_69 ?_
                    refine lv_istore_n (lv' := [(2, .int (zf_lits ((zf_tks n A B t).1) i46 + 1)), (3, .int (nI i46)), (0, .ref (d 0)), (1, .int (nI t))]) hX_ hB_ dX9_pass_70 rfl hl (by decide) rfl (fun ls hl => ?_)
                    refine lv_iinc (v := nI (i46 + 1)) (lv' := [(3, .int (nI (i46 + 1))), (2, .int (zf_lits ((zf_tks n A B t).1) i46 + 1)), (0, .ref (d 0)), (1, .int (nI t))]) hX_ hB_ dX9_pass_71 hl (k := 1) rfl (ze_inc _) (by decide) rfl (fun ls hl => ?_)
                    refine lv_goto (tgt := 46) hX_ hB_ dX9_pass_74 (by decide) ?_
                    have eL2 : zf_lits ((zf_tks n A B t).1) i46 + 1 = zf_lits ((zf_tks n A B t).1) (i46 + 1) := (by simp only [ze_b, zf_lits, ze_sum, eq_true hin, eq_true c8, eq_true c20, eq_false c29, eq_true c51, eq_true c61, not_true_eq_false, not_false_eq_true, and_true, true_and, and_false, false_and, or_true, true_or, or_false, false_or, and_self, or_self, Decidable.not_not, if_true, if_false, reduceIte, reduceCtorEq, ne_eq, eq_self, Int32.lt_irrefl, Int32.le_refl, Nat.lt_irrefl])
                    have hl : lv_has ls 4 [(3, .int (nI (i46 + 1))), (2, .int (zf_lits ((zf_tks n A B t).1) (i46 + 1))), (0, .ref (d 0)), (1, .int (nI t))] := by
                      first | (rw [← eL2]; exact hl) | (simp only [← eL2]; exact hl)
                    exact ih46 (i46 + 1) (by omega) (by omega) _ _ ls hW (lv_sub hl [0, 1, 2, 3] rfl)
                  · refine lv_iconst (v := 0) hX_ hB_ dX9_pass_64 (by decide) ?_
                    refine lv_goto (tgt := 69) hX_ hB_ dX9_pass_65 (by decide) ?_
                    refine lv_iadd hX_ hB_ dX9_pass_69 ?_
                    refine lv_istore_n (lv' := [(2, .int (zf_lits ((zf_tks n A B t).1) i46 + 0)), (3, .int (nI i46)), (0, .ref (d 0)), (1, .int (nI t))]) hX_ hB_ dX9_pass_70 rfl hl (by decide) rfl (fun ls hl => ?_)
                    refine lv_iinc (v := nI (i46 + 1)) (lv' := [(3, .int (nI (i46 + 1))), (2, .int (zf_lits ((zf_tks n A B t).1) i46 + 0)), (0, .ref (d 0)), (1, .int (nI t))]) hX_ hB_ dX9_pass_71 hl (k := 1) rfl (ze_inc _) (by decide) rfl (fun ls hl => ?_)
                    refine lv_goto (tgt := 46) hX_ hB_ dX9_pass_74 (by decide) ?_
                    have eL2 : zf_lits ((zf_tks n A B t).1) i46 + 0 = zf_lits ((zf_tks n A B t).1) (i46 + 1) := (by simp only [ze_b, zf_lits, ze_sum, eq_true hin, eq_true c8, eq_true c20, eq_false c29, eq_true c51, eq_false c61, not_true_eq_false, not_false_eq_true, and_true, true_and, and_false, false_and, or_true, true_or, or_false, false_or, and_self, or_self, Decidable.not_not, if_true, if_false, reduceIte, reduceCtorEq, ne_eq, eq_self, Int32.lt_irrefl, Int32.le_refl, Nat.lt_irrefl])
                    have hl : lv_has ls 4 [(3, .int (nI (i46 + 1))), (2, .int (zf_lits ((zf_tks n A B t).1) (i46 + 1))), (0, .ref (d 0)), (1, .int (nI t))] := by
                      first | (rw [← eL2]; exact hl) | (simp only [← eL2]; exact hl)
                    exact ih46 (i46 + 1) (by omega) (by omega) _ _ ls hW (lv_sub hl [0, 1, 2, 3] rfl)
            have hl : lv_has ls 4 [(3, .int (nI 0)), (2, .int (zf_lits ((zf_tks n A B t).1) 0)), (0, .ref (d 0)), (1, .int (nI t))] := hl
            have hW : ze_W D (ze_wR c d n ((zf_tks n A B t).1) (zf_tks n A B t).2 (zf_CI n A) 0) F s.heap _ _ := hW
            exact L46 _ 0 (by omega) (Nat.lt_succ_self _) _ _ ls hW (lv_sub hl [0, 1, 2, 3] rfl)
          · have c29 : i27 < t := Nat.lt_of_not_le (fun h9 => c29 ((nI_leI (a := t) (b := i27) (by omega) (by omega)).mpr h9))
            refine lv_aload_n hX_ hB_ dX9_pass_32 rfl (lv_at hl 1 rfl) ?_
            refine ze_Vv (As := []) (rest := []) (ci := 9) (q0 := 0) (k := (RX9, TX9, 39)) S (zr_ticks l D c d n ((zf_tks n A B i27).1) ((zf_tks n A B i27).2) (zf_tkm n A mk i27) 0  hN hS2 (zf_tkmz hN hS hz i27) (zf_tkschr hC i27)) (cwV 0 hts gX9_pass_X9_ticks rfl rfl rfl (by decide +kernel) ⟨Nat.le_of_ble_eq_true rfl, Nat.le_of_ble_eq_true rfl⟩) hK hW hA rfl rfl rfl hl.1 rfl (lv_room (Nat.le_of_ble_eq_true rfl)) dX9_pass_33 ⟨Nat.le_of_ble_eq_true rfl, Nat.le_of_ble_eq_true rfl⟩ (fun H locs hW => ?_)
            have hW : ze_W D (ze_wR c d n (zf_tk n ((zf_tks n A B i27).1) ((zf_tks n A B i27).2)).1 (zf_tk n ((zf_tks n A B i27).1) ((zf_tks n A B i27).2)).2 (zf_CI n ((zf_tks n A B i27).1)) 0) F s.heap _ _ := hW
            refine lv_iinc (v := nI (i27 + 1)) (lv' := [(2, .int (nI (i27 + 1))), (0, .ref (d 0)), (1, .int (nI t))]) hX_ hB_ dX9_pass_36 hl (k := 0) rfl (ze_inc _) (by decide) rfl (fun ls hl => ?_)
            refine lv_goto (tgt := 27) hX_ hB_ dX9_pass_39 (by decide) ?_
            have eW : (ze_wR c d n (zf_tk n ((zf_tks n A B i27).1) ((zf_tks n A B i27).2)).1 (zf_tk n ((zf_tks n A B i27).1) ((zf_tks n A B i27).2)).2 (zf_CI n ((zf_tks n A B i27).1)) 0) = (ze_wR c d n ((zf_tks n A B (i27 + 1)).1) (zf_tks n A B (i27 + 1)).2 (zf_tkm n A mk (i27 + 1)) 0) := (by rw [zf_tksCI]; rfl)
            rw [eW] at hW
            exact ih27 (i27 + 1) (by omega) (by omega) _ _ ls hW (lv_sub hl [0, 1, 2] rfl)
      have hl : lv_has ls 4 [(2, .int (nI 0)), (0, .ref (d 0)), (1, .int (nI t))] := hl
      have hW : ze_W D (ze_wR c d n ((zf_tks n A B 0).1) (zf_tks n A B 0).2 (zf_tkm n A mk 0) 0) F s.heap _ _ := hW
      exact L27 _ 0 (by omega) (Nat.lt_succ_self _) _ _ ls hW (lv_sub hl [0, 1, 2] rfl)
    · exact absurd c20 (by decide)
  · have c8 : ¬ (zf_isIn (nI t) 1 12) := ze_bf c8
    exact absurd hin c8
set_option maxHeartbeats 4000000 in
set_option maxRecDepth 100000 in
theorem zr_litShare_t1 (l : Launch) (D : va_G) (c : Nat → ClassId) (d n : Nat → Nat) (A : Nat → Nat → Int32) (B : Nat → Int64) (mk : Nat → Int32) (th : Int32) (hN : zf_N n) (h : n 4 = 0) : ze_F l yX9_litShare wsX9_litShare 1 22 0 0 D c (ze_wR c d n A B mk th) [.ref (d 0)] 0 (ze_wR c d n A B mk 1) := by
  intro sz
  refine ze_start (cc := cX9_litShare) (maxL := 3) (ret := (some .float)) (own := RX9) (by decide) rfl rfl (Nat.le_of_ble_eq_true rfl) ?_
  obtain ⟨hn0, hn1, hn2, hn3, hn4⟩ := id hN
  intro p e s m_ below meth cd F ls hF hsz E0
  obtain ⟨S, hr, hlocks, hK, hW, hA, hl⟩ := E0
  have hX_ := S.1
  have hB_ := S.2.1
  have hts := S.2.2.2.2
  have hl : lv_has ls 3 [(0, .ref (d 0))] := hl
  have hiX9 : ∀ w ∈ u_ws RX9 TX9 39, w ∈ wsX9_litShare := fun _ h => (List.mem_cons_of_mem _ (List.mem_append_right _ h))
  have w0 := hts (.fieldLink RX9 108 "IslandgridModel" "loads" "I") (List.mem_cons_of_mem _ (List.mem_append_left _ (List.mem_of_getElem? (i := 0) rfl)))
  have w1 := hts (.fieldLink RX9 26 "IslandgridModel" "isDark" "[Z") (List.mem_cons_of_mem _ (List.mem_append_left _ (List.mem_of_getElem? (i := 1) rfl)))
  refine lv_iconst (v := 0) hX_ hB_ dX9_litShare_0 (by decide) ?_
  refine lv_istore_n (lv' := [(1, .int 0), (0, .ref (d 0))]) hX_ hB_ dX9_litShare_1 rfl hl (by decide) rfl (fun ls hl => ?_)
  refine lv_iconst (v := 0) hX_ hB_ dX9_litShare_2 (by decide) ?_
  refine lv_istore_n (lv' := [(2, .int 0), (1, .int 0), (0, .ref (d 0))]) hX_ hB_ dX9_litShare_3 rfl hl (by decide) rfl (fun ls hl => ?_)
  have L4 : ∀ (k4 : Nat) (i4 : Nat), (i4 ≤ n 4) → (n 4 - i4) < k4 → ∀ (H : Heap) (locs : List Loc) (ls : Array Slot), ze_W D (ze_wR c d n A B mk th) F s.heap H locs → lv_has ls 3 [(2, .int (nI i4)), (1, .int (zf_lits A i4)), (0, .ref (d 0))] → W p l e { frames := 1, cells := 0, slots := 0, locals := 22 } s m_ ([.ref (d 0)] : List Value).toArray below meth cd H locs 0 0 (MQ below (ze_Qf D c (ze_wR c d n A B mk th) sz 0 (ze_wR c d n A B mk 1)) ([.ref (d 0)] : List Value).toArray s 0 0 F) (F0 m_ 4 ls []) := by
    intro k4
    induction k4 with
    | zero =>
      intro i4 h4 hk4
      exact absurd hk4 (Nat.not_lt_zero _)
    | succ k4 ih4 =>
      intro i4 h4 hk4 H locs ls hW hl
      refine lv_iload_n hX_ hB_ dX9_litShare_4 rfl (lv_at hl 0 rfl) ?_
      refine lv_aload_n hX_ hB_ dX9_litShare_5 rfl (lv_at hl 2 rfl) ?_
      refine ze_get (ci := 9) (C := RX9) (T := TX9) (N := 39) (v := .int (nI (n 4))) S hiX9 hK hW 0 rfl rfl 27 (by decide) rfl w0 dX9_litShare_6 ?_
      refine lv_icmp_ge (tgt := 35) hX_ hB_ dX9_litShare_9 (by decide) (fun c9 => ?_) (fun c9 => ?_)
      · have c9 : ¬ i4 < (n 4) := Nat.not_lt.mpr ((nI_leI (a := (n 4)) (b := i4) (by omega) (by omega)).mp c9)
        have e4 : i4 = n 4 := by omega
        subst e4
        refine lv_aload_n hX_ hB_ dX9_litShare_35 rfl (lv_at hl 2 rfl) ?_
        refine lv_aload_n hX_ hB_ dX9_litShare_36 rfl (lv_at hl 2 rfl) ?_
        refine ze_get (ci := 9) (C := RX9) (T := TX9) (N := 39) (v := .int (nI (n 4))) S hiX9 hK hW 0 rfl rfl 27 (by decide) rfl w0 dX9_litShare_37 ?_
        refine lv_if_ne (tgt := 47) hX_ hB_ dX9_litShare_40 (by decide) (fun c40 => ?_) (fun c40 => ?_)
        · have c40 : ¬ (n 4) = 0 := fun h9 => c40 ((nI_eq (a := (n 4)) (b := 0) (by omega) (by omega)).mpr h9)
          exact absurd h c40
        · have c40 : (n 4) = 0 := (nI_eq (a := (n 4)) (b := 0) (by omega) (by omega)).mp c40
          refine lv_iconst (v := 1) hX_ hB_ dX9_litShare_43 (by decide) ?_
          refine lv_goto (tgt := 48) hX_ hB_ dX9_litShare_44 (by decide) ?_
          refine lv_iconst (v := 1) hX_ hB_ dX9_litShare_48 (by decide) ?_
          refine ze_Vi (As := [.int 1, .int 1]) (rest := []) (ci := 9) (q0 := 0) (k := (RX9, TX9, 39)) S (zr_isThrown l D c d n A B mk th 1 1 1 rfl (if_neg (by decide))) (cwV 2 hts gX9_litShare_X9_isThrown rfl rfl rfl (by decide +kernel) ⟨Nat.le_of_ble_eq_true rfl, Nat.le_of_ble_eq_true rfl⟩) hK hW hA rfl rfl rfl hl.1 rfl (lv_room (Nat.le_of_ble_eq_true rfl)) dX9_litShare_49 ⟨Nat.le_of_ble_eq_true rfl, Nat.le_of_ble_eq_true rfl⟩ (fun H locs hW => ?_)
          have hW : ze_W D (ze_wR c d n A B mk 1) F s.heap _ _ := hW
          refine lv_if_eq (tgt := 59) hX_ hB_ dX9_litShare_52 (by decide) (fun c52 => ?_) (fun c52 => ?_)
          · exact absurd c52 (by decide)
          · refine lv_fconst0 hX_ hB_ dX9_litShare_55 ?_
            refine lv_goto (tgt := 67) hX_ hB_ dX9_litShare_56 (by decide) ?_
            exact ze_fret S hr hlocks hF hK hW dX9_litShare_67 (Nat.le_of_ble_eq_true rfl) (Nat.le_of_ble_eq_true rfl) rfl rfl
      · have c9 : i4 < (n 4) := Nat.lt_of_not_le (fun h9 => c9 ((nI_leI (a := (n 4)) (b := i4) (by omega) (by omega)).mpr h9))
        refine lv_iload_n hX_ hB_ dX9_litShare_12 rfl (lv_at hl 1 rfl) ?_
        refine lv_aload_n hX_ hB_ dX9_litShare_13 rfl (lv_at hl 2 rfl) ?_
        refine ze_get (ci := 9) (C := RX9) (T := TX9) (N := 39) (v := .ref (d 6)) S hiX9 hK hW 0 rfl rfl 5 (by decide) rfl w1 dX9_litShare_14 ?_
        refine lv_iload_n hX_ hB_ dX9_litShare_17 rfl (lv_at hl 0 rfl) ?_
        refine ze_zaldN hX_ hB_ hK hW 6 (f := A 5) rfl (i := i4) (by omega) (by decide) dX9_litShare_18 ?_
        refine lv_if_eq (tgt := 26) hX_ hB_ dX9_litShare_19 (by decide) (fun c19 => ?_) (fun c19 => ?_)
        · refine lv_iconst (v := 1) hX_ hB_ dX9_litShare_26 (by decide) ?_
          refine lv_iadd hX_ hB_ dX9_litShare_27 ?_
          refine lv_istore_n (lv' := [(1, .int (zf_lits A i4 + 1)), (2, .int (nI i4)), (0, .ref (d 0))]) hX_ hB_ dX9_litShare_28 rfl hl (by decide) rfl (fun ls hl => ?_)
          refine lv_iinc (v := nI (i4 + 1)) (lv' := [(2, .int (nI (i4 + 1))), (1, .int (zf_lits A i4 + 1)), (0, .ref (d 0))]) hX_ hB_ dX9_litShare_29 hl (k := 1) rfl (ze_inc _) (by decide) rfl (fun ls hl => ?_)
          refine lv_goto (tgt := 4) hX_ hB_ dX9_litShare_32 (by decide) ?_
          have eL1 : zf_lits A i4 + 1 = zf_lits A (i4 + 1) := (by simp only [ze_b, zf_lits, ze_sum, eq_true h, eq_true c9, eq_true c19, not_true_eq_false, not_false_eq_true, and_true, true_and, and_false, false_and, or_true, true_or, or_false, false_or, and_self, or_self, Decidable.not_not, if_true, if_false, reduceIte, reduceCtorEq, ne_eq, eq_self, Int32.lt_irrefl, Int32.le_refl, Nat.lt_irrefl])
          have hl : lv_has ls 3 [(2, .int (nI (i4 + 1))), (1, .int (zf_lits A (i4 + 1))), (0, .ref (d 0))] := by
            first | (rw [← eL1]; exact hl) | (simp only [← eL1]; exact hl)
          exact ih4 (i4 + 1) (by omega) (by omega) _ _ ls hW (lv_sub hl [0, 1, 2] rfl)
        · refine lv_iconst (v := 0) hX_ hB_ dX9_litShare_22 (by decide) ?_
          refine lv_goto (tgt := 27) hX_ hB_ dX9_litShare_23 (by decide) ?_
          refine lv_iadd hX_ hB_ dX9_litShare_27 ?_
          refine lv_istore_n (lv' := [(1, .int (zf_lits A i4 + 0)), (2, .int (nI i4)), (0, .ref (d 0))]) hX_ hB_ dX9_litShare_28 rfl hl (by decide) rfl (fun ls hl => ?_)
          refine lv_iinc (v := nI (i4 + 1)) (lv' := [(2, .int (nI (i4 + 1))), (1, .int (zf_lits A i4 + 0)), (0, .ref (d 0))]) hX_ hB_ dX9_litShare_29 hl (k := 1) rfl (ze_inc _) (by decide) rfl (fun ls hl => ?_)
          refine lv_goto (tgt := 4) hX_ hB_ dX9_litShare_32 (by decide) ?_
          have eL1 : zf_lits A i4 + 0 = zf_lits A (i4 + 1) := (by simp only [ze_b, zf_lits, ze_sum, eq_true h, eq_true c9, eq_false c19, not_true_eq_false, not_false_eq_true, and_true, true_and, and_false, false_and, or_true, true_or, or_false, false_or, and_self, or_self, Decidable.not_not, if_true, if_false, reduceIte, reduceCtorEq, ne_eq, eq_self, Int32.lt_irrefl, Int32.le_refl, Nat.lt_irrefl])
          have hl : lv_has ls 3 [(2, .int (nI (i4 + 1))), (1, .int (zf_lits A (i4 + 1))), (0, .ref (d 0))] := by
            first | (rw [← eL1]; exact hl) | (simp only [← eL1]; exact hl)
          exact ih4 (i4 + 1) (by omega) (by omega) _ _ ls hW (lv_sub hl [0, 1, 2] rfl)
  have hl : lv_has ls 3 [(2, .int (nI 0)), (1, .int (zf_lits A 0)), (0, .ref (d 0))] := hl
  have hW : ze_W D (ze_wR c d n A B mk th) F s.heap _ _ := hW
  exact L4 _ 0 (by omega) (Nat.lt_succ_self _) _ _ ls hW (lv_sub hl [0, 1, 2] rfl)
set_option maxHeartbeats 4000000 in
set_option maxRecDepth 100000 in
theorem zr_litShare_f (l : Launch) (D : va_G) (c : Nat → ClassId) (d n : Nat → Nat) (A : Nat → Nat → Int32) (B : Nat → Int64) (mk : Nat → Int32) (th : Int32) (hN : zf_N n) (h : ¬ n 4 = 0) : ze_F l yX9_litShare wsX9_litShare 1 22 0 0 D c (ze_wR c d n A B mk th) [.ref (d 0)] (FP.fdiv (FP.i2f (zf_lits A (n 4))) (FP.i2f (nI (n 4)))) (ze_wR c d n A B mk 0) := by
  intro sz
  refine ze_start (cc := cX9_litShare) (maxL := 3) (ret := (some .float)) (own := RX9) (by decide) rfl rfl (Nat.le_of_ble_eq_true rfl) ?_
  obtain ⟨hn0, hn1, hn2, hn3, hn4⟩ := id hN
  intro p e s m_ below meth cd F ls hF hsz E0
  obtain ⟨S, hr, hlocks, hK, hW, hA, hl⟩ := E0
  have hX_ := S.1
  have hB_ := S.2.1
  have hts := S.2.2.2.2
  have hl : lv_has ls 3 [(0, .ref (d 0))] := hl
  have hiX9 : ∀ w ∈ u_ws RX9 TX9 39, w ∈ wsX9_litShare := fun _ h => (List.mem_cons_of_mem _ (List.mem_append_right _ h))
  have w0 := hts (.fieldLink RX9 108 "IslandgridModel" "loads" "I") (List.mem_cons_of_mem _ (List.mem_append_left _ (List.mem_of_getElem? (i := 0) rfl)))
  have w1 := hts (.fieldLink RX9 26 "IslandgridModel" "isDark" "[Z") (List.mem_cons_of_mem _ (List.mem_append_left _ (List.mem_of_getElem? (i := 1) rfl)))
  refine lv_iconst (v := 0) hX_ hB_ dX9_litShare_0 (by decide) ?_
  refine lv_istore_n (lv' := [(1, .int 0), (0, .ref (d 0))]) hX_ hB_ dX9_litShare_1 rfl hl (by decide) rfl (fun ls hl => ?_)
  refine lv_iconst (v := 0) hX_ hB_ dX9_litShare_2 (by decide) ?_
  refine lv_istore_n (lv' := [(2, .int 0), (1, .int 0), (0, .ref (d 0))]) hX_ hB_ dX9_litShare_3 rfl hl (by decide) rfl (fun ls hl => ?_)
  have L4 : ∀ (k4 : Nat) (i4 : Nat), (i4 ≤ n 4) → (n 4 - i4) < k4 → ∀ (H : Heap) (locs : List Loc) (ls : Array Slot), ze_W D (ze_wR c d n A B mk th) F s.heap H locs → lv_has ls 3 [(2, .int (nI i4)), (1, .int (zf_lits A i4)), (0, .ref (d 0))] → W p l e { frames := 1, cells := 0, slots := 0, locals := 22 } s m_ ([.ref (d 0)] : List Value).toArray below meth cd H locs 0 0 (MQ below (ze_Qf D c (ze_wR c d n A B mk th) sz (FP.fdiv (FP.i2f (zf_lits A (n 4))) (FP.i2f (nI (n 4)))) (ze_wR c d n A B mk 0)) ([.ref (d 0)] : List Value).toArray s 0 0 F) (F0 m_ 4 ls []) := by
    intro k4
    induction k4 with
    | zero =>
      intro i4 h4 hk4
      exact absurd hk4 (Nat.not_lt_zero _)
    | succ k4 ih4 =>
      intro i4 h4 hk4 H locs ls hW hl
      refine lv_iload_n hX_ hB_ dX9_litShare_4 rfl (lv_at hl 0 rfl) ?_
      refine lv_aload_n hX_ hB_ dX9_litShare_5 rfl (lv_at hl 2 rfl) ?_
      refine ze_get (ci := 9) (C := RX9) (T := TX9) (N := 39) (v := .int (nI (n 4))) S hiX9 hK hW 0 rfl rfl 27 (by decide) rfl w0 dX9_litShare_6 ?_
      refine lv_icmp_ge (tgt := 35) hX_ hB_ dX9_litShare_9 (by decide) (fun c9 => ?_) (fun c9 => ?_)
      · have c9 : ¬ i4 < (n 4) := Nat.not_lt.mpr ((nI_leI (a := (n 4)) (b := i4) (by omega) (by omega)).mp c9)
        have e4 : i4 = n 4 := by omega
        subst e4
        refine lv_aload_n hX_ hB_ dX9_litShare_35 rfl (lv_at hl 2 rfl) ?_
        refine lv_aload_n hX_ hB_ dX9_litShare_36 rfl (lv_at hl 2 rfl) ?_
        refine ze_get (ci := 9) (C := RX9) (T := TX9) (N := 39) (v := .int (nI (n 4))) S hiX9 hK hW 0 rfl rfl 27 (by decide) rfl w0 dX9_litShare_37 ?_
        refine lv_if_ne (tgt := 47) hX_ hB_ dX9_litShare_40 (by decide) (fun c40 => ?_) (fun c40 => ?_)
        · have c40 : ¬ (n 4) = 0 := fun h9 => c40 ((nI_eq (a := (n 4)) (b := 0) (by omega) (by omega)).mpr h9)
          refine lv_iconst (v := 0) hX_ hB_ dX9_litShare_47 (by decide) ?_
          refine lv_iconst (v := 1) hX_ hB_ dX9_litShare_48 (by decide) ?_
          refine ze_Vi (As := [.int 0, .int 1]) (rest := []) (ci := 9) (q0 := 0) (k := (RX9, TX9, 39)) S (zr_isThrown l D c d n A B mk th 0 1 0 rfl (if_pos rfl)) (cwV 2 hts gX9_litShare_X9_isThrown rfl rfl rfl (by decide +kernel) ⟨Nat.le_of_ble_eq_true rfl, Nat.le_of_ble_eq_true rfl⟩) hK hW hA rfl rfl rfl hl.1 rfl (lv_room (Nat.le_of_ble_eq_true rfl)) dX9_litShare_49 ⟨Nat.le_of_ble_eq_true rfl, Nat.le_of_ble_eq_true rfl⟩ (fun H locs hW => ?_)
          have hW : ze_W D (ze_wR c d n A B mk 0) F s.heap _ _ := hW
          refine lv_if_eq (tgt := 59) hX_ hB_ dX9_litShare_52 (by decide) (fun c52 => ?_) (fun c52 => ?_)
          · refine lv_iload_n hX_ hB_ dX9_litShare_59 rfl (lv_at hl 1 rfl) ?_
            refine lv_i2f hX_ hB_ dX9_litShare_60 ?_
            refine lv_aload_n hX_ hB_ dX9_litShare_61 rfl (lv_at hl 2 rfl) ?_
            refine ze_get (ci := 9) (C := RX9) (T := TX9) (N := 39) (v := .int (nI (n 4))) S hiX9 hK hW 0 rfl rfl 27 (by decide) rfl w0 dX9_litShare_62 ?_
            refine lv_i2f hX_ hB_ dX9_litShare_65 ?_
            refine lv_fdiv hX_ hB_ dX9_litShare_66 (zf_shN h hn4) ?_
            exact ze_fret S hr hlocks hF hK hW dX9_litShare_67 (Nat.le_of_ble_eq_true rfl) (Nat.le_of_ble_eq_true rfl) rfl rfl
          · exact absurd c52 (by decide)
        · have c40 : (n 4) = 0 := (nI_eq (a := (n 4)) (b := 0) (by omega) (by omega)).mp c40
          exact absurd c40 h
      · have c9 : i4 < (n 4) := Nat.lt_of_not_le (fun h9 => c9 ((nI_leI (a := (n 4)) (b := i4) (by omega) (by omega)).mpr h9))
        refine lv_iload_n hX_ hB_ dX9_litShare_12 rfl (lv_at hl 1 rfl) ?_
        refine lv_aload_n hX_ hB_ dX9_litShare_13 rfl (lv_at hl 2 rfl) ?_
        refine ze_get (ci := 9) (C := RX9) (T := TX9) (N := 39) (v := .ref (d 6)) S hiX9 hK hW 0 rfl rfl 5 (by decide) rfl w1 dX9_litShare_14 ?_
        refine lv_iload_n hX_ hB_ dX9_litShare_17 rfl (lv_at hl 0 rfl) ?_
        refine ze_zaldN hX_ hB_ hK hW 6 (f := A 5) rfl (i := i4) (by omega) (by decide) dX9_litShare_18 ?_
        refine lv_if_eq (tgt := 26) hX_ hB_ dX9_litShare_19 (by decide) (fun c19 => ?_) (fun c19 => ?_)
        · refine lv_iconst (v := 1) hX_ hB_ dX9_litShare_26 (by decide) ?_
          refine lv_iadd hX_ hB_ dX9_litShare_27 ?_
          refine lv_istore_n (lv' := [(1, .int (zf_lits A i4 + 1)), (2, .int (nI i4)), (0, .ref (d 0))]) hX_ hB_ dX9_litShare_28 rfl hl (by decide) rfl (fun ls hl => ?_)
          refine lv_iinc (v := nI (i4 + 1)) (lv' := [(2, .int (nI (i4 + 1))), (1, .int (zf_lits A i4 + 1)), (0, .ref (d 0))]) hX_ hB_ dX9_litShare_29 hl (k := 1) rfl (ze_inc _) (by decide) rfl (fun ls hl => ?_)
          refine lv_goto (tgt := 4) hX_ hB_ dX9_litShare_32 (by decide) ?_
          have eL1 : zf_lits A i4 + 1 = zf_lits A (i4 + 1) := (by simp only [ze_b, zf_lits, ze_sum, eq_false h, eq_true c9, eq_true c19, not_true_eq_false, not_false_eq_true, and_true, true_and, and_false, false_and, or_true, true_or, or_false, false_or, and_self, or_self, Decidable.not_not, if_true, if_false, reduceIte, reduceCtorEq, ne_eq, eq_self, Int32.lt_irrefl, Int32.le_refl, Nat.lt_irrefl])
          have hl : lv_has ls 3 [(2, .int (nI (i4 + 1))), (1, .int (zf_lits A (i4 + 1))), (0, .ref (d 0))] := by
            first | (rw [← eL1]; exact hl) | (simp only [← eL1]; exact hl)
          exact ih4 (i4 + 1) (by omega) (by omega) _ _ ls hW (lv_sub hl [0, 1, 2] rfl)
        · refine lv_iconst (v := 0) hX_ hB_ dX9_litShare_22 (by decide) ?_
          refine lv_goto (tgt := 27) hX_ hB_ dX9_litShare_23 (by decide) ?_
          refine lv_iadd hX_ hB_ dX9_litShare_27 ?_
          refine lv_istore_n (lv' := [(1, .int (zf_lits A i4 + 0)), (2, .int (nI i4)), (0, .ref (d 0))]) hX_ hB_ dX9_litShare_28 rfl hl (by decide) rfl (fun ls hl => ?_)
          refine lv_iinc (v := nI (i4 + 1)) (lv' := [(2, .int (nI (i4 + 1))), (1, .int (zf_lits A i4 + 0)), (0, .ref (d 0))]) hX_ hB_ dX9_litShare_29 hl (k := 1) rfl (ze_inc _) (by decide) rfl (fun ls hl => ?_)
          refine lv_goto (tgt := 4) hX_ hB_ dX9_litShare_32 (by decide) ?_
          have eL1 : zf_lits A i4 + 0 = zf_lits A (i4 + 1) := (by simp only [ze_b, zf_lits, ze_sum, eq_false h, eq_true c9, eq_false c19, not_true_eq_false, not_false_eq_true, and_true, true_and, and_false, false_and, or_true, true_or, or_false, false_or, and_self, or_self, Decidable.not_not, if_true, if_false, reduceIte, reduceCtorEq, ne_eq, eq_self, Int32.lt_irrefl, Int32.le_refl, Nat.lt_irrefl])
          have hl : lv_has ls 3 [(2, .int (nI (i4 + 1))), (1, .int (zf_lits A (i4 + 1))), (0, .ref (d 0))] := by
            first | (rw [← eL1]; exact hl) | (simp only [← eL1]; exact hl)
          exact ih4 (i4 + 1) (by omega) (by omega) _ _ ls hW (lv_sub hl [0, 1, 2] rfl)
  have hl : lv_has ls 3 [(2, .int (nI 0)), (1, .int (zf_lits A 0)), (0, .ref (d 0))] := hl
  have hW : ze_W D (ze_wR c d n A B mk th) F s.heap _ _ := hW
  exact L4 _ 0 (by omega) (Nat.lt_succ_self _) _ _ ls hW (lv_sub hl [0, 1, 2] rfl)
