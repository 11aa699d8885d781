set_option maxHeartbeats 4000000 in
set_option maxRecDepth 100000 in
theorem zc_5_countIslands (l : Launch) (D : va_G) (c : Nat → ClassId) (a n : Nat → Nat) (A : Nat → Nat → Int32) (B : Nat → Int64) (E : Nat → Nat → Int32) (hN : zf_N n) : ze_I l yX5_countIslands wsX5_countIslands 0 0 0 0 D c (ze_wC c a n A B E) [.ref (a 1)] (zf_many (E 0) (n 0)) (ze_wC c a n A B E) := by
  intro sz
  refine ze_start (cc := cX5_countIslands) (maxL := 3) (ret := (some .int)) (own := RX5) (by decide) rfl rfl (Nat.le_of_ble_eq_true rfl) ?_
  obtain ⟨hn0, hn1, hn2, hn3, hn4⟩ := id hN
  intro p e s m_ below meth cd F ls hF hsz E0
  obtain ⟨S, hr, hlocks, hK, hW, hA, hl⟩ := E0
  have hX_ := S.1
  have hB_ := S.2.1
  have hts := S.2.2.2.2
  have hl : lv_has ls 3 [(0, .ref (a 1))] := hl
  have hiX5 : ∀ w ∈ u_ws RX5 TX5 10, w ∈ wsX5_countIslands := fun _ h => (List.mem_cons_of_mem _ (List.mem_append_right _ h))
  have w0 := hts (.fieldLink RX5 34 "Islandgrid$Network" "siteCount" "I") (List.mem_cons_of_mem _ (List.mem_append_left _ (List.mem_of_getElem? (i := 0) rfl)))
  have w1 := hts (.fieldLink RX5 15 "Islandgrid$Network" "islandOf" "[I") (List.mem_cons_of_mem _ (List.mem_append_left _ (List.mem_of_getElem? (i := 1) rfl)))
  refine lv_iconst (v := 0) hX_ hB_ dX5_countIslands_0 (by decide) ?_
  refine lv_istore_n (lv' := [(1, .int 0), (0, .ref (a 1))]) hX_ hB_ dX5_countIslands_1 rfl hl (by decide) rfl (fun ls hl => ?_)
  refine lv_iconst (v := 0) hX_ hB_ dX5_countIslands_2 (by decide) ?_
  refine lv_istore_n (lv' := [(2, .int 0), (1, .int 0), (0, .ref (a 1))]) hX_ hB_ dX5_countIslands_3 rfl hl (by decide) rfl (fun ls hl => ?_)
  have L4 : ∀ (k4 : Nat) (i4 : Nat), (i4 ≤ n 0) → (n 0 - i4) < k4 → ∀ (H : Heap) (locs : List Loc) (ls : Array Slot), ze_W D (ze_wC c a n A B E) F s.heap H locs → lv_has ls 3 [(2, .int (nI i4)), (1, .int (zf_many (E 0) i4)), (0, .ref (a 1))] → W p l e { frames := 0, cells := 0, slots := 0, locals := 0 } s m_ ([.ref (a 1)] : List Value).toArray below meth cd H locs 0 0 (MQ below (ze_Qi D c (ze_wC c a n A B E) sz (zf_many (E 0) (n 0)) (ze_wC c a n A B E)) ([.ref (a 1)] : List Value).toArray s 0 0 F) (F0 m_ 4 ls []) := by
    intro k4
    induction k4 with
    | zero =>
      intro i4 h4 hk4
      exact absurd hk4 (Nat.not_lt_zero _)
    | succ k4 ih4 =>
      intro i4 h4 hk4 H locs ls hW hl
      refine lv_iload_n hX_ hB_ dX5_countIslands_4 rfl (lv_at hl 0 rfl) ?_
      refine lv_aload_n hX_ hB_ dX5_countIslands_5 rfl (lv_at hl 2 rfl) ?_
      refine ze_get (ci := 5) (C := RX5) (T := TX5) (N := 10) (v := .int (nI (n 0))) S hiX5 hK hW 1 (ze_at0 1 rfl) rfl 0 (by decide) rfl w0 dX5_countIslands_6 ?_
      refine lv_icmp_ge (tgt := 31) hX_ hB_ dX5_countIslands_9 (by decide) (fun c9 => ?_) (fun c9 => ?_)
      · have c9 : ¬ i4 < (n 0) := Nat.not_lt.mpr ((nI_leI (a := (n 0)) (b := i4) (by omega) (by omega)).mp c9)
        have e4 : i4 = n 0 := by omega
        subst e4
        refine lv_iload_n hX_ hB_ dX5_countIslands_31 rfl (lv_at hl 1 rfl) ?_
        exact ze_iret S hr hlocks hF hK hW rfl dX5_countIslands_32 (Nat.le_of_ble_eq_true rfl) (Nat.le_of_ble_eq_true rfl) rfl rfl
      · have c9 : i4 < (n 0) := Nat.lt_of_not_le (fun h9 => c9 ((nI_leI (a := (n 0)) (b := i4) (by omega) (by omega)).mpr h9))
        refine lv_aload_n hX_ hB_ dX5_countIslands_12 rfl (lv_at hl 2 rfl) ?_
        refine ze_get (ci := 5) (C := RX5) (T := TX5) (N := 10) (v := .ref (a 3)) S hiX5 hK hW 1 (ze_at0 1 rfl) rfl 4 (by decide) rfl w1 dX5_countIslands_13 ?_
        refine lv_iload_n hX_ hB_ dX5_countIslands_16 rfl (lv_at hl 0 rfl) ?_
        refine ze_ialdN hX_ hB_ hK hW 3 (f := E 0) (ze_at0 3 rfl) (i := i4) (by omega) (by decide) dX5_countIslands_17 ?_
        refine lv_iload_n hX_ hB_ dX5_countIslands_18 rfl (lv_at hl 0 rfl) ?_
        refine lv_icmp_ne (tgt := 25) hX_ hB_ dX5_countIslands_19 (by decide) (fun c19 => ?_) (fun c19 => ?_)
        · refine lv_iinc (v := nI (i4 + 1)) (lv' := [(2, .int (nI (i4 + 1))), (1, .int (zf_many (E 0) i4)), (0, .ref (a 1))]) hX_ hB_ dX5_countIslands_25 hl (k := 0) rfl (ze_inc _) (by decide) rfl (fun ls hl => ?_)
          refine lv_goto (tgt := 4) hX_ hB_ dX5_countIslands_28 (by decide) ?_
          have eL1 : zf_many (E 0) i4 = zf_many (E 0) (i4 + 1) := (by simp only [ze_b, zf_many, ze_sum, eq_true c9, eq_false c19, not_true_eq_false, not_false_eq_true, and_true, true_and, and_false, false_and, or_true, true_or, or_false, false_or, and_self, or_self, Decidable.not_not, if_true, if_false, reduceIte, reduceCtorEq, ne_eq, eq_self, Int32.lt_irrefl, Int32.le_refl, Nat.lt_irrefl, Int32.add_zero])
          have hl : lv_has ls 3 [(2, .int (nI (i4 + 1))), (1, .int (zf_many (E 0) (i4 + 1))), (0, .ref (a 1))] := by
            first | (rw [← eL1]; exact hl) | (simp only [← eL1]; exact hl)
          exact ih4 (i4 + 1) (by omega) (by omega) _ _ ls hW (lv_sub hl [0, 1, 2] rfl)
        · refine lv_iinc (v := zf_many (E 0) i4 + 1) (lv' := [(1, .int (zf_many (E 0) i4 + 1)), (2, .int (nI i4)), (0, .ref (a 1))]) hX_ hB_ dX5_countIslands_22 hl (k := 1) rfl rfl (by decide) rfl (fun ls hl => ?_)
          refine lv_iinc (v := nI (i4 + 1)) (lv' := [(2, .int (nI (i4 + 1))), (1, .int (zf_many (E 0) i4 + 1)), (0, .ref (a 1))]) hX_ hB_ dX5_countIslands_25 hl (k := 1) rfl (ze_inc _) (by decide) rfl (fun ls hl => ?_)
          refine lv_goto (tgt := 4) hX_ hB_ dX5_countIslands_28 (by decide) ?_
          have eL1 : zf_many (E 0) i4 + 1 = zf_many (E 0) (i4 + 1) := (by simp only [ze_b, zf_many, ze_sum, eq_true c9, eq_true c19, not_true_eq_false, not_false_eq_true, and_true, true_and, and_false, false_and, or_true, true_or, or_false, false_or, and_self, or_self, Decidable.not_not, if_true, if_false, reduceIte, reduceCtorEq, ne_eq, eq_self, Int32.lt_irrefl, Int32.le_refl, Nat.lt_irrefl, Int32.add_zero])
          have hl : lv_has ls 3 [(2, .int (nI (i4 + 1))), (1, .int (zf_many (E 0) (i4 + 1))), (0, .ref (a 1))] := by
            first | (rw [← eL1]; exact hl) | (simp only [← eL1]; exact hl)
          exact ih4 (i4 + 1) (by omega) (by omega) _ _ ls hW (lv_sub hl [0, 1, 2] rfl)
  have hl : lv_has ls 3 [(2, .int (nI 0)), (1, .int (zf_many (E 0) 0)), (0, .ref (a 1))] := hl
  have hW : ze_W D (ze_wC c a n A B E) F s.heap _ _ := hW
  exact L4 _ 0 (by omega) (Nat.lt_succ_self _) _ _ ls hW (lv_sub hl [0, 1, 2] rfl)
set_option maxHeartbeats 4000000 in
set_option maxRecDepth 100000 in
theorem zc_5_countSites (l : Launch) (D : va_G) (c : Nat → ClassId) (a n : Nat → Nat) (A : Nat → Nat → Int32) (B : Nat → Int64) (E : Nat → Nat → Int32) (m : Int32) (hN : zf_N n) : ze_I l yX5_countSites wsX5_countSites 0 0 0 0 D c (ze_wC c a n A B E) [.ref (a 1), .int m] (ze_sum 0 (fun s => if E 0 s = m then 1 else 0) (n 0)) (ze_wC c a n A B E) := by
  intro sz
  refine ze_start (cc := cX5_countSites) (maxL := 4) (ret := (some .int)) (own := RX5) (by decide) rfl rfl (Nat.le_of_ble_eq_true rfl) ?_
  obtain ⟨hn0, hn1, hn2, hn3, hn4⟩ := id hN
  intro p e s m_ below meth cd F ls hF hsz E0
  obtain ⟨S, hr, hlocks, hK, hW, hA, hl⟩ := E0
  have hX_ := S.1
  have hB_ := S.2.1
  have hts := S.2.2.2.2
  have hl : lv_has ls 4 [(0, .ref (a 1)), (1, .int m)] := hl
  have hiX5 : ∀ w ∈ u_ws RX5 TX5 10, w ∈ wsX5_countSites := fun _ h => (List.mem_cons_of_mem _ (List.mem_append_right _ h))
  have w0 := hts (.fieldLink RX5 34 "Islandgrid$Network" "siteCount" "I") (List.mem_cons_of_mem _ (List.mem_append_left _ (List.mem_of_getElem? (i := 0) rfl)))
  have w1 := hts (.fieldLink RX5 15 "Islandgrid$Network" "islandOf" "[I") (List.mem_cons_of_mem _ (List.mem_append_left _ (List.mem_of_getElem? (i := 1) rfl)))
  refine lv_iconst (v := 0) hX_ hB_ dX5_countSites_0 (by decide) ?_
  refine lv_istore_n (lv' := [(2, .int 0), (0, .ref (a 1)), (1, .int m)]) hX_ hB_ dX5_countSites_1 rfl hl (by decide) rfl (fun ls hl => ?_)
  refine lv_iconst (v := 0) hX_ hB_ dX5_countSites_2 (by decide) ?_
  refine lv_istore_n (lv' := [(3, .int 0), (2, .int 0), (0, .ref (a 1)), (1, .int m)]) hX_ hB_ dX5_countSites_3 rfl hl (by decide) rfl (fun ls hl => ?_)
  have L4 : ∀ (k4 : Nat) (i4 : Nat), (i4 ≤ n 0) → (n 0 - i4) < k4 → ∀ (H : Heap) (locs : List Loc) (ls : Array Slot), ze_W D (ze_wC c a n A B E) F s.heap H locs → lv_has ls 4 [(3, .int (nI i4)), (2, .int (ze_sum 0 (fun s => if E 0 s = m then 1 else 0) i4)), (0, .ref (a 1)), (1, .int m)] → W p l e { frames := 0, cells := 0, slots := 0, locals := 0 } s m_ ([.ref (a 1), .int m] : List Value).toArray below meth cd H locs 0 0 (MQ below (ze_Qi D c (ze_wC c a n A B E) sz (ze_sum 0 (fun s => if E 0 s = m then 1 else 0) (n 0)) (ze_wC c a n A B E)) ([.ref (a 1), .int m] : List Value).toArray s 0 0 F) (F0 m_ 4 ls []) := by
    intro k4
    induction k4 with
    | zero =>
      intro i4 h4 hk4
      exact absurd hk4 (Nat.not_lt_zero _)
    | succ k4 ih4 =>
      intro i4 h4 hk4 H locs ls hW hl
      refine lv_iload_n hX_ hB_ dX5_countSites_4 rfl (lv_at hl 0 rfl) ?_
      refine lv_aload_n hX_ hB_ dX5_countSites_5 rfl (lv_at hl 2 rfl) ?_
      refine ze_get (ci := 5) (C := RX5) (T := TX5) (N := 10) (v := .int (nI (n 0))) S hiX5 hK hW 1 (ze_at0 1 rfl) rfl 0 (by decide) rfl w0 dX5_countSites_6 ?_
      refine lv_icmp_ge (tgt := 31) hX_ hB_ dX5_countSites_9 (by decide) (fun c9 => ?_) (fun c9 => ?_)
      · have c9 : ¬ i4 < (n 0) := Nat.not_lt.mpr ((nI_leI (a := (n 0)) (b := i4) (by omega) (by omega)).mp c9)
        have e4 : i4 = n 0 := by omega
        subst e4
        refine lv_iload_n hX_ hB_ dX5_countSites_31 rfl (lv_at hl 1 rfl) ?_
        exact ze_iret S hr hlocks hF hK hW rfl dX5_countSites_32 (Nat.le_of_ble_eq_true rfl) (Nat.le_of_ble_eq_true rfl) rfl rfl
      · have c9 : i4 < (n 0) := Nat.lt_of_not_le (fun h9 => c9 ((nI_leI (a := (n 0)) (b := i4) (by omega) (by omega)).mpr h9))
        refine lv_aload_n hX_ hB_ dX5_countSites_12 rfl (lv_at hl 2 rfl) ?_
        refine ze_get (ci := 5) (C := RX5) (T := TX5) (N := 10) (v := .ref (a 3)) S hiX5 hK hW 1 (ze_at0 1 rfl) rfl 4 (by decide) rfl w1 dX5_countSites_13 ?_
        refine lv_iload_n hX_ hB_ dX5_countSites_16 rfl (lv_at hl 0 rfl) ?_
        refine ze_ialdN hX_ hB_ hK hW 3 (f := E 0) (ze_at0 3 rfl) (i := i4) (by omega) (by decide) dX5_countSites_17 ?_
        refine lv_iload_n hX_ hB_ dX5_countSites_18 rfl (lv_at hl 3 rfl) ?_
        refine lv_icmp_ne (tgt := 25) hX_ hB_ dX5_countSites_19 (by decide) (fun c19 => ?_) (fun c19 => ?_)
        · refine lv_iinc (v := nI (i4 + 1)) (lv' := [(3, .int (nI (i4 + 1))), (2, .int (ze_sum 0 (fun s => if E 0 s = m then 1 else 0) i4)), (0, .ref (a 1)), (1, .int m)]) hX_ hB_ dX5_countSites_25 hl (k := 0) rfl (ze_inc _) (by decide) rfl (fun ls hl => ?_)
          refine lv_goto (tgt := 4) hX_ hB_ dX5_countSites_28 (by decide) ?_
          have eL2 : ze_sum 0 (fun s => if E 0 s = m then 1 else 0) i4 = ze_sum 0 (fun s => if E 0 s = m then 1 else 0) (i4 + 1) := (by simp only [ze_b, ze_sum, ze_sum, eq_true c9, eq_false c19, not_true_eq_false, not_false_eq_true, and_true, true_and, and_false, false_and, or_true, true_or, or_false, false_or, and_self, or_self, Decidable.not_not, if_true, if_false, reduceIte, reduceCtorEq, ne_eq, eq_self, Int32.lt_irrefl, Int32.le_refl, Nat.lt_irrefl, Int32.add_zero])
          have hl : lv_has ls 4 [(3, .int (nI (i4 + 1))), (2, .int (ze_sum 0 (fun s => if E 0 s = m then 1 else 0) (i4 + 1))), (0, .ref (a 1)), (1, .int m)] := by
            first | (rw [← eL2]; exact hl) | (simp only [← eL2]; exact hl)
          exact ih4 (i4 + 1) (by omega) (by omega) _ _ ls hW (lv_sub hl [0, 1, 2, 3] rfl)
        · refine lv_iinc (v := ze_sum 0 (fun s => if E 0 s = m then 1 else 0) i4 + 1) (lv' := [(2, .int (ze_sum 0 (fun s => if E 0 s = m then 1 else 0) i4 + 1)), (3, .int (nI i4)), (0, .ref (a 1)), (1, .int m)]) hX_ hB_ dX5_countSites_22 hl (k := 1) rfl rfl (by decide) rfl (fun ls hl => ?_)
          refine lv_iinc (v := nI (i4 + 1)) (lv' := [(3, .int (nI (i4 + 1))), (2, .int (ze_sum 0 (fun s => if E 0 s = m then 1 else 0) i4 + 1)), (0, .ref (a 1)), (1, .int m)]) hX_ hB_ dX5_countSites_25 hl (k := 1) rfl (ze_inc _) (by decide) rfl (fun ls hl => ?_)
          refine lv_goto (tgt := 4) hX_ hB_ dX5_countSites_28 (by decide) ?_
          have eL2 : ze_sum 0 (fun s => if E 0 s = m then 1 else 0) i4 + 1 = ze_sum 0 (fun s => if E 0 s = m then 1 else 0) (i4 + 1) := (by simp only [ze_b, ze_sum, ze_sum, eq_true c9, eq_true c19, not_true_eq_false, not_false_eq_true, and_true, true_and, and_false, false_and, or_true, true_or, or_false, false_or, and_self, or_self, Decidable.not_not, if_true, if_false, reduceIte, reduceCtorEq, ne_eq, eq_self, Int32.lt_irrefl, Int32.le_refl, Nat.lt_irrefl, Int32.add_zero])
          have hl : lv_has ls 4 [(3, .int (nI (i4 + 1))), (2, .int (ze_sum 0 (fun s => if E 0 s = m then 1 else 0) (i4 + 1))), (0, .ref (a 1)), (1, .int m)] := by
            first | (rw [← eL2]; exact hl) | (simp only [← eL2]; exact hl)
          exact ih4 (i4 + 1) (by omega) (by omega) _ _ ls hW (lv_sub hl [0, 1, 2, 3] rfl)
  have hl : lv_has ls 4 [(3, .int (nI 0)), (2, .int (ze_sum 0 (fun s => if E 0 s = m then 1 else 0) 0)), (0, .ref (a 1)), (1, .int m)] := hl
  have hW : ze_W D (ze_wC c a n A B E) F s.heap _ _ := hW
  exact L4 _ 0 (by omega) (Nat.lt_succ_self _) _ _ ls hW (lv_sub hl [0, 1, 2, 3] rfl)
set_option maxHeartbeats 4000000 in
set_option maxRecDepth 100000 in
theorem zc_5_isTied (l : Launch) (D : va_G) (c : Nat → ClassId) (a n : Nat → Nat) (A : Nat → Nat → Int32) (B : Nat → Int64) (E : Nat → Nat → Int32) (m : Int32) : ze_I l yX5_isTied wsX5_isTied 0 0 0 0 D c (ze_wC c a n A B E) [.ref (a 1), .int m] (ze_b (zf_tied A m)) (ze_wC c a n A B E) := by
  intro sz
  refine ze_start (cc := cX5_isTied) (maxL := 2) (ret := (some .boolean)) (own := RX5) (by decide) rfl rfl (Nat.le_of_ble_eq_true rfl) ?_
  intro p e s m_ below meth cd F ls hF hsz E0
  obtain ⟨S, hr, hlocks, hK, hW, hA, hl⟩ := E0
  have hX_ := S.1
  have hB_ := S.2.1
  have hts := S.2.2.2.2
  have hl : lv_has ls 2 [(0, .ref (a 1)), (1, .int m)] := hl
  have hiX5 : ∀ w ∈ u_ws RX5 TX5 10, w ∈ wsX5_isTied := fun _ h => (List.mem_cons_of_mem _ (List.mem_append_right _ h))
  have w0 := hts (.fieldLink RX5 57 "Islandgrid$Network" "tied" "Z") (List.mem_cons_of_mem _ (List.mem_append_left _ (List.mem_of_getElem? (i := 0) rfl)))
  refine lv_aload_n hX_ hB_ dX5_isTied_0 rfl (lv_at hl 0 rfl) ?_
  refine ze_get (ci := 5) (C := RX5) (T := TX5) (N := 10) (v := .int (A 38 0)) S hiX5 hK hW 1 (ze_at0 1 rfl) rfl 2 (by decide) rfl w0 dX5_isTied_1 ?_
  refine lv_if_eq (tgt := 15) hX_ hB_ dX5_isTied_4 (by decide) (fun c4 => ?_) (fun c4 => ?_)
  · refine lv_iconst (v := 0) hX_ hB_ dX5_isTied_15 (by decide) ?_
    exact ze_iret S hr hlocks hF hK hW rfl dX5_isTied_16 (Nat.le_of_ble_eq_true rfl) (Nat.le_of_ble_eq_true rfl) (by simp only [ze_b, zf_tied, eq_true c4, not_true_eq_false, not_false_eq_true, and_true, true_and, and_false, false_and, or_true, true_or, or_false, false_or, and_self, or_self, Decidable.not_not, if_true, if_false, reduceIte, reduceCtorEq, ne_eq, eq_self, Int32.lt_irrefl, Int32.le_refl, Nat.lt_irrefl]) rfl
  · refine lv_iload_n hX_ hB_ dX5_isTied_7 rfl (lv_at hl 1 rfl) ?_
    refine lv_if_ne (tgt := 15) hX_ hB_ dX5_isTied_8 (by decide) (fun c8 => ?_) (fun c8 => ?_)
    · refine lv_iconst (v := 0) hX_ hB_ dX5_isTied_15 (by decide) ?_
      exact ze_iret S hr hlocks hF hK hW rfl dX5_isTied_16 (Nat.le_of_ble_eq_true rfl) (Nat.le_of_ble_eq_true rfl) (by simp only [ze_b, zf_tied, eq_false c4, eq_false c8, not_true_eq_false, not_false_eq_true, and_true, true_and, and_false, false_and, or_true, true_or, or_false, false_or, and_self, or_self, Decidable.not_not, if_true, if_false, reduceIte, reduceCtorEq, ne_eq, eq_self, Int32.lt_irrefl, Int32.le_refl, Nat.lt_irrefl]) rfl
    · refine lv_iconst (v := 1) hX_ hB_ dX5_isTied_11 (by decide) ?_
      refine lv_goto (tgt := 16) hX_ hB_ dX5_isTied_12 (by decide) ?_
      exact ze_iret S hr hlocks hF hK hW rfl dX5_isTied_16 (Nat.le_of_ble_eq_true rfl) (Nat.le_of_ble_eq_true rfl) (by simp only [ze_b, zf_tied, eq_false c4, eq_true c8, not_true_eq_false, not_false_eq_true, and_true, true_and, and_false, false_and, or_true, true_or, or_false, false_or, and_self, or_self, Decidable.not_not, if_true, if_false, reduceIte, reduceCtorEq, ne_eq, eq_self, Int32.lt_irrefl, Int32.le_refl, Nat.lt_irrefl]) rfl
set_option maxHeartbeats 4000000 in
set_option maxRecDepth 100000 in
theorem zc_5_phaseOf (l : Launch) (D : va_G) (c : Nat → ClassId) (a n : Nat → Nat) (A : Nat → Nat → Int32) (B : Nat → Int64) (E : Nat → Nat → Int32) (m : Int32) (hN : zf_N n) (hm : zf_site n m) : ze_I l yX5_phaseOf wsX5_phaseOf 1 21 0 0 D c (ze_wC c a n A B E) [.ref (a 1), .int m] (if zf_tied A m then 0 else A 0 (ze_ix m)) (ze_wC c a n A B E) := by
  intro sz
  refine ze_start (cc := cX5_phaseOf) (maxL := 2) (ret := (some .int)) (own := RX5) (by decide) rfl rfl (Nat.le_of_ble_eq_true rfl) ?_
  obtain ⟨hn0, hn1, hn2, hn3, hn4⟩ := id hN
  intro p e s m_ below meth cd F ls hF hsz E0
  obtain ⟨S, hr, hlocks, hK, hW, hA, hl⟩ := E0
  have hX_ := S.1
  have hB_ := S.2.1
  have hts := S.2.2.2.2
  have hl : lv_has ls 2 [(0, .ref (a 1)), (1, .int m)] := hl
  have hiX5 : ∀ w ∈ u_ws RX5 TX5 10, w ∈ wsX5_phaseOf := fun _ h => (List.mem_cons_of_mem _ (List.mem_append_right _ h))
  have w0 := hts (.fieldLink RX5 9 "Islandgrid$Network" "phases" "[I") (List.mem_cons_of_mem _ (List.mem_append_left _ (List.mem_of_getElem? (i := 0) rfl)))
  refine lv_aload_n hX_ hB_ dX5_phaseOf_0 rfl (lv_at hl 0 rfl) ?_
  refine lv_iload_n hX_ hB_ dX5_phaseOf_1 rfl (lv_at hl 1 rfl) ?_
  refine ze_Vi (As := [.int m]) (rest := []) (ci := 5) (q0 := 1) (k := (RX5, TX5, 10)) S (zc_5_isTied l D c a n A B E m) (cwV 1 hts gX5_phaseOf_X5_isTied rfl rfl rfl (by decide +kernel) ⟨Nat.le_of_ble_eq_true rfl, Nat.le_of_ble_eq_true rfl⟩) hK hW hA rfl (ze_at0 1 rfl) rfl hl.1 rfl (lv_room (Nat.le_of_ble_eq_true rfl)) dX5_phaseOf_2 ⟨Nat.le_of_ble_eq_true rfl, Nat.le_of_ble_eq_true rfl⟩ (fun H locs hW => ?_)
  refine lv_if_eq (tgt := 12) hX_ hB_ dX5_phaseOf_5 (by decide) (fun c5 => ?_) (fun c5 => ?_)
  · have c5 : ¬ (zf_tied A m) := ze_bf c5
    refine lv_aload_n hX_ hB_ dX5_phaseOf_12 rfl (lv_at hl 0 rfl) ?_
    refine ze_get (ci := 5) (C := RX5) (T := TX5) (N := 10) (v := .ref (a 2)) S hiX5 hK hW 1 (ze_at0 1 rfl) rfl 3 (by decide) rfl w0 dX5_phaseOf_13 ?_
    refine lv_iload_n hX_ hB_ dX5_phaseOf_16 rfl (lv_at hl 1 rfl) ?_
    refine ze_iald hX_ hB_ hK hW 2 (f := A 0) (ze_at0 2 rfl) (zf_in hN hm) dX5_phaseOf_17 ?_
    exact ze_iret S hr hlocks hF hK hW rfl dX5_phaseOf_18 (Nat.le_of_ble_eq_true rfl) (Nat.le_of_ble_eq_true rfl) (by simp only [ze_b, eq_false c5, not_true_eq_false, not_false_eq_true, and_true, true_and, and_false, false_and, or_true, true_or, or_false, false_or, and_self, or_self, Decidable.not_not, if_true, if_false, reduceIte, reduceCtorEq, ne_eq, eq_self, Int32.lt_irrefl, Int32.le_refl, Nat.lt_irrefl]) rfl
  · have c5 : zf_tied A m := ze_bt c5
    refine lv_iconst (v := 0) hX_ hB_ dX5_phaseOf_8 (by decide) ?_
    refine lv_goto (tgt := 18) hX_ hB_ dX5_phaseOf_9 (by decide) ?_
    exact ze_iret S hr hlocks hF hK hW rfl dX5_phaseOf_18 (Nat.le_of_ble_eq_true rfl) (Nat.le_of_ble_eq_true rfl) (by simp only [ze_b, eq_true c5, not_true_eq_false, not_false_eq_true, and_true, true_and, and_false, false_and, or_true, true_or, or_false, false_or, and_self, or_self, Decidable.not_not, if_true, if_false, reduceIte, reduceCtorEq, ne_eq, eq_self, Int32.lt_irrefl, Int32.le_refl, Nat.lt_irrefl]) rfl
set_option maxHeartbeats 4000000 in
set_option maxRecDepth 100000 in
theorem zc_X5_apart (l : Launch) (D : va_G) (c : Nat → ClassId) (ws : va_W) (x y : Int32) : ze_I l yX5_apart wsX5_apart 1 13 0 0 D c ws [.int x, .int y] (ze_mn (ze_ab (x - y)) (360 - ze_ab (x - y))) ws := by
  intro sz
  refine ze_start (cc := cX5_apart) (maxL := 3) (ret := (some .int)) (own := RX5) (by decide) rfl rfl (Nat.le_of_ble_eq_true rfl) ?_
  intro p e s m_ below meth cd F ls hF hsz E0
  obtain ⟨S, hr, hlocks, hK, hW, hA, hl⟩ := E0
  have hX_ := S.1
  have hB_ := S.2.1
  have hts := S.2.2.2.2
  have hl : lv_has ls 3 [(0, .int x), (1, .int y)] := hl
  have w0 := hts (.methodLink RX5 72 Lib.Math.abs.name) (List.mem_cons_of_mem _ (List.mem_of_getElem? (i := 0) rfl))
  have w1 := hts (.static Lib.Math.abs.name) (List.mem_cons_of_mem _ (List.mem_of_getElem? (i := 1) rfl))
  have w2 := hts (.initialized "java/lang/Math") (List.mem_cons_of_mem _ (List.mem_of_getElem? (i := 2) rfl))
  have w3 := hts (.code Lib.Math.abs.name Lib.Math.abs.code 1 (some .int)) (List.mem_cons_of_mem _ (List.mem_of_getElem? (i := 3) rfl))
  have w4 := hts (.methodLink RX5 52 Lib.Math.min.name) (List.mem_cons_of_mem _ (List.mem_of_getElem? (i := 4) rfl))
  have w5 := hts (.static Lib.Math.min.name) (List.mem_cons_of_mem _ (List.mem_of_getElem? (i := 5) rfl))
  have w6 := hts (.code Lib.Math.min.name Lib.Math.min.code 2 (some .int)) (List.mem_cons_of_mem _ (List.mem_of_getElem? (i := 6) rfl))
  refine lv_iload_n hX_ hB_ dX5_apart_0 rfl (lv_at hl 0 rfl) ?_
  refine lv_iload_n hX_ hB_ dX5_apart_1 rfl (lv_at hl 1 rfl) ?_
  refine lv_isub hX_ hB_ dX5_apart_2 ?_
  refine ze_abs S hl.1 w0 w1 w2 w3 ⟨Nat.le_of_ble_eq_true rfl, Nat.le_of_ble_eq_true rfl, Nat.le_of_ble_eq_true rfl, Nat.le_of_ble_eq_true rfl⟩ dX5_apart_3 ?_
  refine lv_istore_n (lv' := [(2, .int (ze_ab (x - y))), (0, .int x), (1, .int y)]) hX_ hB_ dX5_apart_6 rfl hl (by decide) rfl (fun ls hl => ?_)
  refine lv_iload_n hX_ hB_ dX5_apart_7 rfl (lv_at hl 0 rfl) ?_
  refine lv_sipush (v := 360) hX_ hB_ dX5_apart_8 (by decide) ?_
  refine lv_iload_n hX_ hB_ dX5_apart_11 rfl (lv_at hl 0 rfl) ?_
  refine lv_isub hX_ hB_ dX5_apart_12 ?_
  refine ze_min S hl.1 w4 w5 w2 w6 ⟨Nat.le_of_ble_eq_true rfl, Nat.le_of_ble_eq_true rfl, Nat.le_of_ble_eq_true rfl, Nat.le_of_ble_eq_true rfl⟩ dX5_apart_13 ?_
  exact ze_iret S hr hlocks hF hK hW rfl dX5_apart_16 (Nat.le_of_ble_eq_true rfl) (Nat.le_of_ble_eq_true rfl) rfl rfl
set_option maxHeartbeats 4000000 in
set_option maxRecDepth 100000 in
theorem zc_5_gapOf (l : Launch) (D : va_G) (c : Nat → ClassId) (a n : Nat → Nat) (A : Nat → Nat → Int32) (B : Nat → Int64) (E : Nat → Nat → Int32) (i : Nat) (hN : zf_N n) (hS : zf_S n A) (hi : i < n 1) (hE : ∀ x, zf_site n x → zf_site n (E 0 (ze_ix x))) : ze_I l yX5_gapOf wsX5_gapOf 2 42 0 0 D c (ze_wC c a n A B E) [.ref (a 1), .int (nI i)] (zf_gapC A (E 0) i) (ze_wC c a n A B E) := by
  intro sz
  refine ze_start (cc := cX5_gapOf) (maxL := 2) (ret := (some .int)) (own := RX5) (by decide) rfl rfl (Nat.le_of_ble_eq_true rfl) ?_
  obtain ⟨hn0, hn1, hn2, hn3, hn4⟩ := id hN
  intro p e s m_ below meth cd F ls hF hsz E0
  obtain ⟨S, hr, hlocks, hK, hW, hA, hl⟩ := E0
  have hX_ := S.1
  have hB_ := S.2.1
  have hts := S.2.2.2.2
  have hl : lv_has ls 2 [(0, .ref (a 1)), (1, .int (nI i))] := hl
  have hiX5 : ∀ w ∈ u_ws RX5 TX5 10, w ∈ wsX5_gapOf := fun _ h => (List.mem_cons_of_mem _ (List.mem_append_right _ h))
  have w0 := hts (.fieldLink RX5 15 "Islandgrid$Network" "islandOf" "[I") (List.mem_cons_of_mem _ (List.mem_append_left _ (List.mem_of_getElem? (i := 0) rfl)))
  have w1 := hts (.fieldLink RX5 18 "Islandgrid$Network" "oneEnd" "[I") (List.mem_cons_of_mem _ (List.mem_append_left _ (List.mem_of_getElem? (i := 1) rfl)))
  have w2 := hts (.fieldLink RX5 21 "Islandgrid$Network" "otherEnd" "[I") (List.mem_cons_of_mem _ (List.mem_append_left _ (List.mem_of_getElem? (i := 2) rfl)))
  refine lv_aload_n hX_ hB_ dX5_gapOf_0 rfl (lv_at hl 0 rfl) ?_
  refine lv_aload_n hX_ hB_ dX5_gapOf_1 rfl (lv_at hl 0 rfl) ?_
  refine ze_get (ci := 5) (C := RX5) (T := TX5) (N := 10) (v := .ref (a 3)) S hiX5 hK hW 1 (ze_at0 1 rfl) rfl 4 (by decide) rfl w0 dX5_gapOf_2 ?_
  refine lv_aload_n hX_ hB_ dX5_gapOf_5 rfl (lv_at hl 0 rfl) ?_
  refine ze_get (ci := 5) (C := RX5) (T := TX5) (N := 10) (v := .ref (a 4)) S hiX5 hK hW 1 (ze_at0 1 rfl) rfl 5 (by decide) rfl w1 dX5_gapOf_6 ?_
  refine lv_iload_n hX_ hB_ dX5_gapOf_9 rfl (lv_at hl 1 rfl) ?_
  refine ze_ialdN hX_ hB_ hK hW 4 (f := A 2) (ze_at0 4 rfl) (i := i) (by omega) (by decide) dX5_gapOf_10 ?_
  refine ze_iald hX_ hB_ hK hW 3 (f := E 0) (ze_at0 3 rfl) (zf_in hN (hS.1 i hi).1) dX5_gapOf_11 ?_
  refine ze_Vi (As := [.int (E 0 (ze_ix (A 2 i)))]) (rest := []) (ci := 5) (q0 := 1) (k := (RX5, TX5, 10)) S (zc_5_phaseOf l D c a n A B E (E 0 (ze_ix (A 2 i))) hN (hE _ (hS.1 i hi).1)) (cwV 1 hts gX5_gapOf_X5_phaseOf rfl rfl rfl (by decide +kernel) ⟨Nat.le_of_ble_eq_true rfl, Nat.le_of_ble_eq_true rfl⟩) hK hW hA rfl (ze_at0 1 rfl) rfl hl.1 rfl (lv_room (Nat.le_of_ble_eq_true rfl)) dX5_gapOf_12 ⟨Nat.le_of_ble_eq_true rfl, Nat.le_of_ble_eq_true rfl⟩ (fun H locs hW => ?_)
  refine lv_aload_n hX_ hB_ dX5_gapOf_15 rfl (lv_at hl 0 rfl) ?_
  refine lv_aload_n hX_ hB_ dX5_gapOf_16 rfl (lv_at hl 0 rfl) ?_
  refine ze_get (ci := 5) (C := RX5) (T := TX5) (N := 10) (v := .ref (a 3)) S hiX5 hK hW 1 (ze_at0 1 rfl) rfl 4 (by decide) rfl w0 dX5_gapOf_17 ?_
  refine lv_aload_n hX_ hB_ dX5_gapOf_20 rfl (lv_at hl 0 rfl) ?_
  refine ze_get (ci := 5) (C := RX5) (T := TX5) (N := 10) (v := .ref (a 5)) S hiX5 hK hW 1 (ze_at0 1 rfl) rfl 6 (by decide) rfl w2 dX5_gapOf_21 ?_
  refine lv_iload_n hX_ hB_ dX5_gapOf_24 rfl (lv_at hl 1 rfl) ?_
  refine ze_ialdN hX_ hB_ hK hW 5 (f := A 3) (ze_at0 5 rfl) (i := i) (by omega) (by decide) dX5_gapOf_25 ?_
  refine ze_iald hX_ hB_ hK hW 3 (f := E 0) (ze_at0 3 rfl) (zf_in hN (hS.1 i hi).2) dX5_gapOf_26 ?_
  refine ze_Vi (As := [.int (E 0 (ze_ix (A 3 i)))]) (rest := [.int (if zf_tied A (E 0 (ze_ix (A 2 i))) then 0 else A 0 (ze_ix (E 0 (ze_ix (A 2 i)))))]) (ci := 5) (q0 := 1) (k := (RX5, TX5, 10)) S (zc_5_phaseOf l D c a n A B E (E 0 (ze_ix (A 3 i))) hN (hE _ (hS.1 i hi).2)) (cwV 1 hts gX5_gapOf_X5_phaseOf rfl rfl rfl (by decide +kernel) ⟨Nat.le_of_ble_eq_true rfl, Nat.le_of_ble_eq_true rfl⟩) hK hW hA rfl (ze_at0 1 rfl) rfl hl.1 rfl (lv_room (Nat.le_of_ble_eq_true rfl)) dX5_gapOf_27 ⟨Nat.le_of_ble_eq_true rfl, Nat.le_of_ble_eq_true rfl⟩ (fun H locs hW => ?_)
  refine ze_Si (As := [.int (if zf_tied A (E 0 (ze_ix (A 2 i))) then 0 else A 0 (ze_ix (E 0 (ze_ix (A 2 i))))), .int (if zf_tied A (E 0 (ze_ix (A 3 i))) then 0 else A 0 (ze_ix (E 0 (ze_ix (A 3 i)))))]) (rest := []) S (zc_X5_apart l D c (ze_wC c a n A B E) (if zf_tied A (E 0 (ze_ix (A 2 i))) then 0 else A 0 (ze_ix (E 0 (ze_ix (A 2 i))))) (if zf_tied A (E 0 (ze_ix (A 3 i))) then 0 else A 0 (ze_ix (E 0 (ze_ix (A 3 i)))))) (va_cwS 2 hts gX5_gapOf_X5_apart rfl rfl rfl (by decide +kernel) ⟨Nat.le_of_ble_eq_true rfl, Nat.le_of_ble_eq_true rfl⟩) hK hW hA rfl hl.1 rfl (lv_room (Nat.le_of_ble_eq_true rfl)) dX5_gapOf_30 ⟨Nat.le_of_ble_eq_true rfl, Nat.le_of_ble_eq_true rfl⟩ (fun H locs hW => ?_)
  exact ze_iret S hr hlocks hF hK hW rfl dX5_gapOf_33 (Nat.le_of_ble_eq_true rfl) (Nat.le_of_ble_eq_true rfl) rfl rfl
set_option maxHeartbeats 4000000 in
set_option maxRecDepth 100000 in
theorem zc_5_acrossFrom (l : Launch) (D : va_G) (c : Nat → ClassId) (a n : Nat → Nat) (A : Nat → Nat → Int32) (B : Nat → Int64) (E : Nat → Nat → Int32) (x : Int32) (i : Nat) (hN : zf_N n) (hi : i < n 1) : ze_I l yX5_acrossFrom wsX5_acrossFrom 0 0 0 0 D c (ze_wC c a n A B E) [.ref (a 1), .int x, .int (nI i)] (zf_acr A x i) (ze_wC c a n A B E) := by
  intro sz
  refine ze_start (cc := cX5_acrossFrom) (maxL := 3) (ret := (some .int)) (own := RX5) (by decide) rfl rfl (Nat.le_of_ble_eq_true rfl) ?_
  obtain ⟨hn0, hn1, hn2, hn3, hn4⟩ := id hN
  intro p e s m_ below meth cd F ls hF hsz E0
  obtain ⟨S, hr, hlocks, hK, hW, hA, hl⟩ := E0
  have hX_ := S.1
  have hB_ := S.2.1
  have hts := S.2.2.2.2
  have hl : lv_has ls 3 [(0, .ref (a 1)), (1, .int x), (2, .int (nI i))] := hl
  have hiX5 : ∀ w ∈ u_ws RX5 TX5 10, w ∈ wsX5_acrossFrom := fun _ h => (List.mem_cons_of_mem _ (List.mem_append_right _ h))
  have w0 := hts (.fieldLink RX5 24 "Islandgrid$Network" "closed" "[Z") (List.mem_cons_of_mem _ (List.mem_append_left _ (List.mem_of_getElem? (i := 0) rfl)))
  have w1 := hts (.fieldLink RX5 18 "Islandgrid$Network" "oneEnd" "[I") (List.mem_cons_of_mem _ (List.mem_append_left _ (List.mem_of_getElem? (i := 1) rfl)))
  have w2 := hts (.fieldLink RX5 21 "Islandgrid$Network" "otherEnd" "[I") (List.mem_cons_of_mem _ (List.mem_append_left _ (List.mem_of_getElem? (i := 2) rfl)))
  refine lv_aload_n hX_ hB_ dX5_acrossFrom_0 rfl (lv_at hl 0 rfl) ?_
  refine ze_get (ci := 5) (C := RX5) (T := TX5) (N := 10) (v := .ref (a 6)) S hiX5 hK hW 1 (ze_at0 1 rfl) rfl 7 (by decide) rfl w0 dX5_acrossFrom_1 ?_
  refine lv_iload_n hX_ hB_ dX5_acrossFrom_4 rfl (lv_at hl 2 rfl) ?_
  refine ze_zaldN hX_ hB_ hK hW 6 (f := A 4) (ze_at0 6 rfl) (i := i) (by omega) (by decide) dX5_acrossFrom_5 ?_
  refine lv_if_ne (tgt := 11) hX_ hB_ dX5_acrossFrom_6 (by decide) (fun c6 => ?_) (fun c6 => ?_)
  · refine lv_aload_n hX_ hB_ dX5_acrossFrom_11 rfl (lv_at hl 0 rfl) ?_
    refine ze_get (ci := 5) (C := RX5) (T := TX5) (N := 10) (v := .ref (a 4)) S hiX5 hK hW 1 (ze_at0 1 rfl) rfl 5 (by decide) rfl w1 dX5_acrossFrom_12 ?_
    refine lv_iload_n hX_ hB_ dX5_acrossFrom_15 rfl (lv_at hl 2 rfl) ?_
    refine ze_ialdN hX_ hB_ hK hW 4 (f := A 2) (ze_at0 4 rfl) (i := i) (by omega) (by decide) dX5_acrossFrom_16 ?_
    refine lv_iload_n hX_ hB_ dX5_acrossFrom_17 rfl (lv_at hl 1 rfl) ?_
    refine lv_icmp_ne (tgt := 28) hX_ hB_ dX5_acrossFrom_18 (by decide) (fun c18 => ?_) (fun c18 => ?_)
    · refine lv_aload_n hX_ hB_ dX5_acrossFrom_28 rfl (lv_at hl 0 rfl) ?_
      refine ze_get (ci := 5) (C := RX5) (T := TX5) (N := 10) (v := .ref (a 5)) S hiX5 hK hW 1 (ze_at0 1 rfl) rfl 6 (by decide) rfl w2 dX5_acrossFrom_29 ?_
      refine lv_iload_n hX_ hB_ dX5_acrossFrom_32 rfl (lv_at hl 2 rfl) ?_
      refine ze_ialdN hX_ hB_ hK hW 5 (f := A 3) (ze_at0 5 rfl) (i := i) (by omega) (by decide) dX5_acrossFrom_33 ?_
      refine lv_iload_n hX_ hB_ dX5_acrossFrom_34 rfl (lv_at hl 1 rfl) ?_
      refine lv_icmp_ne (tgt := 47) hX_ hB_ dX5_acrossFrom_35 (by decide) (fun c35 => ?_) (fun c35 => ?_)
      · refine lv_iconst (v := (-1)) hX_ hB_ dX5_acrossFrom_47 (by decide) ?_
        exact ze_iret S hr hlocks hF hK hW rfl dX5_acrossFrom_48 (Nat.le_of_ble_eq_true rfl) (Nat.le_of_ble_eq_true rfl) (by simp only [ze_b, zf_acr, eq_false c6, eq_false c18, eq_false c35, not_true_eq_false, not_false_eq_true, and_true, true_and, and_false, false_and, or_true, true_or, or_false, false_or, and_self, or_self, Decidable.not_not, if_true, if_false, reduceIte, reduceCtorEq, ne_eq, eq_self, Int32.lt_irrefl, Int32.le_refl, Nat.lt_irrefl]) rfl
      · refine lv_aload_n hX_ hB_ dX5_acrossFrom_38 rfl (lv_at hl 0 rfl) ?_
        refine ze_get (ci := 5) (C := RX5) (T := TX5) (N := 10) (v := .ref (a 4)) S hiX5 hK hW 1 (ze_at0 1 rfl) rfl 5 (by decide) rfl w1 dX5_acrossFrom_39 ?_
        refine lv_iload_n hX_ hB_ dX5_acrossFrom_42 rfl (lv_at hl 2 rfl) ?_
        refine ze_ialdN hX_ hB_ hK hW 4 (f := A 2) (ze_at0 4 rfl) (i := i) (by omega) (by decide) dX5_acrossFrom_43 ?_
        refine lv_goto (tgt := 48) hX_ hB_ dX5_acrossFrom_44 (by decide) ?_
        exact ze_iret S hr hlocks hF hK hW rfl dX5_acrossFrom_48 (Nat.le_of_ble_eq_true rfl) (Nat.le_of_ble_eq_true rfl) (by simp only [ze_b, zf_acr, eq_false c6, eq_false c18, eq_true c35, not_true_eq_false, not_false_eq_true, and_true, true_and, and_false, false_and, or_true, true_or, or_false, false_or, and_self, or_self, Decidable.not_not, if_true, if_false, reduceIte, reduceCtorEq, ne_eq, eq_self, Int32.lt_irrefl, Int32.le_refl, Nat.lt_irrefl]) rfl
    · refine lv_aload_n hX_ hB_ dX5_acrossFrom_21 rfl (lv_at hl 0 rfl) ?_
      refine ze_get (ci := 5) (C := RX5) (T := TX5) (N := 10) (v := .ref (a 5)) S hiX5 hK hW 1 (ze_at0 1 rfl) rfl 6 (by decide) rfl w2 dX5_acrossFrom_22 ?_
      refine lv_iload_n hX_ hB_ dX5_acrossFrom_25 rfl (lv_at hl 2 rfl) ?_
      refine ze_ialdN hX_ hB_ hK hW 5 (f := A 3) (ze_at0 5 rfl) (i := i) (by omega) (by decide) dX5_acrossFrom_26 ?_
      exact ze_iret S hr hlocks hF hK hW rfl dX5_acrossFrom_27 (Nat.le_of_ble_eq_true rfl) (Nat.le_of_ble_eq_true rfl) (by simp only [ze_b, zf_acr, eq_false c6, eq_true c18, not_true_eq_false, not_false_eq_true, and_true, true_and, and_false, false_and, or_true, true_or, or_false, false_or, and_self, or_self, Decidable.not_not, if_true, if_false, reduceIte, reduceCtorEq, ne_eq, eq_self, Int32.lt_irrefl, Int32.le_refl, Nat.lt_irrefl]) rfl
  · refine lv_iconst (v := (-1)) hX_ hB_ dX5_acrossFrom_9 (by decide) ?_
    exact ze_iret S hr hlocks hF hK hW rfl dX5_acrossFrom_10 (Nat.le_of_ble_eq_true rfl) (Nat.le_of_ble_eq_true rfl) (by simp only [ze_b, zf_acr, eq_true c6, not_true_eq_false, not_false_eq_true, and_true, true_and, and_false, false_and, or_true, true_or, or_false, false_or, and_self, or_self, Decidable.not_not, if_true, if_false, reduceIte, reduceCtorEq, ne_eq, eq_self, Int32.lt_irrefl, Int32.le_refl, Nat.lt_irrefl]) rfl
