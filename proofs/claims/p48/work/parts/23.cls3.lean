set_option maxHeartbeats 4000000 in
set_option maxRecDepth 100000 in
theorem zc_4_isOn (l : Launch) (D : va_G) (c : Nat → ClassId) (a n : Nat → Nat) (A : Nat → Nat → Int32) (B : Nat → Int64) (E : Nat → Nat → Int32) (k : Nat) (m : Int32) (hN : zf_N n) (hS : zf_S n A) (hk : k < n 4) : ze_I l yX4_isOn wsX4_isOn 0 0 0 0 D c (ze_wC c a n A B E) [.ref (a 15), .ref (a (40 + k)), .int m] (ze_b (E 0 (ze_ix (A 19 k)) = m)) (ze_wC c a n A B E) := by
  intro sz
  refine ze_start (cc := cX4_isOn) (maxL := 3) (ret := (some .boolean)) (own := RX4) (by decide) rfl rfl (Nat.le_of_ble_eq_true rfl) ?_
  obtain ⟨hn0, hn1, hn2, hn3, hn4⟩ := id hN
  intro p e s m_ below meth cd F ls hF hsz E0
  obtain ⟨S, hr, hlocks, hK, hW, hA, hl⟩ := E0
  have hX_ := S.1
  have hB_ := S.2.1
  have hts := S.2.2.2.2
  have hl : lv_has ls 3 [(0, .ref (a 15)), (1, .ref (a (40 + k))), (2, .int m)] := hl
  have hiX3 : ∀ w ∈ u_ws RX3 TX3 6, w ∈ wsX4_isOn := fun _ h => (List.mem_cons_of_mem _ (List.mem_append_right _ h))
  have hiX4 : ∀ w ∈ u_ws RX4 TX4 3, w ∈ wsX4_isOn := fun _ h => (List.mem_cons_of_mem _ (List.mem_append_left _ (List.mem_append_left _ (List.mem_append_right _ h))))
  have hiX5 : ∀ w ∈ u_ws RX5 TX5 10, w ∈ wsX4_isOn := fun _ h => (List.mem_cons_of_mem _ (List.mem_append_left _ (List.mem_append_right _ h)))
  have w0 := hts (.fieldLink RX4 17 "Islandgrid$Loads" "network" "LIslandgrid$Network;") (List.mem_cons_of_mem _ (List.mem_append_left _ (List.mem_append_left _ (List.mem_append_left _ (List.mem_of_getElem? (i := 0) rfl)))))
  have w1 := hts (.fieldLink RX4 28 "Islandgrid$Network" "islandOf" "[I") (List.mem_cons_of_mem _ (List.mem_append_left _ (List.mem_append_left _ (List.mem_append_left _ (List.mem_of_getElem? (i := 1) rfl)))))
  have w2 := hts (.fieldLink RX4 34 "Islandgrid$Load" "site" "I") (List.mem_cons_of_mem _ (List.mem_append_left _ (List.mem_append_left _ (List.mem_append_left _ (List.mem_of_getElem? (i := 2) rfl)))))
  refine lv_aload_n hX_ hB_ dX4_isOn_0 rfl (lv_at hl 0 rfl) ?_
  refine ze_get (ci := 4) (C := RX4) (T := TX4) (N := 3) (v := .ref (a 1)) S hiX4 hK hW 15 (ze_at0 15 rfl) rfl 0 (by decide) rfl w0 dX4_isOn_1 ?_
  refine ze_get (ci := 5) (C := RX5) (T := TX5) (N := 10) (v := .ref (a 3)) S hiX5 hK hW 1 (ze_at0 1 rfl) rfl 4 (by decide) rfl w1 dX4_isOn_4 ?_
  refine lv_aload_n hX_ hB_ dX4_isOn_7 rfl (lv_at hl 1 rfl) ?_
  refine ze_get (ci := 3) (C := RX3) (T := TX3) (N := 6) (v := .int (A 19 k)) S hiX3 hK hW (18 + (n 2 + (n 3 + k))) (ze_atL (g := k) (by omega)) rfl 1 (by decide) rfl w2 dX4_isOn_8 ?_
  refine ze_iald hX_ hB_ hK hW 3 (f := E 0) (ze_at0 3 rfl) (zf_in hN (hS.2.2.2 k hk)) dX4_isOn_11 ?_
  refine lv_iload_n hX_ hB_ dX4_isOn_12 rfl (lv_at hl 2 rfl) ?_
  refine lv_icmp_ne (tgt := 20) hX_ hB_ dX4_isOn_13 (by decide) (fun c13 => ?_) (fun c13 => ?_)
  · refine lv_iconst (v := 0) hX_ hB_ dX4_isOn_20 (by decide) ?_
    exact ze_iret S hr hlocks hF hK hW rfl dX4_isOn_21 (Nat.le_of_ble_eq_true rfl) (Nat.le_of_ble_eq_true rfl) (by simp only [ze_b, eq_false c13, not_true_eq_false, not_false_eq_true, and_true, true_and, and_false, false_and, or_true, true_or, or_false, false_or, and_self, or_self, Decidable.not_not, if_true, if_false, reduceIte, reduceCtorEq, ne_eq, eq_self, Int32.lt_irrefl, Int32.le_refl, Nat.lt_irrefl]) rfl
  · refine lv_iconst (v := 1) hX_ hB_ dX4_isOn_16 (by decide) ?_
    refine lv_goto (tgt := 21) hX_ hB_ dX4_isOn_17 (by decide) ?_
    exact ze_iret S hr hlocks hF hK hW rfl dX4_isOn_21 (Nat.le_of_ble_eq_true rfl) (Nat.le_of_ble_eq_true rfl) (by simp only [ze_b, eq_true c13, not_true_eq_false, not_false_eq_true, and_true, true_and, and_false, false_and, or_true, true_or, or_false, false_or, and_self, or_self, Decidable.not_not, if_true, if_false, reduceIte, reduceCtorEq, ne_eq, eq_self, Int32.lt_irrefl, Int32.le_refl, Nat.lt_irrefl]) rfl
set_option maxHeartbeats 4000000 in
set_option maxRecDepth 100000 in
theorem zc_4_sumOfLit (l : Launch) (D : va_G) (c : Nat → ClassId) (a n : Nat → Nat) (A : Nat → Nat → Int32) (B : Nat → Int64) (E : Nat → Nat → Int32) (m : Int32) (hN : zf_N n) (hS : zf_S n A) : ze_I l yX4_sumOfLit wsX4_sumOfLit 1 22 0 0 D c (ze_wC c a n A B E) [.ref (a 15), .int m] (zf_demanded A (E 0) m (n 4)) (ze_wC c a n A B E) := by
  intro sz
  refine ze_start (cc := cX4_sumOfLit) (maxL := 4) (ret := (some .int)) (own := RX4) (by decide) rfl rfl (Nat.le_of_ble_eq_true rfl) ?_
  obtain ⟨hn0, hn1, hn2, hn3, hn4⟩ := id hN
  intro p e s m_ below meth cd F ls hF hsz E0
  obtain ⟨S, hr, hlocks, hK, hW, hA, hl⟩ := E0
  have hX_ := S.1
  have hB_ := S.2.1
  have hts := S.2.2.2.2
  have hl : lv_has ls 4 [(0, .ref (a 15)), (1, .int m)] := hl
  have hiX3 : ∀ w ∈ u_ws RX3 TX3 6, w ∈ wsX4_sumOfLit := fun _ h => (List.mem_cons_of_mem _ (List.mem_append_left _ (List.mem_append_right _ h)))
  have hiX4 : ∀ w ∈ u_ws RX4 TX4 3, w ∈ wsX4_sumOfLit := fun _ h => (List.mem_cons_of_mem _ (List.mem_append_left _ (List.mem_append_left _ (List.mem_append_right _ h))))
  have w0 := hts (.fieldLink RX4 21 "Islandgrid$Loads" "count" "I") (List.mem_cons_of_mem _ (List.mem_append_left _ (List.mem_append_left _ (List.mem_append_left _ (List.mem_of_getElem? (i := 0) rfl)))))
  have w1 := hts (.fieldLink RX4 11 "Islandgrid$Loads" "all" "[LIslandgrid$Load;") (List.mem_cons_of_mem _ (List.mem_append_left _ (List.mem_append_left _ (List.mem_append_left _ (List.mem_of_getElem? (i := 1) rfl)))))
  have w2 := hts (.fieldLink RX4 37 "Islandgrid$Load" "lit" "Z") (List.mem_cons_of_mem _ (List.mem_append_left _ (List.mem_append_left _ (List.mem_append_left _ (List.mem_of_getElem? (i := 2) rfl)))))
  have w3 := hts (.fieldLink RX4 45 "Islandgrid$Load" "power" "I") (List.mem_cons_of_mem _ (List.mem_append_left _ (List.mem_append_left _ (List.mem_append_left _ (List.mem_of_getElem? (i := 3) rfl)))))
  refine lv_iconst (v := 0) hX_ hB_ dX4_sumOfLit_0 (by decide) ?_
  refine lv_istore_n (lv' := [(2, .int 0), (0, .ref (a 15)), (1, .int m)]) hX_ hB_ dX4_sumOfLit_1 rfl hl (by decide) rfl (fun ls hl => ?_)
  refine lv_iconst (v := 0) hX_ hB_ dX4_sumOfLit_2 (by decide) ?_
  refine lv_istore_n (lv' := [(3, .int 0), (2, .int 0), (0, .ref (a 15)), (1, .int m)]) hX_ hB_ dX4_sumOfLit_3 rfl hl (by decide) rfl (fun ls hl => ?_)
  have L4 : ∀ (k4 : Nat) (i4 : Nat), (i4 ≤ n 4) → (n 4 - i4) < k4 → ∀ (H : Heap) (locs : List Loc) (ls : Array Slot), ze_W D (ze_wC c a n A B E) F s.heap H locs → lv_has ls 4 [(3, .int (nI i4)), (2, .int (zf_demanded A (E 0) m i4)), (0, .ref (a 15)), (1, .int m)] → W p l e { frames := 1, cells := 0, slots := 0, locals := 22 } s m_ ([.ref (a 15), .int m] : List Value).toArray below meth cd H locs 0 0 (MQ below (ze_Qi D c (ze_wC c a n A B E) sz (zf_demanded A (E 0) m (n 4)) (ze_wC c a n A B E)) ([.ref (a 15), .int m] : List Value).toArray s 0 0 F) (F0 m_ 4 ls []) := by
    intro k4
    induction k4 with
    | zero =>
      intro i4 h4 hk4
      exact absurd hk4 (Nat.not_lt_zero _)
    | succ k4 ih4 =>
      intro i4 h4 hk4 H locs ls hW hl
      refine lv_iload_n hX_ hB_ dX4_sumOfLit_4 rfl (lv_at hl 0 rfl) ?_
      refine lv_aload_n hX_ hB_ dX4_sumOfLit_5 rfl (lv_at hl 2 rfl) ?_
      refine ze_get (ci := 4) (C := RX4) (T := TX4) (N := 3) (v := .int (nI (n 4))) S hiX4 hK hW 15 (ze_at0 15 rfl) rfl 2 (by decide) rfl w0 dX4_sumOfLit_6 ?_
      refine lv_icmp_ge (tgt := 56) hX_ hB_ dX4_sumOfLit_9 (by decide) (fun c9 => ?_) (fun c9 => ?_)
      · have c9 : ¬ i4 < (n 4) := Nat.not_lt.mpr ((nI_leI (a := (n 4)) (b := i4) (by omega) (by omega)).mp c9)
        have e4 : i4 = n 4 := by omega
        subst e4
        refine lv_iload_n hX_ hB_ dX4_sumOfLit_56 rfl (lv_at hl 1 rfl) ?_
        exact ze_iret S hr hlocks hF hK hW rfl dX4_sumOfLit_57 (Nat.le_of_ble_eq_true rfl) (Nat.le_of_ble_eq_true rfl) rfl rfl
      · have c9 : i4 < (n 4) := Nat.lt_of_not_le (fun h9 => c9 ((nI_leI (a := (n 4)) (b := i4) (by omega) (by omega)).mpr h9))
        refine lv_aload_n hX_ hB_ dX4_sumOfLit_12 rfl (lv_at hl 2 rfl) ?_
        refine ze_get (ci := 4) (C := RX4) (T := TX4) (N := 3) (v := .ref (a 16)) S hiX4 hK hW 15 (ze_at0 15 rfl) rfl 1 (by decide) rfl w1 dX4_sumOfLit_13 ?_
        refine lv_iload_n hX_ hB_ dX4_sumOfLit_16 rfl (lv_at hl 0 rfl) ?_
        refine ze_aldN hX_ hB_ hK hW 16 5 (ze_at0 16 rfl) rfl (i := i4) (by omega) (by omega) (by decide) dX4_sumOfLit_17 ?_
        refine ze_get (ci := 3) (C := RX3) (T := TX3) (N := 6) (v := .int (ze_nt (A 5 i4))) S hiX3 hK hW (18 + (n 2 + (n 3 + i4))) (ze_atL (g := i4) (by omega)) rfl 4 (by decide) rfl w2 dX4_sumOfLit_18 ?_
        refine lv_if_eq (tgt := 50) hX_ hB_ dX4_sumOfLit_21 (by decide) (fun c21 => ?_) (fun c21 => ?_)
        · have c21 : ¬ A 5 i4 = 0 := ze_ntf c21
          refine lv_iinc (v := nI (i4 + 1)) (lv' := [(3, .int (nI (i4 + 1))), (2, .int (zf_demanded A (E 0) m i4)), (0, .ref (a 15)), (1, .int m)]) hX_ hB_ dX4_sumOfLit_50 hl (k := 0) rfl (ze_inc _) (by decide) rfl (fun ls hl => ?_)
          refine lv_goto (tgt := 4) hX_ hB_ dX4_sumOfLit_53 (by decide) ?_
          have eL2 : zf_demanded A (E 0) m i4 = zf_demanded A (E 0) m (i4 + 1) := (by simp only [ze_b, zf_demanded, ze_sum, eq_true c9, eq_false c21, not_true_eq_false, not_false_eq_true, and_true, true_and, and_false, false_and, or_true, true_or, or_false, false_or, and_self, or_self, Decidable.not_not, if_true, if_false, reduceIte, reduceCtorEq, ne_eq, eq_self, Int32.lt_irrefl, Int32.le_refl, Nat.lt_irrefl, Int32.add_zero])
          have hl : lv_has ls 4 [(3, .int (nI (i4 + 1))), (2, .int (zf_demanded A (E 0) m (i4 + 1))), (0, .ref (a 15)), (1, .int m)] := by
            first | (rw [← eL2]; exact hl) | (simp only [← eL2]; exact hl)
          exact ih4 (i4 + 1) (by omega) (by omega) _ _ ls hW (lv_sub hl [0, 1, 2, 3] rfl)
        · have c21 : A 5 i4 = 0 := ze_ntt c21
          refine lv_aload_n hX_ hB_ dX4_sumOfLit_24 rfl (lv_at hl 2 rfl) ?_
          refine lv_aload_n hX_ hB_ dX4_sumOfLit_25 rfl (lv_at hl 2 rfl) ?_
          refine ze_get (ci := 4) (C := RX4) (T := TX4) (N := 3) (v := .ref (a 16)) S hiX4 hK hW 15 (ze_at0 15 rfl) rfl 1 (by decide) rfl w1 dX4_sumOfLit_26 ?_
          refine lv_iload_n hX_ hB_ dX4_sumOfLit_29 rfl (lv_at hl 0 rfl) ?_
          refine ze_aldN hX_ hB_ hK hW 16 5 (ze_at0 16 rfl) rfl (i := i4) (by omega) (by omega) (by decide) dX4_sumOfLit_30 ?_
          refine lv_iload_n hX_ hB_ dX4_sumOfLit_31 rfl (lv_at hl 3 rfl) ?_
          refine ze_Vi (As := [.ref (a (40 + i4)), .int m]) (rest := []) (ci := 4) (q0 := 15) (k := (RX4, TX4, 3)) S (zc_4_isOn l D c a n A B E i4 m hN hS (by omega)) (cwV 2 hts gX4_sumOfLit_X4_isOn rfl rfl rfl (by decide +kernel) ⟨Nat.le_of_ble_eq_true rfl, Nat.le_of_ble_eq_true rfl⟩) hK hW hA rfl (ze_at0 15 rfl) rfl hl.1 rfl (lv_room (Nat.le_of_ble_eq_true rfl)) dX4_sumOfLit_32 ⟨Nat.le_of_ble_eq_true rfl, Nat.le_of_ble_eq_true rfl⟩ (fun H locs hW => ?_)
          refine lv_if_eq (tgt := 50) hX_ hB_ dX4_sumOfLit_35 (by decide) (fun c35 => ?_) (fun c35 => ?_)
          · have c35 : ¬ (E 0 (ze_ix (A 19 i4)) = m) := ze_bf c35
            refine lv_iinc (v := nI (i4 + 1)) (lv' := [(3, .int (nI (i4 + 1))), (2, .int (zf_demanded A (E 0) m i4)), (0, .ref (a 15)), (1, .int m)]) hX_ hB_ dX4_sumOfLit_50 hl (k := 0) rfl (ze_inc _) (by decide) rfl (fun ls hl => ?_)
            refine lv_goto (tgt := 4) hX_ hB_ dX4_sumOfLit_53 (by decide) ?_
            have eL2 : zf_demanded A (E 0) m i4 = zf_demanded A (E 0) m (i4 + 1) := (by simp only [ze_b, zf_demanded, ze_sum, eq_true c9, eq_true c21, eq_false c35, not_true_eq_false, not_false_eq_true, and_true, true_and, and_false, false_and, or_true, true_or, or_false, false_or, and_self, or_self, Decidable.not_not, if_true, if_false, reduceIte, reduceCtorEq, ne_eq, eq_self, Int32.lt_irrefl, Int32.le_refl, Nat.lt_irrefl, Int32.add_zero])
            have hl : lv_has ls 4 [(3, .int (nI (i4 + 1))), (2, .int (zf_demanded A (E 0) m (i4 + 1))), (0, .ref (a 15)), (1, .int m)] := by
              first | (rw [← eL2]; exact hl) | (simp only [← eL2]; exact hl)
            exact ih4 (i4 + 1) (by omega) (by omega) _ _ ls hW (lv_sub hl [0, 1, 2, 3] rfl)
          · have c35 : E 0 (ze_ix (A 19 i4)) = m := ze_bt c35
            refine lv_iload_n hX_ hB_ dX4_sumOfLit_38 rfl (lv_at hl 1 rfl) ?_
            refine lv_aload_n hX_ hB_ dX4_sumOfLit_39 rfl (lv_at hl 2 rfl) ?_
            refine ze_get (ci := 4) (C := RX4) (T := TX4) (N := 3) (v := .ref (a 16)) S hiX4 hK hW 15 (ze_at0 15 rfl) rfl 1 (by decide) rfl w1 dX4_sumOfLit_40 ?_
            refine lv_iload_n hX_ hB_ dX4_sumOfLit_43 rfl (lv_at hl 0 rfl) ?_
            refine ze_aldN hX_ hB_ hK hW 16 5 (ze_at0 16 rfl) rfl (i := i4) (by omega) (by omega) (by decide) dX4_sumOfLit_44 ?_
            refine ze_get (ci := 3) (C := RX3) (T := TX3) (N := 6) (v := .int (A 20 i4)) S hiX3 hK hW (18 + (n 2 + (n 3 + i4))) (ze_atL (g := i4) (by omega)) rfl 2 (by decide) rfl w3 dX4_sumOfLit_45 ?_
            refine lv_iadd hX_ hB_ dX4_sumOfLit_48 ?_
            refine lv_istore_n (lv' := [(2, .int (zf_demanded A (E 0) m i4 + A 20 i4)), (3, .int (nI i4)), (0, .ref (a 15)), (1, .int m)]) hX_ hB_ dX4_sumOfLit_49 rfl hl (by decide) rfl (fun ls hl => ?_)
            refine lv_iinc (v := nI (i4 + 1)) (lv' := [(3, .int (nI (i4 + 1))), (2, .int (zf_demanded A (E 0) m i4 + A 20 i4)), (0, .ref (a 15)), (1, .int m)]) hX_ hB_ dX4_sumOfLit_50 hl (k := 1) rfl (ze_inc _) (by decide) rfl (fun ls hl => ?_)
            refine lv_goto (tgt := 4) hX_ hB_ dX4_sumOfLit_53 (by decide) ?_
            have eL2 : zf_demanded A (E 0) m i4 + A 20 i4 = zf_demanded A (E 0) m (i4 + 1) := (by simp only [ze_b, zf_demanded, ze_sum, eq_true c9, eq_true c21, eq_true c35, not_true_eq_false, not_false_eq_true, and_true, true_and, and_false, false_and, or_true, true_or, or_false, false_or, and_self, or_self, Decidable.not_not, if_true, if_false, reduceIte, reduceCtorEq, ne_eq, eq_self, Int32.lt_irrefl, Int32.le_refl, Nat.lt_irrefl, Int32.add_zero])
            have hl : lv_has ls 4 [(3, .int (nI (i4 + 1))), (2, .int (zf_demanded A (E 0) m (i4 + 1))), (0, .ref (a 15)), (1, .int m)] := by
              first | (rw [← eL2]; exact hl) | (simp only [← eL2]; exact hl)
            exact ih4 (i4 + 1) (by omega) (by omega) _ _ ls hW (lv_sub hl [0, 1, 2, 3] rfl)
  have hl : lv_has ls 4 [(3, .int (nI 0)), (2, .int (zf_demanded A (E 0) m 0)), (0, .ref (a 15)), (1, .int m)] := hl
  have hW : ze_W D (ze_wC c a n A B E) F s.heap _ _ := hW
  exact L4 _ 0 (by omega) (Nat.lt_succ_self _) _ _ ls hW (lv_sub hl [0, 1, 2, 3] rfl)
set_option maxHeartbeats 4000000 in
set_option maxRecDepth 100000 in
theorem zc_4_countLit (l : Launch) (D : va_G) (c : Nat → ClassId) (a n : Nat → Nat) (A : Nat → Nat → Int32) (B : Nat → Int64) (E : Nat → Nat → Int32) (hN : zf_N n) : ze_I l yX4_countLit wsX4_countLit 0 0 0 0 D c (ze_wC c a n A B E) [.ref (a 15)] (zf_lits A (n 4)) (ze_wC c a n A B E) := by
  intro sz
  refine ze_start (cc := cX4_countLit) (maxL := 3) (ret := (some .int)) (own := RX4) (by decide) rfl rfl (Nat.le_of_ble_eq_true rfl) ?_
  obtain ⟨hn0, hn1, hn2, hn3, hn4⟩ := id hN
  intro p e s m_ below meth cd F ls hF hsz E0
  obtain ⟨S, hr, hlocks, hK, hW, hA, hl⟩ := E0
  have hX_ := S.1
  have hB_ := S.2.1
  have hts := S.2.2.2.2
  have hl : lv_has ls 3 [(0, .ref (a 15))] := hl
  have hiX3 : ∀ w ∈ u_ws RX3 TX3 6, w ∈ wsX4_countLit := fun _ h => (List.mem_cons_of_mem _ (List.mem_append_right _ h))
  have hiX4 : ∀ w ∈ u_ws RX4 TX4 3, w ∈ wsX4_countLit := fun _ h => (List.mem_cons_of_mem _ (List.mem_append_left _ (List.mem_append_right _ h)))
  have w0 := hts (.fieldLink RX4 21 "Islandgrid$Loads" "count" "I") (List.mem_cons_of_mem _ (List.mem_append_left _ (List.mem_append_left _ (List.mem_of_getElem? (i := 0) rfl))))
  have w1 := hts (.fieldLink RX4 11 "Islandgrid$Loads" "all" "[LIslandgrid$Load;") (List.mem_cons_of_mem _ (List.mem_append_left _ (List.mem_append_left _ (List.mem_of_getElem? (i := 1) rfl))))
  have w2 := hts (.fieldLink RX4 37 "Islandgrid$Load" "lit" "Z") (List.mem_cons_of_mem _ (List.mem_append_left _ (List.mem_append_left _ (List.mem_of_getElem? (i := 2) rfl))))
  refine lv_iconst (v := 0) hX_ hB_ dX4_countLit_0 (by decide) ?_
  refine lv_istore_n (lv' := [(1, .int 0), (0, .ref (a 15))]) hX_ hB_ dX4_countLit_1 rfl hl (by decide) rfl (fun ls hl => ?_)
  refine lv_iconst (v := 0) hX_ hB_ dX4_countLit_2 (by decide) ?_
  refine lv_istore_n (lv' := [(2, .int 0), (1, .int 0), (0, .ref (a 15))]) hX_ hB_ dX4_countLit_3 rfl hl (by decide) rfl (fun ls hl => ?_)
  have L4 : ∀ (k4 : Nat) (i4 : Nat), (i4 ≤ n 4) → (n 4 - i4) < k4 → ∀ (H : Heap) (locs : List Loc) (ls : Array Slot), ze_W D (ze_wC c a n A B E) F s.heap H locs → lv_has ls 3 [(2, .int (nI i4)), (1, .int (zf_lits A i4)), (0, .ref (a 15))] → W p l e { frames := 0, cells := 0, slots := 0, locals := 0 } s m_ ([.ref (a 15)] : List Value).toArray below meth cd H locs 0 0 (MQ below (ze_Qi D c (ze_wC c a n A B E) sz (zf_lits A (n 4)) (ze_wC c a n A B E)) ([.ref (a 15)] : List Value).toArray s 0 0 F) (F0 m_ 4 ls []) := by
    intro k4
    induction k4 with
    | zero =>
      intro i4 h4 hk4
      exact absurd hk4 (Nat.not_lt_zero _)
    | succ k4 ih4 =>
      intro i4 h4 hk4 H locs ls hW hl
      refine lv_iload_n hX_ hB_ dX4_countLit_4 rfl (lv_at hl 0 rfl) ?_
      refine lv_aload_n hX_ hB_ dX4_countLit_5 rfl (lv_at hl 2 rfl) ?_
      refine ze_get (ci := 4) (C := RX4) (T := TX4) (N := 3) (v := .int (nI (n 4))) S hiX4 hK hW 15 (ze_at0 15 rfl) rfl 2 (by decide) rfl w0 dX4_countLit_6 ?_
      refine lv_icmp_ge (tgt := 33) hX_ hB_ dX4_countLit_9 (by decide) (fun c9 => ?_) (fun c9 => ?_)
      · have c9 : ¬ i4 < (n 4) := Nat.not_lt.mpr ((nI_leI (a := (n 4)) (b := i4) (by omega) (by omega)).mp c9)
        have e4 : i4 = n 4 := by omega
        subst e4
        refine lv_iload_n hX_ hB_ dX4_countLit_33 rfl (lv_at hl 1 rfl) ?_
        exact ze_iret S hr hlocks hF hK hW rfl dX4_countLit_34 (Nat.le_of_ble_eq_true rfl) (Nat.le_of_ble_eq_true rfl) rfl rfl
      · have c9 : i4 < (n 4) := Nat.lt_of_not_le (fun h9 => c9 ((nI_leI (a := (n 4)) (b := i4) (by omega) (by omega)).mpr h9))
        refine lv_aload_n hX_ hB_ dX4_countLit_12 rfl (lv_at hl 2 rfl) ?_
        refine ze_get (ci := 4) (C := RX4) (T := TX4) (N := 3) (v := .ref (a 16)) S hiX4 hK hW 15 (ze_at0 15 rfl) rfl 1 (by decide) rfl w1 dX4_countLit_13 ?_
        refine lv_iload_n hX_ hB_ dX4_countLit_16 rfl (lv_at hl 0 rfl) ?_
        refine ze_aldN hX_ hB_ hK hW 16 5 (ze_at0 16 rfl) rfl (i := i4) (by omega) (by omega) (by decide) dX4_countLit_17 ?_
        refine ze_get (ci := 3) (C := RX3) (T := TX3) (N := 6) (v := .int (ze_nt (A 5 i4))) S hiX3 hK hW (18 + (n 2 + (n 3 + i4))) (ze_atL (g := i4) (by omega)) rfl 4 (by decide) rfl w2 dX4_countLit_18 ?_
        refine lv_if_eq (tgt := 27) hX_ hB_ dX4_countLit_21 (by decide) (fun c21 => ?_) (fun c21 => ?_)
        · have c21 : ¬ A 5 i4 = 0 := ze_ntf c21
          refine lv_iinc (v := nI (i4 + 1)) (lv' := [(2, .int (nI (i4 + 1))), (1, .int (zf_lits A i4)), (0, .ref (a 15))]) hX_ hB_ dX4_countLit_27 hl (k := 0) rfl (ze_inc _) (by decide) rfl (fun ls hl => ?_)
          refine lv_goto (tgt := 4) hX_ hB_ dX4_countLit_30 (by decide) ?_
          have eL1 : zf_lits A i4 = zf_lits A (i4 + 1) := (by simp only [ze_b, zf_lits, ze_sum, eq_true c9, eq_false c21, not_true_eq_false, not_false_eq_true, and_true, true_and, and_false, false_and, or_true, true_or, or_false, false_or, and_self, or_self, Decidable.not_not, if_true, if_false, reduceIte, reduceCtorEq, ne_eq, eq_self, Int32.lt_irrefl, Int32.le_refl, Nat.lt_irrefl, Int32.add_zero])
          have hl : lv_has ls 3 [(2, .int (nI (i4 + 1))), (1, .int (zf_lits A (i4 + 1))), (0, .ref (a 15))] := by
            first | (rw [← eL1]; exact hl) | (simp only [← eL1]; exact hl)
          exact ih4 (i4 + 1) (by omega) (by omega) _ _ ls hW (lv_sub hl [0, 1, 2] rfl)
        · have c21 : A 5 i4 = 0 := ze_ntt c21
          refine lv_iinc (v := zf_lits A i4 + 1) (lv' := [(1, .int (zf_lits A i4 + 1)), (2, .int (nI i4)), (0, .ref (a 15))]) hX_ hB_ dX4_countLit_24 hl (k := 1) rfl rfl (by decide) rfl (fun ls hl => ?_)
          refine lv_iinc (v := nI (i4 + 1)) (lv' := [(2, .int (nI (i4 + 1))), (1, .int (zf_lits A i4 + 1)), (0, .ref (a 15))]) hX_ hB_ dX4_countLit_27 hl (k := 1) rfl (ze_inc _) (by decide) rfl (fun ls hl => ?_)
          refine lv_goto (tgt := 4) hX_ hB_ dX4_countLit_30 (by decide) ?_
          have eL1 : zf_lits A i4 + 1 = zf_lits A (i4 + 1) := (by simp only [ze_b, zf_lits, ze_sum, eq_true c9, eq_true c21, not_true_eq_false, not_false_eq_true, and_true, true_and, and_false, false_and, or_true, true_or, or_false, false_or, and_self, or_self, Decidable.not_not, if_true, if_false, reduceIte, reduceCtorEq, ne_eq, eq_self, Int32.lt_irrefl, Int32.le_refl, Nat.lt_irrefl, Int32.add_zero])
          have hl : lv_has ls 3 [(2, .int (nI (i4 + 1))), (1, .int (zf_lits A (i4 + 1))), (0, .ref (a 15))] := by
            first | (rw [← eL1]; exact hl) | (simp only [← eL1]; exact hl)
          exact ih4 (i4 + 1) (by omega) (by omega) _ _ ls hW (lv_sub hl [0, 1, 2] rfl)
  have hl : lv_has ls 3 [(2, .int (nI 0)), (1, .int (zf_lits A 0)), (0, .ref (a 15))] := hl
  have hW : ze_W D (ze_wC c a n A B E) F s.heap _ _ := hW
  exact L4 _ 0 (by omega) (Nat.lt_succ_self _) _ _ ls hW (lv_sub hl [0, 1, 2] rfl)
set_option maxHeartbeats 4000000 in
set_option maxRecDepth 100000 in
theorem zc_4_sumUpTo (l : Launch) (D : va_G) (c : Nat → ClassId) (a n : Nat → Nat) (A : Nat → Nat → Int32) (B : Nat → Int64) (E : Nat → Nat → Int32) (k : Nat) (hN : zf_N n) (hS : zf_S n A) (hk : k < n 4) : ze_I l yX4_sumUpTo wsX4_sumUpTo 1 22 0 0 D c (ze_wC c a n A B E) [.ref (a 15), .ref (a (40 + k))] (zf_upTo A (E 0) k (n 4)) (ze_wC c a n A B E) := by
  intro sz
  refine ze_start (cc := cX4_sumUpTo) (maxL := 5) (ret := (some .int)) (own := RX4) (by decide) rfl rfl (Nat.le_of_ble_eq_true rfl) ?_
  obtain ⟨hn0, hn1, hn2, hn3, hn4⟩ := id hN
  intro p e s m_ below meth cd F ls hF hsz E0
  obtain ⟨S, hr, hlocks, hK, hW, hA, hl⟩ := E0
  have hX_ := S.1
  have hB_ := S.2.1
  have hts := S.2.2.2.2
  have hl : lv_has ls 5 [(0, .ref (a 15)), (1, .ref (a (40 + k)))] := hl
  have hiX3 : ∀ w ∈ u_ws RX3 TX3 6, w ∈ wsX4_sumUpTo := fun _ h => (List.mem_cons_of_mem _ (List.mem_append_right _ h))
  have hiX4 : ∀ w ∈ u_ws RX4 TX4 3, w ∈ wsX4_sumUpTo := fun _ h => (List.mem_cons_of_mem _ (List.mem_append_left _ (List.mem_append_left _ (List.mem_append_right _ h))))
  have hiX5 : ∀ w ∈ u_ws RX5 TX5 10, w ∈ wsX4_sumUpTo := fun _ h => (List.mem_cons_of_mem _ (List.mem_append_left _ (List.mem_append_right _ h)))
  have w0 := hts (.fieldLink RX4 17 "Islandgrid$Loads" "network" "LIslandgrid$Network;") (List.mem_cons_of_mem _ (List.mem_append_left _ (List.mem_append_left _ (List.mem_append_left _ (List.mem_of_getElem? (i := 0) rfl)))))
  have w1 := hts (.fieldLink RX4 28 "Islandgrid$Network" "islandOf" "[I") (List.mem_cons_of_mem _ (List.mem_append_left _ (List.mem_append_left _ (List.mem_append_left _ (List.mem_of_getElem? (i := 1) rfl)))))
  have w2 := hts (.fieldLink RX4 34 "Islandgrid$Load" "site" "I") (List.mem_cons_of_mem _ (List.mem_append_left _ (List.mem_append_left _ (List.mem_append_left _ (List.mem_of_getElem? (i := 2) rfl)))))
  have w3 := hts (.fieldLink RX4 45 "Islandgrid$Load" "power" "I") (List.mem_cons_of_mem _ (List.mem_append_left _ (List.mem_append_left _ (List.mem_append_left _ (List.mem_of_getElem? (i := 3) rfl)))))
  have w4 := hts (.fieldLink RX4 21 "Islandgrid$Loads" "count" "I") (List.mem_cons_of_mem _ (List.mem_append_left _ (List.mem_append_left _ (List.mem_append_left _ (List.mem_of_getElem? (i := 4) rfl)))))
  have w5 := hts (.fieldLink RX4 11 "Islandgrid$Loads" "all" "[LIslandgrid$Load;") (List.mem_cons_of_mem _ (List.mem_append_left _ (List.mem_append_left _ (List.mem_append_left _ (List.mem_of_getElem? (i := 5) rfl)))))
  refine lv_aload_n hX_ hB_ dX4_sumUpTo_0 rfl (lv_at hl 0 rfl) ?_
  refine ze_get (ci := 4) (C := RX4) (T := TX4) (N := 3) (v := .ref (a 1)) S hiX4 hK hW 15 (ze_at0 15 rfl) rfl 0 (by decide) rfl w0 dX4_sumUpTo_1 ?_
  refine ze_get (ci := 5) (C := RX5) (T := TX5) (N := 10) (v := .ref (a 3)) S hiX5 hK hW 1 (ze_at0 1 rfl) rfl 4 (by decide) rfl w1 dX4_sumUpTo_4 ?_
  refine lv_aload_n hX_ hB_ dX4_sumUpTo_7 rfl (lv_at hl 1 rfl) ?_
  refine ze_get (ci := 3) (C := RX3) (T := TX3) (N := 6) (v := .int (A 19 k)) S hiX3 hK hW (18 + (n 2 + (n 3 + k))) (ze_atL (g := k) (by omega)) rfl 1 (by decide) rfl w2 dX4_sumUpTo_8 ?_
  refine ze_iald hX_ hB_ hK hW 3 (f := E 0) (ze_at0 3 rfl) (zf_in hN (hS.2.2.2 k hk)) dX4_sumUpTo_11 ?_
  refine lv_istore_n (lv' := [(2, .int (E 0 (ze_ix (A 19 k)))), (0, .ref (a 15)), (1, .ref (a (40 + k)))]) hX_ hB_ dX4_sumUpTo_12 rfl hl (by decide) rfl (fun ls hl => ?_)
  refine lv_aload_n hX_ hB_ dX4_sumUpTo_13 rfl (lv_at hl 2 rfl) ?_
  refine ze_get (ci := 3) (C := RX3) (T := TX3) (N := 6) (v := .int (A 20 k)) S hiX3 hK hW (18 + (n 2 + (n 3 + k))) (ze_atL (g := k) (by omega)) rfl 2 (by decide) rfl w3 dX4_sumUpTo_14 ?_
  refine lv_istore_n (lv' := [(3, .int (A 20 k)), (2, .int (E 0 (ze_ix (A 19 k)))), (0, .ref (a 15)), (1, .ref (a (40 + k)))]) hX_ hB_ dX4_sumUpTo_17 rfl hl (by decide) rfl (fun ls hl => ?_)
  refine lv_iconst (v := 0) hX_ hB_ dX4_sumUpTo_18 (by decide) ?_
  refine lv_istore (lv' := [(4, .int 0), (3, .int (A 20 k)), (2, .int (E 0 (ze_ix (A 19 k)))), (0, .ref (a 15)), (1, .ref (a (40 + k)))]) hX_ hB_ dX4_sumUpTo_19 hl (by decide) rfl (fun ls hl => ?_)
  have L21 : ∀ (k21 : Nat) (i21 : Nat), (i21 ≤ n 4) → (n 4 - i21) < k21 → ∀ (H : Heap) (locs : List Loc) (ls : Array Slot), ze_W D (ze_wC c a n A B E) F s.heap H locs → lv_has ls 5 [(4, .int (nI i21)), (3, .int (zf_upTo A (E 0) k i21)), (2, .int (E 0 (ze_ix (A 19 k)))), (0, .ref (a 15)), (1, .ref (a (40 + k)))] → W p l e { frames := 1, cells := 0, slots := 0, locals := 22 } s m_ ([.ref (a 15), .ref (a (40 + k))] : List Value).toArray below meth cd H locs 0 0 (MQ below (ze_Qi D c (ze_wC c a n A B E) sz (zf_upTo A (E 0) k (n 4)) (ze_wC c a n A B E)) ([.ref (a 15), .ref (a (40 + k))] : List Value).toArray s 0 0 F) (F0 m_ 21 ls []) := by
    intro k21
    induction k21 with
    | zero =>
      intro i21 h21 hk21
      exact absurd hk21 (Nat.not_lt_zero _)
    | succ k21 ih21 =>
      intro i21 h21 hk21 H locs ls hW hl
      refine lv_iload hX_ hB_ dX4_sumUpTo_21 (lv_at hl 0 rfl) ?_
      refine lv_aload_n hX_ hB_ dX4_sumUpTo_23 rfl (lv_at hl 3 rfl) ?_
      refine ze_get (ci := 4) (C := RX4) (T := TX4) (N := 3) (v := .int (nI (n 4))) S hiX4 hK hW 15 (ze_at0 15 rfl) rfl 2 (by decide) rfl w4 dX4_sumUpTo_24 ?_
      refine lv_icmp_ge (tgt := 78) hX_ hB_ dX4_sumUpTo_27 (by decide) (fun c27 => ?_) (fun c27 => ?_)
      · have c27 : ¬ i21 < (n 4) := Nat.not_lt.mpr ((nI_leI (a := (n 4)) (b := i21) (by omega) (by omega)).mp c27)
        have e21 : i21 = n 4 := by omega
        subst e21
        refine lv_iload_n hX_ hB_ dX4_sumUpTo_78 rfl (lv_at hl 1 rfl) ?_
        exact ze_iret S hr hlocks hF hK hW rfl dX4_sumUpTo_79 (Nat.le_of_ble_eq_true rfl) (Nat.le_of_ble_eq_true rfl) rfl rfl
      · have c27 : i21 < (n 4) := Nat.lt_of_not_le (fun h9 => c27 ((nI_leI (a := (n 4)) (b := i21) (by omega) (by omega)).mpr h9))
        refine lv_aload_n hX_ hB_ dX4_sumUpTo_30 rfl (lv_at hl 3 rfl) ?_
        refine lv_aload_n hX_ hB_ dX4_sumUpTo_31 rfl (lv_at hl 3 rfl) ?_
        refine ze_get (ci := 4) (C := RX4) (T := TX4) (N := 3) (v := .ref (a 16)) S hiX4 hK hW 15 (ze_at0 15 rfl) rfl 1 (by decide) rfl w5 dX4_sumUpTo_32 ?_
        refine lv_iload hX_ hB_ dX4_sumUpTo_35 (lv_at hl 0 rfl) ?_
        refine ze_aldN hX_ hB_ hK hW 16 5 (ze_at0 16 rfl) rfl (i := i21) (by omega) (by omega) (by decide) dX4_sumUpTo_37 ?_
        refine lv_iload_n hX_ hB_ dX4_sumUpTo_38 rfl (lv_at hl 2 rfl) ?_
        refine ze_Vi (As := [.ref (a (40 + i21)), .int (E 0 (ze_ix (A 19 k)))]) (rest := []) (ci := 4) (q0 := 15) (k := (RX4, TX4, 3)) S (zc_4_isOn l D c a n A B E i21 (E 0 (ze_ix (A 19 k))) hN hS (by omega)) (cwV 2 hts gX4_sumUpTo_X4_isOn rfl rfl rfl (by decide +kernel) ⟨Nat.le_of_ble_eq_true rfl, Nat.le_of_ble_eq_true rfl⟩) hK hW hA rfl (ze_at0 15 rfl) rfl hl.1 rfl (lv_room (Nat.le_of_ble_eq_true rfl)) dX4_sumUpTo_39 ⟨Nat.le_of_ble_eq_true rfl, Nat.le_of_ble_eq_true rfl⟩ (fun H locs hW => ?_)
        refine lv_if_eq (tgt := 72) hX_ hB_ dX4_sumUpTo_42 (by decide) (fun c42 => ?_) (fun c42 => ?_)
        · have c42 : ¬ (E 0 (ze_ix (A 19 i21)) = E 0 (ze_ix (A 19 k))) := ze_bf c42
          refine lv_iinc (v := nI (i21 + 1)) (lv' := [(4, .int (nI (i21 + 1))), (3, .int (zf_upTo A (E 0) k i21)), (2, .int (E 0 (ze_ix (A 19 k)))), (0, .ref (a 15)), (1, .ref (a (40 + k)))]) hX_ hB_ dX4_sumUpTo_72 hl (k := 0) rfl (ze_inc _) (by decide) rfl (fun ls hl => ?_)
          refine lv_goto (tgt := 21) hX_ hB_ dX4_sumUpTo_75 (by decide) ?_
          have eL3 : zf_upTo A (E 0) k i21 = zf_upTo A (E 0) k (i21 + 1) := (by simp only [ze_b, zf_upTo, ze_sum, eq_true c27, eq_false c42, not_true_eq_false, not_false_eq_true, and_true, true_and, and_false, false_and, or_true, true_or, or_false, false_or, and_self, or_self, Decidable.not_not, if_true, if_false, reduceIte, reduceCtorEq, ne_eq, eq_self, Int32.lt_irrefl, Int32.le_refl, Nat.lt_irrefl, Int32.add_zero, zf_ahead])
          have hl : lv_has ls 5 [(4, .int (nI (i21 + 1))), (3, .int (zf_upTo A (E 0) k (i21 + 1))), (2, .int (E 0 (ze_ix (A 19 k)))), (0, .ref (a 15)), (1, .ref (a (40 + k)))] := by
            first | (rw [← eL3]; exact hl) | (simp only [← eL3]; exact hl)
          exact ih21 (i21 + 1) (by omega) (by omega) _ _ ls hW (lv_sub hl [0, 1, 2, 3, 4] rfl)
        · have c42 : E 0 (ze_ix (A 19 i21)) = E 0 (ze_ix (A 19 k)) := ze_bt c42
          refine lv_aload_n hX_ hB_ dX4_sumUpTo_45 rfl (lv_at hl 3 rfl) ?_
          refine ze_get (ci := 4) (C := RX4) (T := TX4) (N := 3) (v := .ref (a 16)) S hiX4 hK hW 15 (ze_at0 15 rfl) rfl 1 (by decide) rfl w5 dX4_sumUpTo_46 ?_
          refine lv_iload hX_ hB_ dX4_sumUpTo_49 (lv_at hl 0 rfl) ?_
          refine ze_aldN hX_ hB_ hK hW 16 5 (ze_at0 16 rfl) rfl (i := i21) (by omega) (by omega) (by decide) dX4_sumUpTo_51 ?_
          refine lv_aload_n hX_ hB_ dX4_sumUpTo_52 rfl (lv_at hl 4 rfl) ?_
          refine ze_Vi (As := [.ref (a (40 + k))]) (rest := []) (ci := 3) (q0 := (18 + (n 2 + (n 3 + i21)))) (k := (RX3, TX3, 6)) S (zc_3_comesAhead l D c a n A B E i21 k hN (by omega) (by omega)) (cwV 1 hts gX4_sumUpTo_X3_comesAhead rfl rfl rfl (by decide +kernel) ⟨Nat.le_of_ble_eq_true rfl, Nat.le_of_ble_eq_true rfl⟩) hK hW hA rfl (ze_atL (g := i21) (by omega)) rfl hl.1 rfl (lv_room (Nat.le_of_ble_eq_true rfl)) dX4_sumUpTo_53 ⟨Nat.le_of_ble_eq_true rfl, Nat.le_of_ble_eq_true rfl⟩ (fun H locs hW => ?_)
          refine lv_if_eq (tgt := 72) hX_ hB_ dX4_sumUpTo_56 (by decide) (fun c56 => ?_) (fun c56 => ?_)
          · have c56 : ¬ (zf_ca A i21 k) := ze_bf c56
            refine lv_iinc (v := nI (i21 + 1)) (lv' := [(4, .int (nI (i21 + 1))), (3, .int (zf_upTo A (E 0) k i21)), (2, .int (E 0 (ze_ix (A 19 k)))), (0, .ref (a 15)), (1, .ref (a (40 + k)))]) hX_ hB_ dX4_sumUpTo_72 hl (k := 0) rfl (ze_inc _) (by decide) rfl (fun ls hl => ?_)
            refine lv_goto (tgt := 21) hX_ hB_ dX4_sumUpTo_75 (by decide) ?_
            have eL3 : zf_upTo A (E 0) k i21 = zf_upTo A (E 0) k (i21 + 1) := (by simp only [ze_b, zf_upTo, ze_sum, eq_true c27, eq_true c42, eq_false c56, not_true_eq_false, not_false_eq_true, and_true, true_and, and_false, false_and, or_true, true_or, or_false, false_or, and_self, or_self, Decidable.not_not, if_true, if_false, reduceIte, reduceCtorEq, ne_eq, eq_self, Int32.lt_irrefl, Int32.le_refl, Nat.lt_irrefl, Int32.add_zero, zf_ahead])
            have hl : lv_has ls 5 [(4, .int (nI (i21 + 1))), (3, .int (zf_upTo A (E 0) k (i21 + 1))), (2, .int (E 0 (ze_ix (A 19 k)))), (0, .ref (a 15)), (1, .ref (a (40 + k)))] := by
              first | (rw [← eL3]; exact hl) | (simp only [← eL3]; exact hl)
            exact ih21 (i21 + 1) (by omega) (by omega) _ _ ls hW (lv_sub hl [0, 1, 2, 3, 4] rfl)
          · have c56 : zf_ca A i21 k := ze_bt c56
            refine lv_iload_n hX_ hB_ dX4_sumUpTo_59 rfl (lv_at hl 1 rfl) ?_
            refine lv_aload_n hX_ hB_ dX4_sumUpTo_60 rfl (lv_at hl 3 rfl) ?_
            refine ze_get (ci := 4) (C := RX4) (T := TX4) (N := 3) (v := .ref (a 16)) S hiX4 hK hW 15 (ze_at0 15 rfl) rfl 1 (by decide) rfl w5 dX4_sumUpTo_61 ?_
            refine lv_iload hX_ hB_ dX4_sumUpTo_64 (lv_at hl 0 rfl) ?_
            refine ze_aldN hX_ hB_ hK hW 16 5 (ze_at0 16 rfl) rfl (i := i21) (by omega) (by omega) (by decide) dX4_sumUpTo_66 ?_
            refine ze_get (ci := 3) (C := RX3) (T := TX3) (N := 6) (v := .int (A 20 i21)) S hiX3 hK hW (18 + (n 2 + (n 3 + i21))) (ze_atL (g := i21) (by omega)) rfl 2 (by decide) rfl w3 dX4_sumUpTo_67 ?_
            refine lv_iadd hX_ hB_ dX4_sumUpTo_70 ?_
            refine lv_istore_n (lv' := [(3, .int (zf_upTo A (E 0) k i21 + A 20 i21)), (4, .int (nI i21)), (2, .int (E 0 (ze_ix (A 19 k)))), (0, .ref (a 15)), (1, .ref (a (40 + k)))]) hX_ hB_ dX4_sumUpTo_71 rfl hl (by decide) rfl (fun ls hl => ?_)
            refine lv_iinc (v := nI (i21 + 1)) (lv' := [(4, .int (nI (i21 + 1))), (3, .int (zf_upTo A (E 0) k i21 + A 20 i21)), (2, .int (E 0 (ze_ix (A 19 k)))), (0, .ref (a 15)), (1, .ref (a (40 + k)))]) hX_ hB_ dX4_sumUpTo_72 hl (k := 1) rfl (ze_inc _) (by decide) rfl (fun ls hl => ?_)
            refine lv_goto (tgt := 21) hX_ hB_ dX4_sumUpTo_75 (by decide) ?_
            have eL3 : zf_upTo A (E 0) k i21 + A 20 i21 = zf_upTo A (E 0) k (i21 + 1) := (by simp only [ze_b, zf_upTo, ze_sum, eq_true c27, eq_true c42, eq_true c56, not_true_eq_false, not_false_eq_true, and_true, true_and, and_false, false_and, or_true, true_or, or_false, false_or, and_self, or_self, Decidable.not_not, if_true, if_false, reduceIte, reduceCtorEq, ne_eq, eq_self, Int32.lt_irrefl, Int32.le_refl, Nat.lt_irrefl, Int32.add_zero, zf_ahead])
            have hl : lv_has ls 5 [(4, .int (nI (i21 + 1))), (3, .int (zf_upTo A (E 0) k (i21 + 1))), (2, .int (E 0 (ze_ix (A 19 k)))), (0, .ref (a 15)), (1, .ref (a (40 + k)))] := by
              first | (rw [← eL3]; exact hl) | (simp only [← eL3]; exact hl)
            exact ih21 (i21 + 1) (by omega) (by omega) _ _ ls hW (lv_sub hl [0, 1, 2, 3, 4] rfl)
  have hl : lv_has ls 5 [(4, .int (nI 0)), (3, .int (zf_upTo A (E 0) k 0)), (2, .int (E 0 (ze_ix (A 19 k)))), (0, .ref (a 15)), (1, .ref (a (40 + k)))] := hl
  have hW : ze_W D (ze_wC c a n A B E) F s.heap _ _ := hW
  exact L21 _ 0 (by omega) (Nat.lt_succ_self _) _ _ ls hW (lv_sub hl [0, 1, 2, 3, 4] rfl)
set_option maxHeartbeats 4000000 in
set_option maxRecDepth 100000 in
theorem zc_4_keeps (l : Launch) (D : va_G) (c : Nat → ClassId) (a n : Nat → Nat) (A : Nat → Nat → Int32) (B : Nat → Int64) (E : Nat → Nat → Int32) (k : Nat) (x : Int32) (hN : zf_N n) (hS : zf_S n A) (hk : k < n 4) : ze_I l yX4_keeps wsX4_keeps 2 46 0 0 D c (ze_wC c a n A B E) [.ref (a 15), .ref (a (40 + k)), .int x] (ze_b (zf_keepC n A (E 0) k x)) (ze_wC c a n A B E) := by
  intro sz
  refine ze_start (cc := cX4_keeps) (maxL := 3) (ret := (some .boolean)) (own := RX4) (by decide) rfl rfl (Nat.le_of_ble_eq_true rfl) ?_
  obtain ⟨hn0, hn1, hn2, hn3, hn4⟩ := id hN
  intro p e s m_ below meth cd F ls hF hsz E0
  obtain ⟨S, hr, hlocks, hK, hW, hA, hl⟩ := E0
  have hX_ := S.1
  have hB_ := S.2.1
  have hts := S.2.2.2.2
  have hl : lv_has ls 3 [(0, .ref (a 15)), (1, .ref (a (40 + k))), (2, .int x)] := hl
  refine lv_iload_n hX_ hB_ dX4_keeps_0 rfl (lv_at hl 2 rfl) ?_
  refine lv_iconst (v := (-1)) hX_ hB_ dX4_keeps_1 (by decide) ?_
  refine lv_icmp_eq (tgt := 14) hX_ hB_ dX4_keeps_2 (by decide) (fun c2 => ?_) (fun c2 => ?_)
  · refine lv_iconst (v := 1) hX_ hB_ dX4_keeps_14 (by decide) ?_
    refine lv_goto (tgt := 19) hX_ hB_ dX4_keeps_15 (by decide) ?_
    exact ze_iret S hr hlocks hF hK hW rfl dX4_keeps_19 (Nat.le_of_ble_eq_true rfl) (Nat.le_of_ble_eq_true rfl) (by simp only [ze_b, zf_keepC, eq_true c2, not_true_eq_false, not_false_eq_true, and_true, true_and, and_false, false_and, or_true, true_or, or_false, false_or, and_self, or_self, Decidable.not_not, if_true, if_false, reduceIte, reduceCtorEq, ne_eq, eq_self, Int32.lt_irrefl, Int32.le_refl, Nat.lt_irrefl]) rfl
  · refine lv_aload_n hX_ hB_ dX4_keeps_5 rfl (lv_at hl 0 rfl) ?_
    refine lv_aload_n hX_ hB_ dX4_keeps_6 rfl (lv_at hl 1 rfl) ?_
    refine ze_Vi (As := [.ref (a (40 + k))]) (rest := []) (ci := 4) (q0 := 15) (k := (RX4, TX4, 3)) S (zc_4_sumUpTo l D c a n A B E k hN hS (by omega)) (cwV 1 hts gX4_keeps_X4_sumUpTo rfl rfl rfl (by decide +kernel) ⟨Nat.le_of_ble_eq_true rfl, Nat.le_of_ble_eq_true rfl⟩) hK hW hA rfl (ze_at0 15 rfl) rfl hl.1 rfl (lv_room (Nat.le_of_ble_eq_true rfl)) dX4_keeps_7 ⟨Nat.le_of_ble_eq_true rfl, Nat.le_of_ble_eq_true rfl⟩ (fun H locs hW => ?_)
    refine lv_iload_n hX_ hB_ dX4_keeps_10 rfl (lv_at hl 2 rfl) ?_
    refine lv_icmp_gt (tgt := 18) hX_ hB_ dX4_keeps_11 (by decide) (fun c11 => ?_) (fun c11 => ?_)
    · refine lv_iconst (v := 0) hX_ hB_ dX4_keeps_18 (by decide) ?_
      exact ze_iret S hr hlocks hF hK hW rfl dX4_keeps_19 (Nat.le_of_ble_eq_true rfl) (Nat.le_of_ble_eq_true rfl) (by simp only [ze_b, zf_keepC, eq_false c2, eq_true c11, not_true_eq_false, not_false_eq_true, and_true, true_and, and_false, false_and, or_true, true_or, or_false, false_or, and_self, or_self, Decidable.not_not, if_true, if_false, reduceIte, reduceCtorEq, ne_eq, eq_self, Int32.lt_irrefl, Int32.le_refl, Nat.lt_irrefl]) rfl
    · refine lv_iconst (v := 1) hX_ hB_ dX4_keeps_14 (by decide) ?_
      refine lv_goto (tgt := 19) hX_ hB_ dX4_keeps_15 (by decide) ?_
      exact ze_iret S hr hlocks hF hK hW rfl dX4_keeps_19 (Nat.le_of_ble_eq_true rfl) (Nat.le_of_ble_eq_true rfl) (by simp only [ze_b, zf_keepC, eq_false c2, eq_false c11, not_true_eq_false, not_false_eq_true, and_true, true_and, and_false, false_and, or_true, true_or, or_false, false_or, and_self, or_self, Decidable.not_not, if_true, if_false, reduceIte, reduceCtorEq, ne_eq, eq_self, Int32.lt_irrefl, Int32.le_refl, Nat.lt_irrefl]) rfl
set_option maxHeartbeats 4000000 in
set_option maxRecDepth 100000 in
theorem zc_4_shed (l : Launch) (D : va_G) (c : Nat → ClassId) (a n : Nat → Nat) (A : Nat → Nat → Int32) (B : Nat → Int64) (E : Nat → Nat → Int32) (m x y : Int32) (hN : zf_N n) (hS : zf_S n A) : ze_V l yX4_shed wsX4_shed 3 68 0 0 D c (ze_wC c a n A B E) [.ref (a 15), .int m, .int x, .int y] (ze_wC c a n (ze_sA (ze_sA A 5 (ze_up (zf_shC n A (E 0) m x) (A 5) (n 4))) 22 (ze_up (zf_shW n A (E 0) m x y) (A 22) (n 4))) B E) := by
  intro sz
  refine ze_start (cc := cX4_shed) (maxL := 5) (ret := none) (own := RX4) (by decide) rfl rfl (Nat.le_of_ble_eq_true rfl) ?_
  obtain ⟨hn0, hn1, hn2, hn3, hn4⟩ := id hN
  intro p e s m_ below meth cd F ls hF hsz E0
  obtain ⟨S, hr, hlocks, hK, hW, hA, hl⟩ := E0
  have hX_ := S.1
  have hB_ := S.2.1
  have hts := S.2.2.2.2
  have hl : lv_has ls 5 [(0, .ref (a 15)), (1, .int m), (2, .int x), (3, .int y)] := hl
  have hiX4 : ∀ w ∈ u_ws RX4 TX4 3, w ∈ wsX4_shed := fun _ h => (List.mem_cons_of_mem _ (List.mem_append_left _ (List.mem_append_left _ (List.mem_append_right _ h))))
  have w0 := hts (.fieldLink RX4 21 "Islandgrid$Loads" "count" "I") (List.mem_cons_of_mem _ (List.mem_append_left _ (List.mem_append_left _ (List.mem_append_left _ (List.mem_append_left _ (List.mem_of_getElem? (i := 0) rfl))))))
  have w1 := hts (.fieldLink RX4 11 "Islandgrid$Loads" "all" "[LIslandgrid$Load;") (List.mem_cons_of_mem _ (List.mem_append_left _ (List.mem_append_left _ (List.mem_append_left _ (List.mem_append_left _ (List.mem_of_getElem? (i := 1) rfl))))))
  refine lv_iconst (v := 0) hX_ hB_ dX4_shed_0 (by decide) ?_
  refine lv_istore (lv' := [(4, .int 0), (0, .ref (a 15)), (1, .int m), (2, .int x), (3, .int y)]) hX_ hB_ dX4_shed_1 hl (by decide) rfl (fun ls hl => ?_)
  have L3 : ∀ (k3 : Nat) (i3 : Nat), (i3 ≤ n 4) → (n 4 - i3) < k3 → ∀ (H : Heap) (locs : List Loc) (ls : Array Slot), ze_W D (ze_wC c a n (ze_sA (ze_sA A 5 (ze_up (zf_shC n A (E 0) m x) (A 5) i3)) 22 (ze_up (zf_shW n A (E 0) m x y) (A 22) i3)) B E) F s.heap H locs → lv_has ls 5 [(4, .int (nI i3)), (0, .ref (a 15)), (1, .int m), (2, .int x), (3, .int y)] → W p l e { frames := 3, cells := 0, slots := 0, locals := 68 } s m_ ([.ref (a 15), .int m, .int x, .int y] : List Value).toArray below meth cd H locs 0 0 (MQ below (ze_Qv D c (ze_wC c a n A B E) sz (ze_wC c a n (ze_sA (ze_sA A 5 (ze_up (zf_shC n A (E 0) m x) (A 5) (n 4))) 22 (ze_up (zf_shW n A (E 0) m x y) (A 22) (n 4))) B E)) ([.ref (a 15), .int m, .int x, .int y] : List Value).toArray s 0 0 F) (F0 m_ 3 ls []) := by
    intro k3
    induction k3 with
    | zero =>
      intro i3 h3 hk3
      exact absurd hk3 (Nat.not_lt_zero _)
    | succ k3 ih3 =>
      intro i3 h3 hk3 H locs ls hW hl
      refine lv_iload hX_ hB_ dX4_shed_3 (lv_at hl 0 rfl) ?_
      refine lv_aload_n hX_ hB_ dX4_shed_5 rfl (lv_at hl 1 rfl) ?_
      refine ze_get (ci := 4) (C := RX4) (T := TX4) (N := 3) (v := .int (nI (n 4))) S hiX4 hK hW 15 (ze_at0 15 rfl) rfl 2 (by decide) rfl w0 dX4_shed_6 ?_
      refine lv_icmp_ge (tgt := 56) hX_ hB_ dX4_shed_9 (by decide) (fun c9 => ?_) (fun c9 => ?_)
      · have c9 : ¬ i3 < (n 4) := Nat.not_lt.mpr ((nI_leI (a := (n 4)) (b := i3) (by omega) (by omega)).mp c9)
        have e3 : i3 = n 4 := by omega
        subst e3
        exact ze_vret S hr hlocks hF hK hW dX4_shed_56 (Nat.le_of_ble_eq_true rfl) (Nat.le_of_ble_eq_true rfl) rfl
      · have c9 : i3 < (n 4) := Nat.lt_of_not_le (fun h9 => c9 ((nI_leI (a := (n 4)) (b := i3) (by omega) (by omega)).mpr h9))
        refine lv_aload_n hX_ hB_ dX4_shed_12 rfl (lv_at hl 1 rfl) ?_
        refine lv_aload_n hX_ hB_ dX4_shed_13 rfl (lv_at hl 1 rfl) ?_
        refine ze_get (ci := 4) (C := RX4) (T := TX4) (N := 3) (v := .ref (a 16)) S hiX4 hK hW 15 (ze_at0 15 rfl) rfl 1 (by decide) rfl w1 dX4_shed_14 ?_
        refine lv_iload hX_ hB_ dX4_shed_17 (lv_at hl 0 rfl) ?_
        refine ze_aldN hX_ hB_ hK hW 16 5 (ze_at0 16 rfl) rfl (i := i3) (by omega) (by omega) (by decide) dX4_shed_19 ?_
        refine lv_iload_n hX_ hB_ dX4_shed_20 rfl (lv_at hl 2 rfl) ?_
        refine ze_Vi (As := [.ref (a (40 + i3)), .int m]) (rest := []) (ci := 4) (q0 := 15) (k := (RX4, TX4, 3)) S (zc_4_isOn l D c a n (ze_sA (ze_sA A 5 (ze_up (zf_shC n A (E 0) m x) (A 5) i3)) 22 (ze_up (zf_shW n A (E 0) m x y) (A 22) i3)) B E i3 m hN hS (by omega)) (cwV 2 hts gX4_shed_X4_isOn rfl rfl rfl (by decide +kernel) ⟨Nat.le_of_ble_eq_true rfl, Nat.le_of_ble_eq_true rfl⟩) hK hW hA rfl (ze_at0 15 rfl) rfl hl.1 rfl (lv_room (Nat.le_of_ble_eq_true rfl)) dX4_shed_21 ⟨Nat.le_of_ble_eq_true rfl, Nat.le_of_ble_eq_true rfl⟩ (fun H locs hW => ?_)
        refine lv_if_eq (tgt := 50) hX_ hB_ dX4_shed_24 (by decide) (fun c24 => ?_) (fun c24 => ?_)
        · have c24 : ¬ (E 0 (ze_ix (A 19 i3)) = m) := ze_bf c24
          refine lv_iinc (v := nI (i3 + 1)) (lv' := [(4, .int (nI (i3 + 1))), (0, .ref (a 15)), (1, .int m), (2, .int x), (3, .int y)]) hX_ hB_ dX4_shed_50 hl (k := 0) rfl (ze_inc _) (by decide) rfl (fun ls hl => ?_)
          refine lv_goto (tgt := 3) hX_ hB_ dX4_shed_53 (by decide) ?_
          have eW : (ze_wC c a n (ze_sA (ze_sA A 5 (ze_up (zf_shC n A (E 0) m x) (A 5) i3)) 22 (ze_up (zf_shW n A (E 0) m x y) (A 22) i3)) B E) = (ze_wC c a n (ze_sA (ze_sA A 5 (ze_up (zf_shC n A (E 0) m x) (A 5) (i3 + 1))) 22 (ze_up (zf_shW n A (E 0) m x y) (A 22) (i3 + 1))) B E) := (by rw [ze_up_k (f := (zf_shC n A (E 0) m x)) (g := A 5) (i := i3) (by simp only [ze_b, zf_shC, eq_true c9, eq_false c24, not_true_eq_false, not_false_eq_true, and_true, true_and, and_false, false_and, or_true, true_or, or_false, false_or, and_self, or_self, Decidable.not_not, if_true, if_false, reduceIte, reduceCtorEq, ne_eq, eq_self, Int32.lt_irrefl, Int32.le_refl, Nat.lt_irrefl]), ze_up_k (f := (zf_shW n A (E 0) m x y)) (g := A 22) (i := i3) (by simp only [ze_b, zf_shW, eq_true c9, eq_false c24, not_true_eq_false, not_false_eq_true, and_true, true_and, and_false, false_and, or_true, true_or, or_false, false_or, and_self, or_self, Decidable.not_not, if_true, if_false, reduceIte, reduceCtorEq, ne_eq, eq_self, Int32.lt_irrefl, Int32.le_refl, Nat.lt_irrefl])])
          rw [eW] at hW
          exact ih3 (i3 + 1) (by omega) (by omega) _ _ ls hW (lv_sub hl [0, 1, 2, 3, 4] rfl)
        · have c24 : E 0 (ze_ix (A 19 i3)) = m := ze_bt c24
          refine lv_aload_n hX_ hB_ dX4_shed_27 rfl (lv_at hl 1 rfl) ?_
          refine ze_get (ci := 4) (C := RX4) (T := TX4) (N := 3) (v := .ref (a 16)) S hiX4 hK hW 15 (ze_at0 15 rfl) rfl 1 (by decide) rfl w1 dX4_shed_28 ?_
          refine lv_iload hX_ hB_ dX4_shed_31 (lv_at hl 0 rfl) ?_
          refine ze_aldN hX_ hB_ hK hW 16 5 (ze_at0 16 rfl) rfl (i := i3) (by omega) (by omega) (by decide) dX4_shed_33 ?_
          refine lv_aload_n hX_ hB_ dX4_shed_34 rfl (lv_at hl 1 rfl) ?_
          refine lv_aload_n hX_ hB_ dX4_shed_35 rfl (lv_at hl 1 rfl) ?_
          refine ze_get (ci := 4) (C := RX4) (T := TX4) (N := 3) (v := .ref (a 16)) S hiX4 hK hW 15 (ze_at0 15 rfl) rfl 1 (by decide) rfl w1 dX4_shed_36 ?_
          refine lv_iload hX_ hB_ dX4_shed_39 (lv_at hl 0 rfl) ?_
          refine ze_aldN hX_ hB_ hK hW 16 5 (ze_at0 16 rfl) rfl (i := i3) (by omega) (by omega) (by decide) dX4_shed_41 ?_
          refine lv_iload_n hX_ hB_ dX4_shed_42 rfl (lv_at hl 3 rfl) ?_
          refine ze_Vi (As := [.ref (a (40 + i3)), .int x]) (rest := [.ref (a (40 + i3))]) (ci := 4) (q0 := 15) (k := (RX4, TX4, 3)) S (zc_4_keeps l D c a n (ze_sA (ze_sA A 5 (ze_up (zf_shC n A (E 0) m x) (A 5) i3)) 22 (ze_up (zf_shW n A (E 0) m x y) (A 22) i3)) B E i3 x hN hS (by omega)) (cwV 2 hts gX4_shed_X4_keeps rfl rfl rfl (by decide +kernel) ⟨Nat.le_of_ble_eq_true rfl, Nat.le_of_ble_eq_true rfl⟩) hK hW hA rfl (ze_at0 15 rfl) rfl hl.1 rfl (lv_room (Nat.le_of_ble_eq_true rfl)) dX4_shed_43 ⟨Nat.le_of_ble_eq_true rfl, Nat.le_of_ble_eq_true rfl⟩ (fun H locs hW => ?_)
          refine lv_iload_n hX_ hB_ dX4_shed_46 rfl (lv_at hl 4 rfl) ?_
          refine ze_Vv (As := [.int (ze_b (zf_keepC n A (E 0) i3 x)), .int y]) (rest := []) (ci := 3) (q0 := (18 + (n 2 + (n 3 + i3)))) (k := (RX3, TX3, 6)) S (zc_3_update l D c a n (ze_sA (ze_sA A 5 (ze_up (zf_shC n A (E 0) m x) (A 5) i3)) 22 (ze_up (zf_shW n A (E 0) m x y) (A 22) i3)) B E i3 (zf_keepC n A (E 0) i3 x) y hN (by omega)) (cwV 2 hts gX4_shed_X3_update rfl rfl rfl (by decide +kernel) ⟨Nat.le_of_ble_eq_true rfl, Nat.le_of_ble_eq_true rfl⟩) hK hW hA rfl (ze_atL (g := i3) (by omega)) rfl hl.1 rfl (lv_room (Nat.le_of_ble_eq_true rfl)) dX4_shed_47 ⟨Nat.le_of_ble_eq_true rfl, Nat.le_of_ble_eq_true rfl⟩ (fun H locs hW => ?_)
          have hW : ze_W D (ze_wC c a n (ze_sE (ze_sE (ze_sA (ze_sA A 5 (ze_up (zf_shC n A (E 0) m x) (A 5) i3)) 22 (ze_up (zf_shW n A (E 0) m x y) (A 22) i3)) 5 i3 (zf_cD (zf_keepC n A (E 0) i3 x) (ze_sA (ze_sA A 5 (ze_up (zf_shC n A (E 0) m x) (A 5) i3)) 22 (ze_up (zf_shW n A (E 0) m x y) (A 22) i3)) i3)) 22 i3 (zf_cW (zf_keepC n A (E 0) i3 x) (ze_sA (ze_sA A 5 (ze_up (zf_shC n A (E 0) m x) (A 5) i3)) 22 (ze_up (zf_shW n A (E 0) m x y) (A 22) i3)) i3 y)) B E) F s.heap _ _ := hW
          refine lv_iinc (v := nI (i3 + 1)) (lv' := [(4, .int (nI (i3 + 1))), (0, .ref (a 15)), (1, .int m), (2, .int x), (3, .int y)]) hX_ hB_ dX4_shed_50 hl (k := 0) rfl (ze_inc _) (by decide) rfl (fun ls hl => ?_)
          refine lv_goto (tgt := 3) hX_ hB_ dX4_shed_53 (by decide) ?_
          have eW : (ze_wC c a n (ze_sE (ze_sE (ze_sA (ze_sA A 5 (ze_up (zf_shC n A (E 0) m x) (A 5) i3)) 22 (ze_up (zf_shW n A (E 0) m x y) (A 22) i3)) 5 i3 (zf_cD (zf_keepC n A (E 0) i3 x) (ze_sA (ze_sA A 5 (ze_up (zf_shC n A (E 0) m x) (A 5) i3)) 22 (ze_up (zf_shW n A (E 0) m x y) (A 22) i3)) i3)) 22 i3 (zf_cW (zf_keepC n A (E 0) i3 x) (ze_sA (ze_sA A 5 (ze_up (zf_shC n A (E 0) m x) (A 5) i3)) 22 (ze_up (zf_shW n A (E 0) m x y) (A 22) i3)) i3 y)) B E) = (ze_wC c a n (ze_sA (ze_sA A 5 (ze_up (zf_shC n A (E 0) m x) (A 5) (i3 + 1))) 22 (ze_up (zf_shW n A (E 0) m x y) (A 22) (i3 + 1))) B E) := (by rw [zf_cDup, zf_cWup]; simp (decide := true) only [ze_e1, ze_e2]; rw [ze_up_s (f := (zf_shC n A (E 0) m x)) (by simp only [ze_b, zf_shC, eq_true c9, eq_true c24, not_true_eq_false, not_false_eq_true, and_true, true_and, and_false, false_and, or_true, true_or, or_false, false_or, and_self, or_self, Decidable.not_not, if_true, if_false, reduceIte, reduceCtorEq, ne_eq, eq_self, Int32.lt_irrefl, Int32.le_refl, Nat.lt_irrefl]), ze_up_s (f := (zf_shW n A (E 0) m x y)) (by simp only [ze_b, zf_shW, eq_true c9, eq_true c24, not_true_eq_false, not_false_eq_true, and_true, true_and, and_false, false_and, or_true, true_or, or_false, false_or, and_self, or_self, Decidable.not_not, if_true, if_false, reduceIte, reduceCtorEq, ne_eq, eq_self, Int32.lt_irrefl, Int32.le_refl, Nat.lt_irrefl])])
          rw [eW] at hW
          exact ih3 (i3 + 1) (by omega) (by omega) _ _ ls hW (lv_sub hl [0, 1, 2, 3, 4] rfl)
  have hl : lv_has ls 5 [(4, .int (nI 0)), (0, .ref (a 15)), (1, .int m), (2, .int x), (3, .int y)] := hl
  have hW : ze_W D (ze_wC c a n (ze_sA (ze_sA A 5 (ze_up (zf_shC n A (E 0) m x) (A 5) 0)) 22 (ze_up (zf_shW n A (E 0) m x y) (A 22) 0)) B E) F s.heap _ _ := (by rw [ze_up_0 _ (A 5), ze_up_0 _ (A 22), ze_sAid, ze_sAid2]; exact hW)
  exact L3 _ 0 (by omega) (Nat.lt_succ_self _) _ _ ls hW (lv_sub hl [0, 1, 2, 3, 4] rfl)
