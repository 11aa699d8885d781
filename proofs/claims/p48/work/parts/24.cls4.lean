set_option maxHeartbeats 4000000 in
set_option maxRecDepth 100000 in
theorem zc_6_isOn (l : Launch) (D : va_G) (c : Nat → ClassId) (a n : Nat → Nat) (A : Nat → Nat → Int32) (B : Nat → Int64) (E : Nat → Nat → Int32) (g : Nat) (m : Int32) (hN : zf_N n) (hS : zf_S n A) (hg : g < n 3) : ze_I l yX6_isOn wsX6_isOn 0 0 0 0 D c (ze_wC c a n A B E) [.ref (a 13), .int (nI g), .int m] (ze_b (E 0 (ze_ix (A 14 g)) = m)) (ze_wC c a n A B E) := by
  intro sz
  refine ze_start (cc := cX6_isOn) (maxL := 3) (ret := (some .boolean)) (own := RX6) (by decide) rfl rfl (Nat.le_of_ble_eq_true rfl) ?_
  obtain ⟨hn0, hn1, hn2, hn3, hn4⟩ := id hN
  intro p e s m_ below meth cd F ls hF hsz E0
  obtain ⟨S, hr, hlocks, hK, hW, hA, hl⟩ := E0
  have hX_ := S.1
  have hB_ := S.2.1
  have hts := S.2.2.2.2
  have hl : lv_has ls 3 [(0, .ref (a 13)), (1, .int (nI g)), (2, .int m)] := hl
  have hiX5 : ∀ w ∈ u_ws RX5 TX5 10, w ∈ wsX6_isOn := fun _ h => (List.mem_cons_of_mem _ (List.mem_append_left _ (List.mem_append_right _ h)))
  have hiX6 : ∀ w ∈ u_ws RX6 TX6 3, w ∈ wsX6_isOn := fun _ h => (List.mem_cons_of_mem _ (List.mem_append_left _ (List.mem_append_left _ (List.mem_append_right _ h))))
  have hiX7 : ∀ w ∈ u_ws RX7 TX7 5, w ∈ wsX6_isOn := fun _ h => (List.mem_cons_of_mem _ (List.mem_append_right _ h))
  have w0 := hts (.fieldLink RX6 17 "Islandgrid$Storage" "network" "LIslandgrid$Network;") (List.mem_cons_of_mem _ (List.mem_append_left _ (List.mem_append_left _ (List.mem_append_left _ (List.mem_of_getElem? (i := 0) rfl)))))
  have w1 := hts (.fieldLink RX6 25 "Islandgrid$Network" "islandOf" "[I") (List.mem_cons_of_mem _ (List.mem_append_left _ (List.mem_append_left _ (List.mem_append_left _ (List.mem_of_getElem? (i := 1) rfl)))))
  have w2 := hts (.fieldLink RX6 11 "Islandgrid$Storage" "all" "[LIslandgrid$Store;") (List.mem_cons_of_mem _ (List.mem_append_left _ (List.mem_append_left _ (List.mem_append_left _ (List.mem_of_getElem? (i := 2) rfl)))))
  have w3 := hts (.fieldLink RX6 31 "Islandgrid$Store" "site" "I") (List.mem_cons_of_mem _ (List.mem_append_left _ (List.mem_append_left _ (List.mem_append_left _ (List.mem_of_getElem? (i := 3) rfl)))))
  refine lv_aload_n hX_ hB_ dX6_isOn_0 rfl (lv_at hl 0 rfl) ?_
  refine ze_get (ci := 6) (C := RX6) (T := TX6) (N := 3) (v := .ref (a 1)) S hiX6 hK hW 13 (ze_at0 13 rfl) rfl 0 (by decide) rfl w0 dX6_isOn_1 ?_
  refine ze_get (ci := 5) (C := RX5) (T := TX5) (N := 10) (v := .ref (a 3)) S hiX5 hK hW 1 (ze_at0 1 rfl) rfl 4 (by decide) rfl w1 dX6_isOn_4 ?_
  refine lv_aload_n hX_ hB_ dX6_isOn_7 rfl (lv_at hl 0 rfl) ?_
  refine ze_get (ci := 6) (C := RX6) (T := TX6) (N := 3) (v := .ref (a 14)) S hiX6 hK hW 13 (ze_at0 13 rfl) rfl 1 (by decide) rfl w2 dX6_isOn_8 ?_
  refine lv_iload_n hX_ hB_ dX6_isOn_11 rfl (lv_at hl 1 rfl) ?_
  refine ze_aldN hX_ hB_ hK hW 14 4 (ze_at0 14 rfl) rfl (i := g) (by omega) (by omega) (by decide) dX6_isOn_12 ?_
  refine ze_get (ci := 7) (C := RX7) (T := TX7) (N := 5) (v := .int (A 14 g)) S hiX7 hK hW (18 + (n 2 + g)) (ze_atT (g := g) (by omega)) rfl 0 (by decide) rfl w3 dX6_isOn_13 ?_
  refine ze_iald hX_ hB_ hK hW 3 (f := E 0) (ze_at0 3 rfl) (zf_in hN (hS.2.2.1 g hg)) dX6_isOn_16 ?_
  refine lv_iload_n hX_ hB_ dX6_isOn_17 rfl (lv_at hl 2 rfl) ?_
  refine lv_icmp_ne (tgt := 25) hX_ hB_ dX6_isOn_18 (by decide) (fun c18 => ?_) (fun c18 => ?_)
  · refine lv_iconst (v := 0) hX_ hB_ dX6_isOn_25 (by decide) ?_
    exact ze_iret S hr hlocks hF hK hW rfl dX6_isOn_26 (Nat.le_of_ble_eq_true rfl) (Nat.le_of_ble_eq_true rfl) (by simp only [ze_b, eq_false c18, not_true_eq_false, not_false_eq_true, and_true, true_and, and_false, false_and, or_true, true_or, or_false, false_or, and_self, or_self, Decidable.not_not, if_true, if_false, reduceIte, reduceCtorEq, ne_eq, eq_self, Int32.lt_irrefl, Int32.le_refl, Nat.lt_irrefl]) rfl
  · refine lv_iconst (v := 1) hX_ hB_ dX6_isOn_21 (by decide) ?_
    refine lv_goto (tgt := 26) hX_ hB_ dX6_isOn_22 (by decide) ?_
    exact ze_iret S hr hlocks hF hK hW rfl dX6_isOn_26 (Nat.le_of_ble_eq_true rfl) (Nat.le_of_ble_eq_true rfl) (by simp only [ze_b, eq_true c18, not_true_eq_false, not_false_eq_true, and_true, true_and, and_false, false_and, or_true, true_or, or_false, false_or, and_self, or_self, Decidable.not_not, if_true, if_false, reduceIte, reduceCtorEq, ne_eq, eq_self, Int32.lt_irrefl, Int32.le_refl, Nat.lt_irrefl]) rfl
set_option maxHeartbeats 4000000 in
set_option maxRecDepth 100000 in
theorem zc_6_sumOfSupply (l : Launch) (D : va_G) (c : Nat → ClassId) (a n : Nat → Nat) (A : Nat → Nat → Int32) (B : Nat → Int64) (E : Nat → Nat → Int32) (m : Int32) (hN : zf_N n) (hS : zf_S n A) : ze_I l yX6_sumOfSupply wsX6_sumOfSupply 2 33 0 0 D c (ze_wC c a n A B E) [.ref (a 13), .int m] (zf_supT A (E 0) m 0 (n 3)) (ze_wC c a n A B E) := by
  intro sz
  refine ze_start (cc := cX6_sumOfSupply) (maxL := 4) (ret := (some .int)) (own := RX6) (by decide) rfl rfl (Nat.le_of_ble_eq_true rfl) ?_
  obtain ⟨hn0, hn1, hn2, hn3, hn4⟩ := id hN
  intro p e s m_ below meth cd F ls hF hsz E0
  obtain ⟨S, hr, hlocks, hK, hW, hA, hl⟩ := E0
  have hX_ := S.1
  have hB_ := S.2.1
  have hts := S.2.2.2.2
  have hl : lv_has ls 4 [(0, .ref (a 13)), (1, .int m)] := hl
  have hiX6 : ∀ w ∈ u_ws RX6 TX6 3, w ∈ wsX6_sumOfSupply := fun _ h => (List.mem_cons_of_mem _ (List.mem_append_left _ (List.mem_append_left _ (List.mem_append_right _ h))))
  have w0 := hts (.fieldLink RX6 21 "Islandgrid$Storage" "count" "I") (List.mem_cons_of_mem _ (List.mem_append_left _ (List.mem_append_left _ (List.mem_append_left _ (List.mem_of_getElem? (i := 0) rfl)))))
  have w1 := hts (.fieldLink RX6 11 "Islandgrid$Storage" "all" "[LIslandgrid$Store;") (List.mem_cons_of_mem _ (List.mem_append_left _ (List.mem_append_left _ (List.mem_append_left _ (List.mem_of_getElem? (i := 1) rfl)))))
  refine lv_iconst (v := 0) hX_ hB_ dX6_sumOfSupply_0 (by decide) ?_
  refine lv_istore_n (lv' := [(2, .int 0), (0, .ref (a 13)), (1, .int m)]) hX_ hB_ dX6_sumOfSupply_1 rfl hl (by decide) rfl (fun ls hl => ?_)
  refine lv_iconst (v := 0) hX_ hB_ dX6_sumOfSupply_2 (by decide) ?_
  refine lv_istore_n (lv' := [(3, .int 0), (2, .int 0), (0, .ref (a 13)), (1, .int m)]) hX_ hB_ dX6_sumOfSupply_3 rfl hl (by decide) rfl (fun ls hl => ?_)
  have L4 : ∀ (k4 : Nat) (i4 : Nat), (i4 ≤ n 3) → (n 3 - i4) < k4 → ∀ (H : Heap) (locs : List Loc) (ls : Array Slot), ze_W D (ze_wC c a n A B E) F s.heap H locs → lv_has ls 4 [(3, .int (nI i4)), (2, .int (zf_supT A (E 0) m 0 i4)), (0, .ref (a 13)), (1, .int m)] → W p l e { frames := 2, cells := 0, slots := 0, locals := 33 } s m_ ([.ref (a 13), .int m] : List Value).toArray below meth cd H locs 0 0 (MQ below (ze_Qi D c (ze_wC c a n A B E) sz (zf_supT A (E 0) m 0 (n 3)) (ze_wC c a n A B E)) ([.ref (a 13), .int m] : List Value).toArray s 0 0 F) (F0 m_ 4 ls []) := by
    intro k4
    induction k4 with
    | zero =>
      intro i4 h4 hk4
      exact absurd hk4 (Nat.not_lt_zero _)
    | succ k4 ih4 =>
      intro i4 h4 hk4 H locs ls hW hl
      refine lv_iload_n hX_ hB_ dX6_sumOfSupply_4 rfl (lv_at hl 0 rfl) ?_
      refine lv_aload_n hX_ hB_ dX6_sumOfSupply_5 rfl (lv_at hl 2 rfl) ?_
      refine ze_get (ci := 6) (C := RX6) (T := TX6) (N := 3) (v := .int (nI (n 3))) S hiX6 hK hW 13 (ze_at0 13 rfl) rfl 2 (by decide) rfl w0 dX6_sumOfSupply_6 ?_
      refine lv_icmp_ge (tgt := 39) hX_ hB_ dX6_sumOfSupply_9 (by decide) (fun c9 => ?_) (fun c9 => ?_)
      · have c9 : ¬ i4 < (n 3) := Nat.not_lt.mpr ((nI_leI (a := (n 3)) (b := i4) (by omega) (by omega)).mp c9)
        have e4 : i4 = n 3 := by omega
        subst e4
        refine lv_iload_n hX_ hB_ dX6_sumOfSupply_39 rfl (lv_at hl 1 rfl) ?_
        exact ze_iret S hr hlocks hF hK hW rfl dX6_sumOfSupply_40 (Nat.le_of_ble_eq_true rfl) (Nat.le_of_ble_eq_true rfl) rfl rfl
      · have c9 : i4 < (n 3) := Nat.lt_of_not_le (fun h9 => c9 ((nI_leI (a := (n 3)) (b := i4) (by omega) (by omega)).mpr h9))
        refine lv_aload_n hX_ hB_ dX6_sumOfSupply_12 rfl (lv_at hl 2 rfl) ?_
        refine lv_iload_n hX_ hB_ dX6_sumOfSupply_13 rfl (lv_at hl 0 rfl) ?_
        refine lv_iload_n hX_ hB_ dX6_sumOfSupply_14 rfl (lv_at hl 3 rfl) ?_
        refine ze_Vi (As := [.int (nI i4), .int m]) (rest := []) (ci := 6) (q0 := 13) (k := (RX6, TX6, 3)) S (zc_6_isOn l D c a n A B E i4 m hN hS (by omega)) (cwV 2 hts gX6_sumOfSupply_X6_isOn rfl rfl rfl (by decide +kernel) ⟨Nat.le_of_ble_eq_true rfl, Nat.le_of_ble_eq_true rfl⟩) hK hW hA rfl (ze_at0 13 rfl) rfl hl.1 rfl (lv_room (Nat.le_of_ble_eq_true rfl)) dX6_sumOfSupply_15 ⟨Nat.le_of_ble_eq_true rfl, Nat.le_of_ble_eq_true rfl⟩ (fun H locs hW => ?_)
        refine lv_if_eq (tgt := 33) hX_ hB_ dX6_sumOfSupply_18 (by decide) (fun c18 => ?_) (fun c18 => ?_)
        · have c18 : ¬ (E 0 (ze_ix (A 14 i4)) = m) := ze_bf c18
          refine lv_iinc (v := nI (i4 + 1)) (lv' := [(3, .int (nI (i4 + 1))), (2, .int (zf_supT A (E 0) m 0 i4)), (0, .ref (a 13)), (1, .int m)]) hX_ hB_ dX6_sumOfSupply_33 hl (k := 0) rfl (ze_inc _) (by decide) rfl (fun ls hl => ?_)
          refine lv_goto (tgt := 4) hX_ hB_ dX6_sumOfSupply_36 (by decide) ?_
          have eL2 : zf_supT A (E 0) m 0 i4 = zf_supT A (E 0) m 0 (i4 + 1) := (by simp only [ze_b, zf_supT, ze_sum, eq_true c9, eq_false c18, not_true_eq_false, not_false_eq_true, and_true, true_and, and_false, false_and, or_true, true_or, or_false, false_or, and_self, or_self, Decidable.not_not, if_true, if_false, reduceIte, reduceCtorEq, ne_eq, eq_self, Int32.lt_irrefl, Int32.le_refl, Nat.lt_irrefl, Int32.add_zero])
          have hl : lv_has ls 4 [(3, .int (nI (i4 + 1))), (2, .int (zf_supT A (E 0) m 0 (i4 + 1))), (0, .ref (a 13)), (1, .int m)] := by
            first | (rw [← eL2]; exact hl) | (simp only [← eL2]; exact hl)
          exact ih4 (i4 + 1) (by omega) (by omega) _ _ ls hW (lv_sub hl [0, 1, 2, 3] rfl)
        · have c18 : E 0 (ze_ix (A 14 i4)) = m := ze_bt c18
          refine lv_iload_n hX_ hB_ dX6_sumOfSupply_21 rfl (lv_at hl 1 rfl) ?_
          refine lv_aload_n hX_ hB_ dX6_sumOfSupply_22 rfl (lv_at hl 2 rfl) ?_
          refine ze_get (ci := 6) (C := RX6) (T := TX6) (N := 3) (v := .ref (a 14)) S hiX6 hK hW 13 (ze_at0 13 rfl) rfl 1 (by decide) rfl w1 dX6_sumOfSupply_23 ?_
          refine lv_iload_n hX_ hB_ dX6_sumOfSupply_26 rfl (lv_at hl 0 rfl) ?_
          refine ze_aldN hX_ hB_ hK hW 14 4 (ze_at0 14 rfl) rfl (i := i4) (by omega) (by omega) (by decide) dX6_sumOfSupply_27 ?_
          refine ze_Vi (As := []) (rest := [.int (zf_supT A (E 0) m 0 i4)]) (ci := 7) (q0 := (18 + (n 2 + i4))) (k := (RX7, TX7, 5)) S (zc_7_supply l D c a n A B E i4 hN (by omega)) (cwV 0 hts gX6_sumOfSupply_X7_supply rfl rfl rfl (by decide +kernel) ⟨Nat.le_of_ble_eq_true rfl, Nat.le_of_ble_eq_true rfl⟩) hK hW hA rfl (ze_atT (g := i4) (by omega)) rfl hl.1 rfl (lv_room (Nat.le_of_ble_eq_true rfl)) dX6_sumOfSupply_28 ⟨Nat.le_of_ble_eq_true rfl, Nat.le_of_ble_eq_true rfl⟩ (fun H locs hW => ?_)
          refine lv_iadd hX_ hB_ dX6_sumOfSupply_31 ?_
          refine lv_istore_n (lv' := [(2, .int (zf_supT A (E 0) m 0 i4 + ze_mn (A 16 i4) (A 17 i4))), (3, .int (nI i4)), (0, .ref (a 13)), (1, .int m)]) hX_ hB_ dX6_sumOfSupply_32 rfl hl (by decide) rfl (fun ls hl => ?_)
          refine lv_iinc (v := nI (i4 + 1)) (lv' := [(3, .int (nI (i4 + 1))), (2, .int (zf_supT A (E 0) m 0 i4 + ze_mn (A 16 i4) (A 17 i4))), (0, .ref (a 13)), (1, .int m)]) hX_ hB_ dX6_sumOfSupply_33 hl (k := 1) rfl (ze_inc _) (by decide) rfl (fun ls hl => ?_)
          refine lv_goto (tgt := 4) hX_ hB_ dX6_sumOfSupply_36 (by decide) ?_
          have eL2 : zf_supT A (E 0) m 0 i4 + ze_mn (A 16 i4) (A 17 i4) = zf_supT A (E 0) m 0 (i4 + 1) := (by simp only [ze_b, zf_supT, ze_sum, eq_true c9, eq_true c18, not_true_eq_false, not_false_eq_true, and_true, true_and, and_false, false_and, or_true, true_or, or_false, false_or, and_self, or_self, Decidable.not_not, if_true, if_false, reduceIte, reduceCtorEq, ne_eq, eq_self, Int32.lt_irrefl, Int32.le_refl, Nat.lt_irrefl, Int32.add_zero])
          have hl : lv_has ls 4 [(3, .int (nI (i4 + 1))), (2, .int (zf_supT A (E 0) m 0 (i4 + 1))), (0, .ref (a 13)), (1, .int m)] := by
            first | (rw [← eL2]; exact hl) | (simp only [← eL2]; exact hl)
          exact ih4 (i4 + 1) (by omega) (by omega) _ _ ls hW (lv_sub hl [0, 1, 2, 3] rfl)
  have hl : lv_has ls 4 [(3, .int (nI 0)), (2, .int (zf_supT A (E 0) m 0 0)), (0, .ref (a 13)), (1, .int m)] := hl
  have hW : ze_W D (ze_wC c a n A B E) F s.heap _ _ := hW
  exact L4 _ 0 (by omega) (Nat.lt_succ_self _) _ _ ls hW (lv_sub hl [0, 1, 2, 3] rfl)
set_option maxHeartbeats 4000000 in
set_option maxRecDepth 100000 in
theorem zc_6_dischargeUpTo (l : Launch) (D : va_G) (c : Nat → ClassId) (a n : Nat → Nat) (A : Nat → Nat → Int32) (B : Nat → Int64) (E : Nat → Nat → Int32) (m x : Int32) (hN : zf_N n) (hS : zf_S n A) : ze_I l yX6_dischargeUpTo wsX6_dischargeUpTo 2 33 0 0 D c (ze_wC c a n A B E) [.ref (a 13), .int m, .int x] (zf_dc A (E 0) m x (n 3)) (ze_wC c a n (ze_sA (ze_sA A 18 (ze_up (zf_dcF A (E 0) m x) (A 18) (n 3))) 17 (ze_up (zf_dcC A (E 0) m x) (A 17) (n 3))) B E) := by
  intro sz
  refine ze_start (cc := cX6_dischargeUpTo) (maxL := 6) (ret := (some .int)) (own := RX6) (by decide) rfl rfl (Nat.le_of_ble_eq_true rfl) ?_
  obtain ⟨hn0, hn1, hn2, hn3, hn4⟩ := id hN
  intro p e s m_ below meth cd F ls hF hsz E0
  obtain ⟨S, hr, hlocks, hK, hW, hA, hl⟩ := E0
  have hX_ := S.1
  have hB_ := S.2.1
  have hts := S.2.2.2.2
  have hl : lv_has ls 6 [(0, .ref (a 13)), (1, .int m), (2, .int x)] := hl
  have hiX6 : ∀ w ∈ u_ws RX6 TX6 3, w ∈ wsX6_dischargeUpTo := fun _ h => (List.mem_cons_of_mem _ (List.mem_append_left _ (List.mem_append_left _ (List.mem_append_right _ h))))
  have w0 := hts (.fieldLink RX6 21 "Islandgrid$Storage" "count" "I") (List.mem_cons_of_mem _ (List.mem_append_left _ (List.mem_append_left _ (List.mem_append_left _ (List.mem_append_left _ (List.mem_of_getElem? (i := 0) rfl))))))
  have w1 := hts (.fieldLink RX6 11 "Islandgrid$Storage" "all" "[LIslandgrid$Store;") (List.mem_cons_of_mem _ (List.mem_append_left _ (List.mem_append_left _ (List.mem_append_left _ (List.mem_append_left _ (List.mem_of_getElem? (i := 1) rfl))))))
  have w2 := hts (.methodLink RX6 45 Lib.Math.min.name) (List.mem_cons_of_mem _ (List.mem_append_left _ (List.mem_append_left _ (List.mem_append_left _ (List.mem_append_left _ (List.mem_of_getElem? (i := 2) rfl))))))
  have w3 := hts (.static Lib.Math.min.name) (List.mem_cons_of_mem _ (List.mem_append_left _ (List.mem_append_left _ (List.mem_append_left _ (List.mem_append_left _ (List.mem_of_getElem? (i := 3) rfl))))))
  have w4 := hts (.initialized "java/lang/Math") (List.mem_cons_of_mem _ (List.mem_append_left _ (List.mem_append_left _ (List.mem_append_left _ (List.mem_append_left _ (List.mem_of_getElem? (i := 4) rfl))))))
  have w5 := hts (.code Lib.Math.min.name Lib.Math.min.code 2 (some .int)) (List.mem_cons_of_mem _ (List.mem_append_left _ (List.mem_append_left _ (List.mem_append_left _ (List.mem_append_left _ (List.mem_of_getElem? (i := 5) rfl))))))
  refine lv_iload_n hX_ hB_ dX6_dischargeUpTo_0 rfl (lv_at hl 2 rfl) ?_
  refine lv_istore_n (lv' := [(3, .int x), (0, .ref (a 13)), (1, .int m), (2, .int x)]) hX_ hB_ dX6_dischargeUpTo_1 rfl hl (by decide) rfl (fun ls hl => ?_)
  refine lv_iconst (v := 0) hX_ hB_ dX6_dischargeUpTo_2 (by decide) ?_
  refine lv_istore (lv' := [(4, .int 0), (3, .int x), (0, .ref (a 13)), (1, .int m), (2, .int x)]) hX_ hB_ dX6_dischargeUpTo_3 hl (by decide) rfl (fun ls hl => ?_)
  have L5 : ∀ (k5 : Nat) (i5 : Nat), (i5 ≤ n 3) → (n 3 - i5) < k5 → ∀ (H : Heap) (locs : List Loc) (ls : Array Slot), ze_W D (ze_wC c a n (ze_sA (ze_sA A 18 (ze_up (zf_dcF A (E 0) m x) (A 18) i5)) 17 (ze_up (zf_dcC A (E 0) m x) (A 17) i5)) B E) F s.heap H locs → lv_has ls 6 [(4, .int (nI i5)), (3, .int (zf_dc A (E 0) m x i5)), (0, .ref (a 13)), (1, .int m), (2, .int x)] → W p l e { frames := 2, cells := 0, slots := 0, locals := 33 } s m_ ([.ref (a 13), .int m, .int x] : List Value).toArray below meth cd H locs 0 0 (MQ below (ze_Qi D c (ze_wC c a n A B E) sz (zf_dc A (E 0) m x (n 3)) (ze_wC c a n (ze_sA (ze_sA A 18 (ze_up (zf_dcF A (E 0) m x) (A 18) (n 3))) 17 (ze_up (zf_dcC A (E 0) m x) (A 17) (n 3))) B E)) ([.ref (a 13), .int m, .int x] : List Value).toArray s 0 0 F) (F0 m_ 5 ls []) := by
    intro k5
    induction k5 with
    | zero =>
      intro i5 h5 hk5
      exact absurd hk5 (Nat.not_lt_zero _)
    | succ k5 ih5 =>
      intro i5 h5 hk5 H locs ls hW hl
      refine lv_iload hX_ hB_ dX6_dischargeUpTo_5 (lv_at hl 0 rfl) ?_
      refine lv_aload_n hX_ hB_ dX6_dischargeUpTo_7 rfl (lv_at hl 2 rfl) ?_
      refine ze_get (ci := 6) (C := RX6) (T := TX6) (N := 3) (v := .int (nI (n 3))) S hiX6 hK hW 13 (ze_at0 13 rfl) rfl 2 (by decide) rfl w0 dX6_dischargeUpTo_8 ?_
      refine lv_icmp_ge (tgt := 63) hX_ hB_ dX6_dischargeUpTo_11 (by decide) (fun c11 => ?_) (fun c11 => ?_)
      · have c11 : ¬ i5 < (n 3) := Nat.not_lt.mpr ((nI_leI (a := (n 3)) (b := i5) (by omega) (by omega)).mp c11)
        have e5 : i5 = n 3 := by omega
        subst e5
        refine lv_iload_n hX_ hB_ dX6_dischargeUpTo_63 rfl (lv_at hl 1 rfl) ?_
        exact ze_iret S hr hlocks hF hK hW rfl dX6_dischargeUpTo_64 (Nat.le_of_ble_eq_true rfl) (Nat.le_of_ble_eq_true rfl) rfl rfl
      · have c11 : i5 < (n 3) := Nat.lt_of_not_le (fun h9 => c11 ((nI_leI (a := (n 3)) (b := i5) (by omega) (by omega)).mpr h9))
        refine lv_aload_n hX_ hB_ dX6_dischargeUpTo_14 rfl (lv_at hl 2 rfl) ?_
        refine lv_iload hX_ hB_ dX6_dischargeUpTo_15 (lv_at hl 0 rfl) ?_
        refine lv_iload_n hX_ hB_ dX6_dischargeUpTo_17 rfl (lv_at hl 3 rfl) ?_
        refine ze_Vi (As := [.int (nI i5), .int m]) (rest := []) (ci := 6) (q0 := 13) (k := (RX6, TX6, 3)) S (zc_6_isOn l D c a n (ze_sA (ze_sA A 18 (ze_up (zf_dcF A (E 0) m x) (A 18) i5)) 17 (ze_up (zf_dcC A (E 0) m x) (A 17) i5)) B E i5 m hN hS (by omega)) (cwV 2 hts gX6_dischargeUpTo_X6_isOn rfl rfl rfl (by decide +kernel) ⟨Nat.le_of_ble_eq_true rfl, Nat.le_of_ble_eq_true rfl⟩) hK hW hA rfl (ze_at0 13 rfl) rfl hl.1 rfl (lv_room (Nat.le_of_ble_eq_true rfl)) dX6_dischargeUpTo_18 ⟨Nat.le_of_ble_eq_true rfl, Nat.le_of_ble_eq_true rfl⟩ (fun H locs hW => ?_)
        refine lv_if_eq (tgt := 57) hX_ hB_ dX6_dischargeUpTo_21 (by decide) (fun c21 => ?_) (fun c21 => ?_)
        · have c21 : ¬ (E 0 (ze_ix (A 14 i5)) = m) := ze_bf c21
          refine lv_iinc (v := nI (i5 + 1)) (lv' := [(4, .int (nI (i5 + 1))), (3, .int (zf_dc A (E 0) m x i5)), (0, .ref (a 13)), (1, .int m), (2, .int x)]) hX_ hB_ dX6_dischargeUpTo_57 hl (k := 0) rfl (ze_inc _) (by decide) rfl (fun ls hl => ?_)
          refine lv_goto (tgt := 5) hX_ hB_ dX6_dischargeUpTo_60 (by decide) ?_
          have eL3 : zf_dc A (E 0) m x i5 = zf_dc A (E 0) m x (i5 + 1) := (by simp only [ze_b, zf_dc, ze_up_at, eq_true c11, eq_false c21, not_true_eq_false, not_false_eq_true, and_true, true_and, and_false, false_and, or_true, true_or, or_false, false_or, and_self, or_self, Decidable.not_not, if_true, if_false, reduceIte, reduceCtorEq, ne_eq, eq_self, Int32.lt_irrefl, Int32.le_refl, Nat.lt_irrefl])
          have hl : lv_has ls 6 [(4, .int (nI (i5 + 1))), (3, .int (zf_dc A (E 0) m x (i5 + 1))), (0, .ref (a 13)), (1, .int m), (2, .int x)] := by
            first | (rw [← eL3]; exact hl) | (simp only [← eL3]; exact hl)
          have eW : (ze_wC c a n (ze_sA (ze_sA A 18 (ze_up (zf_dcF A (E 0) m x) (A 18) i5)) 17 (ze_up (zf_dcC A (E 0) m x) (A 17) i5)) B E) = (ze_wC c a n (ze_sA (ze_sA A 18 (ze_up (zf_dcF A (E 0) m x) (A 18) (i5 + 1))) 17 (ze_up (zf_dcC A (E 0) m x) (A 17) (i5 + 1))) B E) := (by rw [ze_up_k (f := (zf_dcF A (E 0) m x)) (g := A 18) (i := i5) (by simp only [ze_b, zf_dcF, ze_up_at, eq_true c11, eq_false c21, not_true_eq_false, not_false_eq_true, and_true, true_and, and_false, false_and, or_true, true_or, or_false, false_or, and_self, or_self, Decidable.not_not, if_true, if_false, reduceIte, reduceCtorEq, ne_eq, eq_self, Int32.lt_irrefl, Int32.le_refl, Nat.lt_irrefl]), ze_up_k (f := (zf_dcC A (E 0) m x)) (g := A 17) (i := i5) (by simp only [ze_b, zf_dcC, ze_up_at, eq_true c11, eq_false c21, not_true_eq_false, not_false_eq_true, and_true, true_and, and_false, false_and, or_true, true_or, or_false, false_or, and_self, or_self, Decidable.not_not, if_true, if_false, reduceIte, reduceCtorEq, ne_eq, eq_self, Int32.lt_irrefl, Int32.le_refl, Nat.lt_irrefl])])
          rw [eW] at hW
          exact ih5 (i5 + 1) (by omega) (by omega) _ _ ls hW (lv_sub hl [0, 1, 2, 3, 4] rfl)
        · have c21 : E 0 (ze_ix (A 14 i5)) = m := ze_bt c21
          refine lv_iload_n hX_ hB_ dX6_dischargeUpTo_24 rfl (lv_at hl 1 rfl) ?_
          refine lv_aload_n hX_ hB_ dX6_dischargeUpTo_25 rfl (lv_at hl 2 rfl) ?_
          refine ze_get (ci := 6) (C := RX6) (T := TX6) (N := 3) (v := .ref (a 14)) S hiX6 hK hW 13 (ze_at0 13 rfl) rfl 1 (by decide) rfl w1 dX6_dischargeUpTo_26 ?_
          refine lv_iload hX_ hB_ dX6_dischargeUpTo_29 (lv_at hl 0 rfl) ?_
          refine ze_aldN hX_ hB_ hK hW 14 4 (ze_at0 14 rfl) rfl (i := i5) (by omega) (by omega) (by decide) dX6_dischargeUpTo_31 ?_
          refine ze_Vi (As := []) (rest := [.int (zf_dc A (E 0) m x i5)]) (ci := 7) (q0 := (18 + (n 2 + i5))) (k := (RX7, TX7, 5)) S (zc_7_supply l D c a n (ze_sA (ze_sA A 18 (ze_up (zf_dcF A (E 0) m x) (A 18) i5)) 17 (ze_up (zf_dcC A (E 0) m x) (A 17) i5)) B E i5 hN (by omega)) (cwV 0 hts gX6_dischargeUpTo_X7_supply rfl rfl rfl (by decide +kernel) ⟨Nat.le_of_ble_eq_true rfl, Nat.le_of_ble_eq_true rfl⟩) hK hW hA rfl (ze_atT (g := i5) (by omega)) rfl hl.1 rfl (lv_room (Nat.le_of_ble_eq_true rfl)) dX6_dischargeUpTo_32 ⟨Nat.le_of_ble_eq_true rfl, Nat.le_of_ble_eq_true rfl⟩ (fun H locs hW => ?_)
          refine ze_min S hl.1 w2 w3 w4 w5 ⟨Nat.le_of_ble_eq_true rfl, Nat.le_of_ble_eq_true rfl, Nat.le_of_ble_eq_true rfl, Nat.le_of_ble_eq_true rfl⟩ dX6_dischargeUpTo_35 ?_
          refine lv_istore (lv' := [(5, .int (ze_mn (zf_dc A (E 0) m x i5) (ze_mn (A 16 i5) ((ze_up (zf_dcC A (E 0) m x) (A 17) i5) i5)))), (4, .int (nI i5)), (3, .int (zf_dc A (E 0) m x i5)), (0, .ref (a 13)), (1, .int m), (2, .int x)]) hX_ hB_ dX6_dischargeUpTo_38 hl (by decide) rfl (fun ls hl => ?_)
          refine lv_aload_n hX_ hB_ dX6_dischargeUpTo_40 rfl (lv_at hl 3 rfl) ?_
          refine ze_get (ci := 6) (C := RX6) (T := TX6) (N := 3) (v := .ref (a 14)) S hiX6 hK hW 13 (ze_at0 13 rfl) rfl 1 (by decide) rfl w1 dX6_dischargeUpTo_41 ?_
          refine lv_iload hX_ hB_ dX6_dischargeUpTo_44 (lv_at hl 1 rfl) ?_
          refine ze_aldN hX_ hB_ hK hW 14 4 (ze_at0 14 rfl) rfl (i := i5) (by omega) (by omega) (by decide) dX6_dischargeUpTo_46 ?_
          refine lv_iload hX_ hB_ dX6_dischargeUpTo_47 (lv_at hl 0 rfl) ?_
          refine ze_Vv (As := [.int (ze_mn (zf_dc A (E 0) m x i5) (ze_mn (A 16 i5) ((ze_up (zf_dcC A (E 0) m x) (A 17) i5) i5)))]) (rest := []) (ci := 7) (q0 := (18 + (n 2 + i5))) (k := (RX7, TX7, 5)) S (zc_7_move l D c a n (ze_sA (ze_sA A 18 (ze_up (zf_dcF A (E 0) m x) (A 18) i5)) 17 (ze_up (zf_dcC A (E 0) m x) (A 17) i5)) B E i5 (ze_mn (zf_dc A (E 0) m x i5) (ze_mn (A 16 i5) ((ze_up (zf_dcC A (E 0) m x) (A 17) i5) i5))) hN (by omega)) (cwV 1 hts gX6_dischargeUpTo_X7_move rfl rfl rfl (by decide +kernel) ⟨Nat.le_of_ble_eq_true rfl, Nat.le_of_ble_eq_true rfl⟩) hK hW hA rfl (ze_atT (g := i5) (by omega)) rfl hl.1 rfl (lv_room (Nat.le_of_ble_eq_true rfl)) dX6_dischargeUpTo_49 ⟨Nat.le_of_ble_eq_true rfl, Nat.le_of_ble_eq_true rfl⟩ (fun H locs hW => ?_)
          have hW : ze_W D (ze_wC c a n (ze_sE (ze_sE (ze_sA (ze_sA A 18 (ze_up (zf_dcF A (E 0) m x) (A 18) i5)) 17 (ze_up (zf_dcC A (E 0) m x) (A 17) i5)) 18 i5 (ze_mn (zf_dc A (E 0) m x i5) (ze_mn (A 16 i5) ((ze_up (zf_dcC A (E 0) m x) (A 17) i5) i5)))) 17 i5 ((ze_up (zf_dcC A (E 0) m x) (A 17) i5) i5 - (ze_mn (zf_dc A (E 0) m x i5) (ze_mn (A 16 i5) ((ze_up (zf_dcC A (E 0) m x) (A 17) i5) i5))))) B E) F s.heap _ _ := hW
          refine lv_iload_n hX_ hB_ dX6_dischargeUpTo_52 rfl (lv_at hl 2 rfl) ?_
          refine lv_iload hX_ hB_ dX6_dischargeUpTo_53 (lv_at hl 0 rfl) ?_
          refine lv_isub hX_ hB_ dX6_dischargeUpTo_55 ?_
          refine lv_istore_n (lv' := [(3, .int (zf_dc A (E 0) m x i5 - ze_mn (zf_dc A (E 0) m x i5) (ze_mn (A 16 i5) ((ze_up (zf_dcC A (E 0) m x) (A 17) i5) i5)))), (5, .int (ze_mn (zf_dc A (E 0) m x i5) (ze_mn (A 16 i5) ((ze_up (zf_dcC A (E 0) m x) (A 17) i5) i5)))), (4, .int (nI i5)), (0, .ref (a 13)), (1, .int m), (2, .int x)]) hX_ hB_ dX6_dischargeUpTo_56 rfl hl (by decide) rfl (fun ls hl => ?_)
          refine lv_iinc (v := nI (i5 + 1)) (lv' := [(4, .int (nI (i5 + 1))), (3, .int (zf_dc A (E 0) m x i5 - ze_mn (zf_dc A (E 0) m x i5) (ze_mn (A 16 i5) ((ze_up (zf_dcC A (E 0) m x) (A 17) i5) i5)))), (5, .int (ze_mn (zf_dc A (E 0) m x i5) (ze_mn (A 16 i5) ((ze_up (zf_dcC A (E 0) m x) (A 17) i5) i5)))), (0, .ref (a 13)), (1, .int m), (2, .int x)]) hX_ hB_ dX6_dischargeUpTo_57 hl (k := 2) rfl (ze_inc _) (by decide) rfl (fun ls hl => ?_)
          refine lv_goto (tgt := 5) hX_ hB_ dX6_dischargeUpTo_60 (by decide) ?_
          have eL3 : zf_dc A (E 0) m x i5 - ze_mn (zf_dc A (E 0) m x i5) (ze_mn (A 16 i5) ((ze_up (zf_dcC A (E 0) m x) (A 17) i5) i5)) = zf_dc A (E 0) m x (i5 + 1) := (by simp only [ze_b, zf_dc, ze_up_at, eq_true c11, eq_true c21, not_true_eq_false, not_false_eq_true, and_true, true_and, and_false, false_and, or_true, true_or, or_false, false_or, and_self, or_self, Decidable.not_not, if_true, if_false, reduceIte, reduceCtorEq, ne_eq, eq_self, Int32.lt_irrefl, Int32.le_refl, Nat.lt_irrefl])
          have hl : lv_has ls 6 [(4, .int (nI (i5 + 1))), (3, .int (zf_dc A (E 0) m x (i5 + 1))), (5, .int (ze_mn (zf_dc A (E 0) m x i5) (ze_mn (A 16 i5) ((ze_up (zf_dcC A (E 0) m x) (A 17) i5) i5)))), (0, .ref (a 13)), (1, .int m), (2, .int x)] := by
            first | (rw [← eL3]; exact hl) | (simp only [← eL3]; exact hl)
          have eW : (ze_wC c a n (ze_sE (ze_sE (ze_sA (ze_sA A 18 (ze_up (zf_dcF A (E 0) m x) (A 18) i5)) 17 (ze_up (zf_dcC A (E 0) m x) (A 17) i5)) 18 i5 (ze_mn (zf_dc A (E 0) m x i5) (ze_mn (A 16 i5) ((ze_up (zf_dcC A (E 0) m x) (A 17) i5) i5)))) 17 i5 ((ze_up (zf_dcC A (E 0) m x) (A 17) i5) i5 - (ze_mn (zf_dc A (E 0) m x i5) (ze_mn (A 16 i5) ((ze_up (zf_dcC A (E 0) m x) (A 17) i5) i5))))) B E) = (ze_wC c a n (ze_sA (ze_sA A 18 (ze_up (zf_dcF A (E 0) m x) (A 18) (i5 + 1))) 17 (ze_up (zf_dcC A (E 0) m x) (A 17) (i5 + 1))) B E) := (by simp (decide := true) only [ze_e1, ze_e2, ze_upd2, ze_up_at]; rw [ze_up_s (f := (zf_dcF A (E 0) m x)) (g := A 18) (i := i5) (by simp only [ze_b, zf_dcF, ze_up_at, eq_true c11, eq_true c21, not_true_eq_false, not_false_eq_true, and_true, true_and, and_false, false_and, or_true, true_or, or_false, false_or, and_self, or_self, Decidable.not_not, if_true, if_false, reduceIte, reduceCtorEq, ne_eq, eq_self, Int32.lt_irrefl, Int32.le_refl, Nat.lt_irrefl]), ze_up_s (f := (zf_dcC A (E 0) m x)) (g := A 17) (i := i5) (by simp only [ze_b, zf_dcC, ze_up_at, eq_true c11, eq_true c21, not_true_eq_false, not_false_eq_true, and_true, true_and, and_false, false_and, or_true, true_or, or_false, false_or, and_self, or_self, Decidable.not_not, if_true, if_false, reduceIte, reduceCtorEq, ne_eq, eq_self, Int32.lt_irrefl, Int32.le_refl, Nat.lt_irrefl])])
          rw [eW] at hW
          exact ih5 (i5 + 1) (by omega) (by omega) _ _ ls hW (lv_sub hl [0, 1, 3, 4, 5] rfl)
  have hl : lv_has ls 6 [(4, .int (nI 0)), (3, .int (zf_dc A (E 0) m x 0)), (0, .ref (a 13)), (1, .int m), (2, .int x)] := hl
  have hW : ze_W D (ze_wC c a n (ze_sA (ze_sA A 18 (ze_up (zf_dcF A (E 0) m x) (A 18) 0)) 17 (ze_up (zf_dcC A (E 0) m x) (A 17) 0)) B E) F s.heap _ _ := (by rw [ze_up_0 _ (A 18), ze_up_0 _ (A 17), ze_sAid, ze_sAid2]; exact hW)
  exact L5 _ 0 (by omega) (Nat.lt_succ_self _) _ _ ls hW (lv_sub hl [0, 1, 2, 3, 4] rfl)
set_option maxHeartbeats 4000000 in
set_option maxRecDepth 100000 in
theorem zc_6_chargeUpTo (l : Launch) (D : va_G) (c : Nat → ClassId) (a n : Nat → Nat) (A : Nat → Nat → Int32) (B : Nat → Int64) (E : Nat → Nat → Int32) (m x : Int32) (hN : zf_N n) (hS : zf_S n A) : ze_I l yX6_chargeUpTo wsX6_chargeUpTo 2 33 0 0 D c (ze_wC c a n A B E) [.ref (a 13), .int m, .int x] (zf_cc A (E 0) m x (n 3)) (ze_wC c a n (ze_sA (ze_sA A 18 (ze_up (zf_ccF A (E 0) m x) (A 18) (n 3))) 17 (ze_up (zf_ccC A (E 0) m x) (A 17) (n 3))) B E) := by
  intro sz
  refine ze_start (cc := cX6_chargeUpTo) (maxL := 6) (ret := (some .int)) (own := RX6) (by decide) rfl rfl (Nat.le_of_ble_eq_true rfl) ?_
  obtain ⟨hn0, hn1, hn2, hn3, hn4⟩ := id hN
  intro p e s m_ below meth cd F ls hF hsz E0
  obtain ⟨S, hr, hlocks, hK, hW, hA, hl⟩ := E0
  have hX_ := S.1
  have hB_ := S.2.1
  have hts := S.2.2.2.2
  have hl : lv_has ls 6 [(0, .ref (a 13)), (1, .int m), (2, .int x)] := hl
  have hiX6 : ∀ w ∈ u_ws RX6 TX6 3, w ∈ wsX6_chargeUpTo := fun _ h => (List.mem_cons_of_mem _ (List.mem_append_left _ (List.mem_append_left _ (List.mem_append_right _ h))))
  have w0 := hts (.fieldLink RX6 21 "Islandgrid$Storage" "count" "I") (List.mem_cons_of_mem _ (List.mem_append_left _ (List.mem_append_left _ (List.mem_append_left _ (List.mem_append_left _ (List.mem_of_getElem? (i := 0) rfl))))))
  have w1 := hts (.fieldLink RX6 11 "Islandgrid$Storage" "all" "[LIslandgrid$Store;") (List.mem_cons_of_mem _ (List.mem_append_left _ (List.mem_append_left _ (List.mem_append_left _ (List.mem_append_left _ (List.mem_of_getElem? (i := 1) rfl))))))
  have w2 := hts (.methodLink RX6 45 Lib.Math.min.name) (List.mem_cons_of_mem _ (List.mem_append_left _ (List.mem_append_left _ (List.mem_append_left _ (List.mem_append_left _ (List.mem_of_getElem? (i := 2) rfl))))))
  have w3 := hts (.static Lib.Math.min.name) (List.mem_cons_of_mem _ (List.mem_append_left _ (List.mem_append_left _ (List.mem_append_left _ (List.mem_append_left _ (List.mem_of_getElem? (i := 3) rfl))))))
  have w4 := hts (.initialized "java/lang/Math") (List.mem_cons_of_mem _ (List.mem_append_left _ (List.mem_append_left _ (List.mem_append_left _ (List.mem_append_left _ (List.mem_of_getElem? (i := 4) rfl))))))
  have w5 := hts (.code Lib.Math.min.name Lib.Math.min.code 2 (some .int)) (List.mem_cons_of_mem _ (List.mem_append_left _ (List.mem_append_left _ (List.mem_append_left _ (List.mem_append_left _ (List.mem_of_getElem? (i := 5) rfl))))))
  refine lv_iload_n hX_ hB_ dX6_chargeUpTo_0 rfl (lv_at hl 2 rfl) ?_
  refine lv_istore_n (lv' := [(3, .int x), (0, .ref (a 13)), (1, .int m), (2, .int x)]) hX_ hB_ dX6_chargeUpTo_1 rfl hl (by decide) rfl (fun ls hl => ?_)
  refine lv_iconst (v := 0) hX_ hB_ dX6_chargeUpTo_2 (by decide) ?_
  refine lv_istore (lv' := [(4, .int 0), (3, .int x), (0, .ref (a 13)), (1, .int m), (2, .int x)]) hX_ hB_ dX6_chargeUpTo_3 hl (by decide) rfl (fun ls hl => ?_)
  have L5 : ∀ (k5 : Nat) (i5 : Nat), (i5 ≤ n 3) → (n 3 - i5) < k5 → ∀ (H : Heap) (locs : List Loc) (ls : Array Slot), ze_W D (ze_wC c a n (ze_sA (ze_sA A 18 (ze_up (zf_ccF A (E 0) m x) (A 18) i5)) 17 (ze_up (zf_ccC A (E 0) m x) (A 17) i5)) B E) F s.heap H locs → lv_has ls 6 [(4, .int (nI i5)), (3, .int (zf_cc A (E 0) m x i5)), (0, .ref (a 13)), (1, .int m), (2, .int x)] → W p l e { frames := 2, cells := 0, slots := 0, locals := 33 } s m_ ([.ref (a 13), .int m, .int x] : List Value).toArray below meth cd H locs 0 0 (MQ below (ze_Qi D c (ze_wC c a n A B E) sz (zf_cc A (E 0) m x (n 3)) (ze_wC c a n (ze_sA (ze_sA A 18 (ze_up (zf_ccF A (E 0) m x) (A 18) (n 3))) 17 (ze_up (zf_ccC A (E 0) m x) (A 17) (n 3))) B E)) ([.ref (a 13), .int m, .int x] : List Value).toArray s 0 0 F) (F0 m_ 5 ls []) := by
    intro k5
    induction k5 with
    | zero =>
      intro i5 h5 hk5
      exact absurd hk5 (Nat.not_lt_zero _)
    | succ k5 ih5 =>
      intro i5 h5 hk5 H locs ls hW hl
      refine lv_iload hX_ hB_ dX6_chargeUpTo_5 (lv_at hl 0 rfl) ?_
      refine lv_aload_n hX_ hB_ dX6_chargeUpTo_7 rfl (lv_at hl 2 rfl) ?_
      refine ze_get (ci := 6) (C := RX6) (T := TX6) (N := 3) (v := .int (nI (n 3))) S hiX6 hK hW 13 (ze_at0 13 rfl) rfl 2 (by decide) rfl w0 dX6_chargeUpTo_8 ?_
      refine lv_icmp_ge (tgt := 64) hX_ hB_ dX6_chargeUpTo_11 (by decide) (fun c11 => ?_) (fun c11 => ?_)
      · have c11 : ¬ i5 < (n 3) := Nat.not_lt.mpr ((nI_leI (a := (n 3)) (b := i5) (by omega) (by omega)).mp c11)
        have e5 : i5 = n 3 := by omega
        subst e5
        refine lv_iload_n hX_ hB_ dX6_chargeUpTo_64 rfl (lv_at hl 1 rfl) ?_
        exact ze_iret S hr hlocks hF hK hW rfl dX6_chargeUpTo_65 (Nat.le_of_ble_eq_true rfl) (Nat.le_of_ble_eq_true rfl) rfl rfl
      · have c11 : i5 < (n 3) := Nat.lt_of_not_le (fun h9 => c11 ((nI_leI (a := (n 3)) (b := i5) (by omega) (by omega)).mpr h9))
        refine lv_aload_n hX_ hB_ dX6_chargeUpTo_14 rfl (lv_at hl 2 rfl) ?_
        refine lv_iload hX_ hB_ dX6_chargeUpTo_15 (lv_at hl 0 rfl) ?_
        refine lv_iload_n hX_ hB_ dX6_chargeUpTo_17 rfl (lv_at hl 3 rfl) ?_
        refine ze_Vi (As := [.int (nI i5), .int m]) (rest := []) (ci := 6) (q0 := 13) (k := (RX6, TX6, 3)) S (zc_6_isOn l D c a n (ze_sA (ze_sA A 18 (ze_up (zf_ccF A (E 0) m x) (A 18) i5)) 17 (ze_up (zf_ccC A (E 0) m x) (A 17) i5)) B E i5 m hN hS (by omega)) (cwV 2 hts gX6_chargeUpTo_X6_isOn rfl rfl rfl (by decide +kernel) ⟨Nat.le_of_ble_eq_true rfl, Nat.le_of_ble_eq_true rfl⟩) hK hW hA rfl (ze_at0 13 rfl) rfl hl.1 rfl (lv_room (Nat.le_of_ble_eq_true rfl)) dX6_chargeUpTo_18 ⟨Nat.le_of_ble_eq_true rfl, Nat.le_of_ble_eq_true rfl⟩ (fun H locs hW => ?_)
        refine lv_if_eq (tgt := 58) hX_ hB_ dX6_chargeUpTo_21 (by decide) (fun c21 => ?_) (fun c21 => ?_)
        · have c21 : ¬ (E 0 (ze_ix (A 14 i5)) = m) := ze_bf c21
          refine lv_iinc (v := nI (i5 + 1)) (lv' := [(4, .int (nI (i5 + 1))), (3, .int (zf_cc A (E 0) m x i5)), (0, .ref (a 13)), (1, .int m), (2, .int x)]) hX_ hB_ dX6_chargeUpTo_58 hl (k := 0) rfl (ze_inc _) (by decide) rfl (fun ls hl => ?_)
          refine lv_goto (tgt := 5) hX_ hB_ dX6_chargeUpTo_61 (by decide) ?_
          have eL3 : zf_cc A (E 0) m x i5 = zf_cc A (E 0) m x (i5 + 1) := (by simp only [ze_b, zf_cc, ze_up_at, eq_true c11, eq_false c21, not_true_eq_false, not_false_eq_true, and_true, true_and, and_false, false_and, or_true, true_or, or_false, false_or, and_self, or_self, Decidable.not_not, if_true, if_false, reduceIte, reduceCtorEq, ne_eq, eq_self, Int32.lt_irrefl, Int32.le_refl, Nat.lt_irrefl])
          have hl : lv_has ls 6 [(4, .int (nI (i5 + 1))), (3, .int (zf_cc A (E 0) m x (i5 + 1))), (0, .ref (a 13)), (1, .int m), (2, .int x)] := by
            first | (rw [← eL3]; exact hl) | (simp only [← eL3]; exact hl)
          have eW : (ze_wC c a n (ze_sA (ze_sA A 18 (ze_up (zf_ccF A (E 0) m x) (A 18) i5)) 17 (ze_up (zf_ccC A (E 0) m x) (A 17) i5)) B E) = (ze_wC c a n (ze_sA (ze_sA A 18 (ze_up (zf_ccF A (E 0) m x) (A 18) (i5 + 1))) 17 (ze_up (zf_ccC A (E 0) m x) (A 17) (i5 + 1))) B E) := (by rw [ze_up_k (f := (zf_ccF A (E 0) m x)) (g := A 18) (i := i5) (by simp only [ze_b, zf_ccF, ze_up_at, eq_true c11, eq_false c21, not_true_eq_false, not_false_eq_true, and_true, true_and, and_false, false_and, or_true, true_or, or_false, false_or, and_self, or_self, Decidable.not_not, if_true, if_false, reduceIte, reduceCtorEq, ne_eq, eq_self, Int32.lt_irrefl, Int32.le_refl, Nat.lt_irrefl]), ze_up_k (f := (zf_ccC A (E 0) m x)) (g := A 17) (i := i5) (by simp only [ze_b, zf_ccC, ze_up_at, eq_true c11, eq_false c21, not_true_eq_false, not_false_eq_true, and_true, true_and, and_false, false_and, or_true, true_or, or_false, false_or, and_self, or_self, Decidable.not_not, if_true, if_false, reduceIte, reduceCtorEq, ne_eq, eq_self, Int32.lt_irrefl, Int32.le_refl, Nat.lt_irrefl])])
          rw [eW] at hW
          exact ih5 (i5 + 1) (by omega) (by omega) _ _ ls hW (lv_sub hl [0, 1, 2, 3, 4] rfl)
        · have c21 : E 0 (ze_ix (A 14 i5)) = m := ze_bt c21
          refine lv_iload_n hX_ hB_ dX6_chargeUpTo_24 rfl (lv_at hl 1 rfl) ?_
          refine lv_aload_n hX_ hB_ dX6_chargeUpTo_25 rfl (lv_at hl 2 rfl) ?_
          refine ze_get (ci := 6) (C := RX6) (T := TX6) (N := 3) (v := .ref (a 14)) S hiX6 hK hW 13 (ze_at0 13 rfl) rfl 1 (by decide) rfl w1 dX6_chargeUpTo_26 ?_
          refine lv_iload hX_ hB_ dX6_chargeUpTo_29 (lv_at hl 0 rfl) ?_
          refine ze_aldN hX_ hB_ hK hW 14 4 (ze_at0 14 rfl) rfl (i := i5) (by omega) (by omega) (by decide) dX6_chargeUpTo_31 ?_
          refine ze_Vi (As := []) (rest := [.int (zf_cc A (E 0) m x i5)]) (ci := 7) (q0 := (18 + (n 2 + i5))) (k := (RX7, TX7, 5)) S (zc_7_room l D c a n (ze_sA (ze_sA A 18 (ze_up (zf_ccF A (E 0) m x) (A 18) i5)) 17 (ze_up (zf_ccC A (E 0) m x) (A 17) i5)) B E i5 hN (by omega)) (cwV 0 hts gX6_chargeUpTo_X7_room rfl rfl rfl (by decide +kernel) ⟨Nat.le_of_ble_eq_true rfl, Nat.le_of_ble_eq_true rfl⟩) hK hW hA rfl (ze_atT (g := i5) (by omega)) rfl hl.1 rfl (lv_room (Nat.le_of_ble_eq_true rfl)) dX6_chargeUpTo_32 ⟨Nat.le_of_ble_eq_true rfl, Nat.le_of_ble_eq_true rfl⟩ (fun H locs hW => ?_)
          refine ze_min S hl.1 w2 w3 w4 w5 ⟨Nat.le_of_ble_eq_true rfl, Nat.le_of_ble_eq_true rfl, Nat.le_of_ble_eq_true rfl, Nat.le_of_ble_eq_true rfl⟩ dX6_chargeUpTo_35 ?_
          refine lv_istore (lv' := [(5, .int (ze_mn (zf_cc A (E 0) m x i5) (ze_mn (A 16 i5) (A 15 i5 - (ze_up (zf_ccC A (E 0) m x) (A 17) i5) i5)))), (4, .int (nI i5)), (3, .int (zf_cc A (E 0) m x i5)), (0, .ref (a 13)), (1, .int m), (2, .int x)]) hX_ hB_ dX6_chargeUpTo_38 hl (by decide) rfl (fun ls hl => ?_)
          refine lv_aload_n hX_ hB_ dX6_chargeUpTo_40 rfl (lv_at hl 3 rfl) ?_
          refine ze_get (ci := 6) (C := RX6) (T := TX6) (N := 3) (v := .ref (a 14)) S hiX6 hK hW 13 (ze_at0 13 rfl) rfl 1 (by decide) rfl w1 dX6_chargeUpTo_41 ?_
          refine lv_iload hX_ hB_ dX6_chargeUpTo_44 (lv_at hl 1 rfl) ?_
          refine ze_aldN hX_ hB_ hK hW 14 4 (ze_at0 14 rfl) rfl (i := i5) (by omega) (by omega) (by decide) dX6_chargeUpTo_46 ?_
          refine lv_iload hX_ hB_ dX6_chargeUpTo_47 (lv_at hl 0 rfl) ?_
          refine lv_ineg hX_ hB_ dX6_chargeUpTo_49 ?_
          refine ze_Vv (As := [.int (-(ze_mn (zf_cc A (E 0) m x i5) (ze_mn (A 16 i5) (A 15 i5 - (ze_up (zf_ccC A (E 0) m x) (A 17) i5) i5))))]) (rest := []) (ci := 7) (q0 := (18 + (n 2 + i5))) (k := (RX7, TX7, 5)) S (zc_7_move l D c a n (ze_sA (ze_sA A 18 (ze_up (zf_ccF A (E 0) m x) (A 18) i5)) 17 (ze_up (zf_ccC A (E 0) m x) (A 17) i5)) B E i5 (-(ze_mn (zf_cc A (E 0) m x i5) (ze_mn (A 16 i5) (A 15 i5 - (ze_up (zf_ccC A (E 0) m x) (A 17) i5) i5)))) hN (by omega)) (cwV 1 hts gX6_chargeUpTo_X7_move rfl rfl rfl (by decide +kernel) ⟨Nat.le_of_ble_eq_true rfl, Nat.le_of_ble_eq_true rfl⟩) hK hW hA rfl (ze_atT (g := i5) (by omega)) rfl hl.1 rfl (lv_room (Nat.le_of_ble_eq_true rfl)) dX6_chargeUpTo_50 ⟨Nat.le_of_ble_eq_true rfl, Nat.le_of_ble_eq_true rfl⟩ (fun H locs hW => ?_)
          have hW : ze_W D (ze_wC c a n (ze_sE (ze_sE (ze_sA (ze_sA A 18 (ze_up (zf_ccF A (E 0) m x) (A 18) i5)) 17 (ze_up (zf_ccC A (E 0) m x) (A 17) i5)) 18 i5 (-(ze_mn (zf_cc A (E 0) m x i5) (ze_mn (A 16 i5) (A 15 i5 - (ze_up (zf_ccC A (E 0) m x) (A 17) i5) i5))))) 17 i5 ((ze_up (zf_ccC A (E 0) m x) (A 17) i5) i5 - (-(ze_mn (zf_cc A (E 0) m x i5) (ze_mn (A 16 i5) (A 15 i5 - (ze_up (zf_ccC A (E 0) m x) (A 17) i5) i5)))))) B E) F s.heap _ _ := hW
          refine lv_iload_n hX_ hB_ dX6_chargeUpTo_53 rfl (lv_at hl 2 rfl) ?_
          refine lv_iload hX_ hB_ dX6_chargeUpTo_54 (lv_at hl 0 rfl) ?_
          refine lv_isub hX_ hB_ dX6_chargeUpTo_56 ?_
          refine lv_istore_n (lv' := [(3, .int (zf_cc A (E 0) m x i5 - ze_mn (zf_cc A (E 0) m x i5) (ze_mn (A 16 i5) (A 15 i5 - (ze_up (zf_ccC A (E 0) m x) (A 17) i5) i5)))), (5, .int (ze_mn (zf_cc A (E 0) m x i5) (ze_mn (A 16 i5) (A 15 i5 - (ze_up (zf_ccC A (E 0) m x) (A 17) i5) i5)))), (4, .int (nI i5)), (0, .ref (a 13)), (1, .int m), (2, .int x)]) hX_ hB_ dX6_chargeUpTo_57 rfl hl (by decide) rfl (fun ls hl => ?_)
          refine lv_iinc (v := nI (i5 + 1)) (lv' := [(4, .int (nI (i5 + 1))), (3, .int (zf_cc A (E 0) m x i5 - ze_mn (zf_cc A (E 0) m x i5) (ze_mn (A 16 i5) (A 15 i5 - (ze_up (zf_ccC A (E 0) m x) (A 17) i5) i5)))), (5, .int (ze_mn (zf_cc A (E 0) m x i5) (ze_mn (A 16 i5) (A 15 i5 - (ze_up (zf_ccC A (E 0) m x) (A 17) i5) i5)))), (0, .ref (a 13)), (1, .int m), (2, .int x)]) hX_ hB_ dX6_chargeUpTo_58 hl (k := 2) rfl (ze_inc _) (by decide) rfl (fun ls hl => ?_)
          refine lv_goto (tgt := 5) hX_ hB_ dX6_chargeUpTo_61 (by decide) ?_
          have eL3 : zf_cc A (E 0) m x i5 - ze_mn (zf_cc A (E 0) m x i5) (ze_mn (A 16 i5) (A 15 i5 - (ze_up (zf_ccC A (E 0) m x) (A 17) i5) i5)) = zf_cc A (E 0) m x (i5 + 1) := (by simp only [ze_b, zf_cc, ze_up_at, eq_true c11, eq_true c21, not_true_eq_false, not_false_eq_true, and_true, true_and, and_false, false_and, or_true, true_or, or_false, false_or, and_self, or_self, Decidable.not_not, if_true, if_false, reduceIte, reduceCtorEq, ne_eq, eq_self, Int32.lt_irrefl, Int32.le_refl, Nat.lt_irrefl])
          have hl : lv_has ls 6 [(4, .int (nI (i5 + 1))), (3, .int (zf_cc A (E 0) m x (i5 + 1))), (5, .int (ze_mn (zf_cc A (E 0) m x i5) (ze_mn (A 16 i5) (A 15 i5 - (ze_up (zf_ccC A (E 0) m x) (A 17) i5) i5)))), (0, .ref (a 13)), (1, .int m), (2, .int x)] := by
            first | (rw [← eL3]; exact hl) | (simp only [← eL3]; exact hl)
          have eW : (ze_wC c a n (ze_sE (ze_sE (ze_sA (ze_sA A 18 (ze_up (zf_ccF A (E 0) m x) (A 18) i5)) 17 (ze_up (zf_ccC A (E 0) m x) (A 17) i5)) 18 i5 (-(ze_mn (zf_cc A (E 0) m x i5) (ze_mn (A 16 i5) (A 15 i5 - (ze_up (zf_ccC A (E 0) m x) (A 17) i5) i5))))) 17 i5 ((ze_up (zf_ccC A (E 0) m x) (A 17) i5) i5 - (-(ze_mn (zf_cc A (E 0) m x i5) (ze_mn (A 16 i5) (A 15 i5 - (ze_up (zf_ccC A (E 0) m x) (A 17) i5) i5)))))) B E) = (ze_wC c a n (ze_sA (ze_sA A 18 (ze_up (zf_ccF A (E 0) m x) (A 18) (i5 + 1))) 17 (ze_up (zf_ccC A (E 0) m x) (A 17) (i5 + 1))) B E) := (by simp (decide := true) only [ze_e1, ze_e2, ze_upd2, ze_up_at]; rw [ze_up_s (f := (zf_ccF A (E 0) m x)) (g := A 18) (i := i5) (by simp only [ze_b, zf_ccF, ze_up_at, eq_true c11, eq_true c21, not_true_eq_false, not_false_eq_true, and_true, true_and, and_false, false_and, or_true, true_or, or_false, false_or, and_self, or_self, Decidable.not_not, if_true, if_false, reduceIte, reduceCtorEq, ne_eq, eq_self, Int32.lt_irrefl, Int32.le_refl, Nat.lt_irrefl]), ze_up_s (f := (zf_ccC A (E 0) m x)) (g := A 17) (i := i5) (by simp only [ze_b, zf_ccC, ze_up_at, eq_true c11, eq_true c21, not_true_eq_false, not_false_eq_true, and_true, true_and, and_false, false_and, or_true, true_or, or_false, false_or, and_self, or_self, Decidable.not_not, if_true, if_false, reduceIte, reduceCtorEq, ne_eq, eq_self, Int32.lt_irrefl, Int32.le_refl, Nat.lt_irrefl])])
          rw [eW] at hW
          exact ih5 (i5 + 1) (by omega) (by omega) _ _ ls hW (lv_sub hl [0, 1, 3, 4, 5] rfl)
  have hl : lv_has ls 6 [(4, .int (nI 0)), (3, .int (zf_cc A (E 0) m x 0)), (0, .ref (a 13)), (1, .int m), (2, .int x)] := hl
  have hW : ze_W D (ze_wC c a n (ze_sA (ze_sA A 18 (ze_up (zf_ccF A (E 0) m x) (A 18) 0)) 17 (ze_up (zf_ccC A (E 0) m x) (A 17) 0)) B E) F s.heap _ _ := (by rw [ze_up_0 _ (A 18), ze_up_0 _ (A 17), ze_sAid, ze_sAid2]; exact hW)
  exact L5 _ 0 (by omega) (Nat.lt_succ_self _) _ _ ls hW (lv_sub hl [0, 1, 2, 3, 4] rfl)
