/-! ===== the law's methods over the object and the net ===== -/
set_option maxHeartbeats 8000000 in
set_option maxRecDepth 100000 in
theorem xj_cell (l : Launch) (D : va_G) (c : Nat → ClassId) (b L : Nat) (xs : Nat → Int32) (hL : L ≤ 260) (i : Nat) (hi : i < 2000) : xb_X l yL_cell wsL_cell 0 0 0 0 D c (some (b, L, xs)) ([] : va_W) [.ref b, .int (nI i)] (xd_cell xs L i) ([] : va_W) := by
  intro sz
  refine xb_start (cc := cL_cell) (maxL := 3) (ret := (some .int)) (own := RL) (by decide) rfl rfl (Nat.le_of_ble_eq_true rfl) ?_
  intro p e s m_ below meth cd F ls hF hsz E0 hG
  obtain ⟨S, hr, hlocks, hK, hW, hA, hl⟩ := E0
  have hX_ := S.1
  have hB_ := S.2.1
  have hts := S.2.2.2.2
  obtain ⟨hX9, hb9, hF9⟩ := hG.2.2 _ rfl
  have hl : lv_has ls 3 [(0, .ref b), (1, .int (nI i))] := hl
  have w0 := hts (.constant RL 7 (69069)) (List.mem_cons_of_mem _ (List.mem_of_getElem? (i := 0) rfl))
  have w1 := hts (.constant RL 8 (1103515245)) (List.mem_cons_of_mem _ (List.mem_of_getElem? (i := 1) rfl))
  refine lv_ldc (own := RL) (v := 69069) hX_ hB_ S.2.2.2.1 w0 dL_cell_0 ?_
  refine lv_iload_n hX_ hB_ dL_cell_2 rfl (lv_at hl 1 rfl) ?_
  refine lv_aload_n hX_ hB_ dL_cell_3 rfl (lv_at hl 0 rfl) ?_
  refine va_slen hX_ hB_ hX9 hb9 hF9 hW.2.2 dL_cell_4 ?_
  refine lv_icmp_ge (tgt := 14) hX_ hB_ dL_cell_5 (by decide) (fun c5 => ?_) (fun c5 => ?_)
  · have c5 : ¬ i < L := Nat.not_lt.mpr ((nI_leI (a := L) (b := i) (by omega) (by omega)).mp c5)
    refine lv_iconst (v := 0) hX_ hB_ dL_cell_14 (by decide) ?_
    refine lv_sipush (v := 1009) hX_ hB_ dL_cell_15 (by decide) ?_
    refine lv_iload_n hX_ hB_ dL_cell_18 rfl (lv_at hl 1 rfl) ?_
    refine lv_imul hX_ hB_ dL_cell_19 ?_
    refine ze_top (xb_mul (a := 1009) (b := i) (c := 1009 * i) (by omega)) ?_
    refine lv_iadd hX_ hB_ dL_cell_20 ?_
    refine ze_top (xb_add (a := 0) (b := 1009 * i) (c := 1009 * i) (by omega)) ?_
    refine lv_imul hX_ hB_ dL_cell_21 ?_
    refine ze_top (xb_mul (a := 69069) (b := 1009 * i) (c := 69690621 * i) (by omega)) ?_
    refine lv_sipush (v := 12345) hX_ hB_ dL_cell_22 (by decide) ?_
    refine lv_iadd hX_ hB_ dL_cell_25 ?_
    refine ze_top (xb_add (a := 69690621 * i) (b := 12345) (c := 69690621 * i + 12345) (by omega)) ?_
    refine lv_istore_n (lv' := [(2, .int (nI (69690621 * i + 12345))), (0, .ref b), (1, .int (nI i))]) hX_ hB_ dL_cell_26 rfl hl (by decide) rfl (fun ls hl => ?_)
    refine lv_iload_n hX_ hB_ dL_cell_27 rfl (lv_at hl 0 rfl) ?_
    refine lv_iload_n hX_ hB_ dL_cell_28 rfl (lv_at hl 0 rfl) ?_
    refine lv_bipush (v := 13) hX_ hB_ dL_cell_29 (by decide) ?_
    refine lv_iushr (v := ((nI (69690621 * i + 12345)).toUInt32 >>> ((13 : Int32).toUInt32 &&& Int32.toUInt32 31)).toInt32) hX_ hB_ dL_cell_31 rfl ?_
    refine lv_ixor hX_ hB_ dL_cell_32 ?_
    refine lv_ldc (own := RL) (v := 1103515245) hX_ hB_ S.2.2.2.1 w1 dL_cell_33 ?_
    refine lv_imul hX_ hB_ dL_cell_35 ?_
    refine lv_istore_n (lv' := [(2, .int ((nI (69690621 * i + 12345)) ^^^ (((nI (69690621 * i + 12345)).toUInt32 >>> ((13 : Int32).toUInt32 &&& Int32.toUInt32 31)).toInt32) * 1103515245)), (0, .ref b), (1, .int (nI i))]) hX_ hB_ dL_cell_36 rfl hl (by decide) rfl (fun ls hl => ?_)
    refine lv_iload_n hX_ hB_ dL_cell_37 rfl (lv_at hl 0 rfl) ?_
    refine lv_iload_n hX_ hB_ dL_cell_38 rfl (lv_at hl 0 rfl) ?_
    refine lv_bipush (v := 16) hX_ hB_ dL_cell_39 (by decide) ?_
    refine lv_iushr (v := (((nI (69690621 * i + 12345)) ^^^ (((nI (69690621 * i + 12345)).toUInt32 >>> ((13 : Int32).toUInt32 &&& Int32.toUInt32 31)).toInt32) * 1103515245).toUInt32 >>> ((16 : Int32).toUInt32 &&& Int32.toUInt32 31)).toInt32) hX_ hB_ dL_cell_41 rfl ?_
    refine lv_ixor hX_ hB_ dL_cell_42 ?_
    exact ze_iret S hr hlocks hF hK hW rfl dL_cell_43 (Nat.le_of_ble_eq_true rfl) (Nat.le_of_ble_eq_true rfl) (by unfold xd_cell; rw [if_neg c5]) rfl
  · have c5 : i < L := Nat.lt_of_not_le (fun h9 => c5 ((nI_leI (a := L) (b := i) (by omega) (by omega)).mpr h9))
    refine lv_aload_n hX_ hB_ dL_cell_8 rfl (lv_at hl 0 rfl) ?_
    refine lv_iload_n hX_ hB_ dL_cell_9 rfl (lv_at hl 1 rfl) ?_
    refine va_sld hX_ hB_ hX9 hb9 hF9 hW.2.2 (vp_in_nI (n := i) (N := L) (by omega) (by omega)) dL_cell_10 ?_
    refine ze_top (congrArg xs (nI_clamp (n := i) (by omega))) ?_
    refine lv_goto (tgt := 15) hX_ hB_ dL_cell_11 (by decide) ?_
    refine lv_sipush (v := 1009) hX_ hB_ dL_cell_15 (by decide) ?_
    refine lv_iload_n hX_ hB_ dL_cell_18 rfl (lv_at hl 1 rfl) ?_
    refine lv_imul hX_ hB_ dL_cell_19 ?_
    refine ze_top (xb_mul (a := 1009) (b := i) (c := 1009 * i) (by omega)) ?_
    refine lv_iadd hX_ hB_ dL_cell_20 ?_
    refine lv_imul hX_ hB_ dL_cell_21 ?_
    refine lv_sipush (v := 12345) hX_ hB_ dL_cell_22 (by decide) ?_
    refine lv_iadd hX_ hB_ dL_cell_25 ?_
    refine lv_istore_n (lv' := [(2, .int ((69069 * (xs i + nI (1009 * i))) + 12345)), (0, .ref b), (1, .int (nI i))]) hX_ hB_ dL_cell_26 rfl hl (by decide) rfl (fun ls hl => ?_)
    refine lv_iload_n hX_ hB_ dL_cell_27 rfl (lv_at hl 0 rfl) ?_
    refine lv_iload_n hX_ hB_ dL_cell_28 rfl (lv_at hl 0 rfl) ?_
    refine lv_bipush (v := 13) hX_ hB_ dL_cell_29 (by decide) ?_
    refine lv_iushr (v := (((69069 * (xs i + nI (1009 * i))) + 12345).toUInt32 >>> ((13 : Int32).toUInt32 &&& Int32.toUInt32 31)).toInt32) hX_ hB_ dL_cell_31 rfl ?_
    refine lv_ixor hX_ hB_ dL_cell_32 ?_
    refine lv_ldc (own := RL) (v := 1103515245) hX_ hB_ S.2.2.2.1 w1 dL_cell_33 ?_
    refine lv_imul hX_ hB_ dL_cell_35 ?_
    refine lv_istore_n (lv' := [(2, .int (((69069 * (xs i + nI (1009 * i))) + 12345) ^^^ ((((69069 * (xs i + nI (1009 * i))) + 12345).toUInt32 >>> ((13 : Int32).toUInt32 &&& Int32.toUInt32 31)).toInt32) * 1103515245)), (0, .ref b), (1, .int (nI i))]) hX_ hB_ dL_cell_36 rfl hl (by decide) rfl (fun ls hl => ?_)
    refine lv_iload_n hX_ hB_ dL_cell_37 rfl (lv_at hl 0 rfl) ?_
    refine lv_iload_n hX_ hB_ dL_cell_38 rfl (lv_at hl 0 rfl) ?_
    refine lv_bipush (v := 16) hX_ hB_ dL_cell_39 (by decide) ?_
    refine lv_iushr (v := ((((69069 * (xs i + nI (1009 * i))) + 12345) ^^^ ((((69069 * (xs i + nI (1009 * i))) + 12345).toUInt32 >>> ((13 : Int32).toUInt32 &&& Int32.toUInt32 31)).toInt32) * 1103515245).toUInt32 >>> ((16 : Int32).toUInt32 &&& Int32.toUInt32 31)).toInt32) hX_ hB_ dL_cell_41 rfl ?_
    refine lv_ixor hX_ hB_ dL_cell_42 ?_
    exact ze_iret S hr hlocks hF hK hW rfl dL_cell_43 (Nat.le_of_ble_eq_true rfl) (Nat.le_of_ble_eq_true rfl) (by unfold xd_cell; rw [if_pos c5]) rfl
set_option maxHeartbeats 8000000 in
set_option maxRecDepth 100000 in
theorem xj_in (l : Launch) (D : va_G) (c : Nat → ClassId) (b L : Nat) (xs : Nat → Int32) (hL : L ≤ 260) (i : Nat) (hi : i < 2000) (k : Nat) (hk : 0 < k) (hk2 : k < 2000) : xb_X l yL_in wsL_in 1 22 0 0 D c (some (b, L, xs)) ([] : va_W) [.ref b, .int (nI i), .int (nI k)] (nI (xd_in xs L i k)) ([] : va_W) := by
  intro sz
  refine xb_start (cc := cL_in) (maxL := 3) (ret := (some .int)) (own := RL) (by decide) rfl rfl (Nat.le_of_ble_eq_true rfl) ?_
  intro p e s m_ below meth cd F ls hF hsz E0 hG
  obtain ⟨S, hr, hlocks, hK, hW, hA, hl⟩ := E0
  have hX_ := S.1
  have hB_ := S.2.1
  have hts := S.2.2.2.2
  obtain ⟨hX9, hb9, hF9⟩ := hG.2.2 _ rfl
  have hl : lv_has ls 3 [(0, .ref b), (1, .int (nI i)), (2, .int (nI k))] := hl
  have w0 := hts (.constant RL 132 (2147483647)) (List.mem_cons_of_mem _ (List.mem_of_getElem? (i := 0) rfl))
  refine lv_aload_n hX_ hB_ dL_in_0 rfl (lv_at hl 0 rfl) ?_
  refine lv_iload_n hX_ hB_ dL_in_1 rfl (lv_at hl 1 rfl) ?_
  have hW : ze_W D (([] : va_W) ++ ([] : va_W)) F s.heap _ _ := hW
  refine xb_FSx (As := [.ref b, .int (nI i)]) (rest := []) S (xj_cell l D c b L xs hL i (by omega)) (va_cwS 2 hts gL_in_L_cell rfl rfl rfl (by decide +kernel) ⟨(Nat.le_of_ble_eq_true rfl), (Nat.le_of_ble_eq_true rfl)⟩) (Or.inr rfl) hG hK hW hA rfl hl.1 rfl (lv_room (Nat.le_of_ble_eq_true rfl)) dL_in_2 ⟨(Nat.le_of_ble_eq_true rfl), (Nat.le_of_ble_eq_true rfl)⟩ (fun H locs hW => ?_)
  have hW : ze_W D ([] : va_W) F s.heap _ _ := hW
  refine lv_ldc (own := RL) (v := 2147483647) hX_ hB_ S.2.2.2.1 w0 dL_in_5 ?_
  refine lv_iand hX_ hB_ dL_in_7 ?_
  refine lv_iload_n hX_ hB_ dL_in_8 rfl (lv_at hl 2 rfl) ?_
  refine lv_irem hX_ hB_ dL_in_9 (nI_ne0 hk (by omega)) ?_
  exact ze_iret S hr hlocks hF hK hW rfl dL_in_10 (Nat.le_of_ble_eq_true rfl) (Nat.le_of_ble_eq_true rfl) (xd_rem hk (by omega)) rfl
set_option maxHeartbeats 8000000 in
set_option maxRecDepth 100000 in
theorem xj_isLine (l : Launch) (D : va_G) (hst : l.stackTraces = false) (c : Nat → ClassId) (q : Nat) (a n : Nat → Nat) (A : Nat → Nat → Int32) (B : Nat → Int64) (E : Nat → Nat → Int32) (N : Nat → Int32) (t : Nat) (hI : xd_I n A B E N t) (i j : Nat) (hi : i < n 0) (hj : j < n 0) : xb_M (T := xd_T) l yL_isLine wsL_isLine 8 127 1 6 D c none ((ze_wC c a n A B E) ++ [(q, .inl (c 0, 210, .inl N))]) [.ref (a 0), .ref q, .int (nI i), .int (nI j)] (fun r (u : xd_T) => r = 1 ∧ xd_P (a 0) n (t) u) (fun u => xd_w c q u) := by
  intro sz
  refine xb_start (cc := cL_isLine) (maxL := 4) (ret := (some .boolean)) (own := RL) (by decide) rfl rfl (Nat.le_of_ble_eq_true rfl) ?_
  have hKc := xd_K hI
  have hH := xc_KH hKc
  obtain ⟨hV, hR, hPh, hY, hWu⟩ := id hI
  obtain ⟨hN, hS, hE, hz, h4, h4z, hT, hC, hKz, hZ, hp⟩ := id hV
  obtain ⟨hn0, hn1, hn2, hn3, hn4⟩ := id hN
  have hE1 := zv_hE hV
  intro p e s m_ below meth cd F ls hF hsz E0 hG
  obtain ⟨S, hr, hlocks, hK, hW, hA, hl⟩ := E0
  have hX_ := S.1
  have hB_ := S.2.1
  have hts := S.2.2.2.2
  have hl : lv_has ls 4 [(0, .ref (a 0)), (1, .ref q), (2, .int (nI i)), (3, .int (nI j))] := hl
  have w0 := hts (.constant RL 26 (-900002)) (List.mem_cons_of_mem _ (List.mem_append_left _ (List.mem_append_left _ (List.mem_append_left _ (List.mem_append_left _ (List.mem_append_left _ (List.mem_append_left _ (List.mem_of_getElem? (i := 0) rfl))))))))
  have w1 := hts (.constant RL 30 (-900003)) (List.mem_cons_of_mem _ (List.mem_append_left _ (List.mem_append_left _ (List.mem_append_left _ (List.mem_append_left _ (List.mem_append_left _ (List.mem_append_left _ (List.mem_of_getElem? (i := 1) rfl))))))))
  refine lv_iload_n hX_ hB_ dL_isLine_0 rfl (lv_at hl 2 rfl) ?_
  refine lv_iload_n hX_ hB_ dL_isLine_1 rfl (lv_at hl 3 rfl) ?_
  refine lv_icmp_eq (tgt := 13) hX_ hB_ dL_isLine_2 (by decide) (fun c2 => ?_) (fun c2 => ?_)
  · have c2 : i = j := (nI_eq (a := i) (b := j) (by omega) (by omega)).mp c2
    refine lv_aload_n hX_ hB_ dL_isLine_13 rfl (lv_at hl 0 rfl) ?_
    refine lv_iload_n hX_ hB_ dL_isLine_14 rfl (lv_at hl 2 rfl) ?_
    refine lv_iload_n hX_ hB_ dL_isLine_15 rfl (lv_at hl 3 rfl) ?_
    refine xb_FSq (As := [.ref (a 0), .int (nI i), .int (nI j)]) (rest := []) S (xw_addLine_t2 l D hst c a n A B E i hN hi j hj c2) (vx_cwSW 3 hts gL_isLine_L_addLine rfl rfl rfl (by decide +kernel) ⟨(Nat.le_of_ble_eq_true rfl), (Nat.le_of_ble_eq_true rfl)⟩) hG hK hW hA rfl hl.1 rfl (lv_room (Nat.le_of_ble_eq_true rfl)) dL_isLine_16 ⟨(Nat.le_of_ble_eq_true rfl), (Nat.le_of_ble_eq_true rfl)⟩ (fun H locs hW => ?_)
    have hW : ze_W D ((ze_wC c a n A B E) ++ [(q, .inl (c 0, 210, .inl N))]) F s.heap _ _ := hW
    refine lv_iload_n hX_ hB_ dL_isLine_19 rfl (lv_at hl 2 rfl) ?_
    refine lv_iload_n hX_ hB_ dL_isLine_20 rfl (lv_at hl 3 rfl) ?_
    refine lv_icmp_ne (tgt := 29) hX_ hB_ dL_isLine_21 (by decide) (fun c21 => ?_) (fun c21 => ?_)
    · have c21 : ¬ i = j := fun h9 => c21 ((nI_eq (a := i) (b := j) (by omega) (by omega)).mpr h9)
      exact absurd c2 c21
    · have c21 : i = j := (nI_eq (a := i) (b := j) (by omega) (by omega)).mp c21
      refine lv_ldc (own := RL) (v := -900002) hX_ hB_ S.2.2.2.1 w0 dL_isLine_24 ?_
      refine lv_goto (tgt := 31) hX_ hB_ dL_isLine_26 (by decide) ?_
      refine lv_icmp_ne (tgt := 38) hX_ hB_ dL_isLine_31 (by decide) (fun c31 => ?_) (fun c31 => ?_)
      · exact absurd c31 (by decide)
      · refine lv_iconst (v := 1) hX_ hB_ dL_isLine_34 (by decide) ?_
        refine lv_goto (tgt := 39) hX_ hB_ dL_isLine_35 (by decide) ?_
        exact xb_iret (T := xd_T) (a, n, A, B, E, N) S hr hlocks hF hK hW rfl dL_isLine_39 (Nat.le_of_ble_eq_true rfl) (Nat.le_of_ble_eq_true rfl) ⟨rfl, ⟨rfl, hI, rfl, Nat.le_refl _, Nat.le_refl _⟩⟩ rfl
  · have c2 : ¬ i = j := fun h9 => c2 ((nI_eq (a := i) (b := j) (by omega) (by omega)).mpr h9)
    refine lv_aload_n hX_ hB_ dL_isLine_5 rfl (lv_at hl 1 rfl) ?_
    refine lv_iconst (v := 1) hX_ hB_ dL_isLine_6 (by decide) ?_
    refine ze_ialdN hX_ hB_ hK hW ((ze_wC c a n A B E).length + 0) (f := N) (ze_appL (k := 0) rfl) (i := 1) (by omega) (by decide) dL_isLine_7 ?_
    refine ze_top (y := nI (n 1)) hR.1.2.1 ?_
    refine lv_bipush (v := 8) hX_ hB_ dL_isLine_8 (by decide) ?_
    refine lv_icmp_ne (tgt := 40) hX_ hB_ dL_isLine_10 (by decide) (fun c10 => ?_) (fun c10 => ?_)
    · have c10 : ¬ (n 1) = 8 := fun h9 => c10 ((nI_eq (a := (n 1)) (b := 8) (by omega) (by omega)).mpr h9)
      refine lv_aload_n hX_ hB_ dL_isLine_40 rfl (lv_at hl 1 rfl) ?_
      refine lv_bipush (v := 20) hX_ hB_ dL_isLine_41 (by decide) ?_
      refine lv_iconst (v := 3) hX_ hB_ dL_isLine_43 (by decide) ?_
      refine lv_aload_n hX_ hB_ dL_isLine_44 rfl (lv_at hl 1 rfl) ?_
      refine lv_iconst (v := 1) hX_ hB_ dL_isLine_45 (by decide) ?_
      refine ze_ialdN hX_ hB_ hK hW ((ze_wC c a n A B E).length + 0) (f := N) (ze_appL (k := 0) rfl) (i := 1) (by omega) (by decide) dL_isLine_46 ?_
      refine ze_top (y := nI (n 1)) hR.1.2.1 ?_
      refine lv_imul hX_ hB_ dL_isLine_47 ?_
      refine ze_top (xb_mul (a := 3) (b := n 1) (c := 3 * (n 1)) (by omega)) ?_
      refine lv_iadd hX_ hB_ dL_isLine_48 ?_
      refine ze_top (xb_add (a := 20) (b := 3 * (n 1)) (c := 3 * (n 1) + 20) (by omega)) ?_
      refine lv_iload_n hX_ hB_ dL_isLine_49 rfl (lv_at hl 2 rfl) ?_
      refine ze_iastN hX_ hB_ hK hW ((ze_wC c a n A B E).length + 0) (f := N) (ze_appL (k := 0) rfl) (i := 3 * (n 1) + 20) (by omega) (by decide) dL_isLine_50 (ze_appset rfl) (fun H locs hW => ?_)
      have hW : ze_W D ((ze_wC c a n A B E) ++ [(q, .inl (c 0, 210, .inl (upd N (3 * (n 1) + 20) (nI i))))]) F s.heap _ _ := hW
      refine lv_aload_n hX_ hB_ dL_isLine_51 rfl (lv_at hl 1 rfl) ?_
      refine lv_bipush (v := 21) hX_ hB_ dL_isLine_52 (by decide) ?_
      refine lv_iconst (v := 3) hX_ hB_ dL_isLine_54 (by decide) ?_
      refine lv_aload_n hX_ hB_ dL_isLine_55 rfl (lv_at hl 1 rfl) ?_
      refine lv_iconst (v := 1) hX_ hB_ dL_isLine_56 (by decide) ?_
      refine ze_ialdN hX_ hB_ hK hW ((ze_wC c a n A B E).length + 0) (f := (upd N (3 * (n 1) + 20) (nI i))) (ze_appL (k := 0) rfl) (i := 1) (by omega) (by decide) dL_isLine_57 ?_
      refine ze_top (xb_un (by omega)) ?_
      refine ze_top (y := nI (n 1)) hR.1.2.1 ?_
      refine lv_imul hX_ hB_ dL_isLine_58 ?_
      refine ze_top (xb_mul (a := 3) (b := n 1) (c := 3 * (n 1)) (by omega)) ?_
      refine lv_iadd hX_ hB_ dL_isLine_59 ?_
      refine ze_top (xb_add (a := 21) (b := 3 * (n 1)) (c := 3 * (n 1) + 21) (by omega)) ?_
      refine lv_iload_n hX_ hB_ dL_isLine_60 rfl (lv_at hl 3 rfl) ?_
      refine ze_iastN hX_ hB_ hK hW ((ze_wC c a n A B E).length + 0) (f := (upd N (3 * (n 1) + 20) (nI i))) (ze_appL (k := 0) rfl) (i := 3 * (n 1) + 21) (by omega) (by decide) dL_isLine_61 (ze_appset rfl) (fun H locs hW => ?_)
      have hW : ze_W D ((ze_wC c a n A B E) ++ [(q, .inl (c 0, 210, .inl (upd (upd N (3 * (n 1) + 20) (nI i)) (3 * (n 1) + 21) (nI j))))]) F s.heap _ _ := hW
      refine lv_aload_n hX_ hB_ dL_isLine_62 rfl (lv_at hl 1 rfl) ?_
      refine lv_iconst (v := 1) hX_ hB_ dL_isLine_63 (by decide) ?_
      refine lv_dup2_11 hX_ hB_ dL_isLine_64 rfl rfl ?_
      refine ze_ialdN hX_ hB_ hK hW ((ze_wC c a n A B E).length + 0) (f := (upd (upd N (3 * (n 1) + 20) (nI i)) (3 * (n 1) + 21) (nI j))) (ze_appL (k := 0) rfl) (i := 1) (by omega) (by decide) dL_isLine_65 ?_
      refine ze_top (xb_un (by omega)) ?_
      refine ze_top (xb_un (by omega)) ?_
      refine ze_top (y := nI (n 1)) hR.1.2.1 ?_
      refine lv_iconst (v := 1) hX_ hB_ dL_isLine_66 (by decide) ?_
      refine lv_iadd hX_ hB_ dL_isLine_67 ?_
      refine ze_top (xb_add (a := n 1) (b := 1) (c := n 1 + 1) (by omega)) ?_
      refine ze_iastN hX_ hB_ hK hW ((ze_wC c a n A B E).length + 0) (f := (upd (upd N (3 * (n 1) + 20) (nI i)) (3 * (n 1) + 21) (nI j))) (ze_appL (k := 0) rfl) (i := 1) (by omega) (by decide) dL_isLine_68 (ze_appset rfl) (fun H locs hW => ?_)
      have hW : ze_W D ((ze_wC c a n A B E) ++ [(q, .inl (c 0, 210, .inl (upd (upd (upd N (3 * (n 1) + 20) (nI i)) (3 * (n 1) + 21) (nI j)) 1 (nI (n 1 + 1)))))]) F s.heap _ _ := hW
      refine lv_aload_n hX_ hB_ dL_isLine_69 rfl (lv_at hl 0 rfl) ?_
      refine lv_iload_n hX_ hB_ dL_isLine_70 rfl (lv_at hl 2 rfl) ?_
      refine lv_iload_n hX_ hB_ dL_isLine_71 rfl (lv_at hl 3 rfl) ?_
      refine xb_FSq (As := [.ref (a 0), .int (nI i), .int (nI j)]) (rest := []) S (xw_addLine_f l D c a n A B E i hN hi j hj c2 (by omega)) (vx_cwSW 3 hts gL_isLine_L_addLine rfl rfl rfl (by decide +kernel) ⟨(Nat.le_of_ble_eq_true rfl), (Nat.le_of_ble_eq_true rfl)⟩) hG hK hW hA rfl hl.1 rfl (lv_room (Nat.le_of_ble_eq_true rfl)) dL_isLine_72 ⟨(Nat.le_of_ble_eq_true rfl), (Nat.le_of_ble_eq_true rfl)⟩ (fun H locs hW => ?_)
      have hW : ze_W D ((ze_wC c a (ze_sn n 1 (n 1 + 1)) (ze_sE (ze_sE A 2 (n 1) (nI i)) 3 (n 1) (nI j)) B E) ++ [(q, .inl (c 0, 210, .inl (upd (upd (upd N (3 * (n 1) + 20) (nI i)) (3 * (n 1) + 21) (nI j)) 1 (nI (n 1 + 1)))))]) F s.heap _ _ := hW
      refine lv_aload_n hX_ hB_ dL_isLine_75 rfl (lv_at hl 1 rfl) ?_
      refine lv_iconst (v := 1) hX_ hB_ dL_isLine_76 (by decide) ?_
      refine ze_ialdN hX_ hB_ hK hW ((ze_wC c a (ze_sn n 1 (n 1 + 1)) (ze_sE (ze_sE A 2 (n 1) (nI i)) 3 (n 1) (nI j)) B E).length + 0) (f := (upd (upd (upd N (3 * (n 1) + 20) (nI i)) (3 * (n 1) + 21) (nI j)) 1 (nI (n 1 + 1)))) (ze_appL (k := 0) rfl) (i := 1) (by omega) (by decide) dL_isLine_77 ?_
      refine ze_top (ze_updat _ _ _) ?_
      refine lv_iconst (v := 1) hX_ hB_ dL_isLine_78 (by decide) ?_
      refine lv_isub hX_ hB_ dL_isLine_79 ?_
      refine ze_top (nI_pred (n 1)) ?_
      refine lv_icmp_ne (tgt := 87) hX_ hB_ dL_isLine_80 (by decide) (fun c80 => ?_) (fun c80 => ?_)
      · exact absurd rfl c80
      · have c80 : (n 1) = (n 1) := (nI_eq (a := (n 1)) (b := (n 1)) (by omega) (by omega)).mp c80
        refine lv_iconst (v := 1) hX_ hB_ dL_isLine_83 (by decide) ?_
        refine lv_goto (tgt := 88) hX_ hB_ dL_isLine_84 (by decide) ?_
        exact xb_iret (T := xd_T) (a, (ze_sn n 1 (n 1 + 1)), (ze_sE (ze_sE A 2 (n 1) (nI i)) 3 (n 1) (nI j)), B, E, (upd (upd (upd N (3 * (n 1) + 20) (nI i)) (3 * (n 1) + 21) (nI j)) 1 (nI (n 1 + 1)))) S hr hlocks hF hK hW rfl dL_isLine_88 (Nat.le_of_ble_eq_true rfl) (Nat.le_of_ble_eq_true rfl) ⟨rfl, ⟨rfl, xd_line hI (by omega) hi hj, rfl, Nat.le_refl _, Nat.le_refl _⟩⟩ rfl
    · have c10 : (n 1) = 8 := (nI_eq (a := (n 1)) (b := 8) (by omega) (by omega)).mp c10
      refine lv_aload_n hX_ hB_ dL_isLine_13 rfl (lv_at hl 0 rfl) ?_
      refine lv_iload_n hX_ hB_ dL_isLine_14 rfl (lv_at hl 2 rfl) ?_
      refine lv_iload_n hX_ hB_ dL_isLine_15 rfl (lv_at hl 3 rfl) ?_
      refine xb_FSq (As := [.ref (a 0), .int (nI i), .int (nI j)]) (rest := []) S (xw_addLine_t3 l D hst c a n A B E i hN hi j hj c2 (by omega)) (vx_cwSW 3 hts gL_isLine_L_addLine rfl rfl rfl (by decide +kernel) ⟨(Nat.le_of_ble_eq_true rfl), (Nat.le_of_ble_eq_true rfl)⟩) hG hK hW hA rfl hl.1 rfl (lv_room (Nat.le_of_ble_eq_true rfl)) dL_isLine_16 ⟨(Nat.le_of_ble_eq_true rfl), (Nat.le_of_ble_eq_true rfl)⟩ (fun H locs hW => ?_)
      have hW : ze_W D ((ze_wC c a n A B E) ++ [(q, .inl (c 0, 210, .inl N))]) F s.heap _ _ := hW
      refine lv_iload_n hX_ hB_ dL_isLine_19 rfl (lv_at hl 2 rfl) ?_
      refine lv_iload_n hX_ hB_ dL_isLine_20 rfl (lv_at hl 3 rfl) ?_
      refine lv_icmp_ne (tgt := 29) hX_ hB_ dL_isLine_21 (by decide) (fun c21 => ?_) (fun c21 => ?_)
      · have c21 : ¬ i = j := fun h9 => c21 ((nI_eq (a := i) (b := j) (by omega) (by omega)).mpr h9)
        refine lv_ldc (own := RL) (v := -900003) hX_ hB_ S.2.2.2.1 w1 dL_isLine_29 ?_
        refine lv_icmp_ne (tgt := 38) hX_ hB_ dL_isLine_31 (by decide) (fun c31 => ?_) (fun c31 => ?_)
        · exact absurd c31 (by decide)
        · refine lv_iconst (v := 1) hX_ hB_ dL_isLine_34 (by decide) ?_
          refine lv_goto (tgt := 39) hX_ hB_ dL_isLine_35 (by decide) ?_
          exact xb_iret (T := xd_T) (a, n, A, B, E, N) S hr hlocks hF hK hW rfl dL_isLine_39 (Nat.le_of_ble_eq_true rfl) (Nat.le_of_ble_eq_true rfl) ⟨rfl, ⟨rfl, hI, rfl, Nat.le_refl _, Nat.le_refl _⟩⟩ rfl
      · have c21 : i = j := (nI_eq (a := i) (b := j) (by omega) (by omega)).mp c21
        exact absurd c21 c2
set_option maxHeartbeats 8000000 in
set_option maxRecDepth 100000 in
theorem xj_isGenerator (l : Launch) (D : va_G) (hst : l.stackTraces = false) (c : Nat → ClassId) (q : Nat) (a n : Nat → Nat) (A : Nat → Nat → Int32) (B : Nat → Int64) (E : Nat → Nat → Int32) (N : Nat → Int32) (t : Nat) (hI : xd_I n A B E N t) (b L : Nat) (xs : Nat → Int32)  (hL : L ≤ 260) (i : Nat) (hi : i < 1000) (h0 : 0 < n 0) : xb_M (T := xd_T) l yL_isGenerator wsL_isGenerator 8 133 1 8 D c (some (b, L, xs)) ((ze_wC c a n A B E) ++ [(q, .inl (c 0, 210, .inl N))]) [.ref (a 0), .ref q, .ref b, .int (nI i)] (fun r (u : xd_T) => r = 1 ∧ xd_P (a 0) n (t) u ∧ 1 ≤ u.2.1 2) (fun u => xd_w c q u) := by
  intro sz
  refine xb_start (cc := cL_isGenerator) (maxL := 8) (ret := (some .boolean)) (own := RL) (by decide) rfl rfl (Nat.le_of_ble_eq_true rfl) ?_
  have hKc := xd_K hI
  have hH := xc_KH hKc
  obtain ⟨hV, hR, hPh, hY, hWu⟩ := id hI
  obtain ⟨hN, hS, hE, hz, h4, h4z, hT, hC, hKz, hZ, hp⟩ := id hV
  obtain ⟨hn0, hn1, hn2, hn3, hn4⟩ := id hN
  have hE1 := zv_hE hV
  intro p e s m_ below meth cd F ls hF hsz E0 hG
  obtain ⟨S, hr, hlocks, hK, hW, hA, hl⟩ := E0
  have hX_ := S.1
  have hB_ := S.2.1
  have hts := S.2.2.2.2
  have hl : lv_has ls 8 [(0, .ref (a 0)), (1, .ref q), (2, .ref b), (3, .int (nI i))] := hl
  have w0 := hts (.methodLink RL 140 Lib.Math.max.name) (List.mem_cons_of_mem _ (List.mem_append_left _ (List.mem_append_left _ (List.mem_append_left _ (List.mem_append_left _ (List.mem_append_left _ (List.mem_append_left _ (List.mem_append_left _ (List.mem_append_left _ (List.mem_of_getElem? (i := 0) rfl))))))))))
  have w1 := hts (.static Lib.Math.max.name) (List.mem_cons_of_mem _ (List.mem_append_left _ (List.mem_append_left _ (List.mem_append_left _ (List.mem_append_left _ (List.mem_append_left _ (List.mem_append_left _ (List.mem_append_left _ (List.mem_append_left _ (List.mem_of_getElem? (i := 1) rfl))))))))))
  have w2 := hts (.initialized "java/lang/Math") (List.mem_cons_of_mem _ (List.mem_append_left _ (List.mem_append_left _ (List.mem_append_left _ (List.mem_append_left _ (List.mem_append_left _ (List.mem_append_left _ (List.mem_append_left _ (List.mem_append_left _ (List.mem_of_getElem? (i := 2) rfl))))))))))
  have w3 := hts (.code Lib.Math.max.name Lib.Math.max.code 2 (some .int)) (List.mem_cons_of_mem _ (List.mem_append_left _ (List.mem_append_left _ (List.mem_append_left _ (List.mem_append_left _ (List.mem_append_left _ (List.mem_append_left _ (List.mem_append_left _ (List.mem_append_left _ (List.mem_of_getElem? (i := 3) rfl))))))))))
  have w4 := hts (.constant RL 30 (-900003)) (List.mem_cons_of_mem _ (List.mem_append_left _ (List.mem_append_left _ (List.mem_append_left _ (List.mem_append_left _ (List.mem_append_left _ (List.mem_append_left _ (List.mem_append_left _ (List.mem_append_left _ (List.mem_of_getElem? (i := 4) rfl))))))))))
  refine lv_bipush (v := 50) hX_ hB_ dL_isGenerator_0 (by decide) ?_
  refine lv_bipush (v := 9) hX_ hB_ dL_isGenerator_2 (by decide) ?_
  refine lv_aload_n hX_ hB_ dL_isGenerator_4 rfl (lv_at hl 1 rfl) ?_
  refine lv_iconst (v := 2) hX_ hB_ dL_isGenerator_5 (by decide) ?_
  refine ze_ialdN hX_ hB_ hK hW ((ze_wC c a n A B E).length + 0) (f := N) (ze_appL (k := 0) rfl) (i := 2) (by omega) (by decide) dL_isGenerator_6 ?_
  refine ze_top (y := nI (n 2)) hR.1.2.2.1 ?_
  refine lv_imul hX_ hB_ dL_isGenerator_7 ?_
  refine ze_top (xb_mul (a := 9) (b := n 2) (c := 9 * (n 2)) (by omega)) ?_
  refine lv_iadd hX_ hB_ dL_isGenerator_8 ?_
  refine ze_top (xb_add (a := 50) (b := 9 * (n 2)) (c := 9 * (n 2) + 50) (by omega)) ?_
  refine lv_istore (lv' := [(4, .int (nI (9 * (n 2) + 50))), (0, .ref (a 0)), (1, .ref q), (2, .ref b), (3, .int (nI i))]) hX_ hB_ dL_isGenerator_9 hl (by decide) rfl (fun ls hl => ?_)
  refine lv_aload_n hX_ hB_ dL_isGenerator_11 rfl (lv_at hl 3 rfl) ?_
  refine lv_iload_n hX_ hB_ dL_isGenerator_12 rfl (lv_at hl 4 rfl) ?_
  refine lv_iconst (v := 1) hX_ hB_ dL_isGenerator_13 (by decide) ?_
  refine lv_iadd hX_ hB_ dL_isGenerator_14 ?_
  refine ze_top (xb_add (a := i) (b := 1) (c := i + 1) (by omega)) ?_
  refine lv_iconst (v := 3) hX_ hB_ dL_isGenerator_15 (by decide) ?_
  have hW : ze_W D (([] : va_W) ++ ((ze_wC c a n A B E) ++ [(q, .inl (c 0, 210, .inl N))])) F s.heap _ _ := hW
  refine xb_FSx (As := [.ref b, .int (nI (i + 1)), .int 3]) (rest := []) S (xj_in l D c b L xs hL (i + 1) (by omega) 3 (by omega) (by omega)) (va_cwS 3 hts gL_isGenerator_L_in rfl rfl rfl (by decide +kernel) ⟨(Nat.le_of_ble_eq_true rfl), (Nat.le_of_ble_eq_true rfl)⟩) (Or.inr rfl) hG hK hW hA rfl hl.1 rfl (lv_room (Nat.le_of_ble_eq_true rfl)) dL_isGenerator_16 ⟨(Nat.le_of_ble_eq_true rfl), (Nat.le_of_ble_eq_true rfl)⟩ (fun H locs hW => ?_)
  have hv16 := xd_inlt (xs := xs) (L := L) (i := i + 1) (k := 3) (by omega)
  have hW : ze_W D ((ze_wC c a n A B E) ++ [(q, .inl (c 0, 210, .inl N))]) F s.heap _ _ := hW
  refine lv_if_ne (tgt := 26) hX_ hB_ dL_isGenerator_19 (by decide) (fun c19 => ?_) (fun c19 => ?_)
  · have c19 : ¬ (xd_in xs L (i + 1) 3) = 0 := fun h9 => c19 ((nI_eq (a := (xd_in xs L (i + 1) 3)) (b := 0) (by omega) (by omega)).mpr h9)
    refine lv_aload_n hX_ hB_ dL_isGenerator_26 rfl (lv_at hl 3 rfl) ?_
    refine lv_iload_n hX_ hB_ dL_isGenerator_27 rfl (lv_at hl 4 rfl) ?_
    refine lv_iconst (v := 2) hX_ hB_ dL_isGenerator_28 (by decide) ?_
    refine lv_iadd hX_ hB_ dL_isGenerator_29 ?_
    refine ze_top (xb_add (a := i) (b := 2) (c := i + 2) (by omega)) ?_
    refine lv_bipush (v := 30) hX_ hB_ dL_isGenerator_30 (by decide) ?_
    have hW : ze_W D (([] : va_W) ++ ((ze_wC c a n A B E) ++ [(q, .inl (c 0, 210, .inl N))])) F s.heap _ _ := hW
    refine xb_FSx (As := [.ref b, .int (nI (i + 2)), .int 30]) (rest := []) S (xj_in l D c b L xs hL (i + 2) (by omega) 30 (by omega) (by omega)) (va_cwS 3 hts gL_isGenerator_L_in rfl rfl rfl (by decide +kernel) ⟨(Nat.le_of_ble_eq_true rfl), (Nat.le_of_ble_eq_true rfl)⟩) (Or.inr rfl) hG hK hW hA rfl hl.1 rfl (lv_room (Nat.le_of_ble_eq_true rfl)) dL_isGenerator_32 ⟨(Nat.le_of_ble_eq_true rfl), (Nat.le_of_ble_eq_true rfl)⟩ (fun H locs hW => ?_)
    have hv32 := xd_inlt (xs := xs) (L := L) (i := i + 2) (k := 30) (by omega)
    have hW : ze_W D ((ze_wC c a n A B E) ++ [(q, .inl (c 0, 210, .inl N))]) F s.heap _ _ := hW
    refine lv_istore (lv' := [(5, .int (nI (xd_in xs L (i + 2) 30))), (4, .int (nI (9 * (n 2) + 50))), (0, .ref (a 0)), (1, .ref q), (2, .ref b), (3, .int (nI i))]) hX_ hB_ dL_isGenerator_35 hl (by decide) rfl (fun ls hl => ?_)
    refine lv_iconst (v := 1) hX_ hB_ dL_isGenerator_37 (by decide) ?_
    refine lv_iload hX_ hB_ dL_isGenerator_38 (lv_at hl 0 rfl) ?_
    refine lv_aload_n hX_ hB_ dL_isGenerator_40 rfl (lv_at hl 4 rfl) ?_
    refine lv_iload_n hX_ hB_ dL_isGenerator_41 rfl (lv_at hl 5 rfl) ?_
    refine lv_iconst (v := 3) hX_ hB_ dL_isGenerator_42 (by decide) ?_
    refine lv_iadd hX_ hB_ dL_isGenerator_43 ?_
    refine ze_top (xb_add (a := i) (b := 3) (c := i + 3) (by omega)) ?_
    refine lv_bipush (v := 60) hX_ hB_ dL_isGenerator_44 (by decide) ?_
    have hW : ze_W D (([] : va_W) ++ ((ze_wC c a n A B E) ++ [(q, .inl (c 0, 210, .inl N))])) F s.heap _ _ := hW
    refine xb_FSx (As := [.ref b, .int (nI (i + 3)), .int 60]) (rest := [.int (nI (xd_in xs L (i + 2) 30)), .int 1]) S (xj_in l D c b L xs hL (i + 3) (by omega) 60 (by omega) (by omega)) (va_cwS 3 hts gL_isGenerator_L_in rfl rfl rfl (by decide +kernel) ⟨(Nat.le_of_ble_eq_true rfl), (Nat.le_of_ble_eq_true rfl)⟩) (Or.inr rfl) hG hK hW hA rfl hl.1 rfl (lv_room (Nat.le_of_ble_eq_true rfl)) dL_isGenerator_46 ⟨(Nat.le_of_ble_eq_true rfl), (Nat.le_of_ble_eq_true rfl)⟩ (fun H locs hW => ?_)
    have hv46 := xd_inlt (xs := xs) (L := L) (i := i + 3) (k := 60) (by omega)
    have hW : ze_W D ((ze_wC c a n A B E) ++ [(q, .inl (c 0, 210, .inl N))]) F s.heap _ _ := hW
    refine lv_iadd hX_ hB_ dL_isGenerator_49 ?_
    refine ze_top (xb_add (a := xd_in xs L (i + 2) 30) (b := xd_in xs L (i + 3) 60) (c := xd_in xs L (i + 2) 30 + xd_in xs L (i + 3) 60) (by omega)) ?_
    refine ze_max S hl.1 w0 w1 w2 w3 ⟨Nat.le_of_ble_eq_true rfl, Nat.le_of_ble_eq_true rfl, Nat.le_of_ble_eq_true rfl, Nat.le_of_ble_eq_true rfl⟩ dL_isGenerator_50 ?_
    refine ze_top (xd_mx1 (xd_in xs L (i + 2) 30 + xd_in xs L (i + 3) 60) (by omega)) ?_
    refine lv_istore (lv' := [(6, .int (nI (max 1 (xd_in xs L (i + 2) 30 + xd_in xs L (i + 3) 60)))), (5, .int (nI (xd_in xs L (i + 2) 30))), (4, .int (nI (9 * (n 2) + 50))), (0, .ref (a 0)), (1, .ref q), (2, .ref b), (3, .int (nI i))]) hX_ hB_ dL_isGenerator_53 hl (by decide) rfl (fun ls hl => ?_)
    refine lv_aload_n hX_ hB_ dL_isGenerator_55 rfl (lv_at hl 5 rfl) ?_
    refine lv_iload_n hX_ hB_ dL_isGenerator_56 rfl (lv_at hl 6 rfl) ?_
    refine lv_iconst (v := 5) hX_ hB_ dL_isGenerator_57 (by decide) ?_
    refine lv_iadd hX_ hB_ dL_isGenerator_58 ?_
    refine ze_top (xb_add (a := i) (b := 5) (c := i + 5) (by omega)) ?_
    refine lv_iconst (v := 3) hX_ hB_ dL_isGenerator_59 (by decide) ?_
    have hW : ze_W D (([] : va_W) ++ ((ze_wC c a n A B E) ++ [(q, .inl (c 0, 210, .inl N))])) F s.heap _ _ := hW
    refine xb_FSx (As := [.ref b, .int (nI (i + 5)), .int 3]) (rest := []) S (xj_in l D c b L xs hL (i + 5) (by omega) 3 (by omega) (by omega)) (va_cwS 3 hts gL_isGenerator_L_in rfl rfl rfl (by decide +kernel) ⟨(Nat.le_of_ble_eq_true rfl), (Nat.le_of_ble_eq_true rfl)⟩) (Or.inr rfl) hG hK hW hA rfl hl.1 rfl (lv_room (Nat.le_of_ble_eq_true rfl)) dL_isGenerator_60 ⟨(Nat.le_of_ble_eq_true rfl), (Nat.le_of_ble_eq_true rfl)⟩ (fun H locs hW => ?_)
    have hv60 := xd_inlt (xs := xs) (L := L) (i := i + 5) (k := 3) (by omega)
    have hW : ze_W D ((ze_wC c a n A B E) ++ [(q, .inl (c 0, 210, .inl N))]) F s.heap _ _ := hW
    refine lv_if_ne (tgt := 79) hX_ hB_ dL_isGenerator_63 (by decide) (fun c63 => ?_) (fun c63 => ?_)
    · have c63 : ¬ (xd_in xs L (i + 5) 3) = 0 := fun h9 => c63 ((nI_eq (a := (xd_in xs L (i + 5) 3)) (b := 0) (by omega) (by omega)).mpr h9)
      refine lv_aload_n hX_ hB_ dL_isGenerator_79 rfl (lv_at hl 5 rfl) ?_
      refine lv_iload_n hX_ hB_ dL_isGenerator_80 rfl (lv_at hl 6 rfl) ?_
      refine lv_bipush (v := 6) hX_ hB_ dL_isGenerator_81 (by decide) ?_
      refine lv_iadd hX_ hB_ dL_isGenerator_83 ?_
      refine ze_top (xb_add (a := i) (b := 6) (c := i + 6) (by omega)) ?_
      refine lv_sipush (v := 1500) hX_ hB_ dL_isGenerator_84 (by decide) ?_
      have hW : ze_W D (([] : va_W) ++ ((ze_wC c a n A B E) ++ [(q, .inl (c 0, 210, .inl N))])) F s.heap _ _ := hW
      refine xb_FSx (As := [.ref b, .int (nI (i + 6)), .int 1500]) (rest := []) S (xj_in l D c b L xs hL (i + 6) (by omega) 1500 (by omega) (by omega)) (va_cwS 3 hts gL_isGenerator_L_in rfl rfl rfl (by decide +kernel) ⟨(Nat.le_of_ble_eq_true rfl), (Nat.le_of_ble_eq_true rfl)⟩) (Or.inr rfl) hG hK hW hA rfl hl.1 rfl (lv_room (Nat.le_of_ble_eq_true rfl)) dL_isGenerator_87 ⟨(Nat.le_of_ble_eq_true rfl), (Nat.le_of_ble_eq_true rfl)⟩ (fun H locs hW => ?_)
      have hv87 := xd_inlt (xs := xs) (L := L) (i := i + 6) (k := 1500) (by omega)
      have hW : ze_W D ((ze_wC c a n A B E) ++ [(q, .inl (c 0, 210, .inl N))]) F s.heap _ _ := hW
      refine lv_istore (lv' := [(7, .int (nI (xd_in xs L (i + 6) 1500))), (6, .int (nI (max 1 (xd_in xs L (i + 2) 30 + xd_in xs L (i + 3) 60)))), (5, .int (nI (xd_in xs L (i + 2) 30))), (4, .int (nI (9 * (n 2) + 50))), (0, .ref (a 0)), (1, .ref q), (2, .ref b), (3, .int (nI i))]) hX_ hB_ dL_isGenerator_90 hl (by decide) rfl (fun ls hl => ?_)
      refine lv_aload_n hX_ hB_ dL_isGenerator_92 rfl (lv_at hl 5 rfl) ?_
      refine lv_iconst (v := 2) hX_ hB_ dL_isGenerator_93 (by decide) ?_
      refine ze_ialdN hX_ hB_ hK hW ((ze_wC c a n A B E).length + 0) (f := N) (ze_appL (k := 0) rfl) (i := 2) (by omega) (by decide) dL_isGenerator_94 ?_
      refine ze_top (y := nI (n 2)) hR.1.2.2.1 ?_
      refine lv_bipush (v := 6) hX_ hB_ dL_isGenerator_95 (by decide) ?_
      refine lv_icmp_ne (tgt := 130) hX_ hB_ dL_isGenerator_97 (by decide) (fun c97 => ?_) (fun c97 => ?_)
      · have c97 : ¬ (n 2) = 6 := fun h9 => c97 ((nI_eq (a := (n 2)) (b := 6) (by omega) (by omega)).mpr h9)
        refine lv_aload_n hX_ hB_ dL_isGenerator_130 rfl (lv_at hl 5 rfl) ?_
        refine lv_iload hX_ hB_ dL_isGenerator_131 (lv_at hl 3 rfl) ?_
        refine lv_aload_n hX_ hB_ dL_isGenerator_133 rfl (lv_at hl 6 rfl) ?_
        refine lv_iload_n hX_ hB_ dL_isGenerator_134 rfl (lv_at hl 7 rfl) ?_
        refine lv_aload_n hX_ hB_ dL_isGenerator_135 rfl (lv_at hl 5 rfl) ?_
        refine lv_iconst (v := 0) hX_ hB_ dL_isGenerator_136 (by decide) ?_
        refine ze_ialdN hX_ hB_ hK hW ((ze_wC c a n A B E).length + 0) (f := N) (ze_appL (k := 0) rfl) (i := 0) (by omega) (by decide) dL_isGenerator_137 ?_
        refine ze_top (y := nI (n 0)) hR.1.1 ?_
        have hW : ze_W D (([] : va_W) ++ ((ze_wC c a n A B E) ++ [(q, .inl (c 0, 210, .inl N))])) F s.heap _ _ := hW
        refine xb_FSx (As := [.ref b, .int (nI i), .int (nI (n 0))]) (rest := [.int (nI (9 * (n 2) + 50)), .ref q]) S (xj_in l D c b L xs hL i (by omega) (n 0) (by omega) (by omega)) (va_cwS 3 hts gL_isGenerator_L_in rfl rfl rfl (by decide +kernel) ⟨(Nat.le_of_ble_eq_true rfl), (Nat.le_of_ble_eq_true rfl)⟩) (Or.inr rfl) hG hK hW hA rfl hl.1 rfl (lv_room (Nat.le_of_ble_eq_true rfl)) dL_isGenerator_138 ⟨(Nat.le_of_ble_eq_true rfl), (Nat.le_of_ble_eq_true rfl)⟩ (fun H locs hW => ?_)
        have hv138 := xd_inlt (xs := xs) (L := L) (i := i) (k := n 0) (by omega)
        have hW : ze_W D ((ze_wC c a n A B E) ++ [(q, .inl (c 0, 210, .inl N))]) F s.heap _ _ := hW
        refine ze_iastN hX_ hB_ hK hW ((ze_wC c a n A B E).length + 0) (f := N) (ze_appL (k := 0) rfl) (i := 9 * (n 2) + 50) (by omega) (by decide) dL_isGenerator_141 (ze_appset rfl) (fun H locs hW => ?_)
        have hW : ze_W D ((ze_wC c a n A B E) ++ [(q, .inl (c 0, 210, .inl (upd N (9 * (n 2) + 50) (nI (xd_in xs L i (n 0))))))]) F s.heap _ _ := hW
        refine lv_aload_n hX_ hB_ dL_isGenerator_142 rfl (lv_at hl 5 rfl) ?_
        refine lv_iload hX_ hB_ dL_isGenerator_143 (lv_at hl 3 rfl) ?_
        refine lv_iconst (v := 1) hX_ hB_ dL_isGenerator_145 (by decide) ?_
        refine lv_iadd hX_ hB_ dL_isGenerator_146 ?_
        refine ze_top (xb_add (a := 9 * (n 2) + 50) (b := 1) (c := 9 * (n 2) + 51) (by omega)) ?_
        refine lv_iload hX_ hB_ dL_isGenerator_147 (lv_at hl 2 rfl) ?_
        refine ze_iastN hX_ hB_ hK hW ((ze_wC c a n A B E).length + 0) (f := (upd N (9 * (n 2) + 50) (nI (xd_in xs L i (n 0))))) (ze_appL (k := 0) rfl) (i := 9 * (n 2) + 51) (by omega) (by decide) dL_isGenerator_149 (ze_appset rfl) (fun H locs hW => ?_)
        have hW : ze_W D ((ze_wC c a n A B E) ++ [(q, .inl (c 0, 210, .inl (upd (upd N (9 * (n 2) + 50) (nI (xd_in xs L i (n 0)))) (9 * (n 2) + 51) (nI (xd_in xs L (i + 2) 30)))))]) F s.heap _ _ := hW
        refine lv_aload_n hX_ hB_ dL_isGenerator_150 rfl (lv_at hl 5 rfl) ?_
        refine lv_iload hX_ hB_ dL_isGenerator_151 (lv_at hl 3 rfl) ?_
        refine lv_iconst (v := 2) hX_ hB_ dL_isGenerator_153 (by decide) ?_
        refine lv_iadd hX_ hB_ dL_isGenerator_154 ?_
        refine ze_top (xb_add (a := 9 * (n 2) + 50) (b := 2) (c := 9 * (n 2) + 52) (by omega)) ?_
        refine lv_iload hX_ hB_ dL_isGenerator_155 (lv_at hl 1 rfl) ?_
        refine ze_iastN hX_ hB_ hK hW ((ze_wC c a n A B E).length + 0) (f := (upd (upd N (9 * (n 2) + 50) (nI (xd_in xs L i (n 0)))) (9 * (n 2) + 51) (nI (xd_in xs L (i + 2) 30)))) (ze_appL (k := 0) rfl) (i := 9 * (n 2) + 52) (by omega) (by decide) dL_isGenerator_157 (ze_appset rfl) (fun H locs hW => ?_)
        have hW : ze_W D ((ze_wC c a n A B E) ++ [(q, .inl (c 0, 210, .inl (upd (upd (upd N (9 * (n 2) + 50) (nI (xd_in xs L i (n 0)))) (9 * (n 2) + 51) (nI (xd_in xs L (i + 2) 30))) (9 * (n 2) + 52) (nI (max 1 (xd_in xs L (i + 2) 30 + xd_in xs L (i + 3) 60))))))]) F s.heap _ _ := hW
        refine lv_aload_n hX_ hB_ dL_isGenerator_158 rfl (lv_at hl 5 rfl) ?_
        refine lv_iload hX_ hB_ dL_isGenerator_159 (lv_at hl 3 rfl) ?_
        refine lv_iconst (v := 3) hX_ hB_ dL_isGenerator_161 (by decide) ?_
        refine lv_iadd hX_ hB_ dL_isGenerator_162 ?_
        refine ze_top (xb_add (a := 9 * (n 2) + 50) (b := 3) (c := 9 * (n 2) + 53) (by omega)) ?_
        refine lv_aload_n hX_ hB_ dL_isGenerator_163 rfl (lv_at hl 6 rfl) ?_
        refine lv_iload_n hX_ hB_ dL_isGenerator_164 rfl (lv_at hl 7 rfl) ?_
        refine lv_iconst (v := 4) hX_ hB_ dL_isGenerator_165 (by decide) ?_
        refine lv_iadd hX_ hB_ dL_isGenerator_166 ?_
        refine ze_top (xb_add (a := i) (b := 4) (c := i + 4) (by omega)) ?_
        refine lv_iconst (v := 4) hX_ hB_ dL_isGenerator_167 (by decide) ?_
        have hW : ze_W D (([] : va_W) ++ ((ze_wC c a n A B E) ++ [(q, .inl (c 0, 210, .inl (upd (upd (upd N (9 * (n 2) + 50) (nI (xd_in xs L i (n 0)))) (9 * (n 2) + 51) (nI (xd_in xs L (i + 2) 30))) (9 * (n 2) + 52) (nI (max 1 (xd_in xs L (i + 2) 30 + xd_in xs L (i + 3) 60))))))])) F s.heap _ _ := hW
        refine xb_FSx (As := [.ref b, .int (nI (i + 4)), .int 4]) (rest := [.int (nI (9 * (n 2) + 53)), .ref q]) S (xj_in l D c b L xs hL (i + 4) (by omega) 4 (by omega) (by omega)) (va_cwS 3 hts gL_isGenerator_L_in rfl rfl rfl (by decide +kernel) ⟨(Nat.le_of_ble_eq_true rfl), (Nat.le_of_ble_eq_true rfl)⟩) (Or.inr rfl) hG hK hW hA rfl hl.1 rfl (lv_room (Nat.le_of_ble_eq_true rfl)) dL_isGenerator_168 ⟨(Nat.le_of_ble_eq_true rfl), (Nat.le_of_ble_eq_true rfl)⟩ (fun H locs hW => ?_)
        have hv168 := xd_inlt (xs := xs) (L := L) (i := i + 4) (k := 4) (by omega)
        have hW : ze_W D ((ze_wC c a n A B E) ++ [(q, .inl (c 0, 210, .inl (upd (upd (upd N (9 * (n 2) + 50) (nI (xd_in xs L i (n 0)))) (9 * (n 2) + 51) (nI (xd_in xs L (i + 2) 30))) (9 * (n 2) + 52) (nI (max 1 (xd_in xs L (i + 2) 30 + xd_in xs L (i + 3) 60))))))]) F s.heap _ _ := hW
        refine ze_iastN hX_ hB_ hK hW ((ze_wC c a n A B E).length + 0) (f := (upd (upd (upd N (9 * (n 2) + 50) (nI (xd_in xs L i (n 0)))) (9 * (n 2) + 51) (nI (xd_in xs L (i + 2) 30))) (9 * (n 2) + 52) (nI (max 1 (xd_in xs L (i + 2) 30 + xd_in xs L (i + 3) 60))))) (ze_appL (k := 0) rfl) (i := 9 * (n 2) + 53) (by omega) (by decide) dL_isGenerator_171 (ze_appset rfl) (fun H locs hW => ?_)
        have hW : ze_W D ((ze_wC c a n A B E) ++ [(q, .inl (c 0, 210, .inl (upd (upd (upd (upd N (9 * (n 2) + 50) (nI (xd_in xs L i (n 0)))) (9 * (n 2) + 51) (nI (xd_in xs L (i + 2) 30))) (9 * (n 2) + 52) (nI (max 1 (xd_in xs L (i + 2) 30 + xd_in xs L (i + 3) 60)))) (9 * (n 2) + 53) (nI (xd_in xs L (i + 4) 4)))))]) F s.heap _ _ := hW
        refine lv_aload_n hX_ hB_ dL_isGenerator_172 rfl (lv_at hl 5 rfl) ?_
        refine lv_iload hX_ hB_ dL_isGenerator_173 (lv_at hl 3 rfl) ?_
        refine lv_iconst (v := 4) hX_ hB_ dL_isGenerator_175 (by decide) ?_
        refine lv_iadd hX_ hB_ dL_isGenerator_176 ?_
        refine ze_top (xb_add (a := 9 * (n 2) + 50) (b := 4) (c := 9 * (n 2) + 54) (by omega)) ?_
        refine lv_iload hX_ hB_ dL_isGenerator_177 (lv_at hl 0 rfl) ?_
        refine ze_iastN hX_ hB_ hK hW ((ze_wC c a n A B E).length + 0) (f := (upd (upd (upd (upd N (9 * (n 2) + 50) (nI (xd_in xs L i (n 0)))) (9 * (n 2) + 51) (nI (xd_in xs L (i + 2) 30))) (9 * (n 2) + 52) (nI (max 1 (xd_in xs L (i + 2) 30 + xd_in xs L (i + 3) 60)))) (9 * (n 2) + 53) (nI (xd_in xs L (i + 4) 4)))) (ze_appL (k := 0) rfl) (i := 9 * (n 2) + 54) (by omega) (by decide) dL_isGenerator_179 (ze_appset rfl) (fun H locs hW => ?_)
        have hW : ze_W D ((ze_wC c a n A B E) ++ [(q, .inl (c 0, 210, .inl (upd (upd (upd (upd (upd N (9 * (n 2) + 50) (nI (xd_in xs L i (n 0)))) (9 * (n 2) + 51) (nI (xd_in xs L (i + 2) 30))) (9 * (n 2) + 52) (nI (max 1 (xd_in xs L (i + 2) 30 + xd_in xs L (i + 3) 60)))) (9 * (n 2) + 53) (nI (xd_in xs L (i + 4) 4))) (9 * (n 2) + 54) (nI (xd_in xs L (i + 6) 1500)))))]) F s.heap _ _ := hW
        refine lv_aload_n hX_ hB_ dL_isGenerator_180 rfl (lv_at hl 5 rfl) ?_
        refine lv_iconst (v := 2) hX_ hB_ dL_isGenerator_181 (by decide) ?_
        refine lv_dup2_11 hX_ hB_ dL_isGenerator_182 rfl rfl ?_
        refine ze_ialdN hX_ hB_ hK hW ((ze_wC c a n A B E).length + 0) (f := (upd (upd (upd (upd (upd N (9 * (n 2) + 50) (nI (xd_in xs L i (n 0)))) (9 * (n 2) + 51) (nI (xd_in xs L (i + 2) 30))) (9 * (n 2) + 52) (nI (max 1 (xd_in xs L (i + 2) 30 + xd_in xs L (i + 3) 60)))) (9 * (n 2) + 53) (nI (xd_in xs L (i + 4) 4))) (9 * (n 2) + 54) (nI (xd_in xs L (i + 6) 1500)))) (ze_appL (k := 0) rfl) (i := 2) (by omega) (by decide) dL_isGenerator_183 ?_
        refine ze_top (xb_un (by omega)) ?_
        refine ze_top (xb_un (by omega)) ?_
        refine ze_top (xb_un (by omega)) ?_
        refine ze_top (xb_un (by omega)) ?_
        refine ze_top (xb_un (by omega)) ?_
        refine ze_top (y := nI (n 2)) hR.1.2.2.1 ?_
        refine lv_iconst (v := 1) hX_ hB_ dL_isGenerator_184 (by decide) ?_
        refine lv_iadd hX_ hB_ dL_isGenerator_185 ?_
        refine ze_top (xb_add (a := n 2) (b := 1) (c := n 2 + 1) (by omega)) ?_
        refine ze_iastN hX_ hB_ hK hW ((ze_wC c a n A B E).length + 0) (f := (upd (upd (upd (upd (upd N (9 * (n 2) + 50) (nI (xd_in xs L i (n 0)))) (9 * (n 2) + 51) (nI (xd_in xs L (i + 2) 30))) (9 * (n 2) + 52) (nI (max 1 (xd_in xs L (i + 2) 30 + xd_in xs L (i + 3) 60)))) (9 * (n 2) + 53) (nI (xd_in xs L (i + 4) 4))) (9 * (n 2) + 54) (nI (xd_in xs L (i + 6) 1500)))) (ze_appL (k := 0) rfl) (i := 2) (by omega) (by decide) dL_isGenerator_186 (ze_appset rfl) (fun H locs hW => ?_)
        have hW : ze_W D ((ze_wC c a n A B E) ++ [(q, .inl (c 0, 210, .inl (upd (upd (upd (upd (upd (upd N (9 * (n 2) + 50) (nI (xd_in xs L i (n 0)))) (9 * (n 2) + 51) (nI (xd_in xs L (i + 2) 30))) (9 * (n 2) + 52) (nI (max 1 (xd_in xs L (i + 2) 30 + xd_in xs L (i + 3) 60)))) (9 * (n 2) + 53) (nI (xd_in xs L (i + 4) 4))) (9 * (n 2) + 54) (nI (xd_in xs L (i + 6) 1500))) 2 (nI (n 2 + 1)))))]) F s.heap _ _ := hW
        refine lv_aload_n hX_ hB_ dL_isGenerator_187 rfl (lv_at hl 4 rfl) ?_
        refine lv_aload_n hX_ hB_ dL_isGenerator_188 rfl (lv_at hl 5 rfl) ?_
        refine lv_iload hX_ hB_ dL_isGenerator_189 (lv_at hl 3 rfl) ?_
        refine ze_ialdN hX_ hB_ hK hW ((ze_wC c a n A B E).length + 0) (f := (upd (upd (upd (upd (upd (upd N (9 * (n 2) + 50) (nI (xd_in xs L i (n 0)))) (9 * (n 2) + 51) (nI (xd_in xs L (i + 2) 30))) (9 * (n 2) + 52) (nI (max 1 (xd_in xs L (i + 2) 30 + xd_in xs L (i + 3) 60)))) (9 * (n 2) + 53) (nI (xd_in xs L (i + 4) 4))) (9 * (n 2) + 54) (nI (xd_in xs L (i + 6) 1500))) 2 (nI (n 2 + 1)))) (ze_appL (k := 0) rfl) (i := 9 * (n 2) + 50) (by omega) (by decide) dL_isGenerator_191 ?_
        refine ze_top (xb_un (by omega)) ?_
        refine ze_top (xb_un (by omega)) ?_
        refine ze_top (xb_un (by omega)) ?_
        refine ze_top (xb_un (by omega)) ?_
        refine ze_top (xb_un (by omega)) ?_
        refine ze_top (ze_updat _ _ _) ?_
        refine lv_iload hX_ hB_ dL_isGenerator_192 (lv_at hl 2 rfl) ?_
        refine lv_iload hX_ hB_ dL_isGenerator_194 (lv_at hl 1 rfl) ?_
        refine lv_aload_n hX_ hB_ dL_isGenerator_196 rfl (lv_at hl 5 rfl) ?_
        refine lv_iload hX_ hB_ dL_isGenerator_197 (lv_at hl 3 rfl) ?_
        refine lv_iconst (v := 3) hX_ hB_ dL_isGenerator_199 (by decide) ?_
        refine lv_iadd hX_ hB_ dL_isGenerator_200 ?_
        refine ze_top (xb_add (a := 9 * (n 2) + 50) (b := 3) (c := 9 * (n 2) + 53) (by omega)) ?_
        refine ze_ialdN hX_ hB_ hK hW ((ze_wC c a n A B E).length + 0) (f := (upd (upd (upd (upd (upd (upd N (9 * (n 2) + 50) (nI (xd_in xs L i (n 0)))) (9 * (n 2) + 51) (nI (xd_in xs L (i + 2) 30))) (9 * (n 2) + 52) (nI (max 1 (xd_in xs L (i + 2) 30 + xd_in xs L (i + 3) 60)))) (9 * (n 2) + 53) (nI (xd_in xs L (i + 4) 4))) (9 * (n 2) + 54) (nI (xd_in xs L (i + 6) 1500))) 2 (nI (n 2 + 1)))) (ze_appL (k := 0) rfl) (i := 9 * (n 2) + 53) (by omega) (by decide) dL_isGenerator_201 ?_
        refine ze_top (xb_un (by omega)) ?_
        refine ze_top (xb_un (by omega)) ?_
        refine ze_top (ze_updat _ _ _) ?_
        refine lv_iload hX_ hB_ dL_isGenerator_202 (lv_at hl 0 rfl) ?_
        refine xb_FSe (As := [.ref (a 0), .int (nI (xd_in xs L i (n 0))), .int (nI (xd_in xs L (i + 2) 30)), .int (nI (max 1 (xd_in xs L (i + 2) 30 + xd_in xs L (i + 3) 60))), .int (nI (xd_in xs L (i + 4) 4)), .int (nI (xd_in xs L (i + 6) 1500))]) (rest := []) S (xw_addGenerator_f l D c a n A B E (xd_in xs L i (n 0)) hN (by omega) (nI (xd_in xs L (i + 2) 30)) (nI (max 1 (xd_in xs L (i + 2) 30 + xd_in xs L (i + 3) 60))) (nI (xd_in xs L (i + 4) 4)) (nI (xd_in xs L (i + 6) 1500)) (xd_rg (lo := 0) (hi := 100) (by omega) (by omega) (by omega)) (xd_rgm (by omega) (by omega) (by omega)) (xd_rg (lo := 0) (hi := 9) (by omega) (by omega) (by omega)) (xd_rg (lo := 0) (hi := 9999) (by omega) (by omega) (by omega)) (by omega) ((hZ.1 _ (Nat.le_refl _)).1) ((hZ.1 _ (Nat.le_refl _)).2)) (vx_cwSW 6 hts gL_isGenerator_L_addGenerator rfl rfl rfl (by decide +kernel) ⟨(Nat.le_of_ble_eq_true rfl), (Nat.le_of_ble_eq_true rfl)⟩) hG hK hW hA rfl hl.1 rfl (lv_room (Nat.le_of_ble_eq_true rfl)) dL_isGenerator_204 ⟨(Nat.le_of_ble_eq_true rfl), (Nat.le_of_ble_eq_true rfl)⟩ (fun qn H locs hW => ?_)
        have hW : ze_W D ((ze_wC c va_up a (20 + n 2) qn (ze_sn n 2 (n 2 + 1)) (ze_sE (ze_sE (ze_sE (ze_sE (ze_sE (ze_sE A 6 (n 2) (nI (xd_in xs L i (n 0)))) 7 (n 2) (nI (xd_in xs L (i + 2) 30))) 8 (n 2) (nI (max 1 (xd_in xs L (i + 2) 30 + xd_in xs L (i + 3) 60)))) 9 (n 2) (nI (xd_in xs L (i + 4) 4))) 10 (n 2) (nI (xd_in xs L (i + 6) 1500))) 13 (n 2) 111) B E) ++ [(q, .inl (c 0, 210, .inl (upd (upd (upd (upd (upd (upd N (9 * (n 2) + 50) (nI (xd_in xs L i (n 0)))) (9 * (n 2) + 51) (nI (xd_in xs L (i + 2) 30))) (9 * (n 2) + 52) (nI (max 1 (xd_in xs L (i + 2) 30 + xd_in xs L (i + 3) 60)))) (9 * (n 2) + 53) (nI (xd_in xs L (i + 4) 4))) (9 * (n 2) + 54) (nI (xd_in xs L (i + 6) 1500))) 2 (nI (n 2 + 1)))))]) F s.heap _ _ := hW
        refine lv_aload_n hX_ hB_ dL_isGenerator_207 rfl (lv_at hl 5 rfl) ?_
        refine lv_iconst (v := 2) hX_ hB_ dL_isGenerator_208 (by decide) ?_
        refine ze_ialdN hX_ hB_ hK hW ((ze_wC c va_up a (20 + n 2) qn (ze_sn n 2 (n 2 + 1)) (ze_sE (ze_sE (ze_sE (ze_sE (ze_sE (ze_sE A 6 (n 2) (nI (xd_in xs L i (n 0)))) 7 (n 2) (nI (xd_in xs L (i + 2) 30))) 8 (n 2) (nI (max 1 (xd_in xs L (i + 2) 30 + xd_in xs L (i + 3) 60)))) 9 (n 2) (nI (xd_in xs L (i + 4) 4))) 10 (n 2) (nI (xd_in xs L (i + 6) 1500))) 13 (n 2) 111) B E).length + 0) (f := (upd (upd (upd (upd (upd (upd N (9 * (n 2) + 50) (nI (xd_in xs L i (n 0)))) (9 * (n 2) + 51) (nI (xd_in xs L (i + 2) 30))) (9 * (n 2) + 52) (nI (max 1 (xd_in xs L (i + 2) 30 + xd_in xs L (i + 3) 60)))) (9 * (n 2) + 53) (nI (xd_in xs L (i + 4) 4))) (9 * (n 2) + 54) (nI (xd_in xs L (i + 6) 1500))) 2 (nI (n 2 + 1)))) (ze_appL (k := 0) rfl) (i := 2) (by omega) (by decide) dL_isGenerator_209 ?_
        refine ze_top (ze_updat _ _ _) ?_
        refine lv_iconst (v := 1) hX_ hB_ dL_isGenerator_210 (by decide) ?_
        refine lv_isub hX_ hB_ dL_isGenerator_211 ?_
        refine ze_top (nI_pred (n 2)) ?_
        refine lv_icmp_ne (tgt := 219) hX_ hB_ dL_isGenerator_212 (by decide) (fun c212 => ?_) (fun c212 => ?_)
        · exact absurd rfl c212
        · have c212 : (n 2) = (n 2) := (nI_eq (a := (n 2)) (b := (n 2)) (by omega) (by omega)).mp c212
          refine lv_iconst (v := 1) hX_ hB_ dL_isGenerator_215 (by decide) ?_
          refine lv_goto (tgt := 220) hX_ hB_ dL_isGenerator_216 (by decide) ?_
          exact xb_iret (T := xd_T) (va_up a (20 + n 2) qn, (ze_sn n 2 (n 2 + 1)), (ze_sE (ze_sE (ze_sE (ze_sE (ze_sE (ze_sE A 6 (n 2) (nI (xd_in xs L i (n 0)))) 7 (n 2) (nI (xd_in xs L (i + 2) 30))) 8 (n 2) (nI (max 1 (xd_in xs L (i + 2) 30 + xd_in xs L (i + 3) 60)))) 9 (n 2) (nI (xd_in xs L (i + 4) 4))) 10 (n 2) (nI (xd_in xs L (i + 6) 1500))) 13 (n 2) 111), B, E, (upd (upd (upd (upd (upd (upd N (9 * (n 2) + 50) (nI (xd_in xs L i (n 0)))) (9 * (n 2) + 51) (nI (xd_in xs L (i + 2) 30))) (9 * (n 2) + 52) (nI (max 1 (xd_in xs L (i + 2) 30 + xd_in xs L (i + 3) 60)))) (9 * (n 2) + 53) (nI (xd_in xs L (i + 4) 4))) (9 * (n 2) + 54) (nI (xd_in xs L (i + 6) 1500))) 2 (nI (n 2 + 1)))) S hr hlocks hF hK hW rfl dL_isGenerator_220 (Nat.le_of_ble_eq_true rfl) (Nat.le_of_ble_eq_true rfl) ⟨rfl, ⟨(va_up_ne _ _ (by omega)), (xd_gen hI (by omega) (by omega) (by omega) (by omega) (by omega) (by omega) (by omega) (by omega)), rfl, Nat.le_succ _, Nat.le_refl _⟩, Nat.succ_le_succ (Nat.zero_le _)⟩ rfl
      · have c97 : (n 2) = 6 := (nI_eq (a := (n 2)) (b := 6) (by omega) (by omega)).mp c97
        refine lv_aload_n hX_ hB_ dL_isGenerator_100 rfl (lv_at hl 4 rfl) ?_
        refine lv_aload_n hX_ hB_ dL_isGenerator_101 rfl (lv_at hl 6 rfl) ?_
        refine lv_iload_n hX_ hB_ dL_isGenerator_102 rfl (lv_at hl 7 rfl) ?_
        refine lv_aload_n hX_ hB_ dL_isGenerator_103 rfl (lv_at hl 5 rfl) ?_
        refine lv_iconst (v := 0) hX_ hB_ dL_isGenerator_104 (by decide) ?_
        refine ze_ialdN hX_ hB_ hK hW ((ze_wC c a n A B E).length + 0) (f := N) (ze_appL (k := 0) rfl) (i := 0) (by omega) (by decide) dL_isGenerator_105 ?_
        refine ze_top (y := nI (n 0)) hR.1.1 ?_
        have hW : ze_W D (([] : va_W) ++ ((ze_wC c a n A B E) ++ [(q, .inl (c 0, 210, .inl N))])) F s.heap _ _ := hW
        refine xb_FSx (As := [.ref b, .int (nI i), .int (nI (n 0))]) (rest := [.ref (a 0)]) S (xj_in l D c b L xs hL i (by omega) (n 0) (by omega) (by omega)) (va_cwS 3 hts gL_isGenerator_L_in rfl rfl rfl (by decide +kernel) ⟨(Nat.le_of_ble_eq_true rfl), (Nat.le_of_ble_eq_true rfl)⟩) (Or.inr rfl) hG hK hW hA rfl hl.1 rfl (lv_room (Nat.le_of_ble_eq_true rfl)) dL_isGenerator_106 ⟨(Nat.le_of_ble_eq_true rfl), (Nat.le_of_ble_eq_true rfl)⟩ (fun H locs hW => ?_)
        have hv106 := xd_inlt (xs := xs) (L := L) (i := i) (k := n 0) (by omega)
        have hW : ze_W D ((ze_wC c a n A B E) ++ [(q, .inl (c 0, 210, .inl N))]) F s.heap _ _ := hW
        refine lv_iload hX_ hB_ dL_isGenerator_109 (lv_at hl 2 rfl) ?_
        refine lv_iload hX_ hB_ dL_isGenerator_111 (lv_at hl 1 rfl) ?_
        refine lv_iconst (v := 0) hX_ hB_ dL_isGenerator_113 (by decide) ?_
        refine lv_iload hX_ hB_ dL_isGenerator_114 (lv_at hl 0 rfl) ?_
        refine xb_FSq (As := [.ref (a 0), .int (nI (xd_in xs L i (n 0))), .int (nI (xd_in xs L (i + 2) 30)), .int (nI (max 1 (xd_in xs L (i + 2) 30 + xd_in xs L (i + 3) 60))), .int 0, .int (nI (xd_in xs L (i + 6) 1500))]) (rest := []) S (xw_addGenerator_t3 l D hst c a n A B E (xd_in xs L i (n 0)) hN (by omega) (nI (xd_in xs L (i + 2) 30)) (nI (max 1 (xd_in xs L (i + 2) 30 + xd_in xs L (i + 3) 60))) 0 (nI (xd_in xs L (i + 6) 1500)) (xd_rg (lo := 0) (hi := 100) (by omega) (by omega) (by omega)) (xd_rgm (by omega) (by omega) (by omega)) (by decide) (xd_rg (lo := 0) (hi := 9999) (by omega) (by omega) (by omega)) (by omega)) (vx_cwSW 6 hts gL_isGenerator_L_addGenerator rfl rfl rfl (by decide +kernel) ⟨(Nat.le_of_ble_eq_true rfl), (Nat.le_of_ble_eq_true rfl)⟩) hG hK hW hA rfl hl.1 rfl (lv_room (Nat.le_of_ble_eq_true rfl)) dL_isGenerator_116 ⟨(Nat.le_of_ble_eq_true rfl), (Nat.le_of_ble_eq_true rfl)⟩ (fun H locs hW => ?_)
        have hW : ze_W D ((ze_wC c a n A B E) ++ [(q, .inl (c 0, 210, .inl N))]) F s.heap _ _ := hW
        refine lv_ldc (own := RL) (v := -900003) hX_ hB_ S.2.2.2.1 w4 dL_isGenerator_119 ?_
        refine lv_icmp_ne (tgt := 128) hX_ hB_ dL_isGenerator_121 (by decide) (fun c121 => ?_) (fun c121 => ?_)
        · exact absurd c121 (by decide)
        · refine lv_iconst (v := 1) hX_ hB_ dL_isGenerator_124 (by decide) ?_
          refine lv_goto (tgt := 129) hX_ hB_ dL_isGenerator_125 (by decide) ?_
          exact xb_iret (T := xd_T) (a, n, A, B, E, N) S hr hlocks hF hK hW rfl dL_isGenerator_129 (Nat.le_of_ble_eq_true rfl) (Nat.le_of_ble_eq_true rfl) ⟨rfl, ⟨rfl, hI, rfl, Nat.le_refl _, Nat.le_refl _⟩, (by omega)⟩ rfl
    · have c63 : (xd_in xs L (i + 5) 3) = 0 := (nI_eq (a := (xd_in xs L (i + 5) 3)) (b := 0) (by omega) (by omega)).mp c63
      refine lv_aload_n hX_ hB_ dL_isGenerator_66 rfl (lv_at hl 5 rfl) ?_
      refine lv_iload_n hX_ hB_ dL_isGenerator_67 rfl (lv_at hl 6 rfl) ?_
      refine lv_bipush (v := 6) hX_ hB_ dL_isGenerator_68 (by decide) ?_
      refine lv_iadd hX_ hB_ dL_isGenerator_70 ?_
      refine ze_top (xb_add (a := i) (b := 6) (c := i + 6) (by omega)) ?_
      refine lv_bipush (v := 60) hX_ hB_ dL_isGenerator_71 (by decide) ?_
      have hW : ze_W D (([] : va_W) ++ ((ze_wC c a n A B E) ++ [(q, .inl (c 0, 210, .inl N))])) F s.heap _ _ := hW
      refine xb_FSx (As := [.ref b, .int (nI (i + 6)), .int 60]) (rest := []) S (xj_in l D c b L xs hL (i + 6) (by omega) 60 (by omega) (by omega)) (va_cwS 3 hts gL_isGenerator_L_in rfl rfl rfl (by decide +kernel) ⟨(Nat.le_of_ble_eq_true rfl), (Nat.le_of_ble_eq_true rfl)⟩) (Or.inr rfl) hG hK hW hA rfl hl.1 rfl (lv_room (Nat.le_of_ble_eq_true rfl)) dL_isGenerator_73 ⟨(Nat.le_of_ble_eq_true rfl), (Nat.le_of_ble_eq_true rfl)⟩ (fun H locs hW => ?_)
      have hv73 := xd_inlt (xs := xs) (L := L) (i := i + 6) (k := 60) (by omega)
      have hW : ze_W D ((ze_wC c a n A B E) ++ [(q, .inl (c 0, 210, .inl N))]) F s.heap _ _ := hW
      refine lv_goto (tgt := 90) hX_ hB_ dL_isGenerator_76 (by decide) ?_
      refine lv_istore (lv' := [(7, .int (nI (xd_in xs L (i + 6) 60))), (6, .int (nI (max 1 (xd_in xs L (i + 2) 30 + xd_in xs L (i + 3) 60)))), (5, .int (nI (xd_in xs L (i + 2) 30))), (4, .int (nI (9 * (n 2) + 50))), (0, .ref (a 0)), (1, .ref q), (2, .ref b), (3, .int (nI i))]) hX_ hB_ dL_isGenerator_90 hl (by decide) rfl (fun ls hl => ?_)
      refine lv_aload_n hX_ hB_ dL_isGenerator_92 rfl (lv_at hl 5 rfl) ?_
      refine lv_iconst (v := 2) hX_ hB_ dL_isGenerator_93 (by decide) ?_
      refine ze_ialdN hX_ hB_ hK hW ((ze_wC c a n A B E).length + 0) (f := N) (ze_appL (k := 0) rfl) (i := 2) (by omega) (by decide) dL_isGenerator_94 ?_
      refine ze_top (y := nI (n 2)) hR.1.2.2.1 ?_
      refine lv_bipush (v := 6) hX_ hB_ dL_isGenerator_95 (by decide) ?_
      refine lv_icmp_ne (tgt := 130) hX_ hB_ dL_isGenerator_97 (by decide) (fun c97 => ?_) (fun c97 => ?_)
      · have c97 : ¬ (n 2) = 6 := fun h9 => c97 ((nI_eq (a := (n 2)) (b := 6) (by omega) (by omega)).mpr h9)
        refine lv_aload_n hX_ hB_ dL_isGenerator_130 rfl (lv_at hl 5 rfl) ?_
        refine lv_iload hX_ hB_ dL_isGenerator_131 (lv_at hl 3 rfl) ?_
        refine lv_aload_n hX_ hB_ dL_isGenerator_133 rfl (lv_at hl 6 rfl) ?_
        refine lv_iload_n hX_ hB_ dL_isGenerator_134 rfl (lv_at hl 7 rfl) ?_
        refine lv_aload_n hX_ hB_ dL_isGenerator_135 rfl (lv_at hl 5 rfl) ?_
        refine lv_iconst (v := 0) hX_ hB_ dL_isGenerator_136 (by decide) ?_
        refine ze_ialdN hX_ hB_ hK hW ((ze_wC c a n A B E).length + 0) (f := N) (ze_appL (k := 0) rfl) (i := 0) (by omega) (by decide) dL_isGenerator_137 ?_
        refine ze_top (y := nI (n 0)) hR.1.1 ?_
        have hW : ze_W D (([] : va_W) ++ ((ze_wC c a n A B E) ++ [(q, .inl (c 0, 210, .inl N))])) F s.heap _ _ := hW
        refine xb_FSx (As := [.ref b, .int (nI i), .int (nI (n 0))]) (rest := [.int (nI (9 * (n 2) + 50)), .ref q]) S (xj_in l D c b L xs hL i (by omega) (n 0) (by omega) (by omega)) (va_cwS 3 hts gL_isGenerator_L_in rfl rfl rfl (by decide +kernel) ⟨(Nat.le_of_ble_eq_true rfl), (Nat.le_of_ble_eq_true rfl)⟩) (Or.inr rfl) hG hK hW hA rfl hl.1 rfl (lv_room (Nat.le_of_ble_eq_true rfl)) dL_isGenerator_138 ⟨(Nat.le_of_ble_eq_true rfl), (Nat.le_of_ble_eq_true rfl)⟩ (fun H locs hW => ?_)
        have hv138 := xd_inlt (xs := xs) (L := L) (i := i) (k := n 0) (by omega)
        have hW : ze_W D ((ze_wC c a n A B E) ++ [(q, .inl (c 0, 210, .inl N))]) F s.heap _ _ := hW
        refine ze_iastN hX_ hB_ hK hW ((ze_wC c a n A B E).length + 0) (f := N) (ze_appL (k := 0) rfl) (i := 9 * (n 2) + 50) (by omega) (by decide) dL_isGenerator_141 (ze_appset rfl) (fun H locs hW => ?_)
        have hW : ze_W D ((ze_wC c a n A B E) ++ [(q, .inl (c 0, 210, .inl (upd N (9 * (n 2) + 50) (nI (xd_in xs L i (n 0))))))]) F s.heap _ _ := hW
        refine lv_aload_n hX_ hB_ dL_isGenerator_142 rfl (lv_at hl 5 rfl) ?_
        refine lv_iload hX_ hB_ dL_isGenerator_143 (lv_at hl 3 rfl) ?_
        refine lv_iconst (v := 1) hX_ hB_ dL_isGenerator_145 (by decide) ?_
        refine lv_iadd hX_ hB_ dL_isGenerator_146 ?_
        refine ze_top (xb_add (a := 9 * (n 2) + 50) (b := 1) (c := 9 * (n 2) + 51) (by omega)) ?_
        refine lv_iload hX_ hB_ dL_isGenerator_147 (lv_at hl 2 rfl) ?_
        refine ze_iastN hX_ hB_ hK hW ((ze_wC c a n A B E).length + 0) (f := (upd N (9 * (n 2) + 50) (nI (xd_in xs L i (n 0))))) (ze_appL (k := 0) rfl) (i := 9 * (n 2) + 51) (by omega) (by decide) dL_isGenerator_149 (ze_appset rfl) (fun H locs hW => ?_)
        have hW : ze_W D ((ze_wC c a n A B E) ++ [(q, .inl (c 0, 210, .inl (upd (upd N (9 * (n 2) + 50) (nI (xd_in xs L i (n 0)))) (9 * (n 2) + 51) (nI (xd_in xs L (i + 2) 30)))))]) F s.heap _ _ := hW
        refine lv_aload_n hX_ hB_ dL_isGenerator_150 rfl (lv_at hl 5 rfl) ?_
        refine lv_iload hX_ hB_ dL_isGenerator_151 (lv_at hl 3 rfl) ?_
        refine lv_iconst (v := 2) hX_ hB_ dL_isGenerator_153 (by decide) ?_
        refine lv_iadd hX_ hB_ dL_isGenerator_154 ?_
        refine ze_top (xb_add (a := 9 * (n 2) + 50) (b := 2) (c := 9 * (n 2) + 52) (by omega)) ?_
        refine lv_iload hX_ hB_ dL_isGenerator_155 (lv_at hl 1 rfl) ?_
        refine ze_iastN hX_ hB_ hK hW ((ze_wC c a n A B E).length + 0) (f := (upd (upd N (9 * (n 2) + 50) (nI (xd_in xs L i (n 0)))) (9 * (n 2) + 51) (nI (xd_in xs L (i + 2) 30)))) (ze_appL (k := 0) rfl) (i := 9 * (n 2) + 52) (by omega) (by decide) dL_isGenerator_157 (ze_appset rfl) (fun H locs hW => ?_)
        have hW : ze_W D ((ze_wC c a n A B E) ++ [(q, .inl (c 0, 210, .inl (upd (upd (upd N (9 * (n 2) + 50) (nI (xd_in xs L i (n 0)))) (9 * (n 2) + 51) (nI (xd_in xs L (i + 2) 30))) (9 * (n 2) + 52) (nI (max 1 (xd_in xs L (i + 2) 30 + xd_in xs L (i + 3) 60))))))]) F s.heap _ _ := hW
        refine lv_aload_n hX_ hB_ dL_isGenerator_158 rfl (lv_at hl 5 rfl) ?_
        refine lv_iload hX_ hB_ dL_isGenerator_159 (lv_at hl 3 rfl) ?_
        refine lv_iconst (v := 3) hX_ hB_ dL_isGenerator_161 (by decide) ?_
        refine lv_iadd hX_ hB_ dL_isGenerator_162 ?_
        refine ze_top (xb_add (a := 9 * (n 2) + 50) (b := 3) (c := 9 * (n 2) + 53) (by omega)) ?_
        refine lv_aload_n hX_ hB_ dL_isGenerator_163 rfl (lv_at hl 6 rfl) ?_
        refine lv_iload_n hX_ hB_ dL_isGenerator_164 rfl (lv_at hl 7 rfl) ?_
        refine lv_iconst (v := 4) hX_ hB_ dL_isGenerator_165 (by decide) ?_
        refine lv_iadd hX_ hB_ dL_isGenerator_166 ?_
        refine ze_top (xb_add (a := i) (b := 4) (c := i + 4) (by omega)) ?_
        refine lv_iconst (v := 4) hX_ hB_ dL_isGenerator_167 (by decide) ?_
        have hW : ze_W D (([] : va_W) ++ ((ze_wC c a n A B E) ++ [(q, .inl (c 0, 210, .inl (upd (upd (upd N (9 * (n 2) + 50) (nI (xd_in xs L i (n 0)))) (9 * (n 2) + 51) (nI (xd_in xs L (i + 2) 30))) (9 * (n 2) + 52) (nI (max 1 (xd_in xs L (i + 2) 30 + xd_in xs L (i + 3) 60))))))])) F s.heap _ _ := hW
        refine xb_FSx (As := [.ref b, .int (nI (i + 4)), .int 4]) (rest := [.int (nI (9 * (n 2) + 53)), .ref q]) S (xj_in l D c b L xs hL (i + 4) (by omega) 4 (by omega) (by omega)) (va_cwS 3 hts gL_isGenerator_L_in rfl rfl rfl (by decide +kernel) ⟨(Nat.le_of_ble_eq_true rfl), (Nat.le_of_ble_eq_true rfl)⟩) (Or.inr rfl) hG hK hW hA rfl hl.1 rfl (lv_room (Nat.le_of_ble_eq_true rfl)) dL_isGenerator_168 ⟨(Nat.le_of_ble_eq_true rfl), (Nat.le_of_ble_eq_true rfl)⟩ (fun H locs hW => ?_)
        have hv168 := xd_inlt (xs := xs) (L := L) (i := i + 4) (k := 4) (by omega)
        have hW : ze_W D ((ze_wC c a n A B E) ++ [(q, .inl (c 0, 210, .inl (upd (upd (upd N (9 * (n 2) + 50) (nI (xd_in xs L i (n 0)))) (9 * (n 2) + 51) (nI (xd_in xs L (i + 2) 30))) (9 * (n 2) + 52) (nI (max 1 (xd_in xs L (i + 2) 30 + xd_in xs L (i + 3) 60))))))]) F s.heap _ _ := hW
        refine ze_iastN hX_ hB_ hK hW ((ze_wC c a n A B E).length + 0) (f := (upd (upd (upd N (9 * (n 2) + 50) (nI (xd_in xs L i (n 0)))) (9 * (n 2) + 51) (nI (xd_in xs L (i + 2) 30))) (9 * (n 2) + 52) (nI (max 1 (xd_in xs L (i + 2) 30 + xd_in xs L (i + 3) 60))))) (ze_appL (k := 0) rfl) (i := 9 * (n 2) + 53) (by omega) (by decide) dL_isGenerator_171 (ze_appset rfl) (fun H locs hW => ?_)
        have hW : ze_W D ((ze_wC c a n A B E) ++ [(q, .inl (c 0, 210, .inl (upd (upd (upd (upd N (9 * (n 2) + 50) (nI (xd_in xs L i (n 0)))) (9 * (n 2) + 51) (nI (xd_in xs L (i + 2) 30))) (9 * (n 2) + 52) (nI (max 1 (xd_in xs L (i + 2) 30 + xd_in xs L (i + 3) 60)))) (9 * (n 2) + 53) (nI (xd_in xs L (i + 4) 4)))))]) F s.heap _ _ := hW
        refine lv_aload_n hX_ hB_ dL_isGenerator_172 rfl (lv_at hl 5 rfl) ?_
        refine lv_iload hX_ hB_ dL_isGenerator_173 (lv_at hl 3 rfl) ?_
        refine lv_iconst (v := 4) hX_ hB_ dL_isGenerator_175 (by decide) ?_
        refine lv_iadd hX_ hB_ dL_isGenerator_176 ?_
        refine ze_top (xb_add (a := 9 * (n 2) + 50) (b := 4) (c := 9 * (n 2) + 54) (by omega)) ?_
        refine lv_iload hX_ hB_ dL_isGenerator_177 (lv_at hl 0 rfl) ?_
        refine ze_iastN hX_ hB_ hK hW ((ze_wC c a n A B E).length + 0) (f := (upd (upd (upd (upd N (9 * (n 2) + 50) (nI (xd_in xs L i (n 0)))) (9 * (n 2) + 51) (nI (xd_in xs L (i + 2) 30))) (9 * (n 2) + 52) (nI (max 1 (xd_in xs L (i + 2) 30 + xd_in xs L (i + 3) 60)))) (9 * (n 2) + 53) (nI (xd_in xs L (i + 4) 4)))) (ze_appL (k := 0) rfl) (i := 9 * (n 2) + 54) (by omega) (by decide) dL_isGenerator_179 (ze_appset rfl) (fun H locs hW => ?_)
        have hW : ze_W D ((ze_wC c a n A B E) ++ [(q, .inl (c 0, 210, .inl (upd (upd (upd (upd (upd N (9 * (n 2) + 50) (nI (xd_in xs L i (n 0)))) (9 * (n 2) + 51) (nI (xd_in xs L (i + 2) 30))) (9 * (n 2) + 52) (nI (max 1 (xd_in xs L (i + 2) 30 + xd_in xs L (i + 3) 60)))) (9 * (n 2) + 53) (nI (xd_in xs L (i + 4) 4))) (9 * (n 2) + 54) (nI (xd_in xs L (i + 6) 60)))))]) F s.heap _ _ := hW
        refine lv_aload_n hX_ hB_ dL_isGenerator_180 rfl (lv_at hl 5 rfl) ?_
        refine lv_iconst (v := 2) hX_ hB_ dL_isGenerator_181 (by decide) ?_
        refine lv_dup2_11 hX_ hB_ dL_isGenerator_182 rfl rfl ?_
        refine ze_ialdN hX_ hB_ hK hW ((ze_wC c a n A B E).length + 0) (f := (upd (upd (upd (upd (upd N (9 * (n 2) + 50) (nI (xd_in xs L i (n 0)))) (9 * (n 2) + 51) (nI (xd_in xs L (i + 2) 30))) (9 * (n 2) + 52) (nI (max 1 (xd_in xs L (i + 2) 30 + xd_in xs L (i + 3) 60)))) (9 * (n 2) + 53) (nI (xd_in xs L (i + 4) 4))) (9 * (n 2) + 54) (nI (xd_in xs L (i + 6) 60)))) (ze_appL (k := 0) rfl) (i := 2) (by omega) (by decide) dL_isGenerator_183 ?_
        refine ze_top (xb_un (by omega)) ?_
        refine ze_top (xb_un (by omega)) ?_
        refine ze_top (xb_un (by omega)) ?_
        refine ze_top (xb_un (by omega)) ?_
        refine ze_top (xb_un (by omega)) ?_
        refine ze_top (y := nI (n 2)) hR.1.2.2.1 ?_
        refine lv_iconst (v := 1) hX_ hB_ dL_isGenerator_184 (by decide) ?_
        refine lv_iadd hX_ hB_ dL_isGenerator_185 ?_
        refine ze_top (xb_add (a := n 2) (b := 1) (c := n 2 + 1) (by omega)) ?_
        refine ze_iastN hX_ hB_ hK hW ((ze_wC c a n A B E).length + 0) (f := (upd (upd (upd (upd (upd N (9 * (n 2) + 50) (nI (xd_in xs L i (n 0)))) (9 * (n 2) + 51) (nI (xd_in xs L (i + 2) 30))) (9 * (n 2) + 52) (nI (max 1 (xd_in xs L (i + 2) 30 + xd_in xs L (i + 3) 60)))) (9 * (n 2) + 53) (nI (xd_in xs L (i + 4) 4))) (9 * (n 2) + 54) (nI (xd_in xs L (i + 6) 60)))) (ze_appL (k := 0) rfl) (i := 2) (by omega) (by decide) dL_isGenerator_186 (ze_appset rfl) (fun H locs hW => ?_)
        have hW : ze_W D ((ze_wC c a n A B E) ++ [(q, .inl (c 0, 210, .inl (upd (upd (upd (upd (upd (upd N (9 * (n 2) + 50) (nI (xd_in xs L i (n 0)))) (9 * (n 2) + 51) (nI (xd_in xs L (i + 2) 30))) (9 * (n 2) + 52) (nI (max 1 (xd_in xs L (i + 2) 30 + xd_in xs L (i + 3) 60)))) (9 * (n 2) + 53) (nI (xd_in xs L (i + 4) 4))) (9 * (n 2) + 54) (nI (xd_in xs L (i + 6) 60))) 2 (nI (n 2 + 1)))))]) F s.heap _ _ := hW
        refine lv_aload_n hX_ hB_ dL_isGenerator_187 rfl (lv_at hl 4 rfl) ?_
        refine lv_aload_n hX_ hB_ dL_isGenerator_188 rfl (lv_at hl 5 rfl) ?_
        refine lv_iload hX_ hB_ dL_isGenerator_189 (lv_at hl 3 rfl) ?_
        refine ze_ialdN hX_ hB_ hK hW ((ze_wC c a n A B E).length + 0) (f := (upd (upd (upd (upd (upd (upd N (9 * (n 2) + 50) (nI (xd_in xs L i (n 0)))) (9 * (n 2) + 51) (nI (xd_in xs L (i + 2) 30))) (9 * (n 2) + 52) (nI (max 1 (xd_in xs L (i + 2) 30 + xd_in xs L (i + 3) 60)))) (9 * (n 2) + 53) (nI (xd_in xs L (i + 4) 4))) (9 * (n 2) + 54) (nI (xd_in xs L (i + 6) 60))) 2 (nI (n 2 + 1)))) (ze_appL (k := 0) rfl) (i := 9 * (n 2) + 50) (by omega) (by decide) dL_isGenerator_191 ?_
        refine ze_top (xb_un (by omega)) ?_
        refine ze_top (xb_un (by omega)) ?_
        refine ze_top (xb_un (by omega)) ?_
        refine ze_top (xb_un (by omega)) ?_
        refine ze_top (xb_un (by omega)) ?_
        refine ze_top (ze_updat _ _ _) ?_
        refine lv_iload hX_ hB_ dL_isGenerator_192 (lv_at hl 2 rfl) ?_
        refine lv_iload hX_ hB_ dL_isGenerator_194 (lv_at hl 1 rfl) ?_
        refine lv_aload_n hX_ hB_ dL_isGenerator_196 rfl (lv_at hl 5 rfl) ?_
        refine lv_iload hX_ hB_ dL_isGenerator_197 (lv_at hl 3 rfl) ?_
        refine lv_iconst (v := 3) hX_ hB_ dL_isGenerator_199 (by decide) ?_
        refine lv_iadd hX_ hB_ dL_isGenerator_200 ?_
        refine ze_top (xb_add (a := 9 * (n 2) + 50) (b := 3) (c := 9 * (n 2) + 53) (by omega)) ?_
        refine ze_ialdN hX_ hB_ hK hW ((ze_wC c a n A B E).length + 0) (f := (upd (upd (upd (upd (upd (upd N (9 * (n 2) + 50) (nI (xd_in xs L i (n 0)))) (9 * (n 2) + 51) (nI (xd_in xs L (i + 2) 30))) (9 * (n 2) + 52) (nI (max 1 (xd_in xs L (i + 2) 30 + xd_in xs L (i + 3) 60)))) (9 * (n 2) + 53) (nI (xd_in xs L (i + 4) 4))) (9 * (n 2) + 54) (nI (xd_in xs L (i + 6) 60))) 2 (nI (n 2 + 1)))) (ze_appL (k := 0) rfl) (i := 9 * (n 2) + 53) (by omega) (by decide) dL_isGenerator_201 ?_
        refine ze_top (xb_un (by omega)) ?_
        refine ze_top (xb_un (by omega)) ?_
        refine ze_top (ze_updat _ _ _) ?_
        refine lv_iload hX_ hB_ dL_isGenerator_202 (lv_at hl 0 rfl) ?_
        refine xb_FSe (As := [.ref (a 0), .int (nI (xd_in xs L i (n 0))), .int (nI (xd_in xs L (i + 2) 30)), .int (nI (max 1 (xd_in xs L (i + 2) 30 + xd_in xs L (i + 3) 60))), .int (nI (xd_in xs L (i + 4) 4)), .int (nI (xd_in xs L (i + 6) 60))]) (rest := []) S (xw_addGenerator_f l D c a n A B E (xd_in xs L i (n 0)) hN (by omega) (nI (xd_in xs L (i + 2) 30)) (nI (max 1 (xd_in xs L (i + 2) 30 + xd_in xs L (i + 3) 60))) (nI (xd_in xs L (i + 4) 4)) (nI (xd_in xs L (i + 6) 60)) (xd_rg (lo := 0) (hi := 100) (by omega) (by omega) (by omega)) (xd_rgm (by omega) (by omega) (by omega)) (xd_rg (lo := 0) (hi := 9) (by omega) (by omega) (by omega)) (xd_rg (lo := 0) (hi := 9999) (by omega) (by omega) (by omega)) (by omega) ((hZ.1 _ (Nat.le_refl _)).1) ((hZ.1 _ (Nat.le_refl _)).2)) (vx_cwSW 6 hts gL_isGenerator_L_addGenerator rfl rfl rfl (by decide +kernel) ⟨(Nat.le_of_ble_eq_true rfl), (Nat.le_of_ble_eq_true rfl)⟩) hG hK hW hA rfl hl.1 rfl (lv_room (Nat.le_of_ble_eq_true rfl)) dL_isGenerator_204 ⟨(Nat.le_of_ble_eq_true rfl), (Nat.le_of_ble_eq_true rfl)⟩ (fun qn H locs hW => ?_)
        have hW : ze_W D ((ze_wC c va_up a (20 + n 2) qn (ze_sn n 2 (n 2 + 1)) (ze_sE (ze_sE (ze_sE (ze_sE (ze_sE (ze_sE A 6 (n 2) (nI (xd_in xs L i (n 0)))) 7 (n 2) (nI (xd_in xs L (i + 2) 30))) 8 (n 2) (nI (max 1 (xd_in xs L (i + 2) 30 + xd_in xs L (i + 3) 60)))) 9 (n 2) (nI (xd_in xs L (i + 4) 4))) 10 (n 2) (nI (xd_in xs L (i + 6) 60))) 13 (n 2) 111) B E) ++ [(q, .inl (c 0, 210, .inl (upd (upd (upd (upd (upd (upd N (9 * (n 2) + 50) (nI (xd_in xs L i (n 0)))) (9 * (n 2) + 51) (nI (xd_in xs L (i + 2) 30))) (9 * (n 2) + 52) (nI (max 1 (xd_in xs L (i + 2) 30 + xd_in xs L (i + 3) 60)))) (9 * (n 2) + 53) (nI (xd_in xs L (i + 4) 4))) (9 * (n 2) + 54) (nI (xd_in xs L (i + 6) 60))) 2 (nI (n 2 + 1)))))]) F s.heap _ _ := hW
        refine lv_aload_n hX_ hB_ dL_isGenerator_207 rfl (lv_at hl 5 rfl) ?_
        refine lv_iconst (v := 2) hX_ hB_ dL_isGenerator_208 (by decide) ?_
        refine ze_ialdN hX_ hB_ hK hW ((ze_wC c va_up a (20 + n 2) qn (ze_sn n 2 (n 2 + 1)) (ze_sE (ze_sE (ze_sE (ze_sE (ze_sE (ze_sE A 6 (n 2) (nI (xd_in xs L i (n 0)))) 7 (n 2) (nI (xd_in xs L (i + 2) 30))) 8 (n 2) (nI (max 1 (xd_in xs L (i + 2) 30 + xd_in xs L (i + 3) 60)))) 9 (n 2) (nI (xd_in xs L (i + 4) 4))) 10 (n 2) (nI (xd_in xs L (i + 6) 60))) 13 (n 2) 111) B E).length + 0) (f := (upd (upd (upd (upd (upd (upd N (9 * (n 2) + 50) (nI (xd_in xs L i (n 0)))) (9 * (n 2) + 51) (nI (xd_in xs L (i + 2) 30))) (9 * (n 2) + 52) (nI (max 1 (xd_in xs L (i + 2) 30 + xd_in xs L (i + 3) 60)))) (9 * (n 2) + 53) (nI (xd_in xs L (i + 4) 4))) (9 * (n 2) + 54) (nI (xd_in xs L (i + 6) 60))) 2 (nI (n 2 + 1)))) (ze_appL (k := 0) rfl) (i := 2) (by omega) (by decide) dL_isGenerator_209 ?_
        refine ze_top (ze_updat _ _ _) ?_
        refine lv_iconst (v := 1) hX_ hB_ dL_isGenerator_210 (by decide) ?_
        refine lv_isub hX_ hB_ dL_isGenerator_211 ?_
        refine ze_top (nI_pred (n 2)) ?_
        refine lv_icmp_ne (tgt := 219) hX_ hB_ dL_isGenerator_212 (by decide) (fun c212 => ?_) (fun c212 => ?_)
        · exact absurd rfl c212
        · have c212 : (n 2) = (n 2) := (nI_eq (a := (n 2)) (b := (n 2)) (by omega) (by omega)).mp c212
          refine lv_iconst (v := 1) hX_ hB_ dL_isGenerator_215 (by decide) ?_
          refine lv_goto (tgt := 220) hX_ hB_ dL_isGenerator_216 (by decide) ?_
          exact xb_iret (T := xd_T) (va_up a (20 + n 2) qn, (ze_sn n 2 (n 2 + 1)), (ze_sE (ze_sE (ze_sE (ze_sE (ze_sE (ze_sE A 6 (n 2) (nI (xd_in xs L i (n 0)))) 7 (n 2) (nI (xd_in xs L (i + 2) 30))) 8 (n 2) (nI (max 1 (xd_in xs L (i + 2) 30 + xd_in xs L (i + 3) 60)))) 9 (n 2) (nI (xd_in xs L (i + 4) 4))) 10 (n 2) (nI (xd_in xs L (i + 6) 60))) 13 (n 2) 111), B, E, (upd (upd (upd (upd (upd (upd N (9 * (n 2) + 50) (nI (xd_in xs L i (n 0)))) (9 * (n 2) + 51) (nI (xd_in xs L (i + 2) 30))) (9 * (n 2) + 52) (nI (max 1 (xd_in xs L (i + 2) 30 + xd_in xs L (i + 3) 60)))) (9 * (n 2) + 53) (nI (xd_in xs L (i + 4) 4))) (9 * (n 2) + 54) (nI (xd_in xs L (i + 6) 60))) 2 (nI (n 2 + 1)))) S hr hlocks hF hK hW rfl dL_isGenerator_220 (Nat.le_of_ble_eq_true rfl) (Nat.le_of_ble_eq_true rfl) ⟨rfl, ⟨(va_up_ne _ _ (by omega)), (xd_gen hI (by omega) (by omega) (by omega) (by omega) (by omega) (by omega) (by omega) (by omega)), rfl, Nat.le_succ _, Nat.le_refl _⟩, Nat.succ_le_succ (Nat.zero_le _)⟩ rfl
      · have c97 : (n 2) = 6 := (nI_eq (a := (n 2)) (b := 6) (by omega) (by omega)).mp c97
        refine lv_aload_n hX_ hB_ dL_isGenerator_100 rfl (lv_at hl 4 rfl) ?_
        refine lv_aload_n hX_ hB_ dL_isGenerator_101 rfl (lv_at hl 6 rfl) ?_
        refine lv_iload_n hX_ hB_ dL_isGenerator_102 rfl (lv_at hl 7 rfl) ?_
        refine lv_aload_n hX_ hB_ dL_isGenerator_103 rfl (lv_at hl 5 rfl) ?_
        refine lv_iconst (v := 0) hX_ hB_ dL_isGenerator_104 (by decide) ?_
        refine ze_ialdN hX_ hB_ hK hW ((ze_wC c a n A B E).length + 0) (f := N) (ze_appL (k := 0) rfl) (i := 0) (by omega) (by decide) dL_isGenerator_105 ?_
        refine ze_top (y := nI (n 0)) hR.1.1 ?_
        have hW : ze_W D (([] : va_W) ++ ((ze_wC c a n A B E) ++ [(q, .inl (c 0, 210, .inl N))])) F s.heap _ _ := hW
        refine xb_FSx (As := [.ref b, .int (nI i), .int (nI (n 0))]) (rest := [.ref (a 0)]) S (xj_in l D c b L xs hL i (by omega) (n 0) (by omega) (by omega)) (va_cwS 3 hts gL_isGenerator_L_in rfl rfl rfl (by decide +kernel) ⟨(Nat.le_of_ble_eq_true rfl), (Nat.le_of_ble_eq_true rfl)⟩) (Or.inr rfl) hG hK hW hA rfl hl.1 rfl (lv_room (Nat.le_of_ble_eq_true rfl)) dL_isGenerator_106 ⟨(Nat.le_of_ble_eq_true rfl), (Nat.le_of_ble_eq_true rfl)⟩ (fun H locs hW => ?_)
        have hv106 := xd_inlt (xs := xs) (L := L) (i := i) (k := n 0) (by omega)
        have hW : ze_W D ((ze_wC c a n A B E) ++ [(q, .inl (c 0, 210, .inl N))]) F s.heap _ _ := hW
        refine lv_iload hX_ hB_ dL_isGenerator_109 (lv_at hl 2 rfl) ?_
        refine lv_iload hX_ hB_ dL_isGenerator_111 (lv_at hl 1 rfl) ?_
        refine lv_iconst (v := 0) hX_ hB_ dL_isGenerator_113 (by decide) ?_
        refine lv_iload hX_ hB_ dL_isGenerator_114 (lv_at hl 0 rfl) ?_
        refine xb_FSq (As := [.ref (a 0), .int (nI (xd_in xs L i (n 0))), .int (nI (xd_in xs L (i + 2) 30)), .int (nI (max 1 (xd_in xs L (i + 2) 30 + xd_in xs L (i + 3) 60))), .int 0, .int (nI (xd_in xs L (i + 6) 60))]) (rest := []) S (xw_addGenerator_t3 l D hst c a n A B E (xd_in xs L i (n 0)) hN (by omega) (nI (xd_in xs L (i + 2) 30)) (nI (max 1 (xd_in xs L (i + 2) 30 + xd_in xs L (i + 3) 60))) 0 (nI (xd_in xs L (i + 6) 60)) (xd_rg (lo := 0) (hi := 100) (by omega) (by omega) (by omega)) (xd_rgm (by omega) (by omega) (by omega)) (by decide) (xd_rg (lo := 0) (hi := 9999) (by omega) (by omega) (by omega)) (by omega)) (vx_cwSW 6 hts gL_isGenerator_L_addGenerator rfl rfl rfl (by decide +kernel) ⟨(Nat.le_of_ble_eq_true rfl), (Nat.le_of_ble_eq_true rfl)⟩) hG hK hW hA rfl hl.1 rfl (lv_room (Nat.le_of_ble_eq_true rfl)) dL_isGenerator_116 ⟨(Nat.le_of_ble_eq_true rfl), (Nat.le_of_ble_eq_true rfl)⟩ (fun H locs hW => ?_)
        have hW : ze_W D ((ze_wC c a n A B E) ++ [(q, .inl (c 0, 210, .inl N))]) F s.heap _ _ := hW
        refine lv_ldc (own := RL) (v := -900003) hX_ hB_ S.2.2.2.1 w4 dL_isGenerator_119 ?_
        refine lv_icmp_ne (tgt := 128) hX_ hB_ dL_isGenerator_121 (by decide) (fun c121 => ?_) (fun c121 => ?_)
        · exact absurd c121 (by decide)
        · refine lv_iconst (v := 1) hX_ hB_ dL_isGenerator_124 (by decide) ?_
          refine lv_goto (tgt := 129) hX_ hB_ dL_isGenerator_125 (by decide) ?_
          exact xb_iret (T := xd_T) (a, n, A, B, E, N) S hr hlocks hF hK hW rfl dL_isGenerator_129 (Nat.le_of_ble_eq_true rfl) (Nat.le_of_ble_eq_true rfl) ⟨rfl, ⟨rfl, hI, rfl, Nat.le_refl _, Nat.le_refl _⟩, (by omega)⟩ rfl
  · have c19 : (xd_in xs L (i + 1) 3) = 0 := (nI_eq (a := (xd_in xs L (i + 1) 3)) (b := 0) (by omega) (by omega)).mp c19
    refine lv_iconst (v := 0) hX_ hB_ dL_isGenerator_22 (by decide) ?_
    refine ze_top (y := nI 0) rfl ?_
    refine lv_goto (tgt := 35) hX_ hB_ dL_isGenerator_23 (by decide) ?_
    refine lv_istore (lv' := [(5, .int (nI 0)), (4, .int (nI (9 * (n 2) + 50))), (0, .ref (a 0)), (1, .ref q), (2, .ref b), (3, .int (nI i))]) hX_ hB_ dL_isGenerator_35 hl (by decide) rfl (fun ls hl => ?_)
    refine lv_iconst (v := 1) hX_ hB_ dL_isGenerator_37 (by decide) ?_
    refine lv_iload hX_ hB_ dL_isGenerator_38 (lv_at hl 0 rfl) ?_
    refine lv_aload_n hX_ hB_ dL_isGenerator_40 rfl (lv_at hl 4 rfl) ?_
    refine lv_iload_n hX_ hB_ dL_isGenerator_41 rfl (lv_at hl 5 rfl) ?_
    refine lv_iconst (v := 3) hX_ hB_ dL_isGenerator_42 (by decide) ?_
    refine lv_iadd hX_ hB_ dL_isGenerator_43 ?_
    refine ze_top (xb_add (a := i) (b := 3) (c := i + 3) (by omega)) ?_
    refine lv_bipush (v := 60) hX_ hB_ dL_isGenerator_44 (by decide) ?_
    have hW : ze_W D (([] : va_W) ++ ((ze_wC c a n A B E) ++ [(q, .inl (c 0, 210, .inl N))])) F s.heap _ _ := hW
    refine xb_FSx (As := [.ref b, .int (nI (i + 3)), .int 60]) (rest := [.int (nI 0), .int 1]) S (xj_in l D c b L xs hL (i + 3) (by omega) 60 (by omega) (by omega)) (va_cwS 3 hts gL_isGenerator_L_in rfl rfl rfl (by decide +kernel) ⟨(Nat.le_of_ble_eq_true rfl), (Nat.le_of_ble_eq_true rfl)⟩) (Or.inr rfl) hG hK hW hA rfl hl.1 rfl (lv_room (Nat.le_of_ble_eq_true rfl)) dL_isGenerator_46 ⟨(Nat.le_of_ble_eq_true rfl), (Nat.le_of_ble_eq_true rfl)⟩ (fun H locs hW => ?_)
    have hv46 := xd_inlt (xs := xs) (L := L) (i := i + 3) (k := 60) (by omega)
    have hW : ze_W D ((ze_wC c a n A B E) ++ [(q, .inl (c 0, 210, .inl N))]) F s.heap _ _ := hW
    refine lv_iadd hX_ hB_ dL_isGenerator_49 ?_
    refine ze_top (xb_add (a := 0) (b := xd_in xs L (i + 3) 60) (c := xd_in xs L (i + 3) 60) (by omega)) ?_
    refine ze_max S hl.1 w0 w1 w2 w3 ⟨Nat.le_of_ble_eq_true rfl, Nat.le_of_ble_eq_true rfl, Nat.le_of_ble_eq_true rfl, Nat.le_of_ble_eq_true rfl⟩ dL_isGenerator_50 ?_
    refine ze_top (xd_mx1 (xd_in xs L (i + 3) 60) (by omega)) ?_
    refine lv_istore (lv' := [(6, .int (nI (max 1 (xd_in xs L (i + 3) 60)))), (5, .int (nI 0)), (4, .int (nI (9 * (n 2) + 50))), (0, .ref (a 0)), (1, .ref q), (2, .ref b), (3, .int (nI i))]) hX_ hB_ dL_isGenerator_53 hl (by decide) rfl (fun ls hl => ?_)
    refine lv_aload_n hX_ hB_ dL_isGenerator_55 rfl (lv_at hl 5 rfl) ?_
    refine lv_iload_n hX_ hB_ dL_isGenerator_56 rfl (lv_at hl 6 rfl) ?_
    refine lv_iconst (v := 5) hX_ hB_ dL_isGenerator_57 (by decide) ?_
    refine lv_iadd hX_ hB_ dL_isGenerator_58 ?_
    refine ze_top (xb_add (a := i) (b := 5) (c := i + 5) (by omega)) ?_
    refine lv_iconst (v := 3) hX_ hB_ dL_isGenerator_59 (by decide) ?_
    have hW : ze_W D (([] : va_W) ++ ((ze_wC c a n A B E) ++ [(q, .inl (c 0, 210, .inl N))])) F s.heap _ _ := hW
    refine xb_FSx (As := [.ref b, .int (nI (i + 5)), .int 3]) (rest := []) S (xj_in l D c b L xs hL (i + 5) (by omega) 3 (by omega) (by omega)) (va_cwS 3 hts gL_isGenerator_L_in rfl rfl rfl (by decide +kernel) ⟨(Nat.le_of_ble_eq_true rfl), (Nat.le_of_ble_eq_true rfl)⟩) (Or.inr rfl) hG hK hW hA rfl hl.1 rfl (lv_room (Nat.le_of_ble_eq_true rfl)) dL_isGenerator_60 ⟨(Nat.le_of_ble_eq_true rfl), (Nat.le_of_ble_eq_true rfl)⟩ (fun H locs hW => ?_)
    have hv60 := xd_inlt (xs := xs) (L := L) (i := i + 5) (k := 3) (by omega)
    have hW : ze_W D ((ze_wC c a n A B E) ++ [(q, .inl (c 0, 210, .inl N))]) F s.heap _ _ := hW
    refine lv_if_ne (tgt := 79) hX_ hB_ dL_isGenerator_63 (by decide) (fun c63 => ?_) (fun c63 => ?_)
    · have c63 : ¬ (xd_in xs L (i + 5) 3) = 0 := fun h9 => c63 ((nI_eq (a := (xd_in xs L (i + 5) 3)) (b := 0) (by omega) (by omega)).mpr h9)
      refine lv_aload_n hX_ hB_ dL_isGenerator_79 rfl (lv_at hl 5 rfl) ?_
      refine lv_iload_n hX_ hB_ dL_isGenerator_80 rfl (lv_at hl 6 rfl) ?_
      refine lv_bipush (v := 6) hX_ hB_ dL_isGenerator_81 (by decide) ?_
      refine lv_iadd hX_ hB_ dL_isGenerator_83 ?_
      refine ze_top (xb_add (a := i) (b := 6) (c := i + 6) (by omega)) ?_
      refine lv_sipush (v := 1500) hX_ hB_ dL_isGenerator_84 (by decide) ?_
      have hW : ze_W D (([] : va_W) ++ ((ze_wC c a n A B E) ++ [(q, .inl (c 0, 210, .inl N))])) F s.heap _ _ := hW
      refine xb_FSx (As := [.ref b, .int (nI (i + 6)), .int 1500]) (rest := []) S (xj_in l D c b L xs hL (i + 6) (by omega) 1500 (by omega) (by omega)) (va_cwS 3 hts gL_isGenerator_L_in rfl rfl rfl (by decide +kernel) ⟨(Nat.le_of_ble_eq_true rfl), (Nat.le_of_ble_eq_true rfl)⟩) (Or.inr rfl) hG hK hW hA rfl hl.1 rfl (lv_room (Nat.le_of_ble_eq_true rfl)) dL_isGenerator_87 ⟨(Nat.le_of_ble_eq_true rfl), (Nat.le_of_ble_eq_true rfl)⟩ (fun H locs hW => ?_)
      have hv87 := xd_inlt (xs := xs) (L := L) (i := i + 6) (k := 1500) (by omega)
      have hW : ze_W D ((ze_wC c a n A B E) ++ [(q, .inl (c 0, 210, .inl N))]) F s.heap _ _ := hW
      refine lv_istore (lv' := [(7, .int (nI (xd_in xs L (i + 6) 1500))), (6, .int (nI (max 1 (xd_in xs L (i + 3) 60)))), (5, .int (nI 0)), (4, .int (nI (9 * (n 2) + 50))), (0, .ref (a 0)), (1, .ref q), (2, .ref b), (3, .int (nI i))]) hX_ hB_ dL_isGenerator_90 hl (by decide) rfl (fun ls hl => ?_)
      refine lv_aload_n hX_ hB_ dL_isGenerator_92 rfl (lv_at hl 5 rfl) ?_
      refine lv_iconst (v := 2) hX_ hB_ dL_isGenerator_93 (by decide) ?_
      refine ze_ialdN hX_ hB_ hK hW ((ze_wC c a n A B E).length + 0) (f := N) (ze_appL (k := 0) rfl) (i := 2) (by omega) (by decide) dL_isGenerator_94 ?_
      refine ze_top (y := nI (n 2)) hR.1.2.2.1 ?_
      refine lv_bipush (v := 6) hX_ hB_ dL_isGenerator_95 (by decide) ?_
      refine lv_icmp_ne (tgt := 130) hX_ hB_ dL_isGenerator_97 (by decide) (fun c97 => ?_) (fun c97 => ?_)
      · have c97 : ¬ (n 2) = 6 := fun h9 => c97 ((nI_eq (a := (n 2)) (b := 6) (by omega) (by omega)).mpr h9)
        refine lv_aload_n hX_ hB_ dL_isGenerator_130 rfl (lv_at hl 5 rfl) ?_
        refine lv_iload hX_ hB_ dL_isGenerator_131 (lv_at hl 3 rfl) ?_
        refine lv_aload_n hX_ hB_ dL_isGenerator_133 rfl (lv_at hl 6 rfl) ?_
        refine lv_iload_n hX_ hB_ dL_isGenerator_134 rfl (lv_at hl 7 rfl) ?_
        refine lv_aload_n hX_ hB_ dL_isGenerator_135 rfl (lv_at hl 5 rfl) ?_
        refine lv_iconst (v := 0) hX_ hB_ dL_isGenerator_136 (by decide) ?_
        refine ze_ialdN hX_ hB_ hK hW ((ze_wC c a n A B E).length + 0) (f := N) (ze_appL (k := 0) rfl) (i := 0) (by omega) (by decide) dL_isGenerator_137 ?_
        refine ze_top (y := nI (n 0)) hR.1.1 ?_
        have hW : ze_W D (([] : va_W) ++ ((ze_wC c a n A B E) ++ [(q, .inl (c 0, 210, .inl N))])) F s.heap _ _ := hW
        refine xb_FSx (As := [.ref b, .int (nI i), .int (nI (n 0))]) (rest := [.int (nI (9 * (n 2) + 50)), .ref q]) S (xj_in l D c b L xs hL i (by omega) (n 0) (by omega) (by omega)) (va_cwS 3 hts gL_isGenerator_L_in rfl rfl rfl (by decide +kernel) ⟨(Nat.le_of_ble_eq_true rfl), (Nat.le_of_ble_eq_true rfl)⟩) (Or.inr rfl) hG hK hW hA rfl hl.1 rfl (lv_room (Nat.le_of_ble_eq_true rfl)) dL_isGenerator_138 ⟨(Nat.le_of_ble_eq_true rfl), (Nat.le_of_ble_eq_true rfl)⟩ (fun H locs hW => ?_)
        have hv138 := xd_inlt (xs := xs) (L := L) (i := i) (k := n 0) (by omega)
        have hW : ze_W D ((ze_wC c a n A B E) ++ [(q, .inl (c 0, 210, .inl N))]) F s.heap _ _ := hW
        refine ze_iastN hX_ hB_ hK hW ((ze_wC c a n A B E).length + 0) (f := N) (ze_appL (k := 0) rfl) (i := 9 * (n 2) + 50) (by omega) (by decide) dL_isGenerator_141 (ze_appset rfl) (fun H locs hW => ?_)
        have hW : ze_W D ((ze_wC c a n A B E) ++ [(q, .inl (c 0, 210, .inl (upd N (9 * (n 2) + 50) (nI (xd_in xs L i (n 0))))))]) F s.heap _ _ := hW
        refine lv_aload_n hX_ hB_ dL_isGenerator_142 rfl (lv_at hl 5 rfl) ?_
        refine lv_iload hX_ hB_ dL_isGenerator_143 (lv_at hl 3 rfl) ?_
        refine lv_iconst (v := 1) hX_ hB_ dL_isGenerator_145 (by decide) ?_
        refine lv_iadd hX_ hB_ dL_isGenerator_146 ?_
        refine ze_top (xb_add (a := 9 * (n 2) + 50) (b := 1) (c := 9 * (n 2) + 51) (by omega)) ?_
        refine lv_iload hX_ hB_ dL_isGenerator_147 (lv_at hl 2 rfl) ?_
        refine ze_iastN hX_ hB_ hK hW ((ze_wC c a n A B E).length + 0) (f := (upd N (9 * (n 2) + 50) (nI (xd_in xs L i (n 0))))) (ze_appL (k := 0) rfl) (i := 9 * (n 2) + 51) (by omega) (by decide) dL_isGenerator_149 (ze_appset rfl) (fun H locs hW => ?_)
        have hW : ze_W D ((ze_wC c a n A B E) ++ [(q, .inl (c 0, 210, .inl (upd (upd N (9 * (n 2) + 50) (nI (xd_in xs L i (n 0)))) (9 * (n 2) + 51) (nI 0))))]) F s.heap _ _ := hW
        refine lv_aload_n hX_ hB_ dL_isGenerator_150 rfl (lv_at hl 5 rfl) ?_
        refine lv_iload hX_ hB_ dL_isGenerator_151 (lv_at hl 3 rfl) ?_
        refine lv_iconst (v := 2) hX_ hB_ dL_isGenerator_153 (by decide) ?_
        refine lv_iadd hX_ hB_ dL_isGenerator_154 ?_
        refine ze_top (xb_add (a := 9 * (n 2) + 50) (b := 2) (c := 9 * (n 2) + 52) (by omega)) ?_
        refine lv_iload hX_ hB_ dL_isGenerator_155 (lv_at hl 1 rfl) ?_
        refine ze_iastN hX_ hB_ hK hW ((ze_wC c a n A B E).length + 0) (f := (upd (upd N (9 * (n 2) + 50) (nI (xd_in xs L i (n 0)))) (9 * (n 2) + 51) (nI 0))) (ze_appL (k := 0) rfl) (i := 9 * (n 2) + 52) (by omega) (by decide) dL_isGenerator_157 (ze_appset rfl) (fun H locs hW => ?_)
        have hW : ze_W D ((ze_wC c a n A B E) ++ [(q, .inl (c 0, 210, .inl (upd (upd (upd N (9 * (n 2) + 50) (nI (xd_in xs L i (n 0)))) (9 * (n 2) + 51) (nI 0)) (9 * (n 2) + 52) (nI (max 1 (xd_in xs L (i + 3) 60))))))]) F s.heap _ _ := hW
        refine lv_aload_n hX_ hB_ dL_isGenerator_158 rfl (lv_at hl 5 rfl) ?_
        refine lv_iload hX_ hB_ dL_isGenerator_159 (lv_at hl 3 rfl) ?_
        refine lv_iconst (v := 3) hX_ hB_ dL_isGenerator_161 (by decide) ?_
        refine lv_iadd hX_ hB_ dL_isGenerator_162 ?_
        refine ze_top (xb_add (a := 9 * (n 2) + 50) (b := 3) (c := 9 * (n 2) + 53) (by omega)) ?_
        refine lv_aload_n hX_ hB_ dL_isGenerator_163 rfl (lv_at hl 6 rfl) ?_
        refine lv_iload_n hX_ hB_ dL_isGenerator_164 rfl (lv_at hl 7 rfl) ?_
        refine lv_iconst (v := 4) hX_ hB_ dL_isGenerator_165 (by decide) ?_
        refine lv_iadd hX_ hB_ dL_isGenerator_166 ?_
        refine ze_top (xb_add (a := i) (b := 4) (c := i + 4) (by omega)) ?_
        refine lv_iconst (v := 4) hX_ hB_ dL_isGenerator_167 (by decide) ?_
        have hW : ze_W D (([] : va_W) ++ ((ze_wC c a n A B E) ++ [(q, .inl (c 0, 210, .inl (upd (upd (upd N (9 * (n 2) + 50) (nI (xd_in xs L i (n 0)))) (9 * (n 2) + 51) (nI 0)) (9 * (n 2) + 52) (nI (max 1 (xd_in xs L (i + 3) 60))))))])) F s.heap _ _ := hW
        refine xb_FSx (As := [.ref b, .int (nI (i + 4)), .int 4]) (rest := [.int (nI (9 * (n 2) + 53)), .ref q]) S (xj_in l D c b L xs hL (i + 4) (by omega) 4 (by omega) (by omega)) (va_cwS 3 hts gL_isGenerator_L_in rfl rfl rfl (by decide +kernel) ⟨(Nat.le_of_ble_eq_true rfl), (Nat.le_of_ble_eq_true rfl)⟩) (Or.inr rfl) hG hK hW hA rfl hl.1 rfl (lv_room (Nat.le_of_ble_eq_true rfl)) dL_isGenerator_168 ⟨(Nat.le_of_ble_eq_true rfl), (Nat.le_of_ble_eq_true rfl)⟩ (fun H locs hW => ?_)
        have hv168 := xd_inlt (xs := xs) (L := L) (i := i + 4) (k := 4) (by omega)
        have hW : ze_W D ((ze_wC c a n A B E) ++ [(q, .inl (c 0, 210, .inl (upd (upd (upd N (9 * (n 2) + 50) (nI (xd_in xs L i (n 0)))) (9 * (n 2) + 51) (nI 0)) (9 * (n 2) + 52) (nI (max 1 (xd_in xs L (i + 3) 60))))))]) F s.heap _ _ := hW
        refine ze_iastN hX_ hB_ hK hW ((ze_wC c a n A B E).length + 0) (f := (upd (upd (upd N (9 * (n 2) + 50) (nI (xd_in xs L i (n 0)))) (9 * (n 2) + 51) (nI 0)) (9 * (n 2) + 52) (nI (max 1 (xd_in xs L (i + 3) 60))))) (ze_appL (k := 0) rfl) (i := 9 * (n 2) + 53) (by omega) (by decide) dL_isGenerator_171 (ze_appset rfl) (fun H locs hW => ?_)
        have hW : ze_W D ((ze_wC c a n A B E) ++ [(q, .inl (c 0, 210, .inl (upd (upd (upd (upd N (9 * (n 2) + 50) (nI (xd_in xs L i (n 0)))) (9 * (n 2) + 51) (nI 0)) (9 * (n 2) + 52) (nI (max 1 (xd_in xs L (i + 3) 60)))) (9 * (n 2) + 53) (nI (xd_in xs L (i + 4) 4)))))]) F s.heap _ _ := hW
        refine lv_aload_n hX_ hB_ dL_isGenerator_172 rfl (lv_at hl 5 rfl) ?_
        refine lv_iload hX_ hB_ dL_isGenerator_173 (lv_at hl 3 rfl) ?_
        refine lv_iconst (v := 4) hX_ hB_ dL_isGenerator_175 (by decide) ?_
        refine lv_iadd hX_ hB_ dL_isGenerator_176 ?_
        refine ze_top (xb_add (a := 9 * (n 2) + 50) (b := 4) (c := 9 * (n 2) + 54) (by omega)) ?_
        refine lv_iload hX_ hB_ dL_isGenerator_177 (lv_at hl 0 rfl) ?_
        refine ze_iastN hX_ hB_ hK hW ((ze_wC c a n A B E).length + 0) (f := (upd (upd (upd (upd N (9 * (n 2) + 50) (nI (xd_in xs L i (n 0)))) (9 * (n 2) + 51) (nI 0)) (9 * (n 2) + 52) (nI (max 1 (xd_in xs L (i + 3) 60)))) (9 * (n 2) + 53) (nI (xd_in xs L (i + 4) 4)))) (ze_appL (k := 0) rfl) (i := 9 * (n 2) + 54) (by omega) (by decide) dL_isGenerator_179 (ze_appset rfl) (fun H locs hW => ?_)
        have hW : ze_W D ((ze_wC c a n A B E) ++ [(q, .inl (c 0, 210, .inl (upd (upd (upd (upd (upd N (9 * (n 2) + 50) (nI (xd_in xs L i (n 0)))) (9 * (n 2) + 51) (nI 0)) (9 * (n 2) + 52) (nI (max 1 (xd_in xs L (i + 3) 60)))) (9 * (n 2) + 53) (nI (xd_in xs L (i + 4) 4))) (9 * (n 2) + 54) (nI (xd_in xs L (i + 6) 1500)))))]) F s.heap _ _ := hW
        refine lv_aload_n hX_ hB_ dL_isGenerator_180 rfl (lv_at hl 5 rfl) ?_
        refine lv_iconst (v := 2) hX_ hB_ dL_isGenerator_181 (by decide) ?_
        refine lv_dup2_11 hX_ hB_ dL_isGenerator_182 rfl rfl ?_
        refine ze_ialdN hX_ hB_ hK hW ((ze_wC c a n A B E).length + 0) (f := (upd (upd (upd (upd (upd N (9 * (n 2) + 50) (nI (xd_in xs L i (n 0)))) (9 * (n 2) + 51) (nI 0)) (9 * (n 2) + 52) (nI (max 1 (xd_in xs L (i + 3) 60)))) (9 * (n 2) + 53) (nI (xd_in xs L (i + 4) 4))) (9 * (n 2) + 54) (nI (xd_in xs L (i + 6) 1500)))) (ze_appL (k := 0) rfl) (i := 2) (by omega) (by decide) dL_isGenerator_183 ?_
        refine ze_top (xb_un (by omega)) ?_
        refine ze_top (xb_un (by omega)) ?_
        refine ze_top (xb_un (by omega)) ?_
        refine ze_top (xb_un (by omega)) ?_
        refine ze_top (xb_un (by omega)) ?_
        refine ze_top (y := nI (n 2)) hR.1.2.2.1 ?_
        refine lv_iconst (v := 1) hX_ hB_ dL_isGenerator_184 (by decide) ?_
        refine lv_iadd hX_ hB_ dL_isGenerator_185 ?_
        refine ze_top (xb_add (a := n 2) (b := 1) (c := n 2 + 1) (by omega)) ?_
        refine ze_iastN hX_ hB_ hK hW ((ze_wC c a n A B E).length + 0) (f := (upd (upd (upd (upd (upd N (9 * (n 2) + 50) (nI (xd_in xs L i (n 0)))) (9 * (n 2) + 51) (nI 0)) (9 * (n 2) + 52) (nI (max 1 (xd_in xs L (i + 3) 60)))) (9 * (n 2) + 53) (nI (xd_in xs L (i + 4) 4))) (9 * (n 2) + 54) (nI (xd_in xs L (i + 6) 1500)))) (ze_appL (k := 0) rfl) (i := 2) (by omega) (by decide) dL_isGenerator_186 (ze_appset rfl) (fun H locs hW => ?_)
        have hW : ze_W D ((ze_wC c a n A B E) ++ [(q, .inl (c 0, 210, .inl (upd (upd (upd (upd (upd (upd N (9 * (n 2) + 50) (nI (xd_in xs L i (n 0)))) (9 * (n 2) + 51) (nI 0)) (9 * (n 2) + 52) (nI (max 1 (xd_in xs L (i + 3) 60)))) (9 * (n 2) + 53) (nI (xd_in xs L (i + 4) 4))) (9 * (n 2) + 54) (nI (xd_in xs L (i + 6) 1500))) 2 (nI (n 2 + 1)))))]) F s.heap _ _ := hW
        refine lv_aload_n hX_ hB_ dL_isGenerator_187 rfl (lv_at hl 4 rfl) ?_
        refine lv_aload_n hX_ hB_ dL_isGenerator_188 rfl (lv_at hl 5 rfl) ?_
        refine lv_iload hX_ hB_ dL_isGenerator_189 (lv_at hl 3 rfl) ?_
        refine ze_ialdN hX_ hB_ hK hW ((ze_wC c a n A B E).length + 0) (f := (upd (upd (upd (upd (upd (upd N (9 * (n 2) + 50) (nI (xd_in xs L i (n 0)))) (9 * (n 2) + 51) (nI 0)) (9 * (n 2) + 52) (nI (max 1 (xd_in xs L (i + 3) 60)))) (9 * (n 2) + 53) (nI (xd_in xs L (i + 4) 4))) (9 * (n 2) + 54) (nI (xd_in xs L (i + 6) 1500))) 2 (nI (n 2 + 1)))) (ze_appL (k := 0) rfl) (i := 9 * (n 2) + 50) (by omega) (by decide) dL_isGenerator_191 ?_
        refine ze_top (xb_un (by omega)) ?_
        refine ze_top (xb_un (by omega)) ?_
        refine ze_top (xb_un (by omega)) ?_
        refine ze_top (xb_un (by omega)) ?_
        refine ze_top (xb_un (by omega)) ?_
        refine ze_top (ze_updat _ _ _) ?_
        refine lv_iload hX_ hB_ dL_isGenerator_192 (lv_at hl 2 rfl) ?_
        refine lv_iload hX_ hB_ dL_isGenerator_194 (lv_at hl 1 rfl) ?_
        refine lv_aload_n hX_ hB_ dL_isGenerator_196 rfl (lv_at hl 5 rfl) ?_
        refine lv_iload hX_ hB_ dL_isGenerator_197 (lv_at hl 3 rfl) ?_
        refine lv_iconst (v := 3) hX_ hB_ dL_isGenerator_199 (by decide) ?_
        refine lv_iadd hX_ hB_ dL_isGenerator_200 ?_
        refine ze_top (xb_add (a := 9 * (n 2) + 50) (b := 3) (c := 9 * (n 2) + 53) (by omega)) ?_
        refine ze_ialdN hX_ hB_ hK hW ((ze_wC c a n A B E).length + 0) (f := (upd (upd (upd (upd (upd (upd N (9 * (n 2) + 50) (nI (xd_in xs L i (n 0)))) (9 * (n 2) + 51) (nI 0)) (9 * (n 2) + 52) (nI (max 1 (xd_in xs L (i + 3) 60)))) (9 * (n 2) + 53) (nI (xd_in xs L (i + 4) 4))) (9 * (n 2) + 54) (nI (xd_in xs L (i + 6) 1500))) 2 (nI (n 2 + 1)))) (ze_appL (k := 0) rfl) (i := 9 * (n 2) + 53) (by omega) (by decide) dL_isGenerator_201 ?_
        refine ze_top (xb_un (by omega)) ?_
        refine ze_top (xb_un (by omega)) ?_
        refine ze_top (ze_updat _ _ _) ?_
        refine lv_iload hX_ hB_ dL_isGenerator_202 (lv_at hl 0 rfl) ?_
        refine xb_FSe (As := [.ref (a 0), .int (nI (xd_in xs L i (n 0))), .int (nI 0), .int (nI (max 1 (xd_in xs L (i + 3) 60))), .int (nI (xd_in xs L (i + 4) 4)), .int (nI (xd_in xs L (i + 6) 1500))]) (rest := []) S (xw_addGenerator_f l D c a n A B E (xd_in xs L i (n 0)) hN (by omega) (nI 0) (nI (max 1 (xd_in xs L (i + 3) 60))) (nI (xd_in xs L (i + 4) 4)) (nI (xd_in xs L (i + 6) 1500)) (xd_rg (lo := 0) (hi := 100) (by omega) (by omega) (by omega)) (xd_rgm (by omega) (by omega) (by omega)) (xd_rg (lo := 0) (hi := 9) (by omega) (by omega) (by omega)) (xd_rg (lo := 0) (hi := 9999) (by omega) (by omega) (by omega)) (by omega) ((hZ.1 _ (Nat.le_refl _)).1) ((hZ.1 _ (Nat.le_refl _)).2)) (vx_cwSW 6 hts gL_isGenerator_L_addGenerator rfl rfl rfl (by decide +kernel) ⟨(Nat.le_of_ble_eq_true rfl), (Nat.le_of_ble_eq_true rfl)⟩) hG hK hW hA rfl hl.1 rfl (lv_room (Nat.le_of_ble_eq_true rfl)) dL_isGenerator_204 ⟨(Nat.le_of_ble_eq_true rfl), (Nat.le_of_ble_eq_true rfl)⟩ (fun qn H locs hW => ?_)
        have hW : ze_W D ((ze_wC c va_up a (20 + n 2) qn (ze_sn n 2 (n 2 + 1)) (ze_sE (ze_sE (ze_sE (ze_sE (ze_sE (ze_sE A 6 (n 2) (nI (xd_in xs L i (n 0)))) 7 (n 2) (nI 0)) 8 (n 2) (nI (max 1 (xd_in xs L (i + 3) 60)))) 9 (n 2) (nI (xd_in xs L (i + 4) 4))) 10 (n 2) (nI (xd_in xs L (i + 6) 1500))) 13 (n 2) 111) B E) ++ [(q, .inl (c 0, 210, .inl (upd (upd (upd (upd (upd (upd N (9 * (n 2) + 50) (nI (xd_in xs L i (n 0)))) (9 * (n 2) + 51) (nI 0)) (9 * (n 2) + 52) (nI (max 1 (xd_in xs L (i + 3) 60)))) (9 * (n 2) + 53) (nI (xd_in xs L (i + 4) 4))) (9 * (n 2) + 54) (nI (xd_in xs L (i + 6) 1500))) 2 (nI (n 2 + 1)))))]) F s.heap _ _ := hW
        refine lv_aload_n hX_ hB_ dL_isGenerator_207 rfl (lv_at hl 5 rfl) ?_
        refine lv_iconst (v := 2) hX_ hB_ dL_isGenerator_208 (by decide) ?_
        refine ze_ialdN hX_ hB_ hK hW ((ze_wC c va_up a (20 + n 2) qn (ze_sn n 2 (n 2 + 1)) (ze_sE (ze_sE (ze_sE (ze_sE (ze_sE (ze_sE A 6 (n 2) (nI (xd_in xs L i (n 0)))) 7 (n 2) (nI 0)) 8 (n 2) (nI (max 1 (xd_in xs L (i + 3) 60)))) 9 (n 2) (nI (xd_in xs L (i + 4) 4))) 10 (n 2) (nI (xd_in xs L (i + 6) 1500))) 13 (n 2) 111) B E).length + 0) (f := (upd (upd (upd (upd (upd (upd N (9 * (n 2) + 50) (nI (xd_in xs L i (n 0)))) (9 * (n 2) + 51) (nI 0)) (9 * (n 2) + 52) (nI (max 1 (xd_in xs L (i + 3) 60)))) (9 * (n 2) + 53) (nI (xd_in xs L (i + 4) 4))) (9 * (n 2) + 54) (nI (xd_in xs L (i + 6) 1500))) 2 (nI (n 2 + 1)))) (ze_appL (k := 0) rfl) (i := 2) (by omega) (by decide) dL_isGenerator_209 ?_
        refine ze_top (ze_updat _ _ _) ?_
        refine lv_iconst (v := 1) hX_ hB_ dL_isGenerator_210 (by decide) ?_
        refine lv_isub hX_ hB_ dL_isGenerator_211 ?_
        refine ze_top (nI_pred (n 2)) ?_
        refine lv_icmp_ne (tgt := 219) hX_ hB_ dL_isGenerator_212 (by decide) (fun c212 => ?_) (fun c212 => ?_)
        · exact absurd rfl c212
        · have c212 : (n 2) = (n 2) := (nI_eq (a := (n 2)) (b := (n 2)) (by omega) (by omega)).mp c212
          refine lv_iconst (v := 1) hX_ hB_ dL_isGenerator_215 (by decide) ?_
          refine lv_goto (tgt := 220) hX_ hB_ dL_isGenerator_216 (by decide) ?_
          exact xb_iret (T := xd_T) (va_up a (20 + n 2) qn, (ze_sn n 2 (n 2 + 1)), (ze_sE (ze_sE (ze_sE (ze_sE (ze_sE (ze_sE A 6 (n 2) (nI (xd_in xs L i (n 0)))) 7 (n 2) (nI 0)) 8 (n 2) (nI (max 1 (xd_in xs L (i + 3) 60)))) 9 (n 2) (nI (xd_in xs L (i + 4) 4))) 10 (n 2) (nI (xd_in xs L (i + 6) 1500))) 13 (n 2) 111), B, E, (upd (upd (upd (upd (upd (upd N (9 * (n 2) + 50) (nI (xd_in xs L i (n 0)))) (9 * (n 2) + 51) (nI 0)) (9 * (n 2) + 52) (nI (max 1 (xd_in xs L (i + 3) 60)))) (9 * (n 2) + 53) (nI (xd_in xs L (i + 4) 4))) (9 * (n 2) + 54) (nI (xd_in xs L (i + 6) 1500))) 2 (nI (n 2 + 1)))) S hr hlocks hF hK hW rfl dL_isGenerator_220 (Nat.le_of_ble_eq_true rfl) (Nat.le_of_ble_eq_true rfl) ⟨rfl, ⟨(va_up_ne _ _ (by omega)), (xd_gen hI (by omega) (by omega) (by omega) (by omega) (by omega) (by omega) (by omega) (by omega)), rfl, Nat.le_succ _, Nat.le_refl _⟩, Nat.succ_le_succ (Nat.zero_le _)⟩ rfl
      · have c97 : (n 2) = 6 := (nI_eq (a := (n 2)) (b := 6) (by omega) (by omega)).mp c97
        refine lv_aload_n hX_ hB_ dL_isGenerator_100 rfl (lv_at hl 4 rfl) ?_
        refine lv_aload_n hX_ hB_ dL_isGenerator_101 rfl (lv_at hl 6 rfl) ?_
        refine lv_iload_n hX_ hB_ dL_isGenerator_102 rfl (lv_at hl 7 rfl) ?_
        refine lv_aload_n hX_ hB_ dL_isGenerator_103 rfl (lv_at hl 5 rfl) ?_
        refine lv_iconst (v := 0) hX_ hB_ dL_isGenerator_104 (by decide) ?_
        refine ze_ialdN hX_ hB_ hK hW ((ze_wC c a n A B E).length + 0) (f := N) (ze_appL (k := 0) rfl) (i := 0) (by omega) (by decide) dL_isGenerator_105 ?_
        refine ze_top (y := nI (n 0)) hR.1.1 ?_
        have hW : ze_W D (([] : va_W) ++ ((ze_wC c a n A B E) ++ [(q, .inl (c 0, 210, .inl N))])) F s.heap _ _ := hW
        refine xb_FSx (As := [.ref b, .int (nI i), .int (nI (n 0))]) (rest := [.ref (a 0)]) S (xj_in l D c b L xs hL i (by omega) (n 0) (by omega) (by omega)) (va_cwS 3 hts gL_isGenerator_L_in rfl rfl rfl (by decide +kernel) ⟨(Nat.le_of_ble_eq_true rfl), (Nat.le_of_ble_eq_true rfl)⟩) (Or.inr rfl) hG hK hW hA rfl hl.1 rfl (lv_room (Nat.le_of_ble_eq_true rfl)) dL_isGenerator_106 ⟨(Nat.le_of_ble_eq_true rfl), (Nat.le_of_ble_eq_true rfl)⟩ (fun H locs hW => ?_)
        have hv106 := xd_inlt (xs := xs) (L := L) (i := i) (k := n 0) (by omega)
        have hW : ze_W D ((ze_wC c a n A B E) ++ [(q, .inl (c 0, 210, .inl N))]) F s.heap _ _ := hW
        refine lv_iload hX_ hB_ dL_isGenerator_109 (lv_at hl 2 rfl) ?_
        refine lv_iload hX_ hB_ dL_isGenerator_111 (lv_at hl 1 rfl) ?_
        refine lv_iconst (v := 0) hX_ hB_ dL_isGenerator_113 (by decide) ?_
        refine lv_iload hX_ hB_ dL_isGenerator_114 (lv_at hl 0 rfl) ?_
        refine xb_FSq (As := [.ref (a 0), .int (nI (xd_in xs L i (n 0))), .int (nI 0), .int (nI (max 1 (xd_in xs L (i + 3) 60))), .int 0, .int (nI (xd_in xs L (i + 6) 1500))]) (rest := []) S (xw_addGenerator_t3 l D hst c a n A B E (xd_in xs L i (n 0)) hN (by omega) (nI 0) (nI (max 1 (xd_in xs L (i + 3) 60))) 0 (nI (xd_in xs L (i + 6) 1500)) (xd_rg (lo := 0) (hi := 100) (by omega) (by omega) (by omega)) (xd_rgm (by omega) (by omega) (by omega)) (by decide) (xd_rg (lo := 0) (hi := 9999) (by omega) (by omega) (by omega)) (by omega)) (vx_cwSW 6 hts gL_isGenerator_L_addGenerator rfl rfl rfl (by decide +kernel) ⟨(Nat.le_of_ble_eq_true rfl), (Nat.le_of_ble_eq_true rfl)⟩) hG hK hW hA rfl hl.1 rfl (lv_room (Nat.le_of_ble_eq_true rfl)) dL_isGenerator_116 ⟨(Nat.le_of_ble_eq_true rfl), (Nat.le_of_ble_eq_true rfl)⟩ (fun H locs hW => ?_)
        have hW : ze_W D ((ze_wC c a n A B E) ++ [(q, .inl (c 0, 210, .inl N))]) F s.heap _ _ := hW
        refine lv_ldc (own := RL) (v := -900003) hX_ hB_ S.2.2.2.1 w4 dL_isGenerator_119 ?_
        refine lv_icmp_ne (tgt := 128) hX_ hB_ dL_isGenerator_121 (by decide) (fun c121 => ?_) (fun c121 => ?_)
        · exact absurd c121 (by decide)
        · refine lv_iconst (v := 1) hX_ hB_ dL_isGenerator_124 (by decide) ?_
          refine lv_goto (tgt := 129) hX_ hB_ dL_isGenerator_125 (by decide) ?_
          exact xb_iret (T := xd_T) (a, n, A, B, E, N) S hr hlocks hF hK hW rfl dL_isGenerator_129 (Nat.le_of_ble_eq_true rfl) (Nat.le_of_ble_eq_true rfl) ⟨rfl, ⟨rfl, hI, rfl, Nat.le_refl _, Nat.le_refl _⟩, (by omega)⟩ rfl
    · have c63 : (xd_in xs L (i + 5) 3) = 0 := (nI_eq (a := (xd_in xs L (i + 5) 3)) (b := 0) (by omega) (by omega)).mp c63
      refine lv_aload_n hX_ hB_ dL_isGenerator_66 rfl (lv_at hl 5 rfl) ?_
      refine lv_iload_n hX_ hB_ dL_isGenerator_67 rfl (lv_at hl 6 rfl) ?_
      refine lv_bipush (v := 6) hX_ hB_ dL_isGenerator_68 (by decide) ?_
      refine lv_iadd hX_ hB_ dL_isGenerator_70 ?_
      refine ze_top (xb_add (a := i) (b := 6) (c := i + 6) (by omega)) ?_
      refine lv_bipush (v := 60) hX_ hB_ dL_isGenerator_71 (by decide) ?_
      have hW : ze_W D (([] : va_W) ++ ((ze_wC c a n A B E) ++ [(q, .inl (c 0, 210, .inl N))])) F s.heap _ _ := hW
      refine xb_FSx (As := [.ref b, .int (nI (i + 6)), .int 60]) (rest := []) S (xj_in l D c b L xs hL (i + 6) (by omega) 60 (by omega) (by omega)) (va_cwS 3 hts gL_isGenerator_L_in rfl rfl rfl (by decide +kernel) ⟨(Nat.le_of_ble_eq_true rfl), (Nat.le_of_ble_eq_true rfl)⟩) (Or.inr rfl) hG hK hW hA rfl hl.1 rfl (lv_room (Nat.le_of_ble_eq_true rfl)) dL_isGenerator_73 ⟨(Nat.le_of_ble_eq_true rfl), (Nat.le_of_ble_eq_true rfl)⟩ (fun H locs hW => ?_)
      have hv73 := xd_inlt (xs := xs) (L := L) (i := i + 6) (k := 60) (by omega)
      have hW : ze_W D ((ze_wC c a n A B E) ++ [(q, .inl (c 0, 210, .inl N))]) F s.heap _ _ := hW
      refine lv_goto (tgt := 90) hX_ hB_ dL_isGenerator_76 (by decide) ?_
      refine lv_istore (lv' := [(7, .int (nI (xd_in xs L (i + 6) 60))), (6, .int (nI (max 1 (xd_in xs L (i + 3) 60)))), (5, .int (nI 0)), (4, .int (nI (9 * (n 2) + 50))), (0, .ref (a 0)), (1, .ref q), (2, .ref b), (3, .int (nI i))]) hX_ hB_ dL_isGenerator_90 hl (by decide) rfl (fun ls hl => ?_)
      refine lv_aload_n hX_ hB_ dL_isGenerator_92 rfl (lv_at hl 5 rfl) ?_
      refine lv_iconst (v := 2) hX_ hB_ dL_isGenerator_93 (by decide) ?_
      refine ze_ialdN hX_ hB_ hK hW ((ze_wC c a n A B E).length + 0) (f := N) (ze_appL (k := 0) rfl) (i := 2) (by omega) (by decide) dL_isGenerator_94 ?_
      refine ze_top (y := nI (n 2)) hR.1.2.2.1 ?_
      refine lv_bipush (v := 6) hX_ hB_ dL_isGenerator_95 (by decide) ?_
      refine lv_icmp_ne (tgt := 130) hX_ hB_ dL_isGenerator_97 (by decide) (fun c97 => ?_) (fun c97 => ?_)
      · have c97 : ¬ (n 2) = 6 := fun h9 => c97 ((nI_eq (a := (n 2)) (b := 6) (by omega) (by omega)).mpr h9)
        refine lv_aload_n hX_ hB_ dL_isGenerator_130 rfl (lv_at hl 5 rfl) ?_
        refine lv_iload hX_ hB_ dL_isGenerator_131 (lv_at hl 3 rfl) ?_
        refine lv_aload_n hX_ hB_ dL_isGenerator_133 rfl (lv_at hl 6 rfl) ?_
        refine lv_iload_n hX_ hB_ dL_isGenerator_134 rfl (lv_at hl 7 rfl) ?_
        refine lv_aload_n hX_ hB_ dL_isGenerator_135 rfl (lv_at hl 5 rfl) ?_
        refine lv_iconst (v := 0) hX_ hB_ dL_isGenerator_136 (by decide) ?_
        refine ze_ialdN hX_ hB_ hK hW ((ze_wC c a n A B E).length + 0) (f := N) (ze_appL (k := 0) rfl) (i := 0) (by omega) (by decide) dL_isGenerator_137 ?_
        refine ze_top (y := nI (n 0)) hR.1.1 ?_
        have hW : ze_W D (([] : va_W) ++ ((ze_wC c a n A B E) ++ [(q, .inl (c 0, 210, .inl N))])) F s.heap _ _ := hW
        refine xb_FSx (As := [.ref b, .int (nI i), .int (nI (n 0))]) (rest := [.int (nI (9 * (n 2) + 50)), .ref q]) S (xj_in l D c b L xs hL i (by omega) (n 0) (by omega) (by omega)) (va_cwS 3 hts gL_isGenerator_L_in rfl rfl rfl (by decide +kernel) ⟨(Nat.le_of_ble_eq_true rfl), (Nat.le_of_ble_eq_true rfl)⟩) (Or.inr rfl) hG hK hW hA rfl hl.1 rfl (lv_room (Nat.le_of_ble_eq_true rfl)) dL_isGenerator_138 ⟨(Nat.le_of_ble_eq_true rfl), (Nat.le_of_ble_eq_true rfl)⟩ (fun H locs hW => ?_)
        have hv138 := xd_inlt (xs := xs) (L := L) (i := i) (k := n 0) (by omega)
        have hW : ze_W D ((ze_wC c a n A B E) ++ [(q, .inl (c 0, 210, .inl N))]) F s.heap _ _ := hW
        refine ze_iastN hX_ hB_ hK hW ((ze_wC c a n A B E).length + 0) (f := N) (ze_appL (k := 0) rfl) (i := 9 * (n 2) + 50) (by omega) (by decide) dL_isGenerator_141 (ze_appset rfl) (fun H locs hW => ?_)
        have hW : ze_W D ((ze_wC c a n A B E) ++ [(q, .inl (c 0, 210, .inl (upd N (9 * (n 2) + 50) (nI (xd_in xs L i (n 0))))))]) F s.heap _ _ := hW
        refine lv_aload_n hX_ hB_ dL_isGenerator_142 rfl (lv_at hl 5 rfl) ?_
        refine lv_iload hX_ hB_ dL_isGenerator_143 (lv_at hl 3 rfl) ?_
        refine lv_iconst (v := 1) hX_ hB_ dL_isGenerator_145 (by decide) ?_
        refine lv_iadd hX_ hB_ dL_isGenerator_146 ?_
        refine ze_top (xb_add (a := 9 * (n 2) + 50) (b := 1) (c := 9 * (n 2) + 51) (by omega)) ?_
        refine lv_iload hX_ hB_ dL_isGenerator_147 (lv_at hl 2 rfl) ?_
        refine ze_iastN hX_ hB_ hK hW ((ze_wC c a n A B E).length + 0) (f := (upd N (9 * (n 2) + 50) (nI (xd_in xs L i (n 0))))) (ze_appL (k := 0) rfl) (i := 9 * (n 2) + 51) (by omega) (by decide) dL_isGenerator_149 (ze_appset rfl) (fun H locs hW => ?_)
        have hW : ze_W D ((ze_wC c a n A B E) ++ [(q, .inl (c 0, 210, .inl (upd (upd N (9 * (n 2) + 50) (nI (xd_in xs L i (n 0)))) (9 * (n 2) + 51) (nI 0))))]) F s.heap _ _ := hW
        refine lv_aload_n hX_ hB_ dL_isGenerator_150 rfl (lv_at hl 5 rfl) ?_
        refine lv_iload hX_ hB_ dL_isGenerator_151 (lv_at hl 3 rfl) ?_
        refine lv_iconst (v := 2) hX_ hB_ dL_isGenerator_153 (by decide) ?_
        refine lv_iadd hX_ hB_ dL_isGenerator_154 ?_
        refine ze_top (xb_add (a := 9 * (n 2) + 50) (b := 2) (c := 9 * (n 2) + 52) (by omega)) ?_
        refine lv_iload hX_ hB_ dL_isGenerator_155 (lv_at hl 1 rfl) ?_
        refine ze_iastN hX_ hB_ hK hW ((ze_wC c a n A B E).length + 0) (f := (upd (upd N (9 * (n 2) + 50) (nI (xd_in xs L i (n 0)))) (9 * (n 2) + 51) (nI 0))) (ze_appL (k := 0) rfl) (i := 9 * (n 2) + 52) (by omega) (by decide) dL_isGenerator_157 (ze_appset rfl) (fun H locs hW => ?_)
        have hW : ze_W D ((ze_wC c a n A B E) ++ [(q, .inl (c 0, 210, .inl (upd (upd (upd N (9 * (n 2) + 50) (nI (xd_in xs L i (n 0)))) (9 * (n 2) + 51) (nI 0)) (9 * (n 2) + 52) (nI (max 1 (xd_in xs L (i + 3) 60))))))]) F s.heap _ _ := hW
        refine lv_aload_n hX_ hB_ dL_isGenerator_158 rfl (lv_at hl 5 rfl) ?_
        refine lv_iload hX_ hB_ dL_isGenerator_159 (lv_at hl 3 rfl) ?_
        refine lv_iconst (v := 3) hX_ hB_ dL_isGenerator_161 (by decide) ?_
        refine lv_iadd hX_ hB_ dL_isGenerator_162 ?_
        refine ze_top (xb_add (a := 9 * (n 2) + 50) (b := 3) (c := 9 * (n 2) + 53) (by omega)) ?_
        refine lv_aload_n hX_ hB_ dL_isGenerator_163 rfl (lv_at hl 6 rfl) ?_
        refine lv_iload_n hX_ hB_ dL_isGenerator_164 rfl (lv_at hl 7 rfl) ?_
        refine lv_iconst (v := 4) hX_ hB_ dL_isGenerator_165 (by decide) ?_
        refine lv_iadd hX_ hB_ dL_isGenerator_166 ?_
        refine ze_top (xb_add (a := i) (b := 4) (c := i + 4) (by omega)) ?_
        refine lv_iconst (v := 4) hX_ hB_ dL_isGenerator_167 (by decide) ?_
        have hW : ze_W D (([] : va_W) ++ ((ze_wC c a n A B E) ++ [(q, .inl (c 0, 210, .inl (upd (upd (upd N (9 * (n 2) + 50) (nI (xd_in xs L i (n 0)))) (9 * (n 2) + 51) (nI 0)) (9 * (n 2) + 52) (nI (max 1 (xd_in xs L (i + 3) 60))))))])) F s.heap _ _ := hW
        refine xb_FSx (As := [.ref b, .int (nI (i + 4)), .int 4]) (rest := [.int (nI (9 * (n 2) + 53)), .ref q]) S (xj_in l D c b L xs hL (i + 4) (by omega) 4 (by omega) (by omega)) (va_cwS 3 hts gL_isGenerator_L_in rfl rfl rfl (by decide +kernel) ⟨(Nat.le_of_ble_eq_true rfl), (Nat.le_of_ble_eq_true rfl)⟩) (Or.inr rfl) hG hK hW hA rfl hl.1 rfl (lv_room (Nat.le_of_ble_eq_true rfl)) dL_isGenerator_168 ⟨(Nat.le_of_ble_eq_true rfl), (Nat.le_of_ble_eq_true rfl)⟩ (fun H locs hW => ?_)
        have hv168 := xd_inlt (xs := xs) (L := L) (i := i + 4) (k := 4) (by omega)
        have hW : ze_W D ((ze_wC c a n A B E) ++ [(q, .inl (c 0, 210, .inl (upd (upd (upd N (9 * (n 2) + 50) (nI (xd_in xs L i (n 0)))) (9 * (n 2) + 51) (nI 0)) (9 * (n 2) + 52) (nI (max 1 (xd_in xs L (i + 3) 60))))))]) F s.heap _ _ := hW
        refine ze_iastN hX_ hB_ hK hW ((ze_wC c a n A B E).length + 0) (f := (upd (upd (upd N (9 * (n 2) + 50) (nI (xd_in xs L i (n 0)))) (9 * (n 2) + 51) (nI 0)) (9 * (n 2) + 52) (nI (max 1 (xd_in xs L (i + 3) 60))))) (ze_appL (k := 0) rfl) (i := 9 * (n 2) + 53) (by omega) (by decide) dL_isGenerator_171 (ze_appset rfl) (fun H locs hW => ?_)
        have hW : ze_W D ((ze_wC c a n A B E) ++ [(q, .inl (c 0, 210, .inl (upd (upd (upd (upd N (9 * (n 2) + 50) (nI (xd_in xs L i (n 0)))) (9 * (n 2) + 51) (nI 0)) (9 * (n 2) + 52) (nI (max 1 (xd_in xs L (i + 3) 60)))) (9 * (n 2) + 53) (nI (xd_in xs L (i + 4) 4)))))]) F s.heap _ _ := hW
        refine lv_aload_n hX_ hB_ dL_isGenerator_172 rfl (lv_at hl 5 rfl) ?_
        refine lv_iload hX_ hB_ dL_isGenerator_173 (lv_at hl 3 rfl) ?_
        refine lv_iconst (v := 4) hX_ hB_ dL_isGenerator_175 (by decide) ?_
        refine lv_iadd hX_ hB_ dL_isGenerator_176 ?_
        refine ze_top (xb_add (a := 9 * (n 2) + 50) (b := 4) (c := 9 * (n 2) + 54) (by omega)) ?_
        refine lv_iload hX_ hB_ dL_isGenerator_177 (lv_at hl 0 rfl) ?_
        refine ze_iastN hX_ hB_ hK hW ((ze_wC c a n A B E).length + 0) (f := (upd (upd (upd (upd N (9 * (n 2) + 50) (nI (xd_in xs L i (n 0)))) (9 * (n 2) + 51) (nI 0)) (9 * (n 2) + 52) (nI (max 1 (xd_in xs L (i + 3) 60)))) (9 * (n 2) + 53) (nI (xd_in xs L (i + 4) 4)))) (ze_appL (k := 0) rfl) (i := 9 * (n 2) + 54) (by omega) (by decide) dL_isGenerator_179 (ze_appset rfl) (fun H locs hW => ?_)
        have hW : ze_W D ((ze_wC c a n A B E) ++ [(q, .inl (c 0, 210, .inl (upd (upd (upd (upd (upd N (9 * (n 2) + 50) (nI (xd_in xs L i (n 0)))) (9 * (n 2) + 51) (nI 0)) (9 * (n 2) + 52) (nI (max 1 (xd_in xs L (i + 3) 60)))) (9 * (n 2) + 53) (nI (xd_in xs L (i + 4) 4))) (9 * (n 2) + 54) (nI (xd_in xs L (i + 6) 60)))))]) F s.heap _ _ := hW
        refine lv_aload_n hX_ hB_ dL_isGenerator_180 rfl (lv_at hl 5 rfl) ?_
        refine lv_iconst (v := 2) hX_ hB_ dL_isGenerator_181 (by decide) ?_
        refine lv_dup2_11 hX_ hB_ dL_isGenerator_182 rfl rfl ?_
        refine ze_ialdN hX_ hB_ hK hW ((ze_wC c a n A B E).length + 0) (f := (upd (upd (upd (upd (upd N (9 * (n 2) + 50) (nI (xd_in xs L i (n 0)))) (9 * (n 2) + 51) (nI 0)) (9 * (n 2) + 52) (nI (max 1 (xd_in xs L (i + 3) 60)))) (9 * (n 2) + 53) (nI (xd_in xs L (i + 4) 4))) (9 * (n 2) + 54) (nI (xd_in xs L (i + 6) 60)))) (ze_appL (k := 0) rfl) (i := 2) (by omega) (by decide) dL_isGenerator_183 ?_
        refine ze_top (xb_un (by omega)) ?_
        refine ze_top (xb_un (by omega)) ?_
        refine ze_top (xb_un (by omega)) ?_
        refine ze_top (xb_un (by omega)) ?_
        refine ze_top (xb_un (by omega)) ?_
        refine ze_top (y := nI (n 2)) hR.1.2.2.1 ?_
        refine lv_iconst (v := 1) hX_ hB_ dL_isGenerator_184 (by decide) ?_
        refine lv_iadd hX_ hB_ dL_isGenerator_185 ?_
        refine ze_top (xb_add (a := n 2) (b := 1) (c := n 2 + 1) (by omega)) ?_
        refine ze_iastN hX_ hB_ hK hW ((ze_wC c a n A B E).length + 0) (f := (upd (upd (upd (upd (upd N (9 * (n 2) + 50) (nI (xd_in xs L i (n 0)))) (9 * (n 2) + 51) (nI 0)) (9 * (n 2) + 52) (nI (max 1 (xd_in xs L (i + 3) 60)))) (9 * (n 2) + 53) (nI (xd_in xs L (i + 4) 4))) (9 * (n 2) + 54) (nI (xd_in xs L (i + 6) 60)))) (ze_appL (k := 0) rfl) (i := 2) (by omega) (by decide) dL_isGenerator_186 (ze_appset rfl) (fun H locs hW => ?_)
        have hW : ze_W D ((ze_wC c a n A B E) ++ [(q, .inl (c 0, 210, .inl (upd (upd (upd (upd (upd (upd N (9 * (n 2) + 50) (nI (xd_in xs L i (n 0)))) (9 * (n 2) + 51) (nI 0)) (9 * (n 2) + 52) (nI (max 1 (xd_in xs L (i + 3) 60)))) (9 * (n 2) + 53) (nI (xd_in xs L (i + 4) 4))) (9 * (n 2) + 54) (nI (xd_in xs L (i + 6) 60))) 2 (nI (n 2 + 1)))))]) F s.heap _ _ := hW
        refine lv_aload_n hX_ hB_ dL_isGenerator_187 rfl (lv_at hl 4 rfl) ?_
        refine lv_aload_n hX_ hB_ dL_isGenerator_188 rfl (lv_at hl 5 rfl) ?_
        refine lv_iload hX_ hB_ dL_isGenerator_189 (lv_at hl 3 rfl) ?_
        refine ze_ialdN hX_ hB_ hK hW ((ze_wC c a n A B E).length + 0) (f := (upd (upd (upd (upd (upd (upd N (9 * (n 2) + 50) (nI (xd_in xs L i (n 0)))) (9 * (n 2) + 51) (nI 0)) (9 * (n 2) + 52) (nI (max 1 (xd_in xs L (i + 3) 60)))) (9 * (n 2) + 53) (nI (xd_in xs L (i + 4) 4))) (9 * (n 2) + 54) (nI (xd_in xs L (i + 6) 60))) 2 (nI (n 2 + 1)))) (ze_appL (k := 0) rfl) (i := 9 * (n 2) + 50) (by omega) (by decide) dL_isGenerator_191 ?_
        refine ze_top (xb_un (by omega)) ?_
        refine ze_top (xb_un (by omega)) ?_
        refine ze_top (xb_un (by omega)) ?_
        refine ze_top (xb_un (by omega)) ?_
        refine ze_top (xb_un (by omega)) ?_
        refine ze_top (ze_updat _ _ _) ?_
        refine lv_iload hX_ hB_ dL_isGenerator_192 (lv_at hl 2 rfl) ?_
        refine lv_iload hX_ hB_ dL_isGenerator_194 (lv_at hl 1 rfl) ?_
        refine lv_aload_n hX_ hB_ dL_isGenerator_196 rfl (lv_at hl 5 rfl) ?_
        refine lv_iload hX_ hB_ dL_isGenerator_197 (lv_at hl 3 rfl) ?_
        refine lv_iconst (v := 3) hX_ hB_ dL_isGenerator_199 (by decide) ?_
        refine lv_iadd hX_ hB_ dL_isGenerator_200 ?_
        refine ze_top (xb_add (a := 9 * (n 2) + 50) (b := 3) (c := 9 * (n 2) + 53) (by omega)) ?_
        refine ze_ialdN hX_ hB_ hK hW ((ze_wC c a n A B E).length + 0) (f := (upd (upd (upd (upd (upd (upd N (9 * (n 2) + 50) (nI (xd_in xs L i (n 0)))) (9 * (n 2) + 51) (nI 0)) (9 * (n 2) + 52) (nI (max 1 (xd_in xs L (i + 3) 60)))) (9 * (n 2) + 53) (nI (xd_in xs L (i + 4) 4))) (9 * (n 2) + 54) (nI (xd_in xs L (i + 6) 60))) 2 (nI (n 2 + 1)))) (ze_appL (k := 0) rfl) (i := 9 * (n 2) + 53) (by omega) (by decide) dL_isGenerator_201 ?_
        refine ze_top (xb_un (by omega)) ?_
        refine ze_top (xb_un (by omega)) ?_
        refine ze_top (ze_updat _ _ _) ?_
        refine lv_iload hX_ hB_ dL_isGenerator_202 (lv_at hl 0 rfl) ?_
        refine xb_FSe (As := [.ref (a 0), .int (nI (xd_in xs L i (n 0))), .int (nI 0), .int (nI (max 1 (xd_in xs L (i + 3) 60))), .int (nI (xd_in xs L (i + 4) 4)), .int (nI (xd_in xs L (i + 6) 60))]) (rest := []) S (xw_addGenerator_f l D c a n A B E (xd_in xs L i (n 0)) hN (by omega) (nI 0) (nI (max 1 (xd_in xs L (i + 3) 60))) (nI (xd_in xs L (i + 4) 4)) (nI (xd_in xs L (i + 6) 60)) (xd_rg (lo := 0) (hi := 100) (by omega) (by omega) (by omega)) (xd_rgm (by omega) (by omega) (by omega)) (xd_rg (lo := 0) (hi := 9) (by omega) (by omega) (by omega)) (xd_rg (lo := 0) (hi := 9999) (by omega) (by omega) (by omega)) (by omega) ((hZ.1 _ (Nat.le_refl _)).1) ((hZ.1 _ (Nat.le_refl _)).2)) (vx_cwSW 6 hts gL_isGenerator_L_addGenerator rfl rfl rfl (by decide +kernel) ⟨(Nat.le_of_ble_eq_true rfl), (Nat.le_of_ble_eq_true rfl)⟩) hG hK hW hA rfl hl.1 rfl (lv_room (Nat.le_of_ble_eq_true rfl)) dL_isGenerator_204 ⟨(Nat.le_of_ble_eq_true rfl), (Nat.le_of_ble_eq_true rfl)⟩ (fun qn H locs hW => ?_)
        have hW : ze_W D ((ze_wC c va_up a (20 + n 2) qn (ze_sn n 2 (n 2 + 1)) (ze_sE (ze_sE (ze_sE (ze_sE (ze_sE (ze_sE A 6 (n 2) (nI (xd_in xs L i (n 0)))) 7 (n 2) (nI 0)) 8 (n 2) (nI (max 1 (xd_in xs L (i + 3) 60)))) 9 (n 2) (nI (xd_in xs L (i + 4) 4))) 10 (n 2) (nI (xd_in xs L (i + 6) 60))) 13 (n 2) 111) B E) ++ [(q, .inl (c 0, 210, .inl (upd (upd (upd (upd (upd (upd N (9 * (n 2) + 50) (nI (xd_in xs L i (n 0)))) (9 * (n 2) + 51) (nI 0)) (9 * (n 2) + 52) (nI (max 1 (xd_in xs L (i + 3) 60)))) (9 * (n 2) + 53) (nI (xd_in xs L (i + 4) 4))) (9 * (n 2) + 54) (nI (xd_in xs L (i + 6) 60))) 2 (nI (n 2 + 1)))))]) F s.heap _ _ := hW
        refine lv_aload_n hX_ hB_ dL_isGenerator_207 rfl (lv_at hl 5 rfl) ?_
        refine lv_iconst (v := 2) hX_ hB_ dL_isGenerator_208 (by decide) ?_
        refine ze_ialdN hX_ hB_ hK hW ((ze_wC c va_up a (20 + n 2) qn (ze_sn n 2 (n 2 + 1)) (ze_sE (ze_sE (ze_sE (ze_sE (ze_sE (ze_sE A 6 (n 2) (nI (xd_in xs L i (n 0)))) 7 (n 2) (nI 0)) 8 (n 2) (nI (max 1 (xd_in xs L (i + 3) 60)))) 9 (n 2) (nI (xd_in xs L (i + 4) 4))) 10 (n 2) (nI (xd_in xs L (i + 6) 60))) 13 (n 2) 111) B E).length + 0) (f := (upd (upd (upd (upd (upd (upd N (9 * (n 2) + 50) (nI (xd_in xs L i (n 0)))) (9 * (n 2) + 51) (nI 0)) (9 * (n 2) + 52) (nI (max 1 (xd_in xs L (i + 3) 60)))) (9 * (n 2) + 53) (nI (xd_in xs L (i + 4) 4))) (9 * (n 2) + 54) (nI (xd_in xs L (i + 6) 60))) 2 (nI (n 2 + 1)))) (ze_appL (k := 0) rfl) (i := 2) (by omega) (by decide) dL_isGenerator_209 ?_
        refine ze_top (ze_updat _ _ _) ?_
        refine lv_iconst (v := 1) hX_ hB_ dL_isGenerator_210 (by decide) ?_
        refine lv_isub hX_ hB_ dL_isGenerator_211 ?_
        refine ze_top (nI_pred (n 2)) ?_
        refine lv_icmp_ne (tgt := 219) hX_ hB_ dL_isGenerator_212 (by decide) (fun c212 => ?_) (fun c212 => ?_)
        · exact absurd rfl c212
        · have c212 : (n 2) = (n 2) := (nI_eq (a := (n 2)) (b := (n 2)) (by omega) (by omega)).mp c212
          refine lv_iconst (v := 1) hX_ hB_ dL_isGenerator_215 (by decide) ?_
          refine lv_goto (tgt := 220) hX_ hB_ dL_isGenerator_216 (by decide) ?_
          exact xb_iret (T := xd_T) (va_up a (20 + n 2) qn, (ze_sn n 2 (n 2 + 1)), (ze_sE (ze_sE (ze_sE (ze_sE (ze_sE (ze_sE A 6 (n 2) (nI (xd_in xs L i (n 0)))) 7 (n 2) (nI 0)) 8 (n 2) (nI (max 1 (xd_in xs L (i + 3) 60)))) 9 (n 2) (nI (xd_in xs L (i + 4) 4))) 10 (n 2) (nI (xd_in xs L (i + 6) 60))) 13 (n 2) 111), B, E, (upd (upd (upd (upd (upd (upd N (9 * (n 2) + 50) (nI (xd_in xs L i (n 0)))) (9 * (n 2) + 51) (nI 0)) (9 * (n 2) + 52) (nI (max 1 (xd_in xs L (i + 3) 60)))) (9 * (n 2) + 53) (nI (xd_in xs L (i + 4) 4))) (9 * (n 2) + 54) (nI (xd_in xs L (i + 6) 60))) 2 (nI (n 2 + 1)))) S hr hlocks hF hK hW rfl dL_isGenerator_220 (Nat.le_of_ble_eq_true rfl) (Nat.le_of_ble_eq_true rfl) ⟨rfl, ⟨(va_up_ne _ _ (by omega)), (xd_gen hI (by omega) (by omega) (by omega) (by omega) (by omega) (by omega) (by omega) (by omega)), rfl, Nat.le_succ _, Nat.le_refl _⟩, Nat.succ_le_succ (Nat.zero_le _)⟩ rfl
      · have c97 : (n 2) = 6 := (nI_eq (a := (n 2)) (b := 6) (by omega) (by omega)).mp c97
        refine lv_aload_n hX_ hB_ dL_isGenerator_100 rfl (lv_at hl 4 rfl) ?_
        refine lv_aload_n hX_ hB_ dL_isGenerator_101 rfl (lv_at hl 6 rfl) ?_
        refine lv_iload_n hX_ hB_ dL_isGenerator_102 rfl (lv_at hl 7 rfl) ?_
        refine lv_aload_n hX_ hB_ dL_isGenerator_103 rfl (lv_at hl 5 rfl) ?_
        refine lv_iconst (v := 0) hX_ hB_ dL_isGenerator_104 (by decide) ?_
        refine ze_ialdN hX_ hB_ hK hW ((ze_wC c a n A B E).length + 0) (f := N) (ze_appL (k := 0) rfl) (i := 0) (by omega) (by decide) dL_isGenerator_105 ?_
        refine ze_top (y := nI (n 0)) hR.1.1 ?_
        have hW : ze_W D (([] : va_W) ++ ((ze_wC c a n A B E) ++ [(q, .inl (c 0, 210, .inl N))])) F s.heap _ _ := hW
        refine xb_FSx (As := [.ref b, .int (nI i), .int (nI (n 0))]) (rest := [.ref (a 0)]) S (xj_in l D c b L xs hL i (by omega) (n 0) (by omega) (by omega)) (va_cwS 3 hts gL_isGenerator_L_in rfl rfl rfl (by decide +kernel) ⟨(Nat.le_of_ble_eq_true rfl), (Nat.le_of_ble_eq_true rfl)⟩) (Or.inr rfl) hG hK hW hA rfl hl.1 rfl (lv_room (Nat.le_of_ble_eq_true rfl)) dL_isGenerator_106 ⟨(Nat.le_of_ble_eq_true rfl), (Nat.le_of_ble_eq_true rfl)⟩ (fun H locs hW => ?_)
        have hv106 := xd_inlt (xs := xs) (L := L) (i := i) (k := n 0) (by omega)
        have hW : ze_W D ((ze_wC c a n A B E) ++ [(q, .inl (c 0, 210, .inl N))]) F s.heap _ _ := hW
        refine lv_iload hX_ hB_ dL_isGenerator_109 (lv_at hl 2 rfl) ?_
        refine lv_iload hX_ hB_ dL_isGenerator_111 (lv_at hl 1 rfl) ?_
        refine lv_iconst (v := 0) hX_ hB_ dL_isGenerator_113 (by decide) ?_
        refine lv_iload hX_ hB_ dL_isGenerator_114 (lv_at hl 0 rfl) ?_
        refine xb_FSq (As := [.ref (a 0), .int (nI (xd_in xs L i (n 0))), .int (nI 0), .int (nI (max 1 (xd_in xs L (i + 3) 60))), .int 0, .int (nI (xd_in xs L (i + 6) 60))]) (rest := []) S (xw_addGenerator_t3 l D hst c a n A B E (xd_in xs L i (n 0)) hN (by omega) (nI 0) (nI (max 1 (xd_in xs L (i + 3) 60))) 0 (nI (xd_in xs L (i + 6) 60)) (xd_rg (lo := 0) (hi := 100) (by omega) (by omega) (by omega)) (xd_rgm (by omega) (by omega) (by omega)) (by decide) (xd_rg (lo := 0) (hi := 9999) (by omega) (by omega) (by omega)) (by omega)) (vx_cwSW 6 hts gL_isGenerator_L_addGenerator rfl rfl rfl (by decide +kernel) ⟨(Nat.le_of_ble_eq_true rfl), (Nat.le_of_ble_eq_true rfl)⟩) hG hK hW hA rfl hl.1 rfl (lv_room (Nat.le_of_ble_eq_true rfl)) dL_isGenerator_116 ⟨(Nat.le_of_ble_eq_true rfl), (Nat.le_of_ble_eq_true rfl)⟩ (fun H locs hW => ?_)
        have hW : ze_W D ((ze_wC c a n A B E) ++ [(q, .inl (c 0, 210, .inl N))]) F s.heap _ _ := hW
        refine lv_ldc (own := RL) (v := -900003) hX_ hB_ S.2.2.2.1 w4 dL_isGenerator_119 ?_
        refine lv_icmp_ne (tgt := 128) hX_ hB_ dL_isGenerator_121 (by decide) (fun c121 => ?_) (fun c121 => ?_)
        · exact absurd c121 (by decide)
        · refine lv_iconst (v := 1) hX_ hB_ dL_isGenerator_124 (by decide) ?_
          refine lv_goto (tgt := 129) hX_ hB_ dL_isGenerator_125 (by decide) ?_
          exact xb_iret (T := xd_T) (a, n, A, B, E, N) S hr hlocks hF hK hW rfl dL_isGenerator_129 (Nat.le_of_ble_eq_true rfl) (Nat.le_of_ble_eq_true rfl) ⟨rfl, ⟨rfl, hI, rfl, Nat.le_refl _, Nat.le_refl _⟩, (by omega)⟩ rfl
set_option maxHeartbeats 8000000 in
set_option maxRecDepth 100000 in
theorem xj_isStore (l : Launch) (D : va_G) (hst : l.stackTraces = false) (c : Nat → ClassId) (q : Nat) (a n : Nat → Nat) (A : Nat → Nat → Int32) (B : Nat → Int64) (E : Nat → Nat → Int32) (N : Nat → Int32) (t : Nat) (hI : xd_I n A B E N t) (b L : Nat) (xs : Nat → Int32)  (hL : L ≤ 260) (i : Nat) (hi : i < 1000) (h0 : 0 < n 0) : xb_M (T := xd_T) l yL_isStore wsL_isStore 8 129 1 6 D c (some (b, L, xs)) ((ze_wC c a n A B E) ++ [(q, .inl (c 0, 210, .inl N))]) [.ref (a 0), .ref q, .ref b, .int (nI i)] (fun r (u : xd_T) => r = 1 ∧ xd_P (a 0) n (t) u) (fun u => xd_w c q u) := by
  intro sz
  refine xb_start (cc := cL_isStore) (maxL := 5) (ret := (some .boolean)) (own := RL) (by decide) rfl rfl (Nat.le_of_ble_eq_true rfl) ?_
  have hKc := xd_K hI
  have hH := xc_KH hKc
  obtain ⟨hV, hR, hPh, hY, hWu⟩ := id hI
  obtain ⟨hN, hS, hE, hz, h4, h4z, hT, hC, hKz, hZ, hp⟩ := id hV
  obtain ⟨hn0, hn1, hn2, hn3, hn4⟩ := id hN
  have hE1 := zv_hE hV
  intro p e s m_ below meth cd F ls hF hsz E0 hG
  obtain ⟨S, hr, hlocks, hK, hW, hA, hl⟩ := E0
  have hX_ := S.1
  have hB_ := S.2.1
  have hts := S.2.2.2.2
  have hl : lv_has ls 5 [(0, .ref (a 0)), (1, .ref q), (2, .ref b), (3, .int (nI i))] := hl
  have w0 := hts (.constant RL 30 (-900003)) (List.mem_cons_of_mem _ (List.mem_append_left _ (List.mem_append_left _ (List.mem_append_left _ (List.mem_append_left _ (List.mem_append_left _ (List.mem_append_left _ (List.mem_append_left _ (List.mem_append_left _ (List.mem_of_getElem? (i := 0) rfl))))))))))
  refine lv_bipush (v := 110) hX_ hB_ dL_isStore_0 (by decide) ?_
  refine lv_bipush (v := 6) hX_ hB_ dL_isStore_2 (by decide) ?_
  refine lv_aload_n hX_ hB_ dL_isStore_4 rfl (lv_at hl 1 rfl) ?_
  refine lv_iconst (v := 3) hX_ hB_ dL_isStore_5 (by decide) ?_
  refine ze_ialdN hX_ hB_ hK hW ((ze_wC c a n A B E).length + 0) (f := N) (ze_appL (k := 0) rfl) (i := 3) (by omega) (by decide) dL_isStore_6 ?_
  refine ze_top (y := nI (n 3)) hR.1.2.2.2.1 ?_
  refine lv_imul hX_ hB_ dL_isStore_7 ?_
  refine ze_top (xb_mul (a := 6) (b := n 3) (c := 6 * (n 3)) (by omega)) ?_
  refine lv_iadd hX_ hB_ dL_isStore_8 ?_
  refine ze_top (xb_add (a := 110) (b := 6 * (n 3)) (c := 6 * (n 3) + 110) (by omega)) ?_
  refine lv_istore (lv' := [(4, .int (nI (6 * (n 3) + 110))), (0, .ref (a 0)), (1, .ref q), (2, .ref b), (3, .int (nI i))]) hX_ hB_ dL_isStore_9 hl (by decide) rfl (fun ls hl => ?_)
  refine lv_aload_n hX_ hB_ dL_isStore_11 rfl (lv_at hl 2 rfl) ?_
  refine lv_iconst (v := 3) hX_ hB_ dL_isStore_12 (by decide) ?_
  refine ze_ialdN hX_ hB_ hK hW ((ze_wC c a n A B E).length + 0) (f := N) (ze_appL (k := 0) rfl) (i := 3) (by omega) (by decide) dL_isStore_13 ?_
  refine ze_top (y := nI (n 3)) hR.1.2.2.2.1 ?_
  refine lv_iconst (v := 4) hX_ hB_ dL_isStore_14 (by decide) ?_
  refine lv_icmp_ne (tgt := 43) hX_ hB_ dL_isStore_15 (by decide) (fun c15 => ?_) (fun c15 => ?_)
  · have c15 : ¬ (n 3) = 4 := fun h9 => c15 ((nI_eq (a := (n 3)) (b := 4) (by omega) (by omega)).mpr h9)
    refine lv_aload_n hX_ hB_ dL_isStore_43 rfl (lv_at hl 2 rfl) ?_
    refine lv_iload hX_ hB_ dL_isStore_44 (lv_at hl 0 rfl) ?_
    refine lv_aload_n hX_ hB_ dL_isStore_46 rfl (lv_at hl 3 rfl) ?_
    refine lv_iload_n hX_ hB_ dL_isStore_47 rfl (lv_at hl 4 rfl) ?_
    refine lv_aload_n hX_ hB_ dL_isStore_48 rfl (lv_at hl 2 rfl) ?_
    refine lv_iconst (v := 0) hX_ hB_ dL_isStore_49 (by decide) ?_
    refine ze_ialdN hX_ hB_ hK hW ((ze_wC c a n A B E).length + 0) (f := N) (ze_appL (k := 0) rfl) (i := 0) (by omega) (by decide) dL_isStore_50 ?_
    refine ze_top (y := nI (n 0)) hR.1.1 ?_
    have hW : ze_W D (([] : va_W) ++ ((ze_wC c a n A B E) ++ [(q, .inl (c 0, 210, .inl N))])) F s.heap _ _ := hW
    refine xb_FSx (As := [.ref b, .int (nI i), .int (nI (n 0))]) (rest := [.int (nI (6 * (n 3) + 110)), .ref q]) S (xj_in l D c b L xs hL i (by omega) (n 0) (by omega) (by omega)) (va_cwS 3 hts gL_isStore_L_in rfl rfl rfl (by decide +kernel) ⟨(Nat.le_of_ble_eq_true rfl), (Nat.le_of_ble_eq_true rfl)⟩) (Or.inr rfl) hG hK hW hA rfl hl.1 rfl (lv_room (Nat.le_of_ble_eq_true rfl)) dL_isStore_51 ⟨(Nat.le_of_ble_eq_true rfl), (Nat.le_of_ble_eq_true rfl)⟩ (fun H locs hW => ?_)
    have hv51 := xd_inlt (xs := xs) (L := L) (i := i) (k := n 0) (by omega)
    have hW : ze_W D ((ze_wC c a n A B E) ++ [(q, .inl (c 0, 210, .inl N))]) F s.heap _ _ := hW
    refine ze_iastN hX_ hB_ hK hW ((ze_wC c a n A B E).length + 0) (f := N) (ze_appL (k := 0) rfl) (i := 6 * (n 3) + 110) (by omega) (by decide) dL_isStore_54 (ze_appset rfl) (fun H locs hW => ?_)
    have hW : ze_W D ((ze_wC c a n A B E) ++ [(q, .inl (c 0, 210, .inl (upd N (6 * (n 3) + 110) (nI (xd_in xs L i (n 0))))))]) F s.heap _ _ := hW
    refine lv_aload_n hX_ hB_ dL_isStore_55 rfl (lv_at hl 2 rfl) ?_
    refine lv_iload hX_ hB_ dL_isStore_56 (lv_at hl 0 rfl) ?_
    refine lv_iconst (v := 1) hX_ hB_ dL_isStore_58 (by decide) ?_
    refine lv_iadd hX_ hB_ dL_isStore_59 ?_
    refine ze_top (xb_add (a := 6 * (n 3) + 110) (b := 1) (c := 6 * (n 3) + 111) (by omega)) ?_
    refine lv_iconst (v := 1) hX_ hB_ dL_isStore_60 (by decide) ?_
    refine lv_aload_n hX_ hB_ dL_isStore_61 rfl (lv_at hl 3 rfl) ?_
    refine lv_iload_n hX_ hB_ dL_isStore_62 rfl (lv_at hl 4 rfl) ?_
    refine lv_iconst (v := 1) hX_ hB_ dL_isStore_63 (by decide) ?_
    refine lv_iadd hX_ hB_ dL_isStore_64 ?_
    refine ze_top (xb_add (a := i) (b := 1) (c := i + 1) (by omega)) ?_
    refine lv_bipush (v := 120) hX_ hB_ dL_isStore_65 (by decide) ?_
    have hW : ze_W D (([] : va_W) ++ ((ze_wC c a n A B E) ++ [(q, .inl (c 0, 210, .inl (upd N (6 * (n 3) + 110) (nI (xd_in xs L i (n 0))))))])) F s.heap _ _ := hW
    refine xb_FSx (As := [.ref b, .int (nI (i + 1)), .int 120]) (rest := [.int 1, .int (nI (6 * (n 3) + 111)), .ref q]) S (xj_in l D c b L xs hL (i + 1) (by omega) 120 (by omega) (by omega)) (va_cwS 3 hts gL_isStore_L_in rfl rfl rfl (by decide +kernel) ⟨(Nat.le_of_ble_eq_true rfl), (Nat.le_of_ble_eq_true rfl)⟩) (Or.inr rfl) hG hK hW hA rfl hl.1 rfl (lv_room (Nat.le_of_ble_eq_true rfl)) dL_isStore_67 ⟨(Nat.le_of_ble_eq_true rfl), (Nat.le_of_ble_eq_true rfl)⟩ (fun H locs hW => ?_)
    have hv67 := xd_inlt (xs := xs) (L := L) (i := i + 1) (k := 120) (by omega)
    have hW : ze_W D ((ze_wC c a n A B E) ++ [(q, .inl (c 0, 210, .inl (upd N (6 * (n 3) + 110) (nI (xd_in xs L i (n 0))))))]) F s.heap _ _ := hW
    refine lv_iadd hX_ hB_ dL_isStore_70 ?_
    refine ze_top (xb_add (a := 1) (b := xd_in xs L (i + 1) 120) (c := xd_in xs L (i + 1) 120 + 1) (by omega)) ?_
    refine ze_iastN hX_ hB_ hK hW ((ze_wC c a n A B E).length + 0) (f := (upd N (6 * (n 3) + 110) (nI (xd_in xs L i (n 0))))) (ze_appL (k := 0) rfl) (i := 6 * (n 3) + 111) (by omega) (by decide) dL_isStore_71 (ze_appset rfl) (fun H locs hW => ?_)
    have hW : ze_W D ((ze_wC c a n A B E) ++ [(q, .inl (c 0, 210, .inl (upd (upd N (6 * (n 3) + 110) (nI (xd_in xs L i (n 0)))) (6 * (n 3) + 111) (nI (xd_in xs L (i + 1) 120 + 1)))))]) F s.heap _ _ := hW
    refine lv_aload_n hX_ hB_ dL_isStore_72 rfl (lv_at hl 2 rfl) ?_
    refine lv_iload hX_ hB_ dL_isStore_73 (lv_at hl 0 rfl) ?_
    refine lv_iconst (v := 2) hX_ hB_ dL_isStore_75 (by decide) ?_
    refine lv_iadd hX_ hB_ dL_isStore_76 ?_
    refine ze_top (xb_add (a := 6 * (n 3) + 110) (b := 2) (c := 6 * (n 3) + 112) (by omega)) ?_
    refine lv_iconst (v := 1) hX_ hB_ dL_isStore_77 (by decide) ?_
    refine lv_aload_n hX_ hB_ dL_isStore_78 rfl (lv_at hl 3 rfl) ?_
    refine lv_iload_n hX_ hB_ dL_isStore_79 rfl (lv_at hl 4 rfl) ?_
    refine lv_iconst (v := 2) hX_ hB_ dL_isStore_80 (by decide) ?_
    refine lv_iadd hX_ hB_ dL_isStore_81 ?_
    refine ze_top (xb_add (a := i) (b := 2) (c := i + 2) (by omega)) ?_
    refine lv_bipush (v := 30) hX_ hB_ dL_isStore_82 (by decide) ?_
    have hW : ze_W D (([] : va_W) ++ ((ze_wC c a n A B E) ++ [(q, .inl (c 0, 210, .inl (upd (upd N (6 * (n 3) + 110) (nI (xd_in xs L i (n 0)))) (6 * (n 3) + 111) (nI (xd_in xs L (i + 1) 120 + 1)))))])) F s.heap _ _ := hW
    refine xb_FSx (As := [.ref b, .int (nI (i + 2)), .int 30]) (rest := [.int 1, .int (nI (6 * (n 3) + 112)), .ref q]) S (xj_in l D c b L xs hL (i + 2) (by omega) 30 (by omega) (by omega)) (va_cwS 3 hts gL_isStore_L_in rfl rfl rfl (by decide +kernel) ⟨(Nat.le_of_ble_eq_true rfl), (Nat.le_of_ble_eq_true rfl)⟩) (Or.inr rfl) hG hK hW hA rfl hl.1 rfl (lv_room (Nat.le_of_ble_eq_true rfl)) dL_isStore_84 ⟨(Nat.le_of_ble_eq_true rfl), (Nat.le_of_ble_eq_true rfl)⟩ (fun H locs hW => ?_)
    have hv84 := xd_inlt (xs := xs) (L := L) (i := i + 2) (k := 30) (by omega)
    have hW : ze_W D ((ze_wC c a n A B E) ++ [(q, .inl (c 0, 210, .inl (upd (upd N (6 * (n 3) + 110) (nI (xd_in xs L i (n 0)))) (6 * (n 3) + 111) (nI (xd_in xs L (i + 1) 120 + 1)))))]) F s.heap _ _ := hW
    refine lv_iadd hX_ hB_ dL_isStore_87 ?_
    refine ze_top (xb_add (a := 1) (b := xd_in xs L (i + 2) 30) (c := xd_in xs L (i + 2) 30 + 1) (by omega)) ?_
    refine ze_iastN hX_ hB_ hK hW ((ze_wC c a n A B E).length + 0) (f := (upd (upd N (6 * (n 3) + 110) (nI (xd_in xs L i (n 0)))) (6 * (n 3) + 111) (nI (xd_in xs L (i + 1) 120 + 1)))) (ze_appL (k := 0) rfl) (i := 6 * (n 3) + 112) (by omega) (by decide) dL_isStore_88 (ze_appset rfl) (fun H locs hW => ?_)
    have hW : ze_W D ((ze_wC c a n A B E) ++ [(q, .inl (c 0, 210, .inl (upd (upd (upd N (6 * (n 3) + 110) (nI (xd_in xs L i (n 0)))) (6 * (n 3) + 111) (nI (xd_in xs L (i + 1) 120 + 1))) (6 * (n 3) + 112) (nI (xd_in xs L (i + 2) 30 + 1)))))]) F s.heap _ _ := hW
    refine lv_aload_n hX_ hB_ dL_isStore_89 rfl (lv_at hl 2 rfl) ?_
    refine lv_iconst (v := 3) hX_ hB_ dL_isStore_90 (by decide) ?_
    refine lv_dup2_11 hX_ hB_ dL_isStore_91 rfl rfl ?_
    refine ze_ialdN hX_ hB_ hK hW ((ze_wC c a n A B E).length + 0) (f := (upd (upd (upd N (6 * (n 3) + 110) (nI (xd_in xs L i (n 0)))) (6 * (n 3) + 111) (nI (xd_in xs L (i + 1) 120 + 1))) (6 * (n 3) + 112) (nI (xd_in xs L (i + 2) 30 + 1)))) (ze_appL (k := 0) rfl) (i := 3) (by omega) (by decide) dL_isStore_92 ?_
    refine ze_top (xb_un (by omega)) ?_
    refine ze_top (xb_un (by omega)) ?_
    refine ze_top (xb_un (by omega)) ?_
    refine ze_top (y := nI (n 3)) hR.1.2.2.2.1 ?_
    refine lv_iconst (v := 1) hX_ hB_ dL_isStore_93 (by decide) ?_
    refine lv_iadd hX_ hB_ dL_isStore_94 ?_
    refine ze_top (xb_add (a := n 3) (b := 1) (c := n 3 + 1) (by omega)) ?_
    refine ze_iastN hX_ hB_ hK hW ((ze_wC c a n A B E).length + 0) (f := (upd (upd (upd N (6 * (n 3) + 110) (nI (xd_in xs L i (n 0)))) (6 * (n 3) + 111) (nI (xd_in xs L (i + 1) 120 + 1))) (6 * (n 3) + 112) (nI (xd_in xs L (i + 2) 30 + 1)))) (ze_appL (k := 0) rfl) (i := 3) (by omega) (by decide) dL_isStore_95 (ze_appset rfl) (fun H locs hW => ?_)
    have hW : ze_W D ((ze_wC c a n A B E) ++ [(q, .inl (c 0, 210, .inl (upd (upd (upd (upd N (6 * (n 3) + 110) (nI (xd_in xs L i (n 0)))) (6 * (n 3) + 111) (nI (xd_in xs L (i + 1) 120 + 1))) (6 * (n 3) + 112) (nI (xd_in xs L (i + 2) 30 + 1))) 3 (nI (n 3 + 1)))))]) F s.heap _ _ := hW
    refine lv_aload_n hX_ hB_ dL_isStore_96 rfl (lv_at hl 1 rfl) ?_
    refine lv_aload_n hX_ hB_ dL_isStore_97 rfl (lv_at hl 2 rfl) ?_
    refine lv_iload hX_ hB_ dL_isStore_98 (lv_at hl 0 rfl) ?_
    refine ze_ialdN hX_ hB_ hK hW ((ze_wC c a n A B E).length + 0) (f := (upd (upd (upd (upd N (6 * (n 3) + 110) (nI (xd_in xs L i (n 0)))) (6 * (n 3) + 111) (nI (xd_in xs L (i + 1) 120 + 1))) (6 * (n 3) + 112) (nI (xd_in xs L (i + 2) 30 + 1))) 3 (nI (n 3 + 1)))) (ze_appL (k := 0) rfl) (i := 6 * (n 3) + 110) (by omega) (by decide) dL_isStore_100 ?_
    refine ze_top (xb_un (by omega)) ?_
    refine ze_top (xb_un (by omega)) ?_
    refine ze_top (xb_un (by omega)) ?_
    refine ze_top (ze_updat _ _ _) ?_
    refine lv_aload_n hX_ hB_ dL_isStore_101 rfl (lv_at hl 2 rfl) ?_
    refine lv_iload hX_ hB_ dL_isStore_102 (lv_at hl 0 rfl) ?_
    refine lv_iconst (v := 1) hX_ hB_ dL_isStore_104 (by decide) ?_
    refine lv_iadd hX_ hB_ dL_isStore_105 ?_
    refine ze_top (xb_add (a := 6 * (n 3) + 110) (b := 1) (c := 6 * (n 3) + 111) (by omega)) ?_
    refine ze_ialdN hX_ hB_ hK hW ((ze_wC c a n A B E).length + 0) (f := (upd (upd (upd (upd N (6 * (n 3) + 110) (nI (xd_in xs L i (n 0)))) (6 * (n 3) + 111) (nI (xd_in xs L (i + 1) 120 + 1))) (6 * (n 3) + 112) (nI (xd_in xs L (i + 2) 30 + 1))) 3 (nI (n 3 + 1)))) (ze_appL (k := 0) rfl) (i := 6 * (n 3) + 111) (by omega) (by decide) dL_isStore_106 ?_
    refine ze_top (xb_un (by omega)) ?_
    refine ze_top (xb_un (by omega)) ?_
    refine ze_top (ze_updat _ _ _) ?_
    refine lv_aload_n hX_ hB_ dL_isStore_107 rfl (lv_at hl 2 rfl) ?_
    refine lv_iload hX_ hB_ dL_isStore_108 (lv_at hl 0 rfl) ?_
    refine lv_iconst (v := 2) hX_ hB_ dL_isStore_110 (by decide) ?_
    refine lv_iadd hX_ hB_ dL_isStore_111 ?_
    refine ze_top (xb_add (a := 6 * (n 3) + 110) (b := 2) (c := 6 * (n 3) + 112) (by omega)) ?_
    refine ze_ialdN hX_ hB_ hK hW ((ze_wC c a n A B E).length + 0) (f := (upd (upd (upd (upd N (6 * (n 3) + 110) (nI (xd_in xs L i (n 0)))) (6 * (n 3) + 111) (nI (xd_in xs L (i + 1) 120 + 1))) (6 * (n 3) + 112) (nI (xd_in xs L (i + 2) 30 + 1))) 3 (nI (n 3 + 1)))) (ze_appL (k := 0) rfl) (i := 6 * (n 3) + 112) (by omega) (by decide) dL_isStore_112 ?_
    refine ze_top (xb_un (by omega)) ?_
    refine ze_top (ze_updat _ _ _) ?_
    refine xb_FSe (As := [.ref (a 0), .int (nI (xd_in xs L i (n 0))), .int (nI (xd_in xs L (i + 1) 120 + 1)), .int (nI (xd_in xs L (i + 2) 30 + 1))]) (rest := []) S (xw_addStore_f l D c a n A B E (xd_in xs L i (n 0)) hN (by omega) (nI (xd_in xs L (i + 1) 120 + 1)) (nI (xd_in xs L (i + 2) 30 + 1)) (xd_rg (lo := 1) (hi := 999) (by omega) (by omega) (by omega)) (xd_rg (lo := 1) (hi := 99) (by omega) (by omega) (by omega)) (by omega) ((hZ.2.1 _ (Nat.le_refl _)).1) ((hZ.2.1 _ (Nat.le_refl _)).2)) (vx_cwSW 4 hts gL_isStore_L_addStore rfl rfl rfl (by decide +kernel) ⟨(Nat.le_of_ble_eq_true rfl), (Nat.le_of_ble_eq_true rfl)⟩) hG hK hW hA rfl hl.1 rfl (lv_room (Nat.le_of_ble_eq_true rfl)) dL_isStore_113 ⟨(Nat.le_of_ble_eq_true rfl), (Nat.le_of_ble_eq_true rfl)⟩ (fun qn H locs hW => ?_)
    have hW : ze_W D ((ze_wC c va_up a (30 + n 3) qn (ze_sn n 3 (n 3 + 1)) (ze_sE (ze_sE (ze_sE A 14 (n 3) (nI (xd_in xs L i (n 0)))) 15 (n 3) (nI (xd_in xs L (i + 1) 120 + 1))) 16 (n 3) (nI (xd_in xs L (i + 2) 30 + 1))) B E) ++ [(q, .inl (c 0, 210, .inl (upd (upd (upd (upd N (6 * (n 3) + 110) (nI (xd_in xs L i (n 0)))) (6 * (n 3) + 111) (nI (xd_in xs L (i + 1) 120 + 1))) (6 * (n 3) + 112) (nI (xd_in xs L (i + 2) 30 + 1))) 3 (nI (n 3 + 1)))))]) F s.heap _ _ := hW
    refine lv_aload_n hX_ hB_ dL_isStore_116 rfl (lv_at hl 2 rfl) ?_
    refine lv_iconst (v := 3) hX_ hB_ dL_isStore_117 (by decide) ?_
    refine ze_ialdN hX_ hB_ hK hW ((ze_wC c va_up a (30 + n 3) qn (ze_sn n 3 (n 3 + 1)) (ze_sE (ze_sE (ze_sE A 14 (n 3) (nI (xd_in xs L i (n 0)))) 15 (n 3) (nI (xd_in xs L (i + 1) 120 + 1))) 16 (n 3) (nI (xd_in xs L (i + 2) 30 + 1))) B E).length + 0) (f := (upd (upd (upd (upd N (6 * (n 3) + 110) (nI (xd_in xs L i (n 0)))) (6 * (n 3) + 111) (nI (xd_in xs L (i + 1) 120 + 1))) (6 * (n 3) + 112) (nI (xd_in xs L (i + 2) 30 + 1))) 3 (nI (n 3 + 1)))) (ze_appL (k := 0) rfl) (i := 3) (by omega) (by decide) dL_isStore_118 ?_
    refine ze_top (ze_updat _ _ _) ?_
    refine lv_iconst (v := 1) hX_ hB_ dL_isStore_119 (by decide) ?_
    refine lv_isub hX_ hB_ dL_isStore_120 ?_
    refine ze_top (nI_pred (n 3)) ?_
    refine lv_icmp_ne (tgt := 128) hX_ hB_ dL_isStore_121 (by decide) (fun c121 => ?_) (fun c121 => ?_)
    · exact absurd rfl c121
    · have c121 : (n 3) = (n 3) := (nI_eq (a := (n 3)) (b := (n 3)) (by omega) (by omega)).mp c121
      refine lv_iconst (v := 1) hX_ hB_ dL_isStore_124 (by decide) ?_
      refine lv_goto (tgt := 129) hX_ hB_ dL_isStore_125 (by decide) ?_
      exact xb_iret (T := xd_T) (va_up a (30 + n 3) qn, (ze_sn n 3 (n 3 + 1)), (ze_sE (ze_sE (ze_sE A 14 (n 3) (nI (xd_in xs L i (n 0)))) 15 (n 3) (nI (xd_in xs L (i + 1) 120 + 1))) 16 (n 3) (nI (xd_in xs L (i + 2) 30 + 1))), B, E, (upd (upd (upd (upd N (6 * (n 3) + 110) (nI (xd_in xs L i (n 0)))) (6 * (n 3) + 111) (nI (xd_in xs L (i + 1) 120 + 1))) (6 * (n 3) + 112) (nI (xd_in xs L (i + 2) 30 + 1))) 3 (nI (n 3 + 1)))) S hr hlocks hF hK hW rfl dL_isStore_129 (Nat.le_of_ble_eq_true rfl) (Nat.le_of_ble_eq_true rfl) ⟨rfl, ⟨(va_up_ne _ _ (by omega)), (xd_store hI (by omega) (by omega) (by omega) (by omega) (by omega) (by omega)), rfl, Nat.le_refl _, Nat.le_refl _⟩⟩ rfl
  · have c15 : (n 3) = 4 := (nI_eq (a := (n 3)) (b := 4) (by omega) (by omega)).mp c15
    refine lv_aload_n hX_ hB_ dL_isStore_18 rfl (lv_at hl 1 rfl) ?_
    refine lv_aload_n hX_ hB_ dL_isStore_19 rfl (lv_at hl 3 rfl) ?_
    refine lv_iload_n hX_ hB_ dL_isStore_20 rfl (lv_at hl 4 rfl) ?_
    refine lv_aload_n hX_ hB_ dL_isStore_21 rfl (lv_at hl 2 rfl) ?_
    refine lv_iconst (v := 0) hX_ hB_ dL_isStore_22 (by decide) ?_
    refine ze_ialdN hX_ hB_ hK hW ((ze_wC c a n A B E).length + 0) (f := N) (ze_appL (k := 0) rfl) (i := 0) (by omega) (by decide) dL_isStore_23 ?_
    refine ze_top (y := nI (n 0)) hR.1.1 ?_
    have hW : ze_W D (([] : va_W) ++ ((ze_wC c a n A B E) ++ [(q, .inl (c 0, 210, .inl N))])) F s.heap _ _ := hW
    refine xb_FSx (As := [.ref b, .int (nI i), .int (nI (n 0))]) (rest := [.ref (a 0)]) S (xj_in l D c b L xs hL i (by omega) (n 0) (by omega) (by omega)) (va_cwS 3 hts gL_isStore_L_in rfl rfl rfl (by decide +kernel) ⟨(Nat.le_of_ble_eq_true rfl), (Nat.le_of_ble_eq_true rfl)⟩) (Or.inr rfl) hG hK hW hA rfl hl.1 rfl (lv_room (Nat.le_of_ble_eq_true rfl)) dL_isStore_24 ⟨(Nat.le_of_ble_eq_true rfl), (Nat.le_of_ble_eq_true rfl)⟩ (fun H locs hW => ?_)
    have hv24 := xd_inlt (xs := xs) (L := L) (i := i) (k := n 0) (by omega)
    have hW : ze_W D ((ze_wC c a n A B E) ++ [(q, .inl (c 0, 210, .inl N))]) F s.heap _ _ := hW
    refine lv_iconst (v := 1) hX_ hB_ dL_isStore_27 (by decide) ?_
    refine lv_iconst (v := 1) hX_ hB_ dL_isStore_28 (by decide) ?_
    refine xb_FSq (As := [.ref (a 0), .int (nI (xd_in xs L i (n 0))), .int 1, .int 1]) (rest := []) S (xw_addStore_t3 l D hst c a n A B E (xd_in xs L i (n 0)) hN (by omega) 1 1 (by decide) (by decide) (by omega)) (vx_cwSW 4 hts gL_isStore_L_addStore rfl rfl rfl (by decide +kernel) ⟨(Nat.le_of_ble_eq_true rfl), (Nat.le_of_ble_eq_true rfl)⟩) hG hK hW hA rfl hl.1 rfl (lv_room (Nat.le_of_ble_eq_true rfl)) dL_isStore_29 ⟨(Nat.le_of_ble_eq_true rfl), (Nat.le_of_ble_eq_true rfl)⟩ (fun H locs hW => ?_)
    have hW : ze_W D ((ze_wC c a n A B E) ++ [(q, .inl (c 0, 210, .inl N))]) F s.heap _ _ := hW
    refine lv_ldc (own := RL) (v := -900003) hX_ hB_ S.2.2.2.1 w0 dL_isStore_32 ?_
    refine lv_icmp_ne (tgt := 41) hX_ hB_ dL_isStore_34 (by decide) (fun c34 => ?_) (fun c34 => ?_)
    · exact absurd c34 (by decide)
    · refine lv_iconst (v := 1) hX_ hB_ dL_isStore_37 (by decide) ?_
      refine lv_goto (tgt := 42) hX_ hB_ dL_isStore_38 (by decide) ?_
      exact xb_iret (T := xd_T) (a, n, A, B, E, N) S hr hlocks hF hK hW rfl dL_isStore_42 (Nat.le_of_ble_eq_true rfl) (Nat.le_of_ble_eq_true rfl) ⟨rfl, ⟨rfl, hI, rfl, Nat.le_refl _, Nat.le_refl _⟩⟩ rfl
set_option maxHeartbeats 8000000 in
set_option maxRecDepth 100000 in
theorem xj_isLoad (l : Launch) (D : va_G) (hst : l.stackTraces = false) (c : Nat → ClassId) (q : Nat) (a n : Nat → Nat) (A : Nat → Nat → Int32) (B : Nat → Int64) (E : Nat → Nat → Int32) (N : Nat → Int32) (t : Nat) (hI : xd_I n A B E N t) (b L : Nat) (xs : Nat → Int32)  (hL : L ≤ 260) (i : Nat) (hi : i < 1000) (h0 : 0 < n 0) : xb_M (T := xd_T) l yL_isLoad wsL_isLoad 8 129 1 6 D c (some (b, L, xs)) ((ze_wC c a n A B E) ++ [(q, .inl (c 0, 210, .inl N))]) [.ref (a 0), .ref q, .ref b, .int (nI i)] (fun r (u : xd_T) => r = 1 ∧ xd_P (a 0) n (t) u ∧ 1 ≤ u.2.1 4) (fun u => xd_w c q u) := by
  intro sz
  refine xb_start (cc := cL_isLoad) (maxL := 5) (ret := (some .boolean)) (own := RL) (by decide) rfl rfl (Nat.le_of_ble_eq_true rfl) ?_
  have hKc := xd_K hI
  have hH := xc_KH hKc
  obtain ⟨hV, hR, hPh, hY, hWu⟩ := id hI
  obtain ⟨hN, hS, hE, hz, h4, h4z, hT, hC, hKz, hZ, hp⟩ := id hV
  obtain ⟨hn0, hn1, hn2, hn3, hn4⟩ := id hN
  have hE1 := zv_hE hV
  intro p e s m_ below meth cd F ls hF hsz E0 hG
  obtain ⟨S, hr, hlocks, hK, hW, hA, hl⟩ := E0
  have hX_ := S.1
  have hB_ := S.2.1
  have hts := S.2.2.2.2
  have hl : lv_has ls 5 [(0, .ref (a 0)), (1, .ref q), (2, .ref b), (3, .int (nI i))] := hl
  have w0 := hts (.constant RL 30 (-900003)) (List.mem_cons_of_mem _ (List.mem_append_left _ (List.mem_append_left _ (List.mem_append_left _ (List.mem_append_left _ (List.mem_append_left _ (List.mem_append_left _ (List.mem_append_left _ (List.mem_append_left _ (List.mem_of_getElem? (i := 0) rfl))))))))))
  refine lv_sipush (v := 140) hX_ hB_ dL_isLoad_0 (by decide) ?_
  refine lv_iconst (v := 5) hX_ hB_ dL_isLoad_3 (by decide) ?_
  refine lv_aload_n hX_ hB_ dL_isLoad_4 rfl (lv_at hl 1 rfl) ?_
  refine lv_iconst (v := 4) hX_ hB_ dL_isLoad_5 (by decide) ?_
  refine ze_ialdN hX_ hB_ hK hW ((ze_wC c a n A B E).length + 0) (f := N) (ze_appL (k := 0) rfl) (i := 4) (by omega) (by decide) dL_isLoad_6 ?_
  refine ze_top (y := nI (n 4)) hR.1.2.2.2.2 ?_
  refine lv_imul hX_ hB_ dL_isLoad_7 ?_
  refine ze_top (xb_mul (a := 5) (b := n 4) (c := 5 * (n 4)) (by omega)) ?_
  refine lv_iadd hX_ hB_ dL_isLoad_8 ?_
  refine ze_top (xb_add (a := 140) (b := 5 * (n 4)) (c := 5 * (n 4) + 140) (by omega)) ?_
  refine lv_istore (lv' := [(4, .int (nI (5 * (n 4) + 140))), (0, .ref (a 0)), (1, .ref q), (2, .ref b), (3, .int (nI i))]) hX_ hB_ dL_isLoad_9 hl (by decide) rfl (fun ls hl => ?_)
  refine lv_aload_n hX_ hB_ dL_isLoad_11 rfl (lv_at hl 2 rfl) ?_
  refine lv_iconst (v := 4) hX_ hB_ dL_isLoad_12 (by decide) ?_
  refine ze_ialdN hX_ hB_ hK hW ((ze_wC c a n A B E).length + 0) (f := N) (ze_appL (k := 0) rfl) (i := 4) (by omega) (by decide) dL_isLoad_13 ?_
  refine ze_top (y := nI (n 4)) hR.1.2.2.2.2 ?_
  refine lv_bipush (v := 10) hX_ hB_ dL_isLoad_14 (by decide) ?_
  refine lv_icmp_ne (tgt := 44) hX_ hB_ dL_isLoad_16 (by decide) (fun c16 => ?_) (fun c16 => ?_)
  · have c16 : ¬ (n 4) = 10 := fun h9 => c16 ((nI_eq (a := (n 4)) (b := 10) (by omega) (by omega)).mpr h9)
    refine lv_aload_n hX_ hB_ dL_isLoad_44 rfl (lv_at hl 2 rfl) ?_
    refine lv_iload hX_ hB_ dL_isLoad_45 (lv_at hl 0 rfl) ?_
    refine lv_aload_n hX_ hB_ dL_isLoad_47 rfl (lv_at hl 3 rfl) ?_
    refine lv_iload_n hX_ hB_ dL_isLoad_48 rfl (lv_at hl 4 rfl) ?_
    refine lv_aload_n hX_ hB_ dL_isLoad_49 rfl (lv_at hl 2 rfl) ?_
    refine lv_iconst (v := 0) hX_ hB_ dL_isLoad_50 (by decide) ?_
    refine ze_ialdN hX_ hB_ hK hW ((ze_wC c a n A B E).length + 0) (f := N) (ze_appL (k := 0) rfl) (i := 0) (by omega) (by decide) dL_isLoad_51 ?_
    refine ze_top (y := nI (n 0)) hR.1.1 ?_
    have hW : ze_W D (([] : va_W) ++ ((ze_wC c a n A B E) ++ [(q, .inl (c 0, 210, .inl N))])) F s.heap _ _ := hW
    refine xb_FSx (As := [.ref b, .int (nI i), .int (nI (n 0))]) (rest := [.int (nI (5 * (n 4) + 140)), .ref q]) S (xj_in l D c b L xs hL i (by omega) (n 0) (by omega) (by omega)) (va_cwS 3 hts gL_isLoad_L_in rfl rfl rfl (by decide +kernel) ⟨(Nat.le_of_ble_eq_true rfl), (Nat.le_of_ble_eq_true rfl)⟩) (Or.inr rfl) hG hK hW hA rfl hl.1 rfl (lv_room (Nat.le_of_ble_eq_true rfl)) dL_isLoad_52 ⟨(Nat.le_of_ble_eq_true rfl), (Nat.le_of_ble_eq_true rfl)⟩ (fun H locs hW => ?_)
    have hv52 := xd_inlt (xs := xs) (L := L) (i := i) (k := n 0) (by omega)
    have hW : ze_W D ((ze_wC c a n A B E) ++ [(q, .inl (c 0, 210, .inl N))]) F s.heap _ _ := hW
    refine ze_iastN hX_ hB_ hK hW ((ze_wC c a n A B E).length + 0) (f := N) (ze_appL (k := 0) rfl) (i := 5 * (n 4) + 140) (by omega) (by decide) dL_isLoad_55 (ze_appset rfl) (fun H locs hW => ?_)
    have hW : ze_W D ((ze_wC c a n A B E) ++ [(q, .inl (c 0, 210, .inl (upd N (5 * (n 4) + 140) (nI (xd_in xs L i (n 0))))))]) F s.heap _ _ := hW
    refine lv_aload_n hX_ hB_ dL_isLoad_56 rfl (lv_at hl 2 rfl) ?_
    refine lv_iload hX_ hB_ dL_isLoad_57 (lv_at hl 0 rfl) ?_
    refine lv_iconst (v := 1) hX_ hB_ dL_isLoad_59 (by decide) ?_
    refine lv_iadd hX_ hB_ dL_isLoad_60 ?_
    refine ze_top (xb_add (a := 5 * (n 4) + 140) (b := 1) (c := 5 * (n 4) + 141) (by omega)) ?_
    refine lv_iconst (v := 1) hX_ hB_ dL_isLoad_61 (by decide) ?_
    refine lv_aload_n hX_ hB_ dL_isLoad_62 rfl (lv_at hl 3 rfl) ?_
    refine lv_iload_n hX_ hB_ dL_isLoad_63 rfl (lv_at hl 4 rfl) ?_
    refine lv_iconst (v := 1) hX_ hB_ dL_isLoad_64 (by decide) ?_
    refine lv_iadd hX_ hB_ dL_isLoad_65 ?_
    refine ze_top (xb_add (a := i) (b := 1) (c := i + 1) (by omega)) ?_
    refine lv_bipush (v := 50) hX_ hB_ dL_isLoad_66 (by decide) ?_
    have hW : ze_W D (([] : va_W) ++ ((ze_wC c a n A B E) ++ [(q, .inl (c 0, 210, .inl (upd N (5 * (n 4) + 140) (nI (xd_in xs L i (n 0))))))])) F s.heap _ _ := hW
    refine xb_FSx (As := [.ref b, .int (nI (i + 1)), .int 50]) (rest := [.int 1, .int (nI (5 * (n 4) + 141)), .ref q]) S (xj_in l D c b L xs hL (i + 1) (by omega) 50 (by omega) (by omega)) (va_cwS 3 hts gL_isLoad_L_in rfl rfl rfl (by decide +kernel) ⟨(Nat.le_of_ble_eq_true rfl), (Nat.le_of_ble_eq_true rfl)⟩) (Or.inr rfl) hG hK hW hA rfl hl.1 rfl (lv_room (Nat.le_of_ble_eq_true rfl)) dL_isLoad_68 ⟨(Nat.le_of_ble_eq_true rfl), (Nat.le_of_ble_eq_true rfl)⟩ (fun H locs hW => ?_)
    have hv68 := xd_inlt (xs := xs) (L := L) (i := i + 1) (k := 50) (by omega)
    have hW : ze_W D ((ze_wC c a n A B E) ++ [(q, .inl (c 0, 210, .inl (upd N (5 * (n 4) + 140) (nI (xd_in xs L i (n 0))))))]) F s.heap _ _ := hW
    refine lv_iadd hX_ hB_ dL_isLoad_71 ?_
    refine ze_top (xb_add (a := 1) (b := xd_in xs L (i + 1) 50) (c := xd_in xs L (i + 1) 50 + 1) (by omega)) ?_
    refine ze_iastN hX_ hB_ hK hW ((ze_wC c a n A B E).length + 0) (f := (upd N (5 * (n 4) + 140) (nI (xd_in xs L i (n 0))))) (ze_appL (k := 0) rfl) (i := 5 * (n 4) + 141) (by omega) (by decide) dL_isLoad_72 (ze_appset rfl) (fun H locs hW => ?_)
    have hW : ze_W D ((ze_wC c a n A B E) ++ [(q, .inl (c 0, 210, .inl (upd (upd N (5 * (n 4) + 140) (nI (xd_in xs L i (n 0)))) (5 * (n 4) + 141) (nI (xd_in xs L (i + 1) 50 + 1)))))]) F s.heap _ _ := hW
    refine lv_aload_n hX_ hB_ dL_isLoad_73 rfl (lv_at hl 2 rfl) ?_
    refine lv_iload hX_ hB_ dL_isLoad_74 (lv_at hl 0 rfl) ?_
    refine lv_iconst (v := 2) hX_ hB_ dL_isLoad_76 (by decide) ?_
    refine lv_iadd hX_ hB_ dL_isLoad_77 ?_
    refine ze_top (xb_add (a := 5 * (n 4) + 140) (b := 2) (c := 5 * (n 4) + 142) (by omega)) ?_
    refine lv_iconst (v := 1) hX_ hB_ dL_isLoad_78 (by decide) ?_
    refine lv_aload_n hX_ hB_ dL_isLoad_79 rfl (lv_at hl 3 rfl) ?_
    refine lv_iload_n hX_ hB_ dL_isLoad_80 rfl (lv_at hl 4 rfl) ?_
    refine lv_iconst (v := 2) hX_ hB_ dL_isLoad_81 (by decide) ?_
    refine lv_iadd hX_ hB_ dL_isLoad_82 ?_
    refine ze_top (xb_add (a := i) (b := 2) (c := i + 2) (by omega)) ?_
    refine lv_iconst (v := 4) hX_ hB_ dL_isLoad_83 (by decide) ?_
    have hW : ze_W D (([] : va_W) ++ ((ze_wC c a n A B E) ++ [(q, .inl (c 0, 210, .inl (upd (upd N (5 * (n 4) + 140) (nI (xd_in xs L i (n 0)))) (5 * (n 4) + 141) (nI (xd_in xs L (i + 1) 50 + 1)))))])) F s.heap _ _ := hW
    refine xb_FSx (As := [.ref b, .int (nI (i + 2)), .int 4]) (rest := [.int 1, .int (nI (5 * (n 4) + 142)), .ref q]) S (xj_in l D c b L xs hL (i + 2) (by omega) 4 (by omega) (by omega)) (va_cwS 3 hts gL_isLoad_L_in rfl rfl rfl (by decide +kernel) ⟨(Nat.le_of_ble_eq_true rfl), (Nat.le_of_ble_eq_true rfl)⟩) (Or.inr rfl) hG hK hW hA rfl hl.1 rfl (lv_room (Nat.le_of_ble_eq_true rfl)) dL_isLoad_84 ⟨(Nat.le_of_ble_eq_true rfl), (Nat.le_of_ble_eq_true rfl)⟩ (fun H locs hW => ?_)
    have hv84 := xd_inlt (xs := xs) (L := L) (i := i + 2) (k := 4) (by omega)
    have hW : ze_W D ((ze_wC c a n A B E) ++ [(q, .inl (c 0, 210, .inl (upd (upd N (5 * (n 4) + 140) (nI (xd_in xs L i (n 0)))) (5 * (n 4) + 141) (nI (xd_in xs L (i + 1) 50 + 1)))))]) F s.heap _ _ := hW
    refine lv_iadd hX_ hB_ dL_isLoad_87 ?_
    refine ze_top (xb_add (a := 1) (b := xd_in xs L (i + 2) 4) (c := xd_in xs L (i + 2) 4 + 1) (by omega)) ?_
    refine ze_iastN hX_ hB_ hK hW ((ze_wC c a n A B E).length + 0) (f := (upd (upd N (5 * (n 4) + 140) (nI (xd_in xs L i (n 0)))) (5 * (n 4) + 141) (nI (xd_in xs L (i + 1) 50 + 1)))) (ze_appL (k := 0) rfl) (i := 5 * (n 4) + 142) (by omega) (by decide) dL_isLoad_88 (ze_appset rfl) (fun H locs hW => ?_)
    have hW : ze_W D ((ze_wC c a n A B E) ++ [(q, .inl (c 0, 210, .inl (upd (upd (upd N (5 * (n 4) + 140) (nI (xd_in xs L i (n 0)))) (5 * (n 4) + 141) (nI (xd_in xs L (i + 1) 50 + 1))) (5 * (n 4) + 142) (nI (xd_in xs L (i + 2) 4 + 1)))))]) F s.heap _ _ := hW
    refine lv_aload_n hX_ hB_ dL_isLoad_89 rfl (lv_at hl 2 rfl) ?_
    refine lv_iconst (v := 4) hX_ hB_ dL_isLoad_90 (by decide) ?_
    refine lv_dup2_11 hX_ hB_ dL_isLoad_91 rfl rfl ?_
    refine ze_ialdN hX_ hB_ hK hW ((ze_wC c a n A B E).length + 0) (f := (upd (upd (upd N (5 * (n 4) + 140) (nI (xd_in xs L i (n 0)))) (5 * (n 4) + 141) (nI (xd_in xs L (i + 1) 50 + 1))) (5 * (n 4) + 142) (nI (xd_in xs L (i + 2) 4 + 1)))) (ze_appL (k := 0) rfl) (i := 4) (by omega) (by decide) dL_isLoad_92 ?_
    refine ze_top (xb_un (by omega)) ?_
    refine ze_top (xb_un (by omega)) ?_
    refine ze_top (xb_un (by omega)) ?_
    refine ze_top (y := nI (n 4)) hR.1.2.2.2.2 ?_
    refine lv_iconst (v := 1) hX_ hB_ dL_isLoad_93 (by decide) ?_
    refine lv_iadd hX_ hB_ dL_isLoad_94 ?_
    refine ze_top (xb_add (a := n 4) (b := 1) (c := n 4 + 1) (by omega)) ?_
    refine ze_iastN hX_ hB_ hK hW ((ze_wC c a n A B E).length + 0) (f := (upd (upd (upd N (5 * (n 4) + 140) (nI (xd_in xs L i (n 0)))) (5 * (n 4) + 141) (nI (xd_in xs L (i + 1) 50 + 1))) (5 * (n 4) + 142) (nI (xd_in xs L (i + 2) 4 + 1)))) (ze_appL (k := 0) rfl) (i := 4) (by omega) (by decide) dL_isLoad_95 (ze_appset rfl) (fun H locs hW => ?_)
    have hW : ze_W D ((ze_wC c a n A B E) ++ [(q, .inl (c 0, 210, .inl (upd (upd (upd (upd N (5 * (n 4) + 140) (nI (xd_in xs L i (n 0)))) (5 * (n 4) + 141) (nI (xd_in xs L (i + 1) 50 + 1))) (5 * (n 4) + 142) (nI (xd_in xs L (i + 2) 4 + 1))) 4 (nI (n 4 + 1)))))]) F s.heap _ _ := hW
    refine lv_aload_n hX_ hB_ dL_isLoad_96 rfl (lv_at hl 1 rfl) ?_
    refine lv_aload_n hX_ hB_ dL_isLoad_97 rfl (lv_at hl 2 rfl) ?_
    refine lv_iload hX_ hB_ dL_isLoad_98 (lv_at hl 0 rfl) ?_
    refine ze_ialdN hX_ hB_ hK hW ((ze_wC c a n A B E).length + 0) (f := (upd (upd (upd (upd N (5 * (n 4) + 140) (nI (xd_in xs L i (n 0)))) (5 * (n 4) + 141) (nI (xd_in xs L (i + 1) 50 + 1))) (5 * (n 4) + 142) (nI (xd_in xs L (i + 2) 4 + 1))) 4 (nI (n 4 + 1)))) (ze_appL (k := 0) rfl) (i := 5 * (n 4) + 140) (by omega) (by decide) dL_isLoad_100 ?_
    refine ze_top (xb_un (by omega)) ?_
    refine ze_top (xb_un (by omega)) ?_
    refine ze_top (xb_un (by omega)) ?_
    refine ze_top (ze_updat _ _ _) ?_
    refine lv_aload_n hX_ hB_ dL_isLoad_101 rfl (lv_at hl 2 rfl) ?_
    refine lv_iload hX_ hB_ dL_isLoad_102 (lv_at hl 0 rfl) ?_
    refine lv_iconst (v := 1) hX_ hB_ dL_isLoad_104 (by decide) ?_
    refine lv_iadd hX_ hB_ dL_isLoad_105 ?_
    refine ze_top (xb_add (a := 5 * (n 4) + 140) (b := 1) (c := 5 * (n 4) + 141) (by omega)) ?_
    refine ze_ialdN hX_ hB_ hK hW ((ze_wC c a n A B E).length + 0) (f := (upd (upd (upd (upd N (5 * (n 4) + 140) (nI (xd_in xs L i (n 0)))) (5 * (n 4) + 141) (nI (xd_in xs L (i + 1) 50 + 1))) (5 * (n 4) + 142) (nI (xd_in xs L (i + 2) 4 + 1))) 4 (nI (n 4 + 1)))) (ze_appL (k := 0) rfl) (i := 5 * (n 4) + 141) (by omega) (by decide) dL_isLoad_106 ?_
    refine ze_top (xb_un (by omega)) ?_
    refine ze_top (xb_un (by omega)) ?_
    refine ze_top (ze_updat _ _ _) ?_
    refine lv_aload_n hX_ hB_ dL_isLoad_107 rfl (lv_at hl 2 rfl) ?_
    refine lv_iload hX_ hB_ dL_isLoad_108 (lv_at hl 0 rfl) ?_
    refine lv_iconst (v := 2) hX_ hB_ dL_isLoad_110 (by decide) ?_
    refine lv_iadd hX_ hB_ dL_isLoad_111 ?_
    refine ze_top (xb_add (a := 5 * (n 4) + 140) (b := 2) (c := 5 * (n 4) + 142) (by omega)) ?_
    refine ze_ialdN hX_ hB_ hK hW ((ze_wC c a n A B E).length + 0) (f := (upd (upd (upd (upd N (5 * (n 4) + 140) (nI (xd_in xs L i (n 0)))) (5 * (n 4) + 141) (nI (xd_in xs L (i + 1) 50 + 1))) (5 * (n 4) + 142) (nI (xd_in xs L (i + 2) 4 + 1))) 4 (nI (n 4 + 1)))) (ze_appL (k := 0) rfl) (i := 5 * (n 4) + 142) (by omega) (by decide) dL_isLoad_112 ?_
    refine ze_top (xb_un (by omega)) ?_
    refine ze_top (ze_updat _ _ _) ?_
    refine xb_FSe (As := [.ref (a 0), .int (nI (xd_in xs L i (n 0))), .int (nI (xd_in xs L (i + 1) 50 + 1)), .int (nI (xd_in xs L (i + 2) 4 + 1))]) (rest := []) S (xw_addLoad_f l D c a n A B E (xd_in xs L i (n 0)) hN (by omega) (nI (xd_in xs L (i + 1) 50 + 1)) (nI (xd_in xs L (i + 2) 4 + 1)) (xd_rg (lo := 1) (hi := 200) (by omega) (by omega) (by omega)) (xd_rg (lo := 1) (hi := 9) (by omega) (by omega) (by omega)) (by omega) ((hZ.2.2 _ (Nat.le_refl _)).1) ((hZ.2.2 _ (Nat.le_refl _)).2)) (vx_cwSW 4 hts gL_isLoad_L_addLoad rfl rfl rfl (by decide +kernel) ⟨(Nat.le_of_ble_eq_true rfl), (Nat.le_of_ble_eq_true rfl)⟩) hG hK hW hA rfl hl.1 rfl (lv_room (Nat.le_of_ble_eq_true rfl)) dL_isLoad_113 ⟨(Nat.le_of_ble_eq_true rfl), (Nat.le_of_ble_eq_true rfl)⟩ (fun qn H locs hW => ?_)
    have hW : ze_W D ((ze_wC c va_up a (40 + n 4) qn (ze_sn n 4 (n 4 + 1)) (ze_sE (ze_sE (ze_sE A 19 (n 4) (nI (xd_in xs L i (n 0)))) 20 (n 4) (nI (xd_in xs L (i + 1) 50 + 1))) 21 (n 4) (nI (xd_in xs L (i + 2) 4 + 1))) B E) ++ [(q, .inl (c 0, 210, .inl (upd (upd (upd (upd N (5 * (n 4) + 140) (nI (xd_in xs L i (n 0)))) (5 * (n 4) + 141) (nI (xd_in xs L (i + 1) 50 + 1))) (5 * (n 4) + 142) (nI (xd_in xs L (i + 2) 4 + 1))) 4 (nI (n 4 + 1)))))]) F s.heap _ _ := hW
    refine lv_aload_n hX_ hB_ dL_isLoad_116 rfl (lv_at hl 2 rfl) ?_
    refine lv_iconst (v := 4) hX_ hB_ dL_isLoad_117 (by decide) ?_
    refine ze_ialdN hX_ hB_ hK hW ((ze_wC c va_up a (40 + n 4) qn (ze_sn n 4 (n 4 + 1)) (ze_sE (ze_sE (ze_sE A 19 (n 4) (nI (xd_in xs L i (n 0)))) 20 (n 4) (nI (xd_in xs L (i + 1) 50 + 1))) 21 (n 4) (nI (xd_in xs L (i + 2) 4 + 1))) B E).length + 0) (f := (upd (upd (upd (upd N (5 * (n 4) + 140) (nI (xd_in xs L i (n 0)))) (5 * (n 4) + 141) (nI (xd_in xs L (i + 1) 50 + 1))) (5 * (n 4) + 142) (nI (xd_in xs L (i + 2) 4 + 1))) 4 (nI (n 4 + 1)))) (ze_appL (k := 0) rfl) (i := 4) (by omega) (by decide) dL_isLoad_118 ?_
    refine ze_top (ze_updat _ _ _) ?_
    refine lv_iconst (v := 1) hX_ hB_ dL_isLoad_119 (by decide) ?_
    refine lv_isub hX_ hB_ dL_isLoad_120 ?_
    refine ze_top (nI_pred (n 4)) ?_
    refine lv_icmp_ne (tgt := 128) hX_ hB_ dL_isLoad_121 (by decide) (fun c121 => ?_) (fun c121 => ?_)
    · exact absurd rfl c121
    · have c121 : (n 4) = (n 4) := (nI_eq (a := (n 4)) (b := (n 4)) (by omega) (by omega)).mp c121
      refine lv_iconst (v := 1) hX_ hB_ dL_isLoad_124 (by decide) ?_
      refine lv_goto (tgt := 129) hX_ hB_ dL_isLoad_125 (by decide) ?_
      exact xb_iret (T := xd_T) (va_up a (40 + n 4) qn, (ze_sn n 4 (n 4 + 1)), (ze_sE (ze_sE (ze_sE A 19 (n 4) (nI (xd_in xs L i (n 0)))) 20 (n 4) (nI (xd_in xs L (i + 1) 50 + 1))) 21 (n 4) (nI (xd_in xs L (i + 2) 4 + 1))), B, E, (upd (upd (upd (upd N (5 * (n 4) + 140) (nI (xd_in xs L i (n 0)))) (5 * (n 4) + 141) (nI (xd_in xs L (i + 1) 50 + 1))) (5 * (n 4) + 142) (nI (xd_in xs L (i + 2) 4 + 1))) 4 (nI (n 4 + 1)))) S hr hlocks hF hK hW rfl dL_isLoad_129 (Nat.le_of_ble_eq_true rfl) (Nat.le_of_ble_eq_true rfl) ⟨rfl, ⟨(va_up_ne _ _ (by omega)), (xd_load hI (by omega) (by omega) (by omega) (by omega) (by omega)), rfl, Nat.le_refl _, Nat.le_succ _⟩, Nat.succ_le_succ (Nat.zero_le _)⟩ rfl
  · have c16 : (n 4) = 10 := (nI_eq (a := (n 4)) (b := 10) (by omega) (by omega)).mp c16
    refine lv_aload_n hX_ hB_ dL_isLoad_19 rfl (lv_at hl 1 rfl) ?_
    refine lv_aload_n hX_ hB_ dL_isLoad_20 rfl (lv_at hl 3 rfl) ?_
    refine lv_iload_n hX_ hB_ dL_isLoad_21 rfl (lv_at hl 4 rfl) ?_
    refine lv_aload_n hX_ hB_ dL_isLoad_22 rfl (lv_at hl 2 rfl) ?_
    refine lv_iconst (v := 0) hX_ hB_ dL_isLoad_23 (by decide) ?_
    refine ze_ialdN hX_ hB_ hK hW ((ze_wC c a n A B E).length + 0) (f := N) (ze_appL (k := 0) rfl) (i := 0) (by omega) (by decide) dL_isLoad_24 ?_
    refine ze_top (y := nI (n 0)) hR.1.1 ?_
    have hW : ze_W D (([] : va_W) ++ ((ze_wC c a n A B E) ++ [(q, .inl (c 0, 210, .inl N))])) F s.heap _ _ := hW
    refine xb_FSx (As := [.ref b, .int (nI i), .int (nI (n 0))]) (rest := [.ref (a 0)]) S (xj_in l D c b L xs hL i (by omega) (n 0) (by omega) (by omega)) (va_cwS 3 hts gL_isLoad_L_in rfl rfl rfl (by decide +kernel) ⟨(Nat.le_of_ble_eq_true rfl), (Nat.le_of_ble_eq_true rfl)⟩) (Or.inr rfl) hG hK hW hA rfl hl.1 rfl (lv_room (Nat.le_of_ble_eq_true rfl)) dL_isLoad_25 ⟨(Nat.le_of_ble_eq_true rfl), (Nat.le_of_ble_eq_true rfl)⟩ (fun H locs hW => ?_)
    have hv25 := xd_inlt (xs := xs) (L := L) (i := i) (k := n 0) (by omega)
    have hW : ze_W D ((ze_wC c a n A B E) ++ [(q, .inl (c 0, 210, .inl N))]) F s.heap _ _ := hW
    refine lv_iconst (v := 1) hX_ hB_ dL_isLoad_28 (by decide) ?_
    refine lv_iconst (v := 1) hX_ hB_ dL_isLoad_29 (by decide) ?_
    refine xb_FSq (As := [.ref (a 0), .int (nI (xd_in xs L i (n 0))), .int 1, .int 1]) (rest := []) S (xw_addLoad_t3 l D hst c a n A B E (xd_in xs L i (n 0)) hN (by omega) 1 1 (by decide) (by decide) (by omega)) (vx_cwSW 4 hts gL_isLoad_L_addLoad rfl rfl rfl (by decide +kernel) ⟨(Nat.le_of_ble_eq_true rfl), (Nat.le_of_ble_eq_true rfl)⟩) hG hK hW hA rfl hl.1 rfl (lv_room (Nat.le_of_ble_eq_true rfl)) dL_isLoad_30 ⟨(Nat.le_of_ble_eq_true rfl), (Nat.le_of_ble_eq_true rfl)⟩ (fun H locs hW => ?_)
    have hW : ze_W D ((ze_wC c a n A B E) ++ [(q, .inl (c 0, 210, .inl N))]) F s.heap _ _ := hW
    refine lv_ldc (own := RL) (v := -900003) hX_ hB_ S.2.2.2.1 w0 dL_isLoad_33 ?_
    refine lv_icmp_ne (tgt := 42) hX_ hB_ dL_isLoad_35 (by decide) (fun c35 => ?_) (fun c35 => ?_)
    · exact absurd c35 (by decide)
    · refine lv_iconst (v := 1) hX_ hB_ dL_isLoad_38 (by decide) ?_
      refine lv_goto (tgt := 43) hX_ hB_ dL_isLoad_39 (by decide) ?_
      exact xb_iret (T := xd_T) (a, n, A, B, E, N) S hr hlocks hF hK hW rfl dL_isLoad_43 (Nat.le_of_ble_eq_true rfl) (Nat.le_of_ble_eq_true rfl) ⟨rfl, ⟨rfl, hI, rfl, Nat.le_refl _, Nat.le_refl _⟩, (by omega)⟩ rfl
set_option maxHeartbeats 8000000 in
set_option maxRecDepth 100000 in
theorem xj_isSwitched (l : Launch) (D : va_G) (hst : l.stackTraces = false) (c : Nat → ClassId) (q : Nat) (a n : Nat → Nat) (A : Nat → Nat → Int32) (B : Nat → Int64) (E : Nat → Nat → Int32) (N : Nat → Int32) (t : Nat) (hI : xd_I n A B E N t) (i : Nat) (hi : i < n 1) : xb_M (T := xd_T) l yL_isSwitched wsL_isSwitched 8 134 2 12 D c none ((ze_wC c a n A B E) ++ [(q, .inl (c 0, 210, .inl N))]) [.ref (a 0), .ref q, .int (nI i)] (fun r (u : xd_T) => r = 1 ∧ xd_P (a 0) n (t) u) (fun u => xd_w c q u) := by
  intro sz
  refine xb_start (cc := cL_isSwitched) (maxL := 3) (ret := (some .boolean)) (own := RL) (by decide) rfl rfl (Nat.le_of_ble_eq_true rfl) ?_
  have hKc := xd_K hI
  have hH := xc_KH hKc
  obtain ⟨hV, hR, hPh, hY, hWu⟩ := id hI
  obtain ⟨hN, hS, hE, hz, h4, h4z, hT, hC, hKz, hZ, hp⟩ := id hV
  obtain ⟨hn0, hn1, hn2, hn3, hn4⟩ := id hN
  have hE1 := zv_hE hV
  have hz0 : ∀ s, n 0 ≤ s → E 0 s = 0 := fun s hs => by rw [hE]; exact zf_CIz hN hS s hs
  have hq0 : (zf_fi n (ze_sE A 4 i 0) (E 0) (E 1) (n 0)).1 = zf_CI n (ze_sE A 4 i 0) := zf_fiE hN (zf_Scong rfl rfl rfl rfl rfl hS) hz0
  have hq1 : (zf_fi n (ze_sE A 4 i 1) (E 0) (E 1) (n 0)).1 = zf_CI n (ze_sE A 4 i 1) := zf_fiE hN (zf_Scong rfl rfl rfl rfl rfl hS) hz0
  have hg9 : xa_gap N (n 1) i = zf_gapC A (E 0) i := by rw [xc_gap hPh hKc hi, hE]
  intro p e s m_ below meth cd F ls hF hsz E0 hG
  obtain ⟨S, hr, hlocks, hK, hW, hA, hl⟩ := E0
  have hX_ := S.1
  have hB_ := S.2.1
  have hts := S.2.2.2.2
  have hl : lv_has ls 3 [(0, .ref (a 0)), (1, .ref q), (2, .int (nI i))] := hl
  have w0 := hts (.constant RL 26 (-900002)) (List.mem_cons_of_mem _ (List.mem_append_left _ (List.mem_append_left _ (List.mem_append_left _ (List.mem_append_left _ (List.mem_append_left _ (List.mem_append_left _ (List.mem_of_getElem? (i := 0) rfl))))))))
  have w1 := hts (.constant RL 30 (-900003)) (List.mem_cons_of_mem _ (List.mem_append_left _ (List.mem_append_left _ (List.mem_append_left _ (List.mem_append_left _ (List.mem_append_left _ (List.mem_append_left _ (List.mem_of_getElem? (i := 1) rfl))))))))
  refine lv_aload_n hX_ hB_ dL_isSwitched_0 rfl (lv_at hl 1 rfl) ?_
  refine lv_bipush (v := 22) hX_ hB_ dL_isSwitched_1 (by decide) ?_
  refine lv_iconst (v := 3) hX_ hB_ dL_isSwitched_3 (by decide) ?_
  refine lv_iload_n hX_ hB_ dL_isSwitched_4 rfl (lv_at hl 2 rfl) ?_
  refine lv_imul hX_ hB_ dL_isSwitched_5 ?_
  refine ze_top (xb_mul (a := 3) (b := i) (c := 3 * i) (by omega)) ?_
  refine lv_iadd hX_ hB_ dL_isSwitched_6 ?_
  refine ze_top (xb_add (a := 22) (b := 3 * i) (c := 3 * i + 22) (by omega)) ?_
  refine ze_ialdN hX_ hB_ hK hW ((ze_wC c a n A B E).length + 0) (f := N) (ze_appL (k := 0) rfl) (i := 3 * i + 22) (by omega) (by decide) dL_isSwitched_7 ?_
  refine ze_top (y := A 4 i) (hR.2.2.1.2 i (by omega)) ?_
  refine lv_iconst (v := 1) hX_ hB_ dL_isSwitched_8 (by decide) ?_
  refine lv_icmp_ne (tgt := 49) hX_ hB_ dL_isSwitched_9 (by decide) (fun c9 => ?_) (fun c9 => ?_)
  · refine lv_aload_n hX_ hB_ dL_isSwitched_49 rfl (lv_at hl 1 rfl) ?_
    refine lv_iload_n hX_ hB_ dL_isSwitched_50 rfl (lv_at hl 2 rfl) ?_
    have hW := ze_Wc hW
    refine ze_FSi (As := [.ref q, .int (nI i)]) (rest := []) S (xl_gap l D c q n N hH i (by omega)) (va_cwS 2 hts gL_isSwitched_L_gap rfl rfl rfl (by decide +kernel) ⟨(Nat.le_of_ble_eq_true rfl), (Nat.le_of_ble_eq_true rfl)⟩) hK hW hA rfl hl.1 rfl (lv_room (Nat.le_of_ble_eq_true rfl)) dL_isSwitched_51 ⟨(Nat.le_of_ble_eq_true rfl), (Nat.le_of_ble_eq_true rfl)⟩ (fun H locs hW => ?_)
    have hW := ze_Wc hW
    have hW : ze_W D ((ze_wC c a n A B E) ++ [(q, .inl (c 0, 210, .inl N))]) F s.heap _ _ := hW
    refine ze_top (y := zf_gapC A (E 0) i) hg9 ?_
    refine lv_bipush (v := 10) hX_ hB_ dL_isSwitched_54 (by decide) ?_
    refine lv_icmp_le (tgt := 85) hX_ hB_ dL_isSwitched_56 (by decide) (fun c56 => ?_) (fun c56 => ?_)
    · refine lv_aload_n hX_ hB_ dL_isSwitched_85 rfl (lv_at hl 1 rfl) ?_
      refine lv_bipush (v := 22) hX_ hB_ dL_isSwitched_86 (by decide) ?_
      refine lv_iconst (v := 3) hX_ hB_ dL_isSwitched_88 (by decide) ?_
      refine lv_iload_n hX_ hB_ dL_isSwitched_89 rfl (lv_at hl 2 rfl) ?_
      refine lv_imul hX_ hB_ dL_isSwitched_90 ?_
      refine ze_top (xb_mul (a := 3) (b := i) (c := 3 * i) (by omega)) ?_
      refine lv_iadd hX_ hB_ dL_isSwitched_91 ?_
      refine ze_top (xb_add (a := 22) (b := 3 * i) (c := 3 * i + 22) (by omega)) ?_
      refine lv_iconst (v := 1) hX_ hB_ dL_isSwitched_92 (by decide) ?_
      refine ze_iastN hX_ hB_ hK hW ((ze_wC c a n A B E).length + 0) (f := N) (ze_appL (k := 0) rfl) (i := 3 * i + 22) (by omega) (by decide) dL_isSwitched_93 (ze_appset rfl) (fun H locs hW => ?_)
      have hW : ze_W D ((ze_wC c a n A B E) ++ [(q, .inl (c 0, 210, .inl (upd N (3 * i + 22) 1)))]) F s.heap _ _ := hW
      refine lv_aload_n hX_ hB_ dL_isSwitched_94 rfl (lv_at hl 0 rfl) ?_
      refine lv_iload_n hX_ hB_ dL_isSwitched_95 rfl (lv_at hl 2 rfl) ?_
      refine xb_FSq (As := [.ref (a 0), .int (nI i)]) (rest := []) S (xw_close_f l D c a n A B E i hN hi hS hE1 ((h4 i).resolve_right c9) c56) (vx_cwSW 2 hts gL_isSwitched_L_close rfl rfl rfl (by decide +kernel) ⟨(Nat.le_of_ble_eq_true rfl), (Nat.le_of_ble_eq_true rfl)⟩) hG hK hW hA rfl hl.1 rfl (lv_room (Nat.le_of_ble_eq_true rfl)) dL_isSwitched_96 ⟨(Nat.le_of_ble_eq_true rfl), (Nat.le_of_ble_eq_true rfl)⟩ (fun H locs hW => ?_)
      have hW : ze_W D ((ze_wC c a n (ze_sE A 4 i 1) B (ze_sA (ze_sA E 0 ((zf_fi n (ze_sE A 4 i 1) (E 0) (E 1) (n 0)).1)) 1 ((zf_fi n (ze_sE A 4 i 1) (E 0) (E 1) (n 0)).2))) ++ [(q, .inl (c 0, 210, .inl (upd N (3 * i + 22) 1)))]) F s.heap _ _ := hW
      refine ze_top (y := zf_many (zf_CI n (ze_sE A 4 i 1)) (n 0)) (by rw [hq1]) ?_
      refine lv_aload_n hX_ hB_ dL_isSwitched_99 rfl (lv_at hl 1 rfl) ?_
      have hW := ze_Wc hW
      refine ze_FSi (As := [.ref q]) (rest := [.int (zf_many (zf_CI n (ze_sE A 4 i 1)) (n 0))]) S (xl_islands l D c q n (upd N (3 * i + 22) 1) (xc_KH (xd_K (xd_sw hI hi (Or.inr rfl) hq1 (E2 := (ze_sA (ze_sA E 0 (zf_fi n (ze_sE A 4 i 1) (E 0) (E 1) (n 0)).1) 1 (zf_fi n (ze_sE A 4 i 1) (E 0) (E 1) (n 0)).2)))))) (va_cwS 1 hts gL_isSwitched_L_islands rfl rfl rfl (by decide +kernel) ⟨(Nat.le_of_ble_eq_true rfl), (Nat.le_of_ble_eq_true rfl)⟩) hK hW hA rfl hl.1 rfl (lv_room (Nat.le_of_ble_eq_true rfl)) dL_isSwitched_100 ⟨(Nat.le_of_ble_eq_true rfl), (Nat.le_of_ble_eq_true rfl)⟩ (fun H locs hW => ?_)
      have hW := ze_Wc hW
      have hW : ze_W D ((ze_wC c a n (ze_sE A 4 i 1) B (ze_sA (ze_sA E 0 ((zf_fi n (ze_sE A 4 i 1) (E 0) (E 1) (n 0)).1)) 1 ((zf_fi n (ze_sE A 4 i 1) (E 0) (E 1) (n 0)).2))) ++ [(q, .inl (c 0, 210, .inl (upd N (3 * i + 22) 1)))]) F s.heap _ _ := hW
      refine ze_top (y := zf_many (zf_CI n (ze_sE A 4 i 1)) (n 0)) (xc_many (xd_K (xd_sw hI hi (Or.inr rfl) hq1 (E2 := (ze_sA (ze_sA E 0 (zf_fi n (ze_sE A 4 i 1) (E 0) (E 1) (n 0)).1) 1 (zf_fi n (ze_sE A 4 i 1) (E 0) (E 1) (n 0)).2))))) ?_
      refine lv_icmp_ne (tgt := 110) hX_ hB_ dL_isSwitched_103 (by decide) (fun c103 => ?_) (fun c103 => ?_)
      · exact absurd rfl c103
      · refine lv_iconst (v := 1) hX_ hB_ dL_isSwitched_106 (by decide) ?_
        refine lv_goto (tgt := 111) hX_ hB_ dL_isSwitched_107 (by decide) ?_
        exact xb_iret (T := xd_T) (a, n, (ze_sE A 4 i 1), B, (ze_sA (ze_sA E 0 ((zf_fi n (ze_sE A 4 i 1) (E 0) (E 1) (n 0)).1)) 1 ((zf_fi n (ze_sE A 4 i 1) (E 0) (E 1) (n 0)).2)), upd N (3 * i + 22) 1) S hr hlocks hF hK hW rfl dL_isSwitched_111 (Nat.le_of_ble_eq_true rfl) (Nat.le_of_ble_eq_true rfl) ⟨rfl, ⟨rfl, (xd_sw hI hi (Or.inr rfl) hq1), rfl, Nat.le_refl _, Nat.le_refl _⟩⟩ rfl
    · refine lv_aload_n hX_ hB_ dL_isSwitched_59 rfl (lv_at hl 0 rfl) ?_
      refine lv_iload_n hX_ hB_ dL_isSwitched_60 rfl (lv_at hl 2 rfl) ?_
      refine xb_FSq (As := [.ref (a 0), .int (nI i)]) (rest := []) S (xw_open_t2 l D hst c a n A B E i hN hi ((h4 i).resolve_right c9)) (vx_cwSW 2 hts gL_isSwitched_L_open rfl rfl rfl (by decide +kernel) ⟨(Nat.le_of_ble_eq_true rfl), (Nat.le_of_ble_eq_true rfl)⟩) hG hK hW hA rfl hl.1 rfl (lv_room (Nat.le_of_ble_eq_true rfl)) dL_isSwitched_61 ⟨(Nat.le_of_ble_eq_true rfl), (Nat.le_of_ble_eq_true rfl)⟩ (fun H locs hW => ?_)
      have hW : ze_W D ((ze_wC c a n A B E) ++ [(q, .inl (c 0, 210, .inl N))]) F s.heap _ _ := hW
      refine lv_ldc (own := RL) (v := -900002) hX_ hB_ S.2.2.2.1 w0 dL_isSwitched_64 ?_
      refine lv_icmp_ne (tgt := 83) hX_ hB_ dL_isSwitched_66 (by decide) (fun c66 => ?_) (fun c66 => ?_)
      · exact absurd c66 (by decide)
      · refine lv_aload_n hX_ hB_ dL_isSwitched_69 rfl (lv_at hl 0 rfl) ?_
        refine lv_iload_n hX_ hB_ dL_isSwitched_70 rfl (lv_at hl 2 rfl) ?_
        refine xb_FSq (As := [.ref (a 0), .int (nI i)]) (rest := []) S (xw_close_t3 l D hst c a n A B E i hN hi hS hE1 ((h4 i).resolve_right c9) c56) (vx_cwSW 2 hts gL_isSwitched_L_close rfl rfl rfl (by decide +kernel) ⟨(Nat.le_of_ble_eq_true rfl), (Nat.le_of_ble_eq_true rfl)⟩) hG hK hW hA rfl hl.1 rfl (lv_room (Nat.le_of_ble_eq_true rfl)) dL_isSwitched_71 ⟨(Nat.le_of_ble_eq_true rfl), (Nat.le_of_ble_eq_true rfl)⟩ (fun H locs hW => ?_)
        have hW : ze_W D ((ze_wC c a n A B E) ++ [(q, .inl (c 0, 210, .inl N))]) F s.heap _ _ := hW
        refine lv_ldc (own := RL) (v := -900003) hX_ hB_ S.2.2.2.1 w1 dL_isSwitched_74 ?_
        refine lv_icmp_ne (tgt := 83) hX_ hB_ dL_isSwitched_76 (by decide) (fun c76 => ?_) (fun c76 => ?_)
        · exact absurd c76 (by decide)
        · refine lv_iconst (v := 1) hX_ hB_ dL_isSwitched_79 (by decide) ?_
          refine lv_goto (tgt := 84) hX_ hB_ dL_isSwitched_80 (by decide) ?_
          exact xb_iret (T := xd_T) (a, n, A, B, E, N) S hr hlocks hF hK hW rfl dL_isSwitched_84 (Nat.le_of_ble_eq_true rfl) (Nat.le_of_ble_eq_true rfl) ⟨rfl, ⟨rfl, hI, rfl, Nat.le_refl _, Nat.le_refl _⟩⟩ rfl
  · refine lv_aload_n hX_ hB_ dL_isSwitched_12 rfl (lv_at hl 1 rfl) ?_
    refine lv_bipush (v := 22) hX_ hB_ dL_isSwitched_13 (by decide) ?_
    refine lv_iconst (v := 3) hX_ hB_ dL_isSwitched_15 (by decide) ?_
    refine lv_iload_n hX_ hB_ dL_isSwitched_16 rfl (lv_at hl 2 rfl) ?_
    refine lv_imul hX_ hB_ dL_isSwitched_17 ?_
    refine ze_top (xb_mul (a := 3) (b := i) (c := 3 * i) (by omega)) ?_
    refine lv_iadd hX_ hB_ dL_isSwitched_18 ?_
    refine ze_top (xb_add (a := 22) (b := 3 * i) (c := 3 * i + 22) (by omega)) ?_
    refine lv_iconst (v := 0) hX_ hB_ dL_isSwitched_19 (by decide) ?_
    refine ze_iastN hX_ hB_ hK hW ((ze_wC c a n A B E).length + 0) (f := N) (ze_appL (k := 0) rfl) (i := 3 * i + 22) (by omega) (by decide) dL_isSwitched_20 (ze_appset rfl) (fun H locs hW => ?_)
    have hW : ze_W D ((ze_wC c a n A B E) ++ [(q, .inl (c 0, 210, .inl (upd N (3 * i + 22) 0)))]) F s.heap _ _ := hW
    refine lv_aload_n hX_ hB_ dL_isSwitched_21 rfl (lv_at hl 0 rfl) ?_
    refine lv_iload_n hX_ hB_ dL_isSwitched_22 rfl (lv_at hl 2 rfl) ?_
    refine xb_FSq (As := [.ref (a 0), .int (nI i)]) (rest := []) S (xw_close_t2 l D hst c a n A B E i hN hi (by rw [c9]; decide)) (vx_cwSW 2 hts gL_isSwitched_L_close rfl rfl rfl (by decide +kernel) ⟨(Nat.le_of_ble_eq_true rfl), (Nat.le_of_ble_eq_true rfl)⟩) hG hK hW hA rfl hl.1 rfl (lv_room (Nat.le_of_ble_eq_true rfl)) dL_isSwitched_23 ⟨(Nat.le_of_ble_eq_true rfl), (Nat.le_of_ble_eq_true rfl)⟩ (fun H locs hW => ?_)
    have hW : ze_W D ((ze_wC c a n A B E) ++ [(q, .inl (c 0, 210, .inl (upd N (3 * i + 22) 0)))]) F s.heap _ _ := hW
    refine lv_ldc (own := RL) (v := -900002) hX_ hB_ S.2.2.2.1 w0 dL_isSwitched_26 ?_
    refine lv_icmp_ne (tgt := 47) hX_ hB_ dL_isSwitched_28 (by decide) (fun c28 => ?_) (fun c28 => ?_)
    · exact absurd c28 (by decide)
    · refine lv_aload_n hX_ hB_ dL_isSwitched_31 rfl (lv_at hl 0 rfl) ?_
      refine lv_iload_n hX_ hB_ dL_isSwitched_32 rfl (lv_at hl 2 rfl) ?_
      refine xb_FSq (As := [.ref (a 0), .int (nI i)]) (rest := []) S (xw_open_f l D c a n A B E i hN hi hS (by rw [c9]; decide)) (vx_cwSW 2 hts gL_isSwitched_L_open rfl rfl rfl (by decide +kernel) ⟨(Nat.le_of_ble_eq_true rfl), (Nat.le_of_ble_eq_true rfl)⟩) hG hK hW hA rfl hl.1 rfl (lv_room (Nat.le_of_ble_eq_true rfl)) dL_isSwitched_33 ⟨(Nat.le_of_ble_eq_true rfl), (Nat.le_of_ble_eq_true rfl)⟩ (fun H locs hW => ?_)
      have hW : ze_W D ((ze_wC c a n (ze_sE A 4 i 0) B (ze_sA (ze_sA E 0 ((zf_fi n (ze_sE A 4 i 0) (E 0) (E 1) (n 0)).1)) 1 ((zf_fi n (ze_sE A 4 i 0) (E 0) (E 1) (n 0)).2))) ++ [(q, .inl (c 0, 210, .inl (upd N (3 * i + 22) 0)))]) F s.heap _ _ := hW
      refine ze_top (y := zf_many (zf_CI n (ze_sE A 4 i 0)) (n 0)) (by rw [hq0]) ?_
      refine lv_aload_n hX_ hB_ dL_isSwitched_36 rfl (lv_at hl 1 rfl) ?_
      have hW := ze_Wc hW
      refine ze_FSi (As := [.ref q]) (rest := [.int (zf_many (zf_CI n (ze_sE A 4 i 0)) (n 0))]) S (xl_islands l D c q n (upd N (3 * i + 22) 0) (xc_KH (xd_K (xd_sw hI hi (Or.inl rfl) hq0 (E2 := (ze_sA (ze_sA E 0 (zf_fi n (ze_sE A 4 i 0) (E 0) (E 1) (n 0)).1) 1 (zf_fi n (ze_sE A 4 i 0) (E 0) (E 1) (n 0)).2)))))) (va_cwS 1 hts gL_isSwitched_L_islands rfl rfl rfl (by decide +kernel) ⟨(Nat.le_of_ble_eq_true rfl), (Nat.le_of_ble_eq_true rfl)⟩) hK hW hA rfl hl.1 rfl (lv_room (Nat.le_of_ble_eq_true rfl)) dL_isSwitched_37 ⟨(Nat.le_of_ble_eq_true rfl), (Nat.le_of_ble_eq_true rfl)⟩ (fun H locs hW => ?_)
      have hW := ze_Wc hW
      have hW : ze_W D ((ze_wC c a n (ze_sE A 4 i 0) B (ze_sA (ze_sA E 0 ((zf_fi n (ze_sE A 4 i 0) (E 0) (E 1) (n 0)).1)) 1 ((zf_fi n (ze_sE A 4 i 0) (E 0) (E 1) (n 0)).2))) ++ [(q, .inl (c 0, 210, .inl (upd N (3 * i + 22) 0)))]) F s.heap _ _ := hW
      refine ze_top (y := zf_many (zf_CI n (ze_sE A 4 i 0)) (n 0)) (xc_many (xd_K (xd_sw hI hi (Or.inl rfl) hq0 (E2 := (ze_sA (ze_sA E 0 (zf_fi n (ze_sE A 4 i 0) (E 0) (E 1) (n 0)).1) 1 (zf_fi n (ze_sE A 4 i 0) (E 0) (E 1) (n 0)).2))))) ?_
      refine lv_icmp_ne (tgt := 47) hX_ hB_ dL_isSwitched_40 (by decide) (fun c40 => ?_) (fun c40 => ?_)
      · exact absurd rfl c40
      · refine lv_iconst (v := 1) hX_ hB_ dL_isSwitched_43 (by decide) ?_
        refine lv_goto (tgt := 48) hX_ hB_ dL_isSwitched_44 (by decide) ?_
        exact xb_iret (T := xd_T) (a, n, (ze_sE A 4 i 0), B, (ze_sA (ze_sA E 0 ((zf_fi n (ze_sE A 4 i 0) (E 0) (E 1) (n 0)).1)) 1 ((zf_fi n (ze_sE A 4 i 0) (E 0) (E 1) (n 0)).2)), upd N (3 * i + 22) 0) S hr hlocks hF hK hW rfl dL_isSwitched_48 (Nat.le_of_ble_eq_true rfl) (Nat.le_of_ble_eq_true rfl) ⟨rfl, ⟨rfl, (xd_sw hI hi (Or.inl rfl) hq0), rfl, Nat.le_refl _, Nat.le_refl _⟩⟩ rfl
set_option maxHeartbeats 8000000 in
set_option maxRecDepth 100000 in
theorem xj_isTied (l : Launch) (D : va_G) (hst : l.stackTraces = false) (c : Nat → ClassId) (q : Nat) (a n : Nat → Nat) (A : Nat → Nat → Int32) (B : Nat → Int64) (E : Nat → Nat → Int32) (N : Nat → Int32) (t : Nat) (hI : xd_I n A B E N t) (h0 : 0 < n 0) : xb_M (T := xd_T) l yL_isTied wsL_isTied 8 123 2 12 D c none ((ze_wC c a n A B E) ++ [(q, .inl (c 0, 210, .inl N))]) [.ref (a 0), .ref q] (fun r (u : xd_T) => r = 1 ∧ xd_P (a 0) n (t) u) (fun u => xd_w c q u) := by
  intro sz
  refine xb_start (cc := cL_isTied) (maxL := 2) (ret := (some .boolean)) (own := RL) (by decide) rfl rfl (Nat.le_of_ble_eq_true rfl) ?_
  have hKc := xd_K hI
  have hH := xc_KH hKc
  obtain ⟨hV, hR, hPh, hY, hWu⟩ := id hI
  obtain ⟨hN, hS, hE, hz, h4, h4z, hT, hC, hKz, hZ, hp⟩ := id hV
  obtain ⟨hn0, hn1, hn2, hn3, hn4⟩ := id hN
  have hE1 := zv_hE hV
  obtain ⟨p9, lp9, ep9⟩ := hPh 0 (by omega)
  intro p e s m_ below meth cd F ls hF hsz E0 hG
  obtain ⟨S, hr, hlocks, hK, hW, hA, hl⟩ := E0
  have hX_ := S.1
  have hB_ := S.2.1
  have hts := S.2.2.2.2
  have hl : lv_has ls 2 [(0, .ref (a 0)), (1, .ref q)] := hl
  have w0 := hts (.constant RL 17 (-900001)) (List.mem_cons_of_mem _ (List.mem_append_left _ (List.mem_append_left _ (List.mem_append_left _ (List.mem_append_left _ (List.mem_append_left _ (List.mem_append_left _ (List.mem_of_getElem? (i := 1) rfl))))))))
  have w1 := hts (.constant RL 30 (-900003)) (List.mem_cons_of_mem _ (List.mem_append_left _ (List.mem_append_left _ (List.mem_append_left _ (List.mem_append_left _ (List.mem_append_left _ (List.mem_append_left _ (List.mem_of_getElem? (i := 2) rfl))))))))
  have w2 := hts (.constant RL 26 (-900002)) (List.mem_cons_of_mem _ (List.mem_append_left _ (List.mem_append_left _ (List.mem_append_left _ (List.mem_append_left _ (List.mem_append_left _ (List.mem_append_left _ (List.mem_of_getElem? (i := 0) rfl))))))))
  refine lv_aload_n hX_ hB_ dL_isTied_0 rfl (lv_at hl 1 rfl) ?_
  refine lv_bipush (v := 8) hX_ hB_ dL_isTied_1 (by decide) ?_
  refine ze_ialdN hX_ hB_ hK hW ((ze_wC c a n A B E).length + 0) (f := N) (ze_appL (k := 0) rfl) (i := 8) (by omega) (by decide) dL_isTied_3 ?_
  refine ze_top (y := A 38 0) hR.2.1.1.2.2.2.1 ?_
  refine lv_iconst (v := 1) hX_ hB_ dL_isTied_4 (by decide) ?_
  refine lv_icmp_ne (tgt := 39) hX_ hB_ dL_isTied_5 (by decide) (fun c5 => ?_) (fun c5 => ?_)
  · refine lv_aload_n hX_ hB_ dL_isTied_39 rfl (lv_at hl 1 rfl) ?_
    refine lv_bipush (v := 10) hX_ hB_ dL_isTied_40 (by decide) ?_
    refine ze_ialdN hX_ hB_ hK hW ((ze_wC c a n A B E).length + 0) (f := N) (ze_appL (k := 0) rfl) (i := 10) (by omega) (by decide) dL_isTied_42 ?_
    refine ze_top (y := A 0 0) (hR.2.1.2 0 (by omega)) ?_
    refine lv_bipush (v := 10) hX_ hB_ dL_isTied_43 (by decide) ?_
    refine lv_icmp_le (tgt := 82) hX_ hB_ dL_isTied_45 (by decide) (fun c45 => ?_) (fun c45 => ?_)
    · refine lv_aload_n hX_ hB_ dL_isTied_82 rfl (lv_at hl 1 rfl) ?_
      refine lv_bipush (v := 8) hX_ hB_ dL_isTied_83 (by decide) ?_
      refine lv_iconst (v := 1) hX_ hB_ dL_isTied_85 (by decide) ?_
      refine ze_iastN hX_ hB_ hK hW ((ze_wC c a n A B E).length + 0) (f := N) (ze_appL (k := 0) rfl) (i := 8) (by omega) (by decide) dL_isTied_86 (ze_appset rfl) (fun H locs hW => ?_)
      have hW : ze_W D ((ze_wC c a n A B E) ++ [(q, .inl (c 0, 210, .inl (upd N 8 1)))]) F s.heap _ _ := hW
      refine lv_aload_n hX_ hB_ dL_isTied_87 rfl (lv_at hl 0 rfl) ?_
      refine xb_FSq (As := [.ref (a 0)]) (rest := []) S (xw_tie_f l D c a n A B E hN (by omega) (hT.resolve_right c5) (xd_apY (hT.resolve_right c5) lp9 ep9 (Or.inl c45))) (vx_cwSW 1 hts gL_isTied_L_tie rfl rfl rfl (by decide +kernel) ⟨(Nat.le_of_ble_eq_true rfl), (Nat.le_of_ble_eq_true rfl)⟩) hG hK hW hA rfl hl.1 rfl (lv_room (Nat.le_of_ble_eq_true rfl)) dL_isTied_88 ⟨(Nat.le_of_ble_eq_true rfl), (Nat.le_of_ble_eq_true rfl)⟩ (fun H locs hW => ?_)
      have hW : ze_W D ((ze_wC c a n (ze_sC A 38 1) B E) ++ [(q, .inl (c 0, 210, .inl (upd N 8 1)))]) F s.heap _ _ := hW
      refine ze_top (y := zf_first (zf_CI n A) (n 0)) (by rw [hE]; rfl) ?_
      refine lv_aload_n hX_ hB_ dL_isTied_91 rfl (lv_at hl 1 rfl) ?_
      have hW := ze_Wc hW
      refine ze_FSi (As := [.ref q]) (rest := [.int (zf_first (zf_CI n A) (n 0))]) S (xl_size l D c q n (upd N 8 1) (xc_KH (xd_K (xd_tie hI (Or.inr rfl))))) (va_cwS 1 hts gL_isTied_L_size rfl rfl rfl (by decide +kernel) ⟨(Nat.le_of_ble_eq_true rfl), (Nat.le_of_ble_eq_true rfl)⟩) hK hW hA rfl hl.1 rfl (lv_room (Nat.le_of_ble_eq_true rfl)) dL_isTied_92 ⟨(Nat.le_of_ble_eq_true rfl), (Nat.le_of_ble_eq_true rfl)⟩ (fun H locs hW => ?_)
      have hW := ze_Wc hW
      have hW : ze_W D ((ze_wC c a n (ze_sC A 38 1) B E) ++ [(q, .inl (c 0, 210, .inl (upd N 8 1)))]) F s.heap _ _ := hW
      refine ze_top (y := zf_first (zf_CI n A) (n 0)) (xc_size (xd_K (xd_tie hI (Or.inr rfl)))) ?_
      refine lv_icmp_ne (tgt := 102) hX_ hB_ dL_isTied_95 (by decide) (fun c95 => ?_) (fun c95 => ?_)
      · exact absurd rfl c95
      · refine lv_iconst (v := 1) hX_ hB_ dL_isTied_98 (by decide) ?_
        refine lv_goto (tgt := 103) hX_ hB_ dL_isTied_99 (by decide) ?_
        exact xb_iret (T := xd_T) (a, n, (ze_sC A 38 1), B, E, upd N 8 1) S hr hlocks hF hK hW rfl dL_isTied_103 (Nat.le_of_ble_eq_true rfl) (Nat.le_of_ble_eq_true rfl) ⟨rfl, ⟨rfl, (xd_tie hI (Or.inr rfl)), rfl, Nat.le_refl _, Nat.le_refl _⟩⟩ rfl
    · refine lv_aload_n hX_ hB_ dL_isTied_48 rfl (lv_at hl 1 rfl) ?_
      refine lv_bipush (v := 10) hX_ hB_ dL_isTied_49 (by decide) ?_
      refine ze_ialdN hX_ hB_ hK hW ((ze_wC c a n A B E).length + 0) (f := N) (ze_appL (k := 0) rfl) (i := 10) (by omega) (by decide) dL_isTied_51 ?_
      refine ze_top (y := A 0 0) (hR.2.1.2 0 (by omega)) ?_
      refine lv_sipush (v := 350) hX_ hB_ dL_isTied_52 (by decide) ?_
      refine lv_icmp_ge (tgt := 82) hX_ hB_ dL_isTied_55 (by decide) (fun c55 => ?_) (fun c55 => ?_)
      · refine lv_aload_n hX_ hB_ dL_isTied_82 rfl (lv_at hl 1 rfl) ?_
        refine lv_bipush (v := 8) hX_ hB_ dL_isTied_83 (by decide) ?_
        refine lv_iconst (v := 1) hX_ hB_ dL_isTied_85 (by decide) ?_
        refine ze_iastN hX_ hB_ hK hW ((ze_wC c a n A B E).length + 0) (f := N) (ze_appL (k := 0) rfl) (i := 8) (by omega) (by decide) dL_isTied_86 (ze_appset rfl) (fun H locs hW => ?_)
        have hW : ze_W D ((ze_wC c a n A B E) ++ [(q, .inl (c 0, 210, .inl (upd N 8 1)))]) F s.heap _ _ := hW
        refine lv_aload_n hX_ hB_ dL_isTied_87 rfl (lv_at hl 0 rfl) ?_
        refine xb_FSq (As := [.ref (a 0)]) (rest := []) S (xw_tie_f l D c a n A B E hN (by omega) (hT.resolve_right c5) (xd_apY (hT.resolve_right c5) lp9 ep9 (Or.inr c55))) (vx_cwSW 1 hts gL_isTied_L_tie rfl rfl rfl (by decide +kernel) ⟨(Nat.le_of_ble_eq_true rfl), (Nat.le_of_ble_eq_true rfl)⟩) hG hK hW hA rfl hl.1 rfl (lv_room (Nat.le_of_ble_eq_true rfl)) dL_isTied_88 ⟨(Nat.le_of_ble_eq_true rfl), (Nat.le_of_ble_eq_true rfl)⟩ (fun H locs hW => ?_)
        have hW : ze_W D ((ze_wC c a n (ze_sC A 38 1) B E) ++ [(q, .inl (c 0, 210, .inl (upd N 8 1)))]) F s.heap _ _ := hW
        refine ze_top (y := zf_first (zf_CI n A) (n 0)) (by rw [hE]; rfl) ?_
        refine lv_aload_n hX_ hB_ dL_isTied_91 rfl (lv_at hl 1 rfl) ?_
        have hW := ze_Wc hW
        refine ze_FSi (As := [.ref q]) (rest := [.int (zf_first (zf_CI n A) (n 0))]) S (xl_size l D c q n (upd N 8 1) (xc_KH (xd_K (xd_tie hI (Or.inr rfl))))) (va_cwS 1 hts gL_isTied_L_size rfl rfl rfl (by decide +kernel) ⟨(Nat.le_of_ble_eq_true rfl), (Nat.le_of_ble_eq_true rfl)⟩) hK hW hA rfl hl.1 rfl (lv_room (Nat.le_of_ble_eq_true rfl)) dL_isTied_92 ⟨(Nat.le_of_ble_eq_true rfl), (Nat.le_of_ble_eq_true rfl)⟩ (fun H locs hW => ?_)
        have hW := ze_Wc hW
        have hW : ze_W D ((ze_wC c a n (ze_sC A 38 1) B E) ++ [(q, .inl (c 0, 210, .inl (upd N 8 1)))]) F s.heap _ _ := hW
        refine ze_top (y := zf_first (zf_CI n A) (n 0)) (xc_size (xd_K (xd_tie hI (Or.inr rfl)))) ?_
        refine lv_icmp_ne (tgt := 102) hX_ hB_ dL_isTied_95 (by decide) (fun c95 => ?_) (fun c95 => ?_)
        · exact absurd rfl c95
        · refine lv_iconst (v := 1) hX_ hB_ dL_isTied_98 (by decide) ?_
          refine lv_goto (tgt := 103) hX_ hB_ dL_isTied_99 (by decide) ?_
          exact xb_iret (T := xd_T) (a, n, (ze_sC A 38 1), B, E, upd N 8 1) S hr hlocks hF hK hW rfl dL_isTied_103 (Nat.le_of_ble_eq_true rfl) (Nat.le_of_ble_eq_true rfl) ⟨rfl, ⟨rfl, (xd_tie hI (Or.inr rfl)), rfl, Nat.le_refl _, Nat.le_refl _⟩⟩ rfl
      · refine lv_aload_n hX_ hB_ dL_isTied_58 rfl (lv_at hl 0 rfl) ?_
        refine xb_FSq (As := [.ref (a 0)]) (rest := []) S (xw_untie_t1 l D hst c a n A B E (hT.resolve_right c5)) (vx_cwSW 1 hts gL_isTied_L_untie rfl rfl rfl (by decide +kernel) ⟨(Nat.le_of_ble_eq_true rfl), (Nat.le_of_ble_eq_true rfl)⟩) hG hK hW hA rfl hl.1 rfl (lv_room (Nat.le_of_ble_eq_true rfl)) dL_isTied_59 ⟨(Nat.le_of_ble_eq_true rfl), (Nat.le_of_ble_eq_true rfl)⟩ (fun H locs hW => ?_)
        have hW : ze_W D ((ze_wC c a n A B E) ++ [(q, .inl (c 0, 210, .inl N))]) F s.heap _ _ := hW
        refine lv_ldc (own := RL) (v := -900001) hX_ hB_ S.2.2.2.1 w0 dL_isTied_62 ?_
        refine lv_icmp_ne (tgt := 80) hX_ hB_ dL_isTied_64 (by decide) (fun c64 => ?_) (fun c64 => ?_)
        · exact absurd c64 (by decide)
        · refine lv_aload_n hX_ hB_ dL_isTied_67 rfl (lv_at hl 0 rfl) ?_
          refine xb_FSq (As := [.ref (a 0)]) (rest := []) S (xw_tie_t3 l D hst c a n A B E hN (by omega) (hT.resolve_right c5) (xd_apN (hT.resolve_right c5) lp9 ep9 c45 c55)) (vx_cwSW 1 hts gL_isTied_L_tie rfl rfl rfl (by decide +kernel) ⟨(Nat.le_of_ble_eq_true rfl), (Nat.le_of_ble_eq_true rfl)⟩) hG hK hW hA rfl hl.1 rfl (lv_room (Nat.le_of_ble_eq_true rfl)) dL_isTied_68 ⟨(Nat.le_of_ble_eq_true rfl), (Nat.le_of_ble_eq_true rfl)⟩ (fun H locs hW => ?_)
          have hW : ze_W D ((ze_wC c a n A B E) ++ [(q, .inl (c 0, 210, .inl N))]) F s.heap _ _ := hW
          refine lv_ldc (own := RL) (v := -900003) hX_ hB_ S.2.2.2.1 w1 dL_isTied_71 ?_
          refine lv_icmp_ne (tgt := 80) hX_ hB_ dL_isTied_73 (by decide) (fun c73 => ?_) (fun c73 => ?_)
          · exact absurd c73 (by decide)
          · refine lv_iconst (v := 1) hX_ hB_ dL_isTied_76 (by decide) ?_
            refine lv_goto (tgt := 81) hX_ hB_ dL_isTied_77 (by decide) ?_
            exact xb_iret (T := xd_T) (a, n, A, B, E, N) S hr hlocks hF hK hW rfl dL_isTied_81 (Nat.le_of_ble_eq_true rfl) (Nat.le_of_ble_eq_true rfl) ⟨rfl, ⟨rfl, hI, rfl, Nat.le_refl _, Nat.le_refl _⟩⟩ rfl
  · refine lv_aload_n hX_ hB_ dL_isTied_8 rfl (lv_at hl 1 rfl) ?_
    refine lv_bipush (v := 8) hX_ hB_ dL_isTied_9 (by decide) ?_
    refine lv_iconst (v := 0) hX_ hB_ dL_isTied_11 (by decide) ?_
    refine ze_iastN hX_ hB_ hK hW ((ze_wC c a n A B E).length + 0) (f := N) (ze_appL (k := 0) rfl) (i := 8) (by omega) (by decide) dL_isTied_12 (ze_appset rfl) (fun H locs hW => ?_)
    have hW : ze_W D ((ze_wC c a n A B E) ++ [(q, .inl (c 0, 210, .inl (upd N 8 0)))]) F s.heap _ _ := hW
    refine lv_aload_n hX_ hB_ dL_isTied_13 rfl (lv_at hl 0 rfl) ?_
    refine xb_FSq (As := [.ref (a 0)]) (rest := []) S (xw_tie_t2 l D hst c a n A B E hN (by omega) (by rw [c5]; decide)) (vx_cwSW 1 hts gL_isTied_L_tie rfl rfl rfl (by decide +kernel) ⟨(Nat.le_of_ble_eq_true rfl), (Nat.le_of_ble_eq_true rfl)⟩) hG hK hW hA rfl hl.1 rfl (lv_room (Nat.le_of_ble_eq_true rfl)) dL_isTied_14 ⟨(Nat.le_of_ble_eq_true rfl), (Nat.le_of_ble_eq_true rfl)⟩ (fun H locs hW => ?_)
    have hW : ze_W D ((ze_wC c a n A B E) ++ [(q, .inl (c 0, 210, .inl (upd N 8 0)))]) F s.heap _ _ := hW
    refine lv_ldc (own := RL) (v := -900002) hX_ hB_ S.2.2.2.1 w2 dL_isTied_17 ?_
    refine lv_icmp_ne (tgt := 37) hX_ hB_ dL_isTied_19 (by decide) (fun c19 => ?_) (fun c19 => ?_)
    · exact absurd c19 (by decide)
    · refine lv_aload_n hX_ hB_ dL_isTied_22 rfl (lv_at hl 0 rfl) ?_
      refine xb_FSq (As := [.ref (a 0)]) (rest := []) S (xw_untie_f l D c a n A B E hN (by rw [c5]; decide)) (vx_cwSW 1 hts gL_isTied_L_untie rfl rfl rfl (by decide +kernel) ⟨(Nat.le_of_ble_eq_true rfl), (Nat.le_of_ble_eq_true rfl)⟩) hG hK hW hA rfl hl.1 rfl (lv_room (Nat.le_of_ble_eq_true rfl)) dL_isTied_23 ⟨(Nat.le_of_ble_eq_true rfl), (Nat.le_of_ble_eq_true rfl)⟩ (fun H locs hW => ?_)
      have hW : ze_W D ((ze_wC c a n (ze_sC A 38 0) B E) ++ [(q, .inl (c 0, 210, .inl (upd N 8 0)))]) F s.heap _ _ := hW
      refine ze_top (y := zf_first (zf_CI n A) (n 0)) (by rw [hE]; rfl) ?_
      refine lv_aload_n hX_ hB_ dL_isTied_26 rfl (lv_at hl 1 rfl) ?_
      have hW := ze_Wc hW
      refine ze_FSi (As := [.ref q]) (rest := [.int (zf_first (zf_CI n A) (n 0))]) S (xl_size l D c q n (upd N 8 0) (xc_KH (xd_K (xd_tie hI (Or.inl rfl))))) (va_cwS 1 hts gL_isTied_L_size rfl rfl rfl (by decide +kernel) ⟨(Nat.le_of_ble_eq_true rfl), (Nat.le_of_ble_eq_true rfl)⟩) hK hW hA rfl hl.1 rfl (lv_room (Nat.le_of_ble_eq_true rfl)) dL_isTied_27 ⟨(Nat.le_of_ble_eq_true rfl), (Nat.le_of_ble_eq_true rfl)⟩ (fun H locs hW => ?_)
      have hW := ze_Wc hW
      have hW : ze_W D ((ze_wC c a n (ze_sC A 38 0) B E) ++ [(q, .inl (c 0, 210, .inl (upd N 8 0)))]) F s.heap _ _ := hW
      refine ze_top (y := zf_first (zf_CI n A) (n 0)) (xc_size (xd_K (xd_tie hI (Or.inl rfl)))) ?_
      refine lv_icmp_ne (tgt := 37) hX_ hB_ dL_isTied_30 (by decide) (fun c30 => ?_) (fun c30 => ?_)
      · exact absurd rfl c30
      · refine lv_iconst (v := 1) hX_ hB_ dL_isTied_33 (by decide) ?_
        refine lv_goto (tgt := 38) hX_ hB_ dL_isTied_34 (by decide) ?_
        exact xb_iret (T := xd_T) (a, n, (ze_sC A 38 0), B, E, upd N 8 0) S hr hlocks hF hK hW rfl dL_isTied_38 (Nat.le_of_ble_eq_true rfl) (Nat.le_of_ble_eq_true rfl) ⟨rfl, ⟨rfl, (xd_tie hI (Or.inl rfl)), rfl, Nat.le_refl _, Nat.le_refl _⟩⟩ rfl
set_option maxHeartbeats 8000000 in
set_option maxRecDepth 100000 in
theorem xj_isStarted (l : Launch) (D : va_G) (hst : l.stackTraces = false) (c : Nat → ClassId) (q : Nat) (a n : Nat → Nat) (A : Nat → Nat → Int32) (B : Nat → Int64) (E : Nat → Nat → Int32) (N : Nat → Int32) (t : Nat) (hI : xd_I n A B E N t) (g : Nat) (hg : g < n 2) : xb_M (T := xd_T) l yL_isStarted wsL_isStarted 8 126 2 12 D c none ((ze_wC c a n A B E) ++ [(q, .inl (c 0, 210, .inl N))]) [.ref (a 0), .ref q, .int (nI g)] (fun r (u : xd_T) => r = 1 ∧ xd_P (a 0) n (t) u) (fun u => xd_w c q u) := by
  intro sz
  refine xb_start (cc := cL_isStarted) (maxL := 5) (ret := (some .boolean)) (own := RL) (by decide) rfl rfl (Nat.le_of_ble_eq_true rfl) ?_
  have hKc := xd_K hI
  have hH := xc_KH hKc
  obtain ⟨hV, hR, hPh, hY, hWu⟩ := id hI
  obtain ⟨hN, hS, hE, hz, h4, h4z, hT, hC, hKz, hZ, hp⟩ := id hV
  obtain ⟨hn0, hn1, hn2, hn3, hn4⟩ := id hN
  have hE1 := zv_hE hV
  have hst5 := (hR.2.2.2.1.1 g hg).2.2.2.2.2
  intro p e s m_ below meth cd F ls hF hsz E0 hG
  obtain ⟨S, hr, hlocks, hK, hW, hA, hl⟩ := E0
  have hX_ := S.1
  have hB_ := S.2.1
  have hts := S.2.2.2.2
  have hl : lv_has ls 5 [(0, .ref (a 0)), (1, .ref q), (2, .int (nI g))] := hl
  have w0 := hts (.constant RL 26 (-900002)) (List.mem_cons_of_mem _ (List.mem_append_left _ (List.mem_append_left _ (List.mem_append_left _ (List.mem_append_left _ (List.mem_append_left _ (List.mem_append_left _ (List.mem_append_left _ (List.mem_of_getElem? (i := 0) rfl)))))))))
  have w1 := hts (.constant RL 30 (-900003)) (List.mem_cons_of_mem _ (List.mem_append_left _ (List.mem_append_left _ (List.mem_append_left _ (List.mem_append_left _ (List.mem_append_left _ (List.mem_append_left _ (List.mem_append_left _ (List.mem_of_getElem? (i := 1) rfl)))))))))
  refine lv_bipush (v := 50) hX_ hB_ dL_isStarted_0 (by decide) ?_
  refine lv_bipush (v := 9) hX_ hB_ dL_isStarted_2 (by decide) ?_
  refine lv_iload_n hX_ hB_ dL_isStarted_4 rfl (lv_at hl 2 rfl) ?_
  refine lv_imul hX_ hB_ dL_isStarted_5 ?_
  refine ze_top (xb_mul (a := 9) (b := g) (c := 9 * g) (by omega)) ?_
  refine lv_iadd hX_ hB_ dL_isStarted_6 ?_
  refine ze_top (xb_add (a := 50) (b := 9 * g) (c := 9 * g + 50) (by omega)) ?_
  refine lv_istore_n (lv' := [(3, .int (nI (9 * g + 50))), (0, .ref (a 0)), (1, .ref q), (2, .int (nI g))]) hX_ hB_ dL_isStarted_7 rfl hl (by decide) rfl (fun ls hl => ?_)
  refine lv_aload_n hX_ hB_ dL_isStarted_8 rfl (lv_at hl 2 rfl) ?_
  refine lv_iload_n hX_ hB_ dL_isStarted_9 rfl (lv_at hl 0 rfl) ?_
  refine lv_iconst (v := 5) hX_ hB_ dL_isStarted_10 (by decide) ?_
  refine lv_iadd hX_ hB_ dL_isStarted_11 ?_
  refine ze_top (xb_add (a := 9 * g + 50) (b := 5) (c := 9 * g + 55) (by omega)) ?_
  refine ze_ialdN hX_ hB_ hK hW ((ze_wC c a n A B E).length + 0) (f := N) (ze_appL (k := 0) rfl) (i := 9 * g + 55) (by omega) (by decide) dL_isStarted_12 ?_
  refine ze_top (y := xc_st (A 13 g)) (hR.2.2.2.1.1 g (by omega)).2.2.2.2.2 ?_
  refine lv_if_eq (tgt := 86) hX_ hB_ dL_isStarted_13 (by decide) (fun c13 => ?_) (fun c13 => ?_)
  · refine lv_aload_n hX_ hB_ dL_isStarted_86 rfl (lv_at hl 2 rfl) ?_
    refine lv_iload_n hX_ hB_ dL_isStarted_87 rfl (lv_at hl 0 rfl) ?_
    refine lv_iconst (v := 4) hX_ hB_ dL_isStarted_88 (by decide) ?_
    refine lv_iadd hX_ hB_ dL_isStarted_89 ?_
    refine ze_top (xb_add (a := 9 * g + 50) (b := 4) (c := 9 * g + 54) (by omega)) ?_
    refine ze_ialdN hX_ hB_ hK hW ((ze_wC c a n A B E).length + 0) (f := N) (ze_appL (k := 0) rfl) (i := 9 * g + 54) (by omega) (by decide) dL_isStarted_90 ?_
    refine ze_top (y := A 10 g) (hR.2.2.2.1.1 g (by omega)).2.2.2.2.1 ?_
    refine lv_aload_n hX_ hB_ dL_isStarted_91 rfl (lv_at hl 2 rfl) ?_
    refine lv_iload_n hX_ hB_ dL_isStarted_92 rfl (lv_at hl 0 rfl) ?_
    refine lv_iconst (v := 1) hX_ hB_ dL_isStarted_93 (by decide) ?_
    refine lv_iadd hX_ hB_ dL_isStarted_94 ?_
    refine ze_top (xb_add (a := 9 * g + 50) (b := 1) (c := 9 * g + 51) (by omega)) ?_
    refine ze_ialdN hX_ hB_ hK hW ((ze_wC c a n A B E).length + 0) (f := N) (ze_appL (k := 0) rfl) (i := 9 * g + 51) (by omega) (by decide) dL_isStarted_95 ?_
    refine ze_top (y := A 7 g) (hR.2.2.2.1.1 g (by omega)).2.1 ?_
    refine lv_icmp_ge (tgt := 125) hX_ hB_ dL_isStarted_96 (by decide) (fun c96 => ?_) (fun c96 => ?_)
    · refine lv_aload_n hX_ hB_ dL_isStarted_125 rfl (lv_at hl 2 rfl) ?_
      refine lv_iload_n hX_ hB_ dL_isStarted_126 rfl (lv_at hl 0 rfl) ?_
      refine lv_iconst (v := 5) hX_ hB_ dL_isStarted_127 (by decide) ?_
      refine lv_iadd hX_ hB_ dL_isStarted_128 ?_
      refine ze_top (xb_add (a := 9 * g + 50) (b := 5) (c := 9 * g + 55) (by omega)) ?_
      refine lv_aload_n hX_ hB_ dL_isStarted_129 rfl (lv_at hl 2 rfl) ?_
      refine lv_iload_n hX_ hB_ dL_isStarted_130 rfl (lv_at hl 0 rfl) ?_
      refine lv_iconst (v := 3) hX_ hB_ dL_isStarted_131 (by decide) ?_
      refine lv_iadd hX_ hB_ dL_isStarted_132 ?_
      refine ze_top (xb_add (a := 9 * g + 50) (b := 3) (c := 9 * g + 53) (by omega)) ?_
      refine ze_ialdN hX_ hB_ hK hW ((ze_wC c a n A B E).length + 0) (f := N) (ze_appL (k := 0) rfl) (i := 9 * g + 53) (by omega) (by decide) dL_isStarted_133 ?_
      refine ze_top (y := A 9 g) (hR.2.2.2.1.1 g (by omega)).2.2.2.1 ?_
      refine lv_if_ne (tgt := 141) hX_ hB_ dL_isStarted_134 (by decide) (fun c134 => ?_) (fun c134 => ?_)
      · refine lv_iconst (v := 1) hX_ hB_ dL_isStarted_141 (by decide) ?_
        refine ze_iastN hX_ hB_ hK hW ((ze_wC c a n A B E).length + 0) (f := N) (ze_appL (k := 0) rfl) (i := 9 * g + 55) (by omega) (by decide) dL_isStarted_142 (ze_appset rfl) (fun H locs hW => ?_)
        have hW : ze_W D ((ze_wC c a n A B E) ++ [(q, .inl (c 0, 210, .inl (upd N (9 * g + 55) 1)))]) F s.heap _ _ := hW
        refine lv_aload_n hX_ hB_ dL_isStarted_143 rfl (lv_at hl 2 rfl) ?_
        refine lv_iload_n hX_ hB_ dL_isStarted_144 rfl (lv_at hl 0 rfl) ?_
        refine lv_bipush (v := 6) hX_ hB_ dL_isStarted_145 (by decide) ?_
        refine lv_iadd hX_ hB_ dL_isStarted_147 ?_
        refine ze_top (xb_add (a := 9 * g + 50) (b := 6) (c := 9 * g + 56) (by omega)) ?_
        refine lv_aload_n hX_ hB_ dL_isStarted_148 rfl (lv_at hl 2 rfl) ?_
        refine lv_iload_n hX_ hB_ dL_isStarted_149 rfl (lv_at hl 0 rfl) ?_
        refine lv_iconst (v := 3) hX_ hB_ dL_isStarted_150 (by decide) ?_
        refine lv_iadd hX_ hB_ dL_isStarted_151 ?_
        refine ze_top (xb_add (a := 9 * g + 50) (b := 3) (c := 9 * g + 53) (by omega)) ?_
        refine ze_ialdN hX_ hB_ hK hW ((ze_wC c a n A B E).length + 0) (f := (upd N (9 * g + 55) 1)) (ze_appL (k := 0) rfl) (i := 9 * g + 53) (by omega) (by decide) dL_isStarted_152 ?_
        refine ze_top (xb_un (by omega)) ?_
        refine ze_top (y := A 9 g) (hR.2.2.2.1.1 g (by omega)).2.2.2.1 ?_
        refine ze_iastN hX_ hB_ hK hW ((ze_wC c a n A B E).length + 0) (f := (upd N (9 * g + 55) 1)) (ze_appL (k := 0) rfl) (i := 9 * g + 56) (by omega) (by decide) dL_isStarted_153 (ze_appset rfl) (fun H locs hW => ?_)
        have hW : ze_W D ((ze_wC c a n A B E) ++ [(q, .inl (c 0, 210, .inl (upd (upd N (9 * g + 55) 1) (9 * g + 56) (A 9 g))))]) F s.heap _ _ := hW
        refine lv_aload_n hX_ hB_ dL_isStarted_154 rfl (lv_at hl 1 rfl) ?_
        refine lv_iload_n hX_ hB_ dL_isStarted_155 rfl (lv_at hl 3 rfl) ?_
        refine xb_FSq (As := [.ref (a 0), .int (nI g)]) (rest := []) S (xw_start_f l D c a n A B E g hN hg ((xc_st0 (hC g hg)).mp c13) (fun z9 => z9 c96)) (vx_cwSW 2 hts gL_isStarted_L_start rfl rfl rfl (by decide +kernel) ⟨(Nat.le_of_ble_eq_true rfl), (Nat.le_of_ble_eq_true rfl)⟩) hG hK hW hA rfl hl.1 rfl (lv_room (Nat.le_of_ble_eq_true rfl)) dL_isStarted_156 ⟨(Nat.le_of_ble_eq_true rfl), (Nat.le_of_ble_eq_true rfl)⟩ (fun H locs hW => ?_)
        have hW : ze_W D ((ze_wC c a n (zf_start A g) B E) ++ [(q, .inl (c 0, 210, .inl (upd (upd N (9 * g + 55) 1) (9 * g + 56) (A 9 g))))]) F s.heap _ _ := hW
        refine ze_top (y := A 9 g) (xd_st11 A g) ?_
        refine lv_aload_n hX_ hB_ dL_isStarted_159 rfl (lv_at hl 2 rfl) ?_
        refine lv_iload_n hX_ hB_ dL_isStarted_160 rfl (lv_at hl 0 rfl) ?_
        refine lv_iconst (v := 3) hX_ hB_ dL_isStarted_161 (by decide) ?_
        refine lv_iadd hX_ hB_ dL_isStarted_162 ?_
        refine ze_top (xb_add (a := 9 * g + 50) (b := 3) (c := 9 * g + 53) (by omega)) ?_
        refine ze_ialdN hX_ hB_ hK hW ((ze_wC c a n (zf_start A g) B E).length + 0) (f := (upd (upd N (9 * g + 55) 1) (9 * g + 56) (A 9 g))) (ze_appL (k := 0) rfl) (i := 9 * g + 53) (by omega) (by decide) dL_isStarted_163 ?_
        refine ze_top (xb_un (by omega)) ?_
        refine ze_top (xb_un (by omega)) ?_
        refine ze_top (y := A 9 g) (hR.2.2.2.1.1 g (by omega)).2.2.2.1 ?_
        refine lv_icmp_ne (tgt := 171) hX_ hB_ dL_isStarted_164 (by decide) (fun c164 => ?_) (fun c164 => ?_)
        · exact absurd rfl c164
        · refine lv_iconst (v := 1) hX_ hB_ dL_isStarted_167 (by decide) ?_
          refine lv_goto (tgt := 172) hX_ hB_ dL_isStarted_168 (by decide) ?_
          exact xb_iret (T := xd_T) (a, n, (zf_start A g), B, E, (upd (upd N (9 * g + 55) 1) (9 * g + 56) (A 9 g))) S hr hlocks hF hK hW rfl dL_isStarted_172 (Nat.le_of_ble_eq_true rfl) (Nat.le_of_ble_eq_true rfl) ⟨rfl, ⟨rfl, (by have z9 := xd_start hI hg; rw [if_neg c134] at z9; exact z9), rfl, Nat.le_refl _, Nat.le_refl _⟩⟩ rfl
      · refine lv_iconst (v := 2) hX_ hB_ dL_isStarted_137 (by decide) ?_
        refine lv_goto (tgt := 142) hX_ hB_ dL_isStarted_138 (by decide) ?_
        refine ze_iastN hX_ hB_ hK hW ((ze_wC c a n A B E).length + 0) (f := N) (ze_appL (k := 0) rfl) (i := 9 * g + 55) (by omega) (by decide) dL_isStarted_142 (ze_appset rfl) (fun H locs hW => ?_)
        have hW : ze_W D ((ze_wC c a n A B E) ++ [(q, .inl (c 0, 210, .inl (upd N (9 * g + 55) 2)))]) F s.heap _ _ := hW
        refine lv_aload_n hX_ hB_ dL_isStarted_143 rfl (lv_at hl 2 rfl) ?_
        refine lv_iload_n hX_ hB_ dL_isStarted_144 rfl (lv_at hl 0 rfl) ?_
        refine lv_bipush (v := 6) hX_ hB_ dL_isStarted_145 (by decide) ?_
        refine lv_iadd hX_ hB_ dL_isStarted_147 ?_
        refine ze_top (xb_add (a := 9 * g + 50) (b := 6) (c := 9 * g + 56) (by omega)) ?_
        refine lv_aload_n hX_ hB_ dL_isStarted_148 rfl (lv_at hl 2 rfl) ?_
        refine lv_iload_n hX_ hB_ dL_isStarted_149 rfl (lv_at hl 0 rfl) ?_
        refine lv_iconst (v := 3) hX_ hB_ dL_isStarted_150 (by decide) ?_
        refine lv_iadd hX_ hB_ dL_isStarted_151 ?_
        refine ze_top (xb_add (a := 9 * g + 50) (b := 3) (c := 9 * g + 53) (by omega)) ?_
        refine ze_ialdN hX_ hB_ hK hW ((ze_wC c a n A B E).length + 0) (f := (upd N (9 * g + 55) 2)) (ze_appL (k := 0) rfl) (i := 9 * g + 53) (by omega) (by decide) dL_isStarted_152 ?_
        refine ze_top (xb_un (by omega)) ?_
        refine ze_top (y := A 9 g) (hR.2.2.2.1.1 g (by omega)).2.2.2.1 ?_
        refine ze_iastN hX_ hB_ hK hW ((ze_wC c a n A B E).length + 0) (f := (upd N (9 * g + 55) 2)) (ze_appL (k := 0) rfl) (i := 9 * g + 56) (by omega) (by decide) dL_isStarted_153 (ze_appset rfl) (fun H locs hW => ?_)
        have hW : ze_W D ((ze_wC c a n A B E) ++ [(q, .inl (c 0, 210, .inl (upd (upd N (9 * g + 55) 2) (9 * g + 56) (A 9 g))))]) F s.heap _ _ := hW
        refine lv_aload_n hX_ hB_ dL_isStarted_154 rfl (lv_at hl 1 rfl) ?_
        refine lv_iload_n hX_ hB_ dL_isStarted_155 rfl (lv_at hl 3 rfl) ?_
        refine xb_FSq (As := [.ref (a 0), .int (nI g)]) (rest := []) S (xw_start_f l D c a n A B E g hN hg ((xc_st0 (hC g hg)).mp c13) (fun z9 => z9 c96)) (vx_cwSW 2 hts gL_isStarted_L_start rfl rfl rfl (by decide +kernel) ⟨(Nat.le_of_ble_eq_true rfl), (Nat.le_of_ble_eq_true rfl)⟩) hG hK hW hA rfl hl.1 rfl (lv_room (Nat.le_of_ble_eq_true rfl)) dL_isStarted_156 ⟨(Nat.le_of_ble_eq_true rfl), (Nat.le_of_ble_eq_true rfl)⟩ (fun H locs hW => ?_)
        have hW : ze_W D ((ze_wC c a n (zf_start A g) B E) ++ [(q, .inl (c 0, 210, .inl (upd (upd N (9 * g + 55) 2) (9 * g + 56) (A 9 g))))]) F s.heap _ _ := hW
        refine ze_top (y := A 9 g) (xd_st11 A g) ?_
        refine lv_aload_n hX_ hB_ dL_isStarted_159 rfl (lv_at hl 2 rfl) ?_
        refine lv_iload_n hX_ hB_ dL_isStarted_160 rfl (lv_at hl 0 rfl) ?_
        refine lv_iconst (v := 3) hX_ hB_ dL_isStarted_161 (by decide) ?_
        refine lv_iadd hX_ hB_ dL_isStarted_162 ?_
        refine ze_top (xb_add (a := 9 * g + 50) (b := 3) (c := 9 * g + 53) (by omega)) ?_
        refine ze_ialdN hX_ hB_ hK hW ((ze_wC c a n (zf_start A g) B E).length + 0) (f := (upd (upd N (9 * g + 55) 2) (9 * g + 56) (A 9 g))) (ze_appL (k := 0) rfl) (i := 9 * g + 53) (by omega) (by decide) dL_isStarted_163 ?_
        refine ze_top (xb_un (by omega)) ?_
        refine ze_top (xb_un (by omega)) ?_
        refine ze_top (y := A 9 g) (hR.2.2.2.1.1 g (by omega)).2.2.2.1 ?_
        refine lv_icmp_ne (tgt := 171) hX_ hB_ dL_isStarted_164 (by decide) (fun c164 => ?_) (fun c164 => ?_)
        · exact absurd rfl c164
        · refine lv_iconst (v := 1) hX_ hB_ dL_isStarted_167 (by decide) ?_
          refine lv_goto (tgt := 172) hX_ hB_ dL_isStarted_168 (by decide) ?_
          exact xb_iret (T := xd_T) (a, n, (zf_start A g), B, E, (upd (upd N (9 * g + 55) 2) (9 * g + 56) (A 9 g))) S hr hlocks hF hK hW rfl dL_isStarted_172 (Nat.le_of_ble_eq_true rfl) (Nat.le_of_ble_eq_true rfl) ⟨rfl, ⟨rfl, (by have z9 := xd_start hI hg; rw [if_pos c134] at z9; exact z9), rfl, Nat.le_refl _, Nat.le_refl _⟩⟩ rfl
    · refine lv_aload_n hX_ hB_ dL_isStarted_99 rfl (lv_at hl 1 rfl) ?_
      refine lv_iload_n hX_ hB_ dL_isStarted_100 rfl (lv_at hl 3 rfl) ?_
      refine xb_FSq (As := [.ref (a 0), .int (nI g)]) (rest := []) S (xw_stop_t2 l D hst c a n A B E g hN hg ((xc_st0 (hC g hg)).mp c13)) (vx_cwSW 2 hts gL_isStarted_L_stop rfl rfl rfl (by decide +kernel) ⟨(Nat.le_of_ble_eq_true rfl), (Nat.le_of_ble_eq_true rfl)⟩) hG hK hW hA rfl hl.1 rfl (lv_room (Nat.le_of_ble_eq_true rfl)) dL_isStarted_101 ⟨(Nat.le_of_ble_eq_true rfl), (Nat.le_of_ble_eq_true rfl)⟩ (fun H locs hW => ?_)
      have hW : ze_W D ((ze_wC c a n A B E) ++ [(q, .inl (c 0, 210, .inl N))]) F s.heap _ _ := hW
      refine lv_ldc (own := RL) (v := -900002) hX_ hB_ S.2.2.2.1 w0 dL_isStarted_104 ?_
      refine lv_icmp_ne (tgt := 123) hX_ hB_ dL_isStarted_106 (by decide) (fun c106 => ?_) (fun c106 => ?_)
      · exact absurd c106 (by decide)
      · refine lv_aload_n hX_ hB_ dL_isStarted_109 rfl (lv_at hl 1 rfl) ?_
        refine lv_iload_n hX_ hB_ dL_isStarted_110 rfl (lv_at hl 3 rfl) ?_
        refine xb_FSq (As := [.ref (a 0), .int (nI g)]) (rest := []) S (xw_start_t3 l D hst c a n A B E g hN hg ((xc_st0 (hC g hg)).mp c13) c96) (vx_cwSW 2 hts gL_isStarted_L_start rfl rfl rfl (by decide +kernel) ⟨(Nat.le_of_ble_eq_true rfl), (Nat.le_of_ble_eq_true rfl)⟩) hG hK hW hA rfl hl.1 rfl (lv_room (Nat.le_of_ble_eq_true rfl)) dL_isStarted_111 ⟨(Nat.le_of_ble_eq_true rfl), (Nat.le_of_ble_eq_true rfl)⟩ (fun H locs hW => ?_)
        have hW : ze_W D ((ze_wC c a n A B E) ++ [(q, .inl (c 0, 210, .inl N))]) F s.heap _ _ := hW
        refine lv_ldc (own := RL) (v := -900003) hX_ hB_ S.2.2.2.1 w1 dL_isStarted_114 ?_
        refine lv_icmp_ne (tgt := 123) hX_ hB_ dL_isStarted_116 (by decide) (fun c116 => ?_) (fun c116 => ?_)
        · exact absurd c116 (by decide)
        · refine lv_iconst (v := 1) hX_ hB_ dL_isStarted_119 (by decide) ?_
          refine lv_goto (tgt := 124) hX_ hB_ dL_isStarted_120 (by decide) ?_
          exact xb_iret (T := xd_T) (a, n, A, B, E, N) S hr hlocks hF hK hW rfl dL_isStarted_124 (Nat.le_of_ble_eq_true rfl) (Nat.le_of_ble_eq_true rfl) ⟨rfl, ⟨rfl, hI, rfl, Nat.le_refl _, Nat.le_refl _⟩⟩ rfl
  · refine lv_aload_n hX_ hB_ dL_isStarted_16 rfl (lv_at hl 2 rfl) ?_
    refine lv_iload_n hX_ hB_ dL_isStarted_17 rfl (lv_at hl 0 rfl) ?_
    refine lv_iconst (v := 4) hX_ hB_ dL_isStarted_18 (by decide) ?_
    refine lv_iadd hX_ hB_ dL_isStarted_19 ?_
    refine ze_top (xb_add (a := 9 * g + 50) (b := 4) (c := 9 * g + 54) (by omega)) ?_
    refine ze_ialdN hX_ hB_ hK hW ((ze_wC c a n A B E).length + 0) (f := N) (ze_appL (k := 0) rfl) (i := 9 * g + 54) (by omega) (by decide) dL_isStarted_20 ?_
    refine ze_top (y := A 10 g) (hR.2.2.2.1.1 g (by omega)).2.2.2.2.1 ?_
    refine lv_iconst (v := 2) hX_ hB_ dL_isStarted_21 (by decide) ?_
    refine lv_irem hX_ hB_ dL_isStarted_22 (by decide) ?_
    refine lv_if_ne (tgt := 30) hX_ hB_ dL_isStarted_23 (by decide) (fun c23 => ?_) (fun c23 => ?_)
    · refine lv_iconst (v := 0) hX_ hB_ dL_isStarted_30 (by decide) ?_
      refine lv_istore (lv' := [(4, .int 0), (3, .int (nI (9 * g + 50))), (0, .ref (a 0)), (1, .ref q), (2, .int (nI g))]) hX_ hB_ dL_isStarted_31 hl (by decide) rfl (fun ls hl => ?_)
      refine lv_aload_n hX_ hB_ dL_isStarted_33 rfl (lv_at hl 3 rfl) ?_
      refine lv_iload_n hX_ hB_ dL_isStarted_34 rfl (lv_at hl 1 rfl) ?_
      refine lv_iconst (v := 5) hX_ hB_ dL_isStarted_35 (by decide) ?_
      refine lv_iadd hX_ hB_ dL_isStarted_36 ?_
      refine ze_top (xb_add (a := 9 * g + 50) (b := 5) (c := 9 * g + 55) (by omega)) ?_
      refine lv_iload hX_ hB_ dL_isStarted_37 (lv_at hl 0 rfl) ?_
      refine lv_if_eq (tgt := 46) hX_ hB_ dL_isStarted_39 (by decide) (fun c39 => ?_) (fun c39 => ?_)
      · refine lv_aload_n hX_ hB_ dL_isStarted_46 rfl (lv_at hl 3 rfl) ?_
        refine lv_iload_n hX_ hB_ dL_isStarted_47 rfl (lv_at hl 1 rfl) ?_
        refine lv_iconst (v := 5) hX_ hB_ dL_isStarted_48 (by decide) ?_
        refine lv_iadd hX_ hB_ dL_isStarted_49 ?_
        refine ze_top (xb_add (a := 9 * g + 50) (b := 5) (c := 9 * g + 55) (by omega)) ?_
        refine ze_ialdN hX_ hB_ hK hW ((ze_wC c a n A B E).length + 0) (f := N) (ze_appL (k := 0) rfl) (i := 9 * g + 55) (by omega) (by decide) dL_isStarted_50 ?_
        refine ze_top (y := xc_st (A 13 g)) (hR.2.2.2.1.1 g (by omega)).2.2.2.2.2 ?_
        refine ze_iastN hX_ hB_ hK hW ((ze_wC c a n A B E).length + 0) (f := N) (ze_appL (k := 0) rfl) (i := 9 * g + 55) (by omega) (by decide) dL_isStarted_51 (ze_appset rfl) (fun H locs hW => ?_)
        have hW : ze_W D ((ze_wC c a n A B E) ++ [(q, .inl (c 0, 210, .inl (upd N (9 * g + 55) (xc_st (A 13 g)))))]) F s.heap _ _ := hW
        refine lv_aload_n hX_ hB_ dL_isStarted_52 rfl (lv_at hl 2 rfl) ?_
        refine lv_iload_n hX_ hB_ dL_isStarted_53 rfl (lv_at hl 4 rfl) ?_
        refine xb_FSq (As := [.ref (a 0), .int (nI g)]) (rest := []) S (xw_start_t2 l D hst c a n A B E g hN hg (fun z9 => c13 ((xc_st0 (hC g hg)).mpr z9))) (vx_cwSW 2 hts gL_isStarted_L_start rfl rfl rfl (by decide +kernel) ⟨(Nat.le_of_ble_eq_true rfl), (Nat.le_of_ble_eq_true rfl)⟩) hG hK hW hA rfl hl.1 rfl (lv_room (Nat.le_of_ble_eq_true rfl)) dL_isStarted_54 ⟨(Nat.le_of_ble_eq_true rfl), (Nat.le_of_ble_eq_true rfl)⟩ (fun H locs hW => ?_)
        have hW : ze_W D ((ze_wC c a n A B E) ++ [(q, .inl (c 0, 210, .inl (upd N (9 * g + 55) (xc_st (A 13 g)))))]) F s.heap _ _ := hW
        refine lv_ldc (own := RL) (v := -900002) hX_ hB_ S.2.2.2.1 w0 dL_isStarted_57 ?_
        refine lv_icmp_ne (tgt := 84) hX_ hB_ dL_isStarted_59 (by decide) (fun c59 => ?_) (fun c59 => ?_)
        · exact absurd c59 (by decide)
        · refine lv_iload hX_ hB_ dL_isStarted_62 (lv_at hl 0 rfl) ?_
          refine lv_if_eq (tgt := 80) hX_ hB_ dL_isStarted_64 (by decide) (fun c64 => ?_) (fun c64 => ?_)
          · refine lv_iconst (v := 1) hX_ hB_ dL_isStarted_80 (by decide) ?_
            refine lv_goto (tgt := 85) hX_ hB_ dL_isStarted_81 (by decide) ?_
            exact xb_iret (T := xd_T) (a, n, A, B, E, (upd N (9 * g + 55) (xc_st (A 13 g)))) S hr hlocks hF hK hW rfl dL_isStarted_85 (Nat.le_of_ble_eq_true rfl) (Nat.le_of_ble_eq_true rfl) ⟨rfl, ⟨rfl, (by rw [xd_self hst5.symm]; exact hI), rfl, Nat.le_refl _, Nat.le_refl _⟩⟩ rfl
          · exact absurd c64 (by decide)
      · exact absurd c39 (by decide)
    · refine lv_iconst (v := 1) hX_ hB_ dL_isStarted_26 (by decide) ?_
      refine lv_goto (tgt := 31) hX_ hB_ dL_isStarted_27 (by decide) ?_
      refine lv_istore (lv' := [(4, .int 1), (3, .int (nI (9 * g + 50))), (0, .ref (a 0)), (1, .ref q), (2, .int (nI g))]) hX_ hB_ dL_isStarted_31 hl (by decide) rfl (fun ls hl => ?_)
      refine lv_aload_n hX_ hB_ dL_isStarted_33 rfl (lv_at hl 3 rfl) ?_
      refine lv_iload_n hX_ hB_ dL_isStarted_34 rfl (lv_at hl 1 rfl) ?_
      refine lv_iconst (v := 5) hX_ hB_ dL_isStarted_35 (by decide) ?_
      refine lv_iadd hX_ hB_ dL_isStarted_36 ?_
      refine ze_top (xb_add (a := 9 * g + 50) (b := 5) (c := 9 * g + 55) (by omega)) ?_
      refine lv_iload hX_ hB_ dL_isStarted_37 (lv_at hl 0 rfl) ?_
      refine lv_if_eq (tgt := 46) hX_ hB_ dL_isStarted_39 (by decide) (fun c39 => ?_) (fun c39 => ?_)
      · exact absurd c39 (by decide)
      · refine lv_iconst (v := 0) hX_ hB_ dL_isStarted_42 (by decide) ?_
        refine lv_goto (tgt := 51) hX_ hB_ dL_isStarted_43 (by decide) ?_
        refine ze_iastN hX_ hB_ hK hW ((ze_wC c a n A B E).length + 0) (f := N) (ze_appL (k := 0) rfl) (i := 9 * g + 55) (by omega) (by decide) dL_isStarted_51 (ze_appset rfl) (fun H locs hW => ?_)
        have hW : ze_W D ((ze_wC c a n A B E) ++ [(q, .inl (c 0, 210, .inl (upd N (9 * g + 55) 0)))]) F s.heap _ _ := hW
        refine lv_aload_n hX_ hB_ dL_isStarted_52 rfl (lv_at hl 2 rfl) ?_
        refine lv_iload_n hX_ hB_ dL_isStarted_53 rfl (lv_at hl 4 rfl) ?_
        refine xb_FSq (As := [.ref (a 0), .int (nI g)]) (rest := []) S (xw_start_t2 l D hst c a n A B E g hN hg (fun z9 => c13 ((xc_st0 (hC g hg)).mpr z9))) (vx_cwSW 2 hts gL_isStarted_L_start rfl rfl rfl (by decide +kernel) ⟨(Nat.le_of_ble_eq_true rfl), (Nat.le_of_ble_eq_true rfl)⟩) hG hK hW hA rfl hl.1 rfl (lv_room (Nat.le_of_ble_eq_true rfl)) dL_isStarted_54 ⟨(Nat.le_of_ble_eq_true rfl), (Nat.le_of_ble_eq_true rfl)⟩ (fun H locs hW => ?_)
        have hW : ze_W D ((ze_wC c a n A B E) ++ [(q, .inl (c 0, 210, .inl (upd N (9 * g + 55) 0)))]) F s.heap _ _ := hW
        refine lv_ldc (own := RL) (v := -900002) hX_ hB_ S.2.2.2.1 w0 dL_isStarted_57 ?_
        refine lv_icmp_ne (tgt := 84) hX_ hB_ dL_isStarted_59 (by decide) (fun c59 => ?_) (fun c59 => ?_)
        · exact absurd c59 (by decide)
        · refine lv_iload hX_ hB_ dL_isStarted_62 (lv_at hl 0 rfl) ?_
          refine lv_if_eq (tgt := 80) hX_ hB_ dL_isStarted_64 (by decide) (fun c64 => ?_) (fun c64 => ?_)
          · exact absurd c64 (by decide)
          · refine lv_aload_n hX_ hB_ dL_isStarted_67 rfl (lv_at hl 2 rfl) ?_
            refine lv_iload_n hX_ hB_ dL_isStarted_68 rfl (lv_at hl 4 rfl) ?_
            refine xb_FSq (As := [.ref (a 0), .int (nI g)]) (rest := []) S (xw_stop_f l D c a n A B E g hN hg (fun z9 => c13 ((xc_st0 (hC g hg)).mpr z9))) (vx_cwSW 2 hts gL_isStarted_L_stop rfl rfl rfl (by decide +kernel) ⟨(Nat.le_of_ble_eq_true rfl), (Nat.le_of_ble_eq_true rfl)⟩) hG hK hW hA rfl hl.1 rfl (lv_room (Nat.le_of_ble_eq_true rfl)) dL_isStarted_69 ⟨(Nat.le_of_ble_eq_true rfl), (Nat.le_of_ble_eq_true rfl)⟩ (fun H locs hW => ?_)
            have hW : ze_W D ((ze_wC c a n (ze_sE A 13 g 111) B E) ++ [(q, .inl (c 0, 210, .inl (upd N (9 * g + 55) 0)))]) F s.heap _ _ := hW
            refine lv_aload_n hX_ hB_ dL_isStarted_72 rfl (lv_at hl 3 rfl) ?_
            refine lv_iload_n hX_ hB_ dL_isStarted_73 rfl (lv_at hl 1 rfl) ?_
            refine lv_iconst (v := 4) hX_ hB_ dL_isStarted_74 (by decide) ?_
            refine lv_iadd hX_ hB_ dL_isStarted_75 ?_
            refine ze_top (xb_add (a := 9 * g + 50) (b := 4) (c := 9 * g + 54) (by omega)) ?_
            refine ze_ialdN hX_ hB_ hK hW ((ze_wC c a n (ze_sE A 13 g 111) B E).length + 0) (f := (upd N (9 * g + 55) 0)) (ze_appL (k := 0) rfl) (i := 9 * g + 54) (by omega) (by decide) dL_isStarted_76 ?_
            refine ze_top (xb_un (by omega)) ?_
            refine ze_top (y := A 10 g) (hR.2.2.2.1.1 g (by omega)).2.2.2.2.1 ?_
            refine lv_icmp_ne (tgt := 84) hX_ hB_ dL_isStarted_77 (by decide) (fun c77 => ?_) (fun c77 => ?_)
            · exact absurd rfl c77
            · refine lv_iconst (v := 1) hX_ hB_ dL_isStarted_80 (by decide) ?_
              refine lv_goto (tgt := 85) hX_ hB_ dL_isStarted_81 (by decide) ?_
              exact xb_iret (T := xd_T) (a, n, (ze_sE A 13 g 111), B, E, (upd N (9 * g + 55) 0)) S hr hlocks hF hK hW rfl dL_isStarted_85 (Nat.le_of_ble_eq_true rfl) (Nat.le_of_ble_eq_true rfl) ⟨rfl, ⟨rfl, (xd_stop hI hg), rfl, Nat.le_refl _, Nat.le_refl _⟩⟩ rfl
