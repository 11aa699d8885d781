/-! ===== the law's methods over the object and the net ===== -/
set_option maxHeartbeats 8000000 in
set_option maxRecDepth 100000 in
theorem xj_cell (l : Launch) (D : va_G) (c : Nat → ClassId) (b L : Nat) (xs : Nat → Int32) (hL : L ≤ 260) (i : Nat) (hi : i < 2000) : xb_X l yL_cell wsL_cell 0 0 0 0 D c (some (b, L, xs)) ([] : va_W) [.ref b, .int (nI i)] (xd_cell xs L i) ([] : va_W) := by
  intro sz
  refine xb_start (cc := cL_cell) (maxL := 3) (ret := (some .int)) (own := RL) (by decide) rfl rfl (Nat.le_of_ble_eq_true rfl) ?_
  intro p e s m_ below meth cd F ls hF hsz E0 hG
  obtain ⟨S, hr, hlocks, hK, hW, hA, hl⟩ := E0
  have hX_ := S.1
  have hB_ := S.2.1
  have hts := S.2.2.2.2
  obtain ⟨hX9, hb9, hF9⟩ := hG.2.2 _ rfl
  have hl : lv_has ls 3 [(0, .ref b), (1, .int (nI i))] := hl
  have w0 := hts (.constant RL 7 (69069)) (List.mem_cons_of_mem _ (List.mem_of_getElem? (i := 0) rfl))
  have w1 := hts (.constant RL 8 (1103515245)) (List.mem_cons_of_mem _ (List.mem_of_getElem? (i := 1) rfl))
  refine lv_ldc (own := RL) (v := 69069) hX_ hB_ S.2.2.2.1 w0 dL_cell_0 ?_
  refine lv_iload_n hX_ hB_ dL_cell_2 rfl (lv_at hl 1 rfl) ?_
  refine lv_aload_n hX_ hB_ dL_cell_3 rfl (lv_at hl 0 rfl) ?_
  refine va_slen hX_ hB_ hX9 hb9 hF9 hW.2.2 dL_cell_4 ?_
  refine lv_icmp_ge (tgt := 14) hX_ hB_ dL_cell_5 (by decide) (fun c5 => ?_) (fun c5 => ?_)
  · have c5 : ¬ i < L := Nat.not_lt.mpr ((nI_leI (a := L) (b := i) (by omega) (by omega)).mp c5)
    refine lv_iconst (v := 0) hX_ hB_ dL_cell_14 (by decide) ?_
    refine lv_sipush (v := 1009) hX_ hB_ dL_cell_15 (by decide) ?_
    refine lv_iload_n hX_ hB_ dL_cell_18 rfl (lv_at hl 1 rfl) ?_
    refine lv_imul hX_ hB_ dL_cell_19 ?_
    refine ze_top (xb_mul (a := 1009) (b := i) (c := 1009 * i) (by omega)) ?_
    refine lv_iadd hX_ hB_ dL_cell_20 ?_
    refine ze_top (xb_add (a := 0) (b := 1009 * i) (c := 1009 * i) (by omega)) ?_
    refine lv_imul hX_ hB_ dL_cell_21 ?_
    refine ze_top (xb_mul (a := 69069) (b := 1009 * i) (c := 69690621 * i) (by omega)) ?_
    refine lv_sipush (v := 12345) hX_ hB_ dL_cell_22 (by decide) ?_
    refine lv_iadd hX_ hB_ dL_cell_25 ?_
    refine ze_top (xb_add (a := 69690621 * i) (b := 12345) (c := 69690621 * i + 12345) (by omega)) ?_
    refine lv_istore_n (lv' := [(2, .int (nI (69690621 * i + 12345))), (0, .ref b), (1, .int (nI i))]) hX_ hB_ dL_cell_26 rfl hl (by decide) rfl (fun ls hl => ?_)
    refine lv_iload_n hX_ hB_ dL_cell_27 rfl (lv_at hl 0 rfl) ?_
    refine lv_iload_n hX_ hB_ dL_cell_28 rfl (lv_at hl 0 rfl) ?_
    refine lv_bipush (v := 13) hX_ hB_ dL_cell_29 (by decide) ?_
    refine lv_iushr (v := ((nI (69690621 * i + 12345)).toUInt32 >>> ((13 : Int32).toUInt32 &&& Int32.toUInt32 31)).toInt32) hX_ hB_ dL_cell_31 rfl ?_
    refine lv_ixor hX_ hB_ dL_cell_32 ?_
    refine lv_ldc (own := RL) (v := 1103515245) hX_ hB_ S.2.2.2.1 w1 dL_cell_33 ?_
    refine lv_imul hX_ hB_ dL_cell_35 ?_
    refine lv_istore_n (lv' := [(2, .int (((nI (69690621 * i + 12345)) ^^^ (((nI (69690621 * i + 12345)).toUInt32 >>> ((13 : Int32).toUInt32 &&& Int32.toUInt32 31)).toInt32)) * 1103515245)), (0, .ref b), (1, .int (nI i))]) hX_ hB_ dL_cell_36 rfl hl (by decide) rfl (fun ls hl => ?_)
    refine lv_iload_n hX_ hB_ dL_cell_37 rfl (lv_at hl 0 rfl) ?_
    refine lv_iload_n hX_ hB_ dL_cell_38 rfl (lv_at hl 0 rfl) ?_
    refine lv_bipush (v := 16) hX_ hB_ dL_cell_39 (by decide) ?_
    refine lv_iushr (v := ((((nI (69690621 * i + 12345)) ^^^ (((nI (69690621 * i + 12345)).toUInt32 >>> ((13 : Int32).toUInt32 &&& Int32.toUInt32 31)).toInt32)) * 1103515245).toUInt32 >>> ((16 : Int32).toUInt32 &&& Int32.toUInt32 31)).toInt32) hX_ hB_ dL_cell_41 rfl ?_
    refine lv_ixor hX_ hB_ dL_cell_42 ?_
    exact ze_iret S hr hlocks hF hK hW rfl dL_cell_43 (Nat.le_of_ble_eq_true rfl) (Nat.le_of_ble_eq_true rfl) (by unfold xd_cell xd_cell0; rw [if_neg c5]) rfl
  · have c5 : i < L := Nat.lt_of_not_le (fun h9 => c5 ((nI_leI (a := L) (b := i) (by omega) (by omega)).mpr h9))
    refine lv_aload_n hX_ hB_ dL_cell_8 rfl (lv_at hl 0 rfl) ?_
    refine lv_iload_n hX_ hB_ dL_cell_9 rfl (lv_at hl 1 rfl) ?_
    refine va_sld hX_ hB_ hX9 hb9 hF9 hW.2.2 (vp_in_nI (n := i) (N := L) (by omega) (by omega)) dL_cell_10 ?_
    refine ze_top (congrArg xs (nI_clamp (n := i) (by omega))) ?_
    refine lv_goto (tgt := 15) hX_ hB_ dL_cell_11 (by decide) ?_
    refine lv_sipush (v := 1009) hX_ hB_ dL_cell_15 (by decide) ?_
    refine lv_iload_n hX_ hB_ dL_cell_18 rfl (lv_at hl 1 rfl) ?_
    refine lv_imul hX_ hB_ dL_cell_19 ?_
    refine ze_top (xb_mul (a := 1009) (b := i) (c := 1009 * i) (by omega)) ?_
    refine lv_iadd hX_ hB_ dL_cell_20 ?_
    refine lv_imul hX_ hB_ dL_cell_21 ?_
    refine lv_sipush (v := 12345) hX_ hB_ dL_cell_22 (by decide) ?_
    refine lv_iadd hX_ hB_ dL_cell_25 ?_
    refine lv_istore_n (lv' := [(2, .int ((69069 * (xs i + nI (1009 * i))) + 12345)), (0, .ref b), (1, .int (nI i))]) hX_ hB_ dL_cell_26 rfl hl (by decide) rfl (fun ls hl => ?_)
    refine lv_iload_n hX_ hB_ dL_cell_27 rfl (lv_at hl 0 rfl) ?_
    refine lv_iload_n hX_ hB_ dL_cell_28 rfl (lv_at hl 0 rfl) ?_
    refine lv_bipush (v := 13) hX_ hB_ dL_cell_29 (by decide) ?_
    refine lv_iushr (v := (((69069 * (xs i + nI (1009 * i))) + 12345).toUInt32 >>> ((13 : Int32).toUInt32 &&& Int32.toUInt32 31)).toInt32) hX_ hB_ dL_cell_31 rfl ?_
    refine lv_ixor hX_ hB_ dL_cell_32 ?_
    refine lv_ldc (own := RL) (v := 1103515245) hX_ hB_ S.2.2.2.1 w1 dL_cell_33 ?_
    refine lv_imul hX_ hB_ dL_cell_35 ?_
    refine lv_istore_n (lv' := [(2, .int ((((69069 * (xs i + nI (1009 * i))) + 12345) ^^^ ((((69069 * (xs i + nI (1009 * i))) + 12345).toUInt32 >>> ((13 : Int32).toUInt32 &&& Int32.toUInt32 31)).toInt32)) * 1103515245)), (0, .ref b), (1, .int (nI i))]) hX_ hB_ dL_cell_36 rfl hl (by decide) rfl (fun ls hl => ?_)
    refine lv_iload_n hX_ hB_ dL_cell_37 rfl (lv_at hl 0 rfl) ?_
    refine lv_iload_n hX_ hB_ dL_cell_38 rfl (lv_at hl 0 rfl) ?_
    refine lv_bipush (v := 16) hX_ hB_ dL_cell_39 (by decide) ?_
    refine lv_iushr (v := (((((69069 * (xs i + nI (1009 * i))) + 12345) ^^^ ((((69069 * (xs i + nI (1009 * i))) + 12345).toUInt32 >>> ((13 : Int32).toUInt32 &&& Int32.toUInt32 31)).toInt32)) * 1103515245).toUInt32 >>> ((16 : Int32).toUInt32 &&& Int32.toUInt32 31)).toInt32) hX_ hB_ dL_cell_41 rfl ?_
    refine lv_ixor hX_ hB_ dL_cell_42 ?_
    exact ze_iret S hr hlocks hF hK hW rfl dL_cell_43 (Nat.le_of_ble_eq_true rfl) (Nat.le_of_ble_eq_true rfl) (by unfold xd_cell xd_cell0; rw [if_pos c5]) rfl
