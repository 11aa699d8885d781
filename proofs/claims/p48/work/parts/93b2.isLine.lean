/-! ===== the law's methods over the object and the net ===== -/
set_option maxHeartbeats 8000000 in
set_option maxRecDepth 100000 in
theorem xj_isLine (l : Launch) (D : va_G) (hst : l.stackTraces = false) (c : Nat → ClassId) (q : Nat) (a n : Nat → Nat) (A : Nat → Nat → Int32) (B : Nat → Int64) (E : Nat → Nat → Int32) (N : Nat → Int32) (t : Nat) (hI : xd_I n A B E N t) (i j : Nat) (hi : i < n 0) (hj : j < n 0) : xb_M (T := xd_T) l yL_isLine wsL_isLine 8 127 1 6 D c none ((ze_wC c a n A B E) ++ [(q, .inl (c 0, 210, .inl N))]) [.ref (a 0), .ref q, .int (nI i), .int (nI j)] (fun r (u : xd_T) => r = 1 ∧ xd_P (a 0) n (t) u) (fun u => xd_w c q u) := by
  intro sz
  refine xb_start (cc := cL_isLine) (maxL := 4) (ret := (some .boolean)) (own := RL) (by decide) rfl rfl (Nat.le_of_ble_eq_true rfl) ?_
  have hKc := xd_K hI
  have hH := xc_KH hKc
  obtain ⟨hV, hR, hPh, hY, hWu⟩ := id hI
  obtain ⟨hN, hS, hE, hz, h4, h4z, hT, hC, hKz, hZ, hp⟩ := id hV
  obtain ⟨hn0, hn1, hn2, hn3, hn4⟩ := id hN
  have hE1 := zv_hE hV
  intro p e s m_ below meth cd F ls hF hsz E0 hG
  obtain ⟨S, hr, hlocks, hK, hW, hA, hl⟩ := E0
  have hX_ := S.1
  have hB_ := S.2.1
  have hts := S.2.2.2.2
  have hl : lv_has ls 4 [(0, .ref (a 0)), (1, .ref q), (2, .int (nI i)), (3, .int (nI j))] := hl
  have w0 := hts (.constant RL 26 (-900002)) (List.mem_cons_of_mem _ (List.mem_append_left _ (List.mem_append_left _ (List.mem_append_left _ (List.mem_append_left _ (List.mem_append_left _ (List.mem_append_left _ (List.mem_of_getElem? (i := 0) rfl))))))))
  have w1 := hts (.constant RL 30 (-900003)) (List.mem_cons_of_mem _ (List.mem_append_left _ (List.mem_append_left _ (List.mem_append_left _ (List.mem_append_left _ (List.mem_append_left _ (List.mem_append_left _ (List.mem_of_getElem? (i := 1) rfl))))))))
  refine lv_iload_n hX_ hB_ dL_isLine_0 rfl (lv_at hl 2 rfl) ?_
  refine lv_iload_n hX_ hB_ dL_isLine_1 rfl (lv_at hl 3 rfl) ?_
  refine lv_icmp_eq (tgt := 13) hX_ hB_ dL_isLine_2 (by decide) (fun c2 => ?_) (fun c2 => ?_)
  · have c2 : i = j := (nI_eq (a := i) (b := j) (by omega) (by omega)).mp c2
    refine lv_aload_n hX_ hB_ dL_isLine_13 rfl (lv_at hl 0 rfl) ?_
    refine lv_iload_n hX_ hB_ dL_isLine_14 rfl (lv_at hl 2 rfl) ?_
    refine lv_iload_n hX_ hB_ dL_isLine_15 rfl (lv_at hl 3 rfl) ?_
    refine xb_FSq (As := [.ref (a 0), .int (nI i), .int (nI j)]) (rest := []) S (xw_addLine_t2 l D hst c a n A B E i hN hi j hj c2) (vx_cwSW 3 hts gL_isLine_L_addLine rfl rfl rfl (by decide +kernel) ⟨(Nat.le_of_ble_eq_true rfl), (Nat.le_of_ble_eq_true rfl)⟩) hG hK hW hA rfl hl.1 rfl (lv_room (Nat.le_of_ble_eq_true rfl)) dL_isLine_16 ⟨(Nat.le_of_ble_eq_true rfl), (Nat.le_of_ble_eq_true rfl)⟩ (fun H locs hW => ?_)
    have hW : ze_W D ((ze_wC c a n A B E) ++ [(q, .inl (c 0, 210, .inl N))]) F s.heap _ _ := hW
    refine lv_iload_n hX_ hB_ dL_isLine_19 rfl (lv_at hl 2 rfl) ?_
    refine lv_iload_n hX_ hB_ dL_isLine_20 rfl (lv_at hl 3 rfl) ?_
    refine lv_icmp_ne (tgt := 29) hX_ hB_ dL_isLine_21 (by decide) (fun c21 => ?_) (fun c21 => ?_)
    · have c21 : ¬ i = j := fun h9 => c21 ((nI_eq (a := i) (b := j) (by omega) (by omega)).mpr h9)
      exact absurd c2 c21
    · have c21 : i = j := (nI_eq (a := i) (b := j) (by omega) (by omega)).mp c21
      refine lv_ldc (own := RL) (v := -900002) hX_ hB_ S.2.2.2.1 w0 dL_isLine_24 ?_
      refine lv_goto (tgt := 31) hX_ hB_ dL_isLine_26 (by decide) ?_
      refine lv_icmp_ne (tgt := 38) hX_ hB_ dL_isLine_31 (by decide) (fun c31 => ?_) (fun c31 => ?_)
      · exact absurd c31 (by decide)
      · refine lv_iconst (v := 1) hX_ hB_ dL_isLine_34 (by decide) ?_
        refine lv_goto (tgt := 39) hX_ hB_ dL_isLine_35 (by decide) ?_
        exact xb_iret (T := xd_T) (a, n, A, B, E, N) S hr hlocks hF hK hW rfl dL_isLine_39 (Nat.le_of_ble_eq_true rfl) (Nat.le_of_ble_eq_true rfl) ⟨rfl, ⟨rfl, hI, rfl, Nat.le_refl _, Nat.le_refl _⟩⟩ rfl
  · have c2 : ¬ i = j := fun h9 => c2 ((nI_eq (a := i) (b := j) (by omega) (by omega)).mpr h9)
    refine lv_aload_n hX_ hB_ dL_isLine_5 rfl (lv_at hl 1 rfl) ?_
    refine lv_iconst (v := 1) hX_ hB_ dL_isLine_6 (by decide) ?_
    refine ze_ialdN hX_ hB_ hK hW ((ze_wC c a n A B E).length + 0) (f := N) (ze_appL (k := 0) rfl) (i := 1) (by omega) (by decide) dL_isLine_7 ?_
    refine ze_top (y := nI (n 1)) hR.1.2.1 ?_
    refine lv_bipush (v := 8) hX_ hB_ dL_isLine_8 (by decide) ?_
    refine lv_icmp_ne (tgt := 40) hX_ hB_ dL_isLine_10 (by decide) (fun c10 => ?_) (fun c10 => ?_)
    · have c10 : ¬ (n 1) = 8 := fun h9 => c10 ((nI_eq (a := (n 1)) (b := 8) (by omega) (by omega)).mpr h9)
      refine lv_aload_n hX_ hB_ dL_isLine_40 rfl (lv_at hl 1 rfl) ?_
      refine lv_bipush (v := 20) hX_ hB_ dL_isLine_41 (by decide) ?_
      refine lv_iconst (v := 3) hX_ hB_ dL_isLine_43 (by decide) ?_
      refine lv_aload_n hX_ hB_ dL_isLine_44 rfl (lv_at hl 1 rfl) ?_
      refine lv_iconst (v := 1) hX_ hB_ dL_isLine_45 (by decide) ?_
      refine ze_ialdN hX_ hB_ hK hW ((ze_wC c a n A B E).length + 0) (f := N) (ze_appL (k := 0) rfl) (i := 1) (by omega) (by decide) dL_isLine_46 ?_
      refine ze_top (y := nI (n 1)) hR.1.2.1 ?_
      refine lv_imul hX_ hB_ dL_isLine_47 ?_
      refine ze_top (xb_mul (a := 3) (b := n 1) (c := 3 * (n 1)) (by omega)) ?_
      refine lv_iadd hX_ hB_ dL_isLine_48 ?_
      refine ze_top (xb_add (a := 20) (b := 3 * (n 1)) (c := 3 * (n 1) + 20) (by omega)) ?_
      refine lv_iload_n hX_ hB_ dL_isLine_49 rfl (lv_at hl 2 rfl) ?_
      refine ze_iastN hX_ hB_ hK hW ((ze_wC c a n A B E).length + 0) (f := N) (ze_appL (k := 0) rfl) (i := 3 * (n 1) + 20) (by omega) (by decide) dL_isLine_50 (ze_appset rfl) (fun H locs hW => ?_)
      have hW : ze_W D ((ze_wC c a n A B E) ++ [(q, .inl (c 0, 210, .inl (upd N (3 * (n 1) + 20) (nI i))))]) F s.heap _ _ := hW
      refine lv_aload_n hX_ hB_ dL_isLine_51 rfl (lv_at hl 1 rfl) ?_
      refine lv_bipush (v := 21) hX_ hB_ dL_isLine_52 (by decide) ?_
      refine lv_iconst (v := 3) hX_ hB_ dL_isLine_54 (by decide) ?_
      refine lv_aload_n hX_ hB_ dL_isLine_55 rfl (lv_at hl 1 rfl) ?_
      refine lv_iconst (v := 1) hX_ hB_ dL_isLine_56 (by decide) ?_
      refine ze_ialdN hX_ hB_ hK hW ((ze_wC c a n A B E).length + 0) (f := (upd N (3 * (n 1) + 20) (nI i))) (ze_appL (k := 0) rfl) (i := 1) (by omega) (by decide) dL_isLine_57 ?_
      refine ze_top (xb_un (by omega)) ?_
      refine ze_top (y := nI (n 1)) hR.1.2.1 ?_
      refine lv_imul hX_ hB_ dL_isLine_58 ?_
      refine ze_top (xb_mul (a := 3) (b := n 1) (c := 3 * (n 1)) (by omega)) ?_
      refine lv_iadd hX_ hB_ dL_isLine_59 ?_
      refine ze_top (xb_add (a := 21) (b := 3 * (n 1)) (c := 3 * (n 1) + 21) (by omega)) ?_
      refine lv_iload_n hX_ hB_ dL_isLine_60 rfl (lv_at hl 3 rfl) ?_
      refine ze_iastN hX_ hB_ hK hW ((ze_wC c a n A B E).length + 0) (f := (upd N (3 * (n 1) + 20) (nI i))) (ze_appL (k := 0) rfl) (i := 3 * (n 1) + 21) (by omega) (by decide) dL_isLine_61 (ze_appset rfl) (fun H locs hW => ?_)
      have hW : ze_W D ((ze_wC c a n A B E) ++ [(q, .inl (c 0, 210, .inl (upd (upd N (3 * (n 1) + 20) (nI i)) (3 * (n 1) + 21) (nI j))))]) F s.heap _ _ := hW
      refine lv_aload_n hX_ hB_ dL_isLine_62 rfl (lv_at hl 1 rfl) ?_
      refine lv_iconst (v := 1) hX_ hB_ dL_isLine_63 (by decide) ?_
      refine lv_dup2_11 hX_ hB_ dL_isLine_64 rfl rfl ?_
      refine ze_ialdN hX_ hB_ hK hW ((ze_wC c a n A B E).length + 0) (f := (upd (upd N (3 * (n 1) + 20) (nI i)) (3 * (n 1) + 21) (nI j))) (ze_appL (k := 0) rfl) (i := 1) (by omega) (by decide) dL_isLine_65 ?_
      refine ze_top (xb_un (by omega)) ?_
      refine ze_top (xb_un (by omega)) ?_
      refine ze_top (y := nI (n 1)) hR.1.2.1 ?_
      refine lv_iconst (v := 1) hX_ hB_ dL_isLine_66 (by decide) ?_
      refine lv_iadd hX_ hB_ dL_isLine_67 ?_
      refine ze_top (xb_add (a := n 1) (b := 1) (c := n 1 + 1) (by omega)) ?_
      refine ze_iastN hX_ hB_ hK hW ((ze_wC c a n A B E).length + 0) (f := (upd (upd N (3 * (n 1) + 20) (nI i)) (3 * (n 1) + 21) (nI j))) (ze_appL (k := 0) rfl) (i := 1) (by omega) (by decide) dL_isLine_68 (ze_appset rfl) (fun H locs hW => ?_)
      have hW : ze_W D ((ze_wC c a n A B E) ++ [(q, .inl (c 0, 210, .inl (upd (upd (upd N (3 * (n 1) + 20) (nI i)) (3 * (n 1) + 21) (nI j)) 1 (nI (n 1 + 1)))))]) F s.heap _ _ := hW
      refine lv_aload_n hX_ hB_ dL_isLine_69 rfl (lv_at hl 0 rfl) ?_
      refine lv_iload_n hX_ hB_ dL_isLine_70 rfl (lv_at hl 2 rfl) ?_
      refine lv_iload_n hX_ hB_ dL_isLine_71 rfl (lv_at hl 3 rfl) ?_
      refine xb_FSq (As := [.ref (a 0), .int (nI i), .int (nI j)]) (rest := []) S (xw_addLine_f l D c a n A B E i hN hi j hj c2 (by omega)) (vx_cwSW 3 hts gL_isLine_L_addLine rfl rfl rfl (by decide +kernel) ⟨(Nat.le_of_ble_eq_true rfl), (Nat.le_of_ble_eq_true rfl)⟩) hG hK hW hA rfl hl.1 rfl (lv_room (Nat.le_of_ble_eq_true rfl)) dL_isLine_72 ⟨(Nat.le_of_ble_eq_true rfl), (Nat.le_of_ble_eq_true rfl)⟩ (fun H locs hW => ?_)
      have hW : ze_W D ((ze_wC c a (ze_sn n 1 (n 1 + 1)) (ze_sE (ze_sE A 2 (n 1) (nI i)) 3 (n 1) (nI j)) B E) ++ [(q, .inl (c 0, 210, .inl (upd (upd (upd N (3 * (n 1) + 20) (nI i)) (3 * (n 1) + 21) (nI j)) 1 (nI (n 1 + 1)))))]) F s.heap _ _ := hW
      refine lv_aload_n hX_ hB_ dL_isLine_75 rfl (lv_at hl 1 rfl) ?_
      refine lv_iconst (v := 1) hX_ hB_ dL_isLine_76 (by decide) ?_
      refine ze_ialdN hX_ hB_ hK hW ((ze_wC c a (ze_sn n 1 (n 1 + 1)) (ze_sE (ze_sE A 2 (n 1) (nI i)) 3 (n 1) (nI j)) B E).length + 0) (f := (upd (upd (upd N (3 * (n 1) + 20) (nI i)) (3 * (n 1) + 21) (nI j)) 1 (nI (n 1 + 1)))) (ze_appL (k := 0) rfl) (i := 1) (by omega) (by decide) dL_isLine_77 ?_
      refine ze_top (ze_updat _ _ _) ?_
      refine lv_iconst (v := 1) hX_ hB_ dL_isLine_78 (by decide) ?_
      refine lv_isub hX_ hB_ dL_isLine_79 ?_
      refine ze_top (nI_pred (n 1)) ?_
      refine lv_icmp_ne (tgt := 87) hX_ hB_ dL_isLine_80 (by decide) (fun c80 => ?_) (fun c80 => ?_)
      · exact absurd rfl c80
      · have c80 : (n 1) = (n 1) := (nI_eq (a := (n 1)) (b := (n 1)) (by omega) (by omega)).mp c80
        refine lv_iconst (v := 1) hX_ hB_ dL_isLine_83 (by decide) ?_
        refine lv_goto (tgt := 88) hX_ hB_ dL_isLine_84 (by decide) ?_
        exact xb_iret (T := xd_T) (a, (ze_sn n 1 (n 1 + 1)), (ze_sE (ze_sE A 2 (n 1) (nI i)) 3 (n 1) (nI j)), B, E, (upd (upd (upd N (3 * (n 1) + 20) (nI i)) (3 * (n 1) + 21) (nI j)) 1 (nI (n 1 + 1)))) S hr hlocks hF hK hW rfl dL_isLine_88 (Nat.le_of_ble_eq_true rfl) (Nat.le_of_ble_eq_true rfl) ⟨rfl, ⟨rfl, xd_line hI (by omega) hi hj, rfl, Nat.le_refl _, Nat.le_refl _⟩⟩ rfl
    · have c10 : (n 1) = 8 := (nI_eq (a := (n 1)) (b := 8) (by omega) (by omega)).mp c10
      refine lv_aload_n hX_ hB_ dL_isLine_13 rfl (lv_at hl 0 rfl) ?_
      refine lv_iload_n hX_ hB_ dL_isLine_14 rfl (lv_at hl 2 rfl) ?_
      refine lv_iload_n hX_ hB_ dL_isLine_15 rfl (lv_at hl 3 rfl) ?_
      refine xb_FSq (As := [.ref (a 0), .int (nI i), .int (nI j)]) (rest := []) S (xw_addLine_t3 l D hst c a n A B E i hN hi j hj c2 (by omega)) (vx_cwSW 3 hts gL_isLine_L_addLine rfl rfl rfl (by decide +kernel) ⟨(Nat.le_of_ble_eq_true rfl), (Nat.le_of_ble_eq_true rfl)⟩) hG hK hW hA rfl hl.1 rfl (lv_room (Nat.le_of_ble_eq_true rfl)) dL_isLine_16 ⟨(Nat.le_of_ble_eq_true rfl), (Nat.le_of_ble_eq_true rfl)⟩ (fun H locs hW => ?_)
      have hW : ze_W D ((ze_wC c a n A B E) ++ [(q, .inl (c 0, 210, .inl N))]) F s.heap _ _ := hW
      refine lv_iload_n hX_ hB_ dL_isLine_19 rfl (lv_at hl 2 rfl) ?_
      refine lv_iload_n hX_ hB_ dL_isLine_20 rfl (lv_at hl 3 rfl) ?_
      refine lv_icmp_ne (tgt := 29) hX_ hB_ dL_isLine_21 (by decide) (fun c21 => ?_) (fun c21 => ?_)
      · have c21 : ¬ i = j := fun h9 => c21 ((nI_eq (a := i) (b := j) (by omega) (by omega)).mpr h9)
        refine lv_ldc (own := RL) (v := -900003) hX_ hB_ S.2.2.2.1 w1 dL_isLine_29 ?_
        refine lv_icmp_ne (tgt := 38) hX_ hB_ dL_isLine_31 (by decide) (fun c31 => ?_) (fun c31 => ?_)
        · exact absurd c31 (by decide)
        · refine lv_iconst (v := 1) hX_ hB_ dL_isLine_34 (by decide) ?_
          refine lv_goto (tgt := 39) hX_ hB_ dL_isLine_35 (by decide) ?_
          exact xb_iret (T := xd_T) (a, n, A, B, E, N) S hr hlocks hF hK hW rfl dL_isLine_39 (Nat.le_of_ble_eq_true rfl) (Nat.le_of_ble_eq_true rfl) ⟨rfl, ⟨rfl, hI, rfl, Nat.le_refl _, Nat.le_refl _⟩⟩ rfl
      · have c21 : i = j := (nI_eq (a := i) (b := j) (by omega) (by omega)).mp c21
        exact absurd c21 c2
