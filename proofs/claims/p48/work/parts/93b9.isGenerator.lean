/-! ===== the law's methods over the object and the net ===== -/
set_option maxHeartbeats 8000000 in
set_option maxRecDepth 100000 in
theorem xj_isGenerator (l : Launch) (D : va_G) (hst : l.stackTraces = false) (c : Nat → ClassId) (q : Nat) (a n : Nat → Nat) (A : Nat → Nat → Int32) (B : Nat → Int64) (E : Nat → Nat → Int32) (N : Nat → Int32) (t : Nat) (hI : xd_I n A B E N t) (b L : Nat) (xs : Nat → Int32)  (hL : L ≤ 260) (i : Nat) (hi : i < 1000) (h0 : 0 < n 0) : xb_M (T := xd_T) l yL_isGenerator wsL_isGenerator 8 133 1 8 D c (some (b, L, xs)) ((ze_wC c a n A B E) ++ [(q, .inl (c 0, 210, .inl N))]) [.ref (a 0), .ref q, .ref b, .int (nI i)] (fun r (u : xd_T) => r = 1 ∧ xd_P (a 0) n (t) u ∧ 1 ≤ u.2.1 2) (fun u => xd_w c q u) := by
  intro sz
  refine xb_start (cc := cL_isGenerator) (maxL := 8) (ret := (some .boolean)) (own := RL) (by decide) rfl rfl (Nat.le_of_ble_eq_true rfl) ?_
  have hKc := xd_K hI
  have hH := xc_KH hKc
  obtain ⟨hV, hR, hPh, hY, hWu⟩ := id hI
  obtain ⟨hN, hS, hE, hz, h4, h4z, hT, hC, hKz, hZ, hp⟩ := id hV
  obtain ⟨hn0, hn1, hn2, hn3, hn4⟩ := id hN
  have hE1 := zv_hE hV
  intro p e s m_ below meth cd F ls hF hsz E0 hG
  obtain ⟨S, hr, hlocks, hK, hW, hA, hl⟩ := E0
  have hX_ := S.1
  have hB_ := S.2.1
  have hts := S.2.2.2.2
  have hl : lv_has ls 8 [(0, .ref (a 0)), (1, .ref q), (2, .ref b), (3, .int (nI i))] := hl
  have w0 := hts (.methodLink RL 140 Lib.Math.max.name) (List.mem_cons_of_mem _ (List.mem_append_left _ (List.mem_append_left _ (List.mem_append_left _ (List.mem_append_left _ (List.mem_append_left _ (List.mem_append_left _ (List.mem_append_left _ (List.mem_append_left _ (List.mem_of_getElem? (i := 0) rfl))))))))))
  have w1 := hts (.static Lib.Math.max.name) (List.mem_cons_of_mem _ (List.mem_append_left _ (List.mem_append_left _ (List.mem_append_left _ (List.mem_append_left _ (List.mem_append_left _ (List.mem_append_left _ (List.mem_append_left _ (List.mem_append_left _ (List.mem_of_getElem? (i := 1) rfl))))))))))
  have w2 := hts (.initialized "java/lang/Math") (List.mem_cons_of_mem _ (List.mem_append_left _ (List.mem_append_left _ (List.mem_append_left _ (List.mem_append_left _ (List.mem_append_left _ (List.mem_append_left _ (List.mem_append_left _ (List.mem_append_left _ (List.mem_of_getElem? (i := 2) rfl))))))))))
  have w3 := hts (.code Lib.Math.max.name Lib.Math.max.code 2 (some .int)) (List.mem_cons_of_mem _ (List.mem_append_left _ (List.mem_append_left _ (List.mem_append_left _ (List.mem_append_left _ (List.mem_append_left _ (List.mem_append_left _ (List.mem_append_left _ (List.mem_append_left _ (List.mem_of_getElem? (i := 3) rfl))))))))))
  have w4 := hts (.constant RL 30 (-900003)) (List.mem_cons_of_mem _ (List.mem_append_left _ (List.mem_append_left _ (List.mem_append_left _ (List.mem_append_left _ (List.mem_append_left _ (List.mem_append_left _ (List.mem_append_left _ (List.mem_append_left _ (List.mem_of_getElem? (i := 4) rfl))))))))))
  refine lv_bipush (v := 50) hX_ hB_ dL_isGenerator_0 (by decide) ?_
  refine lv_bipush (v := 9) hX_ hB_ dL_isGenerator_2 (by decide) ?_
  refine lv_aload_n hX_ hB_ dL_isGenerator_4 rfl (lv_at hl 1 rfl) ?_
  refine lv_iconst (v := 2) hX_ hB_ dL_isGenerator_5 (by decide) ?_
  refine ze_ialdN hX_ hB_ hK hW ((ze_wC c a n A B E).length + 0) (f := N) (ze_appL (k := 0) rfl) (i := 2) (by omega) (by decide) dL_isGenerator_6 ?_
  refine ze_top (y := nI (n 2)) hR.1.2.2.1 ?_
  refine lv_imul hX_ hB_ dL_isGenerator_7 ?_
  refine ze_top (xb_mul (a := 9) (b := n 2) (c := 9 * (n 2)) (by omega)) ?_
  refine lv_iadd hX_ hB_ dL_isGenerator_8 ?_
  refine ze_top (xb_add (a := 50) (b := 9 * (n 2)) (c := 9 * (n 2) + 50) (by omega)) ?_
  refine lv_istore (lv' := [(4, .int (nI (9 * (n 2) + 50))), (0, .ref (a 0)), (1, .ref q), (2, .ref b), (3, .int (nI i))]) hX_ hB_ dL_isGenerator_9 hl (by decide) rfl (fun ls hl => ?_)
  refine lv_aload_n hX_ hB_ dL_isGenerator_11 rfl (lv_at hl 3 rfl) ?_
  refine lv_iload_n hX_ hB_ dL_isGenerator_12 rfl (lv_at hl 4 rfl) ?_
  refine lv_iconst (v := 1) hX_ hB_ dL_isGenerator_13 (by decide) ?_
  refine lv_iadd hX_ hB_ dL_isGenerator_14 ?_
  refine ze_top (xb_add (a := i) (b := 1) (c := i + 1) (by omega)) ?_
  refine lv_iconst (v := 3) hX_ hB_ dL_isGenerator_15 (by decide) ?_
  have hW : ze_W D (([] : va_W) ++ ((ze_wC c a n A B E) ++ [(q, .inl (c 0, 210, .inl N))])) F s.heap _ _ := hW
  refine xb_FSx (As := [.ref b, .int (nI (i + 1)), .int 3]) (rest := []) S (xj_in l D c b L xs hL (i + 1) (by omega) 3 (by omega) (by omega)) (va_cwS 3 hts gL_isGenerator_L_in rfl rfl rfl (by decide +kernel) ⟨(Nat.le_of_ble_eq_true rfl), (Nat.le_of_ble_eq_true rfl)⟩) (Or.inr rfl) hG hK hW hA rfl hl.1 rfl (lv_room (Nat.le_of_ble_eq_true rfl)) dL_isGenerator_16 ⟨(Nat.le_of_ble_eq_true rfl), (Nat.le_of_ble_eq_true rfl)⟩ (fun H locs hW => ?_)
  have hv16 := xd_inlt (xs := xs) (L := L) (i := i + 1) (k := 3) (by omega)
  have hW : ze_W D ((ze_wC c a n A B E) ++ [(q, .inl (c 0, 210, .inl N))]) F s.heap _ _ := hW
  refine lv_if_ne (tgt := 26) hX_ hB_ dL_isGenerator_19 (by decide) (fun c19 => ?_) (fun c19 => ?_)
  · have c19 : ¬ (xd_in xs L (i + 1) 3) = 0 := fun h9 => c19 ((nI_eq (a := (xd_in xs L (i + 1) 3)) (b := 0) (by omega) (by omega)).mpr h9)
    refine lv_aload_n hX_ hB_ dL_isGenerator_26 rfl (lv_at hl 3 rfl) ?_
    refine lv_iload_n hX_ hB_ dL_isGenerator_27 rfl (lv_at hl 4 rfl) ?_
    refine lv_iconst (v := 2) hX_ hB_ dL_isGenerator_28 (by decide) ?_
    refine lv_iadd hX_ hB_ dL_isGenerator_29 ?_
    refine ze_top (xb_add (a := i) (b := 2) (c := i + 2) (by omega)) ?_
    refine lv_bipush (v := 30) hX_ hB_ dL_isGenerator_30 (by decide) ?_
    have hW : ze_W D (([] : va_W) ++ ((ze_wC c a n A B E) ++ [(q, .inl (c 0, 210, .inl N))])) F s.heap _ _ := hW
    refine xb_FSx (As := [.ref b, .int (nI (i + 2)), .int 30]) (rest := []) S (xj_in l D c b L xs hL (i + 2) (by omega) 30 (by omega) (by omega)) (va_cwS 3 hts gL_isGenerator_L_in rfl rfl rfl (by decide +kernel) ⟨(Nat.le_of_ble_eq_true rfl), (Nat.le_of_ble_eq_true rfl)⟩) (Or.inr rfl) hG hK hW hA rfl hl.1 rfl (lv_room (Nat.le_of_ble_eq_true rfl)) dL_isGenerator_32 ⟨(Nat.le_of_ble_eq_true rfl), (Nat.le_of_ble_eq_true rfl)⟩ (fun H locs hW => ?_)
    have hv32 := xd_inlt (xs := xs) (L := L) (i := i + 2) (k := 30) (by omega)
    have hW : ze_W D ((ze_wC c a n A B E) ++ [(q, .inl (c 0, 210, .inl N))]) F s.heap _ _ := hW
    refine lv_istore (lv' := [(5, .int (nI (xd_in xs L (i + 2) 30))), (4, .int (nI (9 * (n 2) + 50))), (0, .ref (a 0)), (1, .ref q), (2, .ref b), (3, .int (nI i))]) hX_ hB_ dL_isGenerator_35 hl (by decide) rfl (fun ls hl => ?_)
    refine lv_iconst (v := 1) hX_ hB_ dL_isGenerator_37 (by decide) ?_
    refine lv_iload hX_ hB_ dL_isGenerator_38 (lv_at hl 0 rfl) ?_
    refine lv_aload_n hX_ hB_ dL_isGenerator_40 rfl (lv_at hl 4 rfl) ?_
    refine lv_iload_n hX_ hB_ dL_isGenerator_41 rfl (lv_at hl 5 rfl) ?_
    refine lv_iconst (v := 3) hX_ hB_ dL_isGenerator_42 (by decide) ?_
    refine lv_iadd hX_ hB_ dL_isGenerator_43 ?_
    refine ze_top (xb_add (a := i) (b := 3) (c := i + 3) (by omega)) ?_
    refine lv_bipush (v := 60) hX_ hB_ dL_isGenerator_44 (by decide) ?_
    have hW : ze_W D (([] : va_W) ++ ((ze_wC c a n A B E) ++ [(q, .inl (c 0, 210, .inl N))])) F s.heap _ _ := hW
    refine xb_FSx (As := [.ref b, .int (nI (i + 3)), .int 60]) (rest := [.int (nI (xd_in xs L (i + 2) 30)), .int 1]) S (xj_in l D c b L xs hL (i + 3) (by omega) 60 (by omega) (by omega)) (va_cwS 3 hts gL_isGenerator_L_in rfl rfl rfl (by decide +kernel) ⟨(Nat.le_of_ble_eq_true rfl), (Nat.le_of_ble_eq_true rfl)⟩) (Or.inr rfl) hG hK hW hA rfl hl.1 rfl (lv_room (Nat.le_of_ble_eq_true rfl)) dL_isGenerator_46 ⟨(Nat.le_of_ble_eq_true rfl), (Nat.le_of_ble_eq_true rfl)⟩ (fun H locs hW => ?_)
    have hv46 := xd_inlt (xs := xs) (L := L) (i := i + 3) (k := 60) (by omega)
    have hW : ze_W D ((ze_wC c a n A B E) ++ [(q, .inl (c 0, 210, .inl N))]) F s.heap _ _ := hW
    refine lv_iadd hX_ hB_ dL_isGenerator_49 ?_
    refine ze_top (xb_add (a := xd_in xs L (i + 2) 30) (b := xd_in xs L (i + 3) 60) (c := xd_in xs L (i + 2) 30 + xd_in xs L (i + 3) 60) (by omega)) ?_
    refine ze_max S hl.1 w0 w1 w2 w3 ⟨Nat.le_of_ble_eq_true rfl, Nat.le_of_ble_eq_true rfl, Nat.le_of_ble_eq_true rfl, Nat.le_of_ble_eq_true rfl⟩ dL_isGenerator_50 ?_
    obtain ⟨gr, egr, gr1, gr2, gr3⟩ := xd_gr (le := (xd_in xs L (i + 2) 30)) (v := xd_in xs L (i + 2) 30 + xd_in xs L (i + 3) 60) (by omega) (by omega)
    refine ze_top egr ?_
    refine lv_istore (lv' := [(6, .int (nI gr)), (5, .int (nI (xd_in xs L (i + 2) 30))), (4, .int (nI (9 * (n 2) + 50))), (0, .ref (a 0)), (1, .ref q), (2, .ref b), (3, .int (nI i))]) hX_ hB_ dL_isGenerator_53 hl (by decide) rfl (fun ls hl => ?_)
    refine lv_aload_n hX_ hB_ dL_isGenerator_55 rfl (lv_at hl 5 rfl) ?_
    refine lv_iload_n hX_ hB_ dL_isGenerator_56 rfl (lv_at hl 6 rfl) ?_
    refine lv_iconst (v := 5) hX_ hB_ dL_isGenerator_57 (by decide) ?_
    refine lv_iadd hX_ hB_ dL_isGenerator_58 ?_
    refine ze_top (xb_add (a := i) (b := 5) (c := i + 5) (by omega)) ?_
    refine lv_iconst (v := 3) hX_ hB_ dL_isGenerator_59 (by decide) ?_
    have hW : ze_W D (([] : va_W) ++ ((ze_wC c a n A B E) ++ [(q, .inl (c 0, 210, .inl N))])) F s.heap _ _ := hW
    refine xb_FSx (As := [.ref b, .int (nI (i + 5)), .int 3]) (rest := []) S (xj_in l D c b L xs hL (i + 5) (by omega) 3 (by omega) (by omega)) (va_cwS 3 hts gL_isGenerator_L_in rfl rfl rfl (by decide +kernel) ⟨(Nat.le_of_ble_eq_true rfl), (Nat.le_of_ble_eq_true rfl)⟩) (Or.inr rfl) hG hK hW hA rfl hl.1 rfl (lv_room (Nat.le_of_ble_eq_true rfl)) dL_isGenerator_60 ⟨(Nat.le_of_ble_eq_true rfl), (Nat.le_of_ble_eq_true rfl)⟩ (fun H locs hW => ?_)
    have hv60 := xd_inlt (xs := xs) (L := L) (i := i + 5) (k := 3) (by omega)
    have hW : ze_W D ((ze_wC c a n A B E) ++ [(q, .inl (c 0, 210, .inl N))]) F s.heap _ _ := hW
    refine lv_if_ne (tgt := 79) hX_ hB_ dL_isGenerator_63 (by decide) (fun c63 => ?_) (fun c63 => ?_)
    · have c63 : ¬ (xd_in xs L (i + 5) 3) = 0 := fun h9 => c63 ((nI_eq (a := (xd_in xs L (i + 5) 3)) (b := 0) (by omega) (by omega)).mpr h9)
      refine lv_aload_n hX_ hB_ dL_isGenerator_79 rfl (lv_at hl 5 rfl) ?_
      refine lv_iload_n hX_ hB_ dL_isGenerator_80 rfl (lv_at hl 6 rfl) ?_
      refine lv_bipush (v := 6) hX_ hB_ dL_isGenerator_81 (by decide) ?_
      refine lv_iadd hX_ hB_ dL_isGenerator_83 ?_
      refine ze_top (xb_add (a := i) (b := 6) (c := i + 6) (by omega)) ?_
      refine lv_sipush (v := 1500) hX_ hB_ dL_isGenerator_84 (by decide) ?_
      have hW : ze_W D (([] : va_W) ++ ((ze_wC c a n A B E) ++ [(q, .inl (c 0, 210, .inl N))])) F s.heap _ _ := hW
      refine xb_FSx (As := [.ref b, .int (nI (i + 6)), .int 1500]) (rest := []) S (xj_in l D c b L xs hL (i + 6) (by omega) 1500 (by omega) (by omega)) (va_cwS 3 hts gL_isGenerator_L_in rfl rfl rfl (by decide +kernel) ⟨(Nat.le_of_ble_eq_true rfl), (Nat.le_of_ble_eq_true rfl)⟩) (Or.inr rfl) hG hK hW hA rfl hl.1 rfl (lv_room (Nat.le_of_ble_eq_true rfl)) dL_isGenerator_87 ⟨(Nat.le_of_ble_eq_true rfl), (Nat.le_of_ble_eq_true rfl)⟩ (fun H locs hW => ?_)
      have hv87 := xd_inlt (xs := xs) (L := L) (i := i + 6) (k := 1500) (by omega)
      have hW : ze_W D ((ze_wC c a n A B E) ++ [(q, .inl (c 0, 210, .inl N))]) F s.heap _ _ := hW
      refine lv_istore (lv' := [(7, .int (nI (xd_in xs L (i + 6) 1500))), (6, .int (nI gr)), (5, .int (nI (xd_in xs L (i + 2) 30))), (4, .int (nI (9 * (n 2) + 50))), (0, .ref (a 0)), (1, .ref q), (2, .ref b), (3, .int (nI i))]) hX_ hB_ dL_isGenerator_90 hl (by decide) rfl (fun ls hl => ?_)
      refine lv_aload_n hX_ hB_ dL_isGenerator_92 rfl (lv_at hl 5 rfl) ?_
      refine lv_iconst (v := 2) hX_ hB_ dL_isGenerator_93 (by decide) ?_
      refine ze_ialdN hX_ hB_ hK hW ((ze_wC c a n A B E).length + 0) (f := N) (ze_appL (k := 0) rfl) (i := 2) (by omega) (by decide) dL_isGenerator_94 ?_
      refine ze_top (y := nI (n 2)) hR.1.2.2.1 ?_
      refine lv_bipush (v := 6) hX_ hB_ dL_isGenerator_95 (by decide) ?_
      refine lv_icmp_ne (tgt := 130) hX_ hB_ dL_isGenerator_97 (by decide) (fun c97 => ?_) (fun c97 => ?_)
      · have c97 : ¬ (n 2) = 6 := fun h9 => c97 ((nI_eq (a := (n 2)) (b := 6) (by omega) (by omega)).mpr h9)
        refine lv_aload_n hX_ hB_ dL_isGenerator_130 rfl (lv_at hl 5 rfl) ?_
        refine lv_iload hX_ hB_ dL_isGenerator_131 (lv_at hl 3 rfl) ?_
        refine lv_aload_n hX_ hB_ dL_isGenerator_133 rfl (lv_at hl 6 rfl) ?_
        refine lv_iload_n hX_ hB_ dL_isGenerator_134 rfl (lv_at hl 7 rfl) ?_
        refine lv_aload_n hX_ hB_ dL_isGenerator_135 rfl (lv_at hl 5 rfl) ?_
        refine lv_iconst (v := 0) hX_ hB_ dL_isGenerator_136 (by decide) ?_
        refine ze_ialdN hX_ hB_ hK hW ((ze_wC c a n A B E).length + 0) (f := N) (ze_appL (k := 0) rfl) (i := 0) (by omega) (by decide) dL_isGenerator_137 ?_
        refine ze_top (y := nI (n 0)) hR.1.1 ?_
        have hW : ze_W D (([] : va_W) ++ ((ze_wC c a n A B E) ++ [(q, .inl (c 0, 210, .inl N))])) F s.heap _ _ := hW
        refine xb_FSx (As := [.ref b, .int (nI i), .int (nI (n 0))]) (rest := [.int (nI (9 * (n 2) + 50)), .ref q]) S (xj_in l D c b L xs hL i (by omega) (n 0) (by omega) (by omega)) (va_cwS 3 hts gL_isGenerator_L_in rfl rfl rfl (by decide +kernel) ⟨(Nat.le_of_ble_eq_true rfl), (Nat.le_of_ble_eq_true rfl)⟩) (Or.inr rfl) hG hK hW hA rfl hl.1 rfl (lv_room (Nat.le_of_ble_eq_true rfl)) dL_isGenerator_138 ⟨(Nat.le_of_ble_eq_true rfl), (Nat.le_of_ble_eq_true rfl)⟩ (fun H locs hW => ?_)
        have hv138 := xd_inlt (xs := xs) (L := L) (i := i) (k := n 0) (by omega)
        have hW : ze_W D ((ze_wC c a n A B E) ++ [(q, .inl (c 0, 210, .inl N))]) F s.heap _ _ := hW
        refine ze_iastN hX_ hB_ hK hW ((ze_wC c a n A B E).length + 0) (f := N) (ze_appL (k := 0) rfl) (i := 9 * (n 2) + 50) (by omega) (by decide) dL_isGenerator_141 (ze_appset rfl) (fun H locs hW => ?_)
        have hW : ze_W D ((ze_wC c a n A B E) ++ [(q, .inl (c 0, 210, .inl (upd N (9 * (n 2) + 50) (nI (xd_in xs L i (n 0))))))]) F s.heap _ _ := hW
        refine lv_aload_n hX_ hB_ dL_isGenerator_142 rfl (lv_at hl 5 rfl) ?_
        refine lv_iload hX_ hB_ dL_isGenerator_143 (lv_at hl 3 rfl) ?_
        refine lv_iconst (v := 1) hX_ hB_ dL_isGenerator_145 (by decide) ?_
        refine lv_iadd hX_ hB_ dL_isGenerator_146 ?_
        refine ze_top (xb_add (a := 9 * (n 2) + 50) (b := 1) (c := 9 * (n 2) + 51) (by omega)) ?_
        refine lv_iload hX_ hB_ dL_isGenerator_147 (lv_at hl 2 rfl) ?_
        refine ze_iastN hX_ hB_ hK hW ((ze_wC c a n A B E).length + 0) (f := (upd N (9 * (n 2) + 50) (nI (xd_in xs L i (n 0))))) (ze_appL (k := 0) rfl) (i := 9 * (n 2) + 51) (by omega) (by decide) dL_isGenerator_149 (ze_appset rfl) (fun H locs hW => ?_)
        have hW : ze_W D ((ze_wC c a n A B E) ++ [(q, .inl (c 0, 210, .inl (upd (upd N (9 * (n 2) + 50) (nI (xd_in xs L i (n 0)))) (9 * (n 2) + 51) (nI (xd_in xs L (i + 2) 30)))))]) F s.heap _ _ := hW
        refine lv_aload_n hX_ hB_ dL_isGenerator_150 rfl (lv_at hl 5 rfl) ?_
        refine lv_iload hX_ hB_ dL_isGenerator_151 (lv_at hl 3 rfl) ?_
        refine lv_iconst (v := 2) hX_ hB_ dL_isGenerator_153 (by decide) ?_
        refine lv_iadd hX_ hB_ dL_isGenerator_154 ?_
        refine ze_top (xb_add (a := 9 * (n 2) + 50) (b := 2) (c := 9 * (n 2) + 52) (by omega)) ?_
        refine lv_iload hX_ hB_ dL_isGenerator_155 (lv_at hl 1 rfl) ?_
        refine ze_iastN hX_ hB_ hK hW ((ze_wC c a n A B E).length + 0) (f := (upd (upd N (9 * (n 2) + 50) (nI (xd_in xs L i (n 0)))) (9 * (n 2) + 51) (nI (xd_in xs L (i + 2) 30)))) (ze_appL (k := 0) rfl) (i := 9 * (n 2) + 52) (by omega) (by decide) dL_isGenerator_157 (ze_appset rfl) (fun H locs hW => ?_)
        have hW : ze_W D ((ze_wC c a n A B E) ++ [(q, .inl (c 0, 210, .inl (upd (upd (upd N (9 * (n 2) + 50) (nI (xd_in xs L i (n 0)))) (9 * (n 2) + 51) (nI (xd_in xs L (i + 2) 30))) (9 * (n 2) + 52) (nI gr))))]) F s.heap _ _ := hW
        refine lv_aload_n hX_ hB_ dL_isGenerator_158 rfl (lv_at hl 5 rfl) ?_
        refine lv_iload hX_ hB_ dL_isGenerator_159 (lv_at hl 3 rfl) ?_
        refine lv_iconst (v := 3) hX_ hB_ dL_isGenerator_161 (by decide) ?_
        refine lv_iadd hX_ hB_ dL_isGenerator_162 ?_
        refine ze_top (xb_add (a := 9 * (n 2) + 50) (b := 3) (c := 9 * (n 2) + 53) (by omega)) ?_
        refine lv_aload_n hX_ hB_ dL_isGenerator_163 rfl (lv_at hl 6 rfl) ?_
        refine lv_iload_n hX_ hB_ dL_isGenerator_164 rfl (lv_at hl 7 rfl) ?_
        refine lv_iconst (v := 4) hX_ hB_ dL_isGenerator_165 (by decide) ?_
        refine lv_iadd hX_ hB_ dL_isGenerator_166 ?_
        refine ze_top (xb_add (a := i) (b := 4) (c := i + 4) (by omega)) ?_
        refine lv_iconst (v := 4) hX_ hB_ dL_isGenerator_167 (by decide) ?_
        have hW : ze_W D (([] : va_W) ++ ((ze_wC c a n A B E) ++ [(q, .inl (c 0, 210, .inl (upd (upd (upd N (9 * (n 2) + 50) (nI (xd_in xs L i (n 0)))) (9 * (n 2) + 51) (nI (xd_in xs L (i + 2) 30))) (9 * (n 2) + 52) (nI gr))))])) F s.heap _ _ := hW
        refine xb_FSx (As := [.ref b, .int (nI (i + 4)), .int 4]) (rest := [.int (nI (9 * (n 2) + 53)), .ref q]) S (xj_in l D c b L xs hL (i + 4) (by omega) 4 (by omega) (by omega)) (va_cwS 3 hts gL_isGenerator_L_in rfl rfl rfl (by decide +kernel) ⟨(Nat.le_of_ble_eq_true rfl), (Nat.le_of_ble_eq_true rfl)⟩) (Or.inr rfl) hG hK hW hA rfl hl.1 rfl (lv_room (Nat.le_of_ble_eq_true rfl)) dL_isGenerator_168 ⟨(Nat.le_of_ble_eq_true rfl), (Nat.le_of_ble_eq_true rfl)⟩ (fun H locs hW => ?_)
        have hv168 := xd_inlt (xs := xs) (L := L) (i := i + 4) (k := 4) (by omega)
        have hW : ze_W D ((ze_wC c a n A B E) ++ [(q, .inl (c 0, 210, .inl (upd (upd (upd N (9 * (n 2) + 50) (nI (xd_in xs L i (n 0)))) (9 * (n 2) + 51) (nI (xd_in xs L (i + 2) 30))) (9 * (n 2) + 52) (nI gr))))]) F s.heap _ _ := hW
        refine ze_iastN hX_ hB_ hK hW ((ze_wC c a n A B E).length + 0) (f := (upd (upd (upd N (9 * (n 2) + 50) (nI (xd_in xs L i (n 0)))) (9 * (n 2) + 51) (nI (xd_in xs L (i + 2) 30))) (9 * (n 2) + 52) (nI gr))) (ze_appL (k := 0) rfl) (i := 9 * (n 2) + 53) (by omega) (by decide) dL_isGenerator_171 (ze_appset rfl) (fun H locs hW => ?_)
        have hW : ze_W D ((ze_wC c a n A B E) ++ [(q, .inl (c 0, 210, .inl (upd (upd (upd (upd N (9 * (n 2) + 50) (nI (xd_in xs L i (n 0)))) (9 * (n 2) + 51) (nI (xd_in xs L (i + 2) 30))) (9 * (n 2) + 52) (nI gr)) (9 * (n 2) + 53) (nI (xd_in xs L (i + 4) 4)))))]) F s.heap _ _ := hW
        refine lv_aload_n hX_ hB_ dL_isGenerator_172 rfl (lv_at hl 5 rfl) ?_
        refine lv_iload hX_ hB_ dL_isGenerator_173 (lv_at hl 3 rfl) ?_
        refine lv_iconst (v := 4) hX_ hB_ dL_isGenerator_175 (by decide) ?_
        refine lv_iadd hX_ hB_ dL_isGenerator_176 ?_
        refine ze_top (xb_add (a := 9 * (n 2) + 50) (b := 4) (c := 9 * (n 2) + 54) (by omega)) ?_
        refine lv_iload hX_ hB_ dL_isGenerator_177 (lv_at hl 0 rfl) ?_
        refine ze_iastN hX_ hB_ hK hW ((ze_wC c a n A B E).length + 0) (f := (upd (upd (upd (upd N (9 * (n 2) + 50) (nI (xd_in xs L i (n 0)))) (9 * (n 2) + 51) (nI (xd_in xs L (i + 2) 30))) (9 * (n 2) + 52) (nI gr)) (9 * (n 2) + 53) (nI (xd_in xs L (i + 4) 4)))) (ze_appL (k := 0) rfl) (i := 9 * (n 2) + 54) (by omega) (by decide) dL_isGenerator_179 (ze_appset rfl) (fun H locs hW => ?_)
        have hW : ze_W D ((ze_wC c a n A B E) ++ [(q, .inl (c 0, 210, .inl (upd (upd (upd (upd (upd N (9 * (n 2) + 50) (nI (xd_in xs L i (n 0)))) (9 * (n 2) + 51) (nI (xd_in xs L (i + 2) 30))) (9 * (n 2) + 52) (nI gr)) (9 * (n 2) + 53) (nI (xd_in xs L (i + 4) 4))) (9 * (n 2) + 54) (nI (xd_in xs L (i + 6) 1500)))))]) F s.heap _ _ := hW
        refine lv_aload_n hX_ hB_ dL_isGenerator_180 rfl (lv_at hl 5 rfl) ?_
        refine lv_iconst (v := 2) hX_ hB_ dL_isGenerator_181 (by decide) ?_
        refine lv_dup2_11 hX_ hB_ dL_isGenerator_182 rfl rfl ?_
        refine ze_ialdN hX_ hB_ hK hW ((ze_wC c a n A B E).length + 0) (f := (upd (upd (upd (upd (upd N (9 * (n 2) + 50) (nI (xd_in xs L i (n 0)))) (9 * (n 2) + 51) (nI (xd_in xs L (i + 2) 30))) (9 * (n 2) + 52) (nI gr)) (9 * (n 2) + 53) (nI (xd_in xs L (i + 4) 4))) (9 * (n 2) + 54) (nI (xd_in xs L (i + 6) 1500)))) (ze_appL (k := 0) rfl) (i := 2) (by omega) (by decide) dL_isGenerator_183 ?_
        refine ze_top (xb_un (by omega)) ?_
        refine ze_top (xb_un (by omega)) ?_
        refine ze_top (xb_un (by omega)) ?_
        refine ze_top (xb_un (by omega)) ?_
        refine ze_top (xb_un (by omega)) ?_
        refine ze_top (y := nI (n 2)) hR.1.2.2.1 ?_
        refine lv_iconst (v := 1) hX_ hB_ dL_isGenerator_184 (by decide) ?_
        refine lv_iadd hX_ hB_ dL_isGenerator_185 ?_
        refine ze_top (xb_add (a := n 2) (b := 1) (c := n 2 + 1) (by omega)) ?_
        refine ze_iastN hX_ hB_ hK hW ((ze_wC c a n A B E).length + 0) (f := (upd (upd (upd (upd (upd N (9 * (n 2) + 50) (nI (xd_in xs L i (n 0)))) (9 * (n 2) + 51) (nI (xd_in xs L (i + 2) 30))) (9 * (n 2) + 52) (nI gr)) (9 * (n 2) + 53) (nI (xd_in xs L (i + 4) 4))) (9 * (n 2) + 54) (nI (xd_in xs L (i + 6) 1500)))) (ze_appL (k := 0) rfl) (i := 2) (by omega) (by decide) dL_isGenerator_186 (ze_appset rfl) (fun H locs hW => ?_)
        have hW : ze_W D ((ze_wC c a n A B E) ++ [(q, .inl (c 0, 210, .inl (upd (upd (upd (upd (upd (upd N (9 * (n 2) + 50) (nI (xd_in xs L i (n 0)))) (9 * (n 2) + 51) (nI (xd_in xs L (i + 2) 30))) (9 * (n 2) + 52) (nI gr)) (9 * (n 2) + 53) (nI (xd_in xs L (i + 4) 4))) (9 * (n 2) + 54) (nI (xd_in xs L (i + 6) 1500))) 2 (nI (n 2 + 1)))))]) F s.heap _ _ := hW
        refine lv_aload_n hX_ hB_ dL_isGenerator_187 rfl (lv_at hl 4 rfl) ?_
        refine lv_aload_n hX_ hB_ dL_isGenerator_188 rfl (lv_at hl 5 rfl) ?_
        refine lv_iload hX_ hB_ dL_isGenerator_189 (lv_at hl 3 rfl) ?_
        refine ze_ialdN hX_ hB_ hK hW ((ze_wC c a n A B E).length + 0) (f := (upd (upd (upd (upd (upd (upd N (9 * (n 2) + 50) (nI (xd_in xs L i (n 0)))) (9 * (n 2) + 51) (nI (xd_in xs L (i + 2) 30))) (9 * (n 2) + 52) (nI gr)) (9 * (n 2) + 53) (nI (xd_in xs L (i + 4) 4))) (9 * (n 2) + 54) (nI (xd_in xs L (i + 6) 1500))) 2 (nI (n 2 + 1)))) (ze_appL (k := 0) rfl) (i := 9 * (n 2) + 50) (by omega) (by decide) dL_isGenerator_191 ?_
        refine ze_top (xb_un (by omega)) ?_
        refine ze_top (xb_un (by omega)) ?_
        refine ze_top (xb_un (by omega)) ?_
        refine ze_top (xb_un (by omega)) ?_
        refine ze_top (xb_un (by omega)) ?_
        refine ze_top (ze_updat _ _ _) ?_
        refine lv_iload hX_ hB_ dL_isGenerator_192 (lv_at hl 2 rfl) ?_
        refine lv_iload hX_ hB_ dL_isGenerator_194 (lv_at hl 1 rfl) ?_
        refine lv_aload_n hX_ hB_ dL_isGenerator_196 rfl (lv_at hl 5 rfl) ?_
        refine lv_iload hX_ hB_ dL_isGenerator_197 (lv_at hl 3 rfl) ?_
        refine lv_iconst (v := 3) hX_ hB_ dL_isGenerator_199 (by decide) ?_
        refine lv_iadd hX_ hB_ dL_isGenerator_200 ?_
        refine ze_top (xb_add (a := 9 * (n 2) + 50) (b := 3) (c := 9 * (n 2) + 53) (by omega)) ?_
        refine ze_ialdN hX_ hB_ hK hW ((ze_wC c a n A B E).length + 0) (f := (upd (upd (upd (upd (upd (upd N (9 * (n 2) + 50) (nI (xd_in xs L i (n 0)))) (9 * (n 2) + 51) (nI (xd_in xs L (i + 2) 30))) (9 * (n 2) + 52) (nI gr)) (9 * (n 2) + 53) (nI (xd_in xs L (i + 4) 4))) (9 * (n 2) + 54) (nI (xd_in xs L (i + 6) 1500))) 2 (nI (n 2 + 1)))) (ze_appL (k := 0) rfl) (i := 9 * (n 2) + 53) (by omega) (by decide) dL_isGenerator_201 ?_
        refine ze_top (xb_un (by omega)) ?_
        refine ze_top (xb_un (by omega)) ?_
        refine ze_top (ze_updat _ _ _) ?_
        refine lv_iload hX_ hB_ dL_isGenerator_202 (lv_at hl 0 rfl) ?_
        refine xb_FSe (As := [.ref (a 0), .int (nI (xd_in xs L i (n 0))), .int (nI (xd_in xs L (i + 2) 30)), .int (nI gr), .int (nI (xd_in xs L (i + 4) 4)), .int (nI (xd_in xs L (i + 6) 1500))]) (rest := []) S (xw_addGenerator_f l D c a n A B E (xd_in xs L i (n 0)) hN (by omega) (nI (xd_in xs L (i + 2) 30)) (nI gr) (nI (xd_in xs L (i + 4) 4)) (nI (xd_in xs L (i + 6) 1500)) (xd_rg2 (lo := 0) (hi := 100) (by decide) (by decide) (by omega) (by omega) (by omega)) (xd_rgn gr1 (by omega) gr3 (by omega)) (xd_rg2 (lo := 0) (hi := 9) (by decide) (by decide) (by omega) (by omega) (by omega)) (xd_rg2 (lo := 0) (hi := 9999) (by decide) (by decide) (by omega) (by omega) (by omega)) (by omega) ((hZ.1 _ (Nat.le_refl _)).1) ((hZ.1 _ (Nat.le_refl _)).2)) (vx_cwSW 6 hts gL_isGenerator_L_addGenerator rfl rfl rfl (by decide +kernel) ⟨(Nat.le_of_ble_eq_true rfl), (Nat.le_of_ble_eq_true rfl)⟩) hG hK hW hA rfl hl.1 rfl (lv_room (Nat.le_of_ble_eq_true rfl)) dL_isGenerator_204 ⟨(Nat.le_of_ble_eq_true rfl), (Nat.le_of_ble_eq_true rfl)⟩ (fun qn H locs hW => ?_)
        have hW : ze_W D ((ze_wC c (va_up a (20 + n 2) qn) (ze_sn n 2 (n 2 + 1)) (ze_sE (ze_sE (ze_sE (ze_sE (ze_sE (ze_sE A 6 (n 2) (nI (xd_in xs L i (n 0)))) 7 (n 2) (nI (xd_in xs L (i + 2) 30))) 8 (n 2) (nI gr)) 9 (n 2) (nI (xd_in xs L (i + 4) 4))) 10 (n 2) (nI (xd_in xs L (i + 6) 1500))) 13 (n 2) 111) B E) ++ [(q, .inl (c 0, 210, .inl (upd (upd (upd (upd (upd (upd N (9 * (n 2) + 50) (nI (xd_in xs L i (n 0)))) (9 * (n 2) + 51) (nI (xd_in xs L (i + 2) 30))) (9 * (n 2) + 52) (nI gr)) (9 * (n 2) + 53) (nI (xd_in xs L (i + 4) 4))) (9 * (n 2) + 54) (nI (xd_in xs L (i + 6) 1500))) 2 (nI (n 2 + 1)))))]) F s.heap _ _ := hW
        refine lv_aload_n hX_ hB_ dL_isGenerator_207 rfl (lv_at hl 5 rfl) ?_
        refine lv_iconst (v := 2) hX_ hB_ dL_isGenerator_208 (by decide) ?_
        refine ze_ialdN hX_ hB_ hK hW ((ze_wC c (va_up a (20 + n 2) qn) (ze_sn n 2 (n 2 + 1)) (ze_sE (ze_sE (ze_sE (ze_sE (ze_sE (ze_sE A 6 (n 2) (nI (xd_in xs L i (n 0)))) 7 (n 2) (nI (xd_in xs L (i + 2) 30))) 8 (n 2) (nI gr)) 9 (n 2) (nI (xd_in xs L (i + 4) 4))) 10 (n 2) (nI (xd_in xs L (i + 6) 1500))) 13 (n 2) 111) B E).length + 0) (f := (upd (upd (upd (upd (upd (upd N (9 * (n 2) + 50) (nI (xd_in xs L i (n 0)))) (9 * (n 2) + 51) (nI (xd_in xs L (i + 2) 30))) (9 * (n 2) + 52) (nI gr)) (9 * (n 2) + 53) (nI (xd_in xs L (i + 4) 4))) (9 * (n 2) + 54) (nI (xd_in xs L (i + 6) 1500))) 2 (nI (n 2 + 1)))) (ze_appL (k := 0) rfl) (i := 2) (by omega) (by decide) dL_isGenerator_209 ?_
        refine ze_top (ze_updat _ _ _) ?_
        refine lv_iconst (v := 1) hX_ hB_ dL_isGenerator_210 (by decide) ?_
        refine lv_isub hX_ hB_ dL_isGenerator_211 ?_
        refine ze_top (nI_pred (n 2)) ?_
        refine lv_icmp_ne (tgt := 219) hX_ hB_ dL_isGenerator_212 (by decide) (fun c212 => ?_) (fun c212 => ?_)
        · exact absurd rfl c212
        · have c212 : (n 2) = (n 2) := (nI_eq (a := (n 2)) (b := (n 2)) (by omega) (by omega)).mp c212
          refine lv_iconst (v := 1) hX_ hB_ dL_isGenerator_215 (by decide) ?_
          refine lv_goto (tgt := 220) hX_ hB_ dL_isGenerator_216 (by decide) ?_
          exact xb_iret (T := xd_T) ((va_up a (20 + n 2) qn), (ze_sn n 2 (n 2 + 1)), (ze_sE (ze_sE (ze_sE (ze_sE (ze_sE (ze_sE A 6 (n 2) (nI (xd_in xs L i (n 0)))) 7 (n 2) (nI (xd_in xs L (i + 2) 30))) 8 (n 2) (nI gr)) 9 (n 2) (nI (xd_in xs L (i + 4) 4))) 10 (n 2) (nI (xd_in xs L (i + 6) 1500))) 13 (n 2) 111), B, E, (upd (upd (upd (upd (upd (upd N (9 * (n 2) + 50) (nI (xd_in xs L i (n 0)))) (9 * (n 2) + 51) (nI (xd_in xs L (i + 2) 30))) (9 * (n 2) + 52) (nI gr)) (9 * (n 2) + 53) (nI (xd_in xs L (i + 4) 4))) (9 * (n 2) + 54) (nI (xd_in xs L (i + 6) 1500))) 2 (nI (n 2 + 1)))) S hr hlocks hF hK hW rfl dL_isGenerator_220 (Nat.le_of_ble_eq_true rfl) (Nat.le_of_ble_eq_true rfl) ⟨rfl, ⟨(va_up_ne _ _ (by omega)), (xd_gen hI (by omega) (by omega) (by omega) (by omega) (by omega) (by omega) (by omega) (by omega)), rfl, Nat.le_succ _, Nat.le_refl _⟩, Nat.succ_le_succ (Nat.zero_le _)⟩ rfl
      · have c97 : (n 2) = 6 := (nI_eq (a := (n 2)) (b := 6) (by omega) (by omega)).mp c97
        refine lv_aload_n hX_ hB_ dL_isGenerator_100 rfl (lv_at hl 4 rfl) ?_
        refine lv_aload_n hX_ hB_ dL_isGenerator_101 rfl (lv_at hl 6 rfl) ?_
        refine lv_iload_n hX_ hB_ dL_isGenerator_102 rfl (lv_at hl 7 rfl) ?_
        refine lv_aload_n hX_ hB_ dL_isGenerator_103 rfl (lv_at hl 5 rfl) ?_
        refine lv_iconst (v := 0) hX_ hB_ dL_isGenerator_104 (by decide) ?_
        refine ze_ialdN hX_ hB_ hK hW ((ze_wC c a n A B E).length + 0) (f := N) (ze_appL (k := 0) rfl) (i := 0) (by omega) (by decide) dL_isGenerator_105 ?_
        refine ze_top (y := nI (n 0)) hR.1.1 ?_
        have hW : ze_W D (([] : va_W) ++ ((ze_wC c a n A B E) ++ [(q, .inl (c 0, 210, .inl N))])) F s.heap _ _ := hW
        refine xb_FSx (As := [.ref b, .int (nI i), .int (nI (n 0))]) (rest := [.ref (a 0)]) S (xj_in l D c b L xs hL i (by omega) (n 0) (by omega) (by omega)) (va_cwS 3 hts gL_isGenerator_L_in rfl rfl rfl (by decide +kernel) ⟨(Nat.le_of_ble_eq_true rfl), (Nat.le_of_ble_eq_true rfl)⟩) (Or.inr rfl) hG hK hW hA rfl hl.1 rfl (lv_room (Nat.le_of_ble_eq_true rfl)) dL_isGenerator_106 ⟨(Nat.le_of_ble_eq_true rfl), (Nat.le_of_ble_eq_true rfl)⟩ (fun H locs hW => ?_)
        have hv106 := xd_inlt (xs := xs) (L := L) (i := i) (k := n 0) (by omega)
        have hW : ze_W D ((ze_wC c a n A B E) ++ [(q, .inl (c 0, 210, .inl N))]) F s.heap _ _ := hW
        refine lv_iload hX_ hB_ dL_isGenerator_109 (lv_at hl 2 rfl) ?_
        refine lv_iload hX_ hB_ dL_isGenerator_111 (lv_at hl 1 rfl) ?_
        refine lv_iconst (v := 0) hX_ hB_ dL_isGenerator_113 (by decide) ?_
        refine lv_iload hX_ hB_ dL_isGenerator_114 (lv_at hl 0 rfl) ?_
        refine xb_FSq (As := [.ref (a 0), .int (nI (xd_in xs L i (n 0))), .int (nI (xd_in xs L (i + 2) 30)), .int (nI gr), .int 0, .int (nI (xd_in xs L (i + 6) 1500))]) (rest := []) S (xw_addGenerator_t3 l D hst c a n A B E (xd_in xs L i (n 0)) hN (by omega) (nI (xd_in xs L (i + 2) 30)) (nI gr) 0 (nI (xd_in xs L (i + 6) 1500)) (xd_rg2 (lo := 0) (hi := 100) (by decide) (by decide) (by omega) (by omega) (by omega)) (xd_rgn gr1 (by omega) gr3 (by omega)) (by decide) (xd_rg2 (lo := 0) (hi := 9999) (by decide) (by decide) (by omega) (by omega) (by omega)) (by omega)) (vx_cwSW 6 hts gL_isGenerator_L_addGenerator rfl rfl rfl (by decide +kernel) ⟨(Nat.le_of_ble_eq_true rfl), (Nat.le_of_ble_eq_true rfl)⟩) hG hK hW hA rfl hl.1 rfl (lv_room (Nat.le_of_ble_eq_true rfl)) dL_isGenerator_116 ⟨(Nat.le_of_ble_eq_true rfl), (Nat.le_of_ble_eq_true rfl)⟩ (fun H locs hW => ?_)
        have hW : ze_W D ((ze_wC c a n A B E) ++ [(q, .inl (c 0, 210, .inl N))]) F s.heap _ _ := hW
        refine lv_ldc (own := RL) (v := -900003) hX_ hB_ S.2.2.2.1 w4 dL_isGenerator_119 ?_
        refine lv_icmp_ne (tgt := 128) hX_ hB_ dL_isGenerator_121 (by decide) (fun c121 => ?_) (fun c121 => ?_)
        · exact absurd c121 (by decide)
        · refine lv_iconst (v := 1) hX_ hB_ dL_isGenerator_124 (by decide) ?_
          refine lv_goto (tgt := 129) hX_ hB_ dL_isGenerator_125 (by decide) ?_
          exact xb_iret (T := xd_T) (a, n, A, B, E, N) S hr hlocks hF hK hW rfl dL_isGenerator_129 (Nat.le_of_ble_eq_true rfl) (Nat.le_of_ble_eq_true rfl) ⟨rfl, ⟨rfl, hI, rfl, Nat.le_refl _, Nat.le_refl _⟩, (by show 1 ≤ n 2; omega)⟩ rfl
    · have c63 : (xd_in xs L (i + 5) 3) = 0 := (nI_eq (a := (xd_in xs L (i + 5) 3)) (b := 0) (by omega) (by omega)).mp c63
      refine lv_aload_n hX_ hB_ dL_isGenerator_66 rfl (lv_at hl 5 rfl) ?_
      refine lv_iload_n hX_ hB_ dL_isGenerator_67 rfl (lv_at hl 6 rfl) ?_
      refine lv_bipush (v := 6) hX_ hB_ dL_isGenerator_68 (by decide) ?_
      refine lv_iadd hX_ hB_ dL_isGenerator_70 ?_
      refine ze_top (xb_add (a := i) (b := 6) (c := i + 6) (by omega)) ?_
      refine lv_bipush (v := 60) hX_ hB_ dL_isGenerator_71 (by decide) ?_
      have hW : ze_W D (([] : va_W) ++ ((ze_wC c a n A B E) ++ [(q, .inl (c 0, 210, .inl N))])) F s.heap _ _ := hW
      refine xb_FSx (As := [.ref b, .int (nI (i + 6)), .int 60]) (rest := []) S (xj_in l D c b L xs hL (i + 6) (by omega) 60 (by omega) (by omega)) (va_cwS 3 hts gL_isGenerator_L_in rfl rfl rfl (by decide +kernel) ⟨(Nat.le_of_ble_eq_true rfl), (Nat.le_of_ble_eq_true rfl)⟩) (Or.inr rfl) hG hK hW hA rfl hl.1 rfl (lv_room (Nat.le_of_ble_eq_true rfl)) dL_isGenerator_73 ⟨(Nat.le_of_ble_eq_true rfl), (Nat.le_of_ble_eq_true rfl)⟩ (fun H locs hW => ?_)
      have hv73 := xd_inlt (xs := xs) (L := L) (i := i + 6) (k := 60) (by omega)
      have hW : ze_W D ((ze_wC c a n A B E) ++ [(q, .inl (c 0, 210, .inl N))]) F s.heap _ _ := hW
      refine lv_goto (tgt := 90) hX_ hB_ dL_isGenerator_76 (by decide) ?_
      refine lv_istore (lv' := [(7, .int (nI (xd_in xs L (i + 6) 60))), (6, .int (nI gr)), (5, .int (nI (xd_in xs L (i + 2) 30))), (4, .int (nI (9 * (n 2) + 50))), (0, .ref (a 0)), (1, .ref q), (2, .ref b), (3, .int (nI i))]) hX_ hB_ dL_isGenerator_90 hl (by decide) rfl (fun ls hl => ?_)
      refine lv_aload_n hX_ hB_ dL_isGenerator_92 rfl (lv_at hl 5 rfl) ?_
      refine lv_iconst (v := 2) hX_ hB_ dL_isGenerator_93 (by decide) ?_
      refine ze_ialdN hX_ hB_ hK hW ((ze_wC c a n A B E).length + 0) (f := N) (ze_appL (k := 0) rfl) (i := 2) (by omega) (by decide) dL_isGenerator_94 ?_
      refine ze_top (y := nI (n 2)) hR.1.2.2.1 ?_
      refine lv_bipush (v := 6) hX_ hB_ dL_isGenerator_95 (by decide) ?_
      refine lv_icmp_ne (tgt := 130) hX_ hB_ dL_isGenerator_97 (by decide) (fun c97 => ?_) (fun c97 => ?_)
      · have c97 : ¬ (n 2) = 6 := fun h9 => c97 ((nI_eq (a := (n 2)) (b := 6) (by omega) (by omega)).mpr h9)
        refine lv_aload_n hX_ hB_ dL_isGenerator_130 rfl (lv_at hl 5 rfl) ?_
        refine lv_iload hX_ hB_ dL_isGenerator_131 (lv_at hl 3 rfl) ?_
        refine lv_aload_n hX_ hB_ dL_isGenerator_133 rfl (lv_at hl 6 rfl) ?_
        refine lv_iload_n hX_ hB_ dL_isGenerator_134 rfl (lv_at hl 7 rfl) ?_
        refine lv_aload_n hX_ hB_ dL_isGenerator_135 rfl (lv_at hl 5 rfl) ?_
        refine lv_iconst (v := 0) hX_ hB_ dL_isGenerator_136 (by decide) ?_
        refine ze_ialdN hX_ hB_ hK hW ((ze_wC c a n A B E).length + 0) (f := N) (ze_appL (k := 0) rfl) (i := 0) (by omega) (by decide) dL_isGenerator_137 ?_
        refine ze_top (y := nI (n 0)) hR.1.1 ?_
        have hW : ze_W D (([] : va_W) ++ ((ze_wC c a n A B E) ++ [(q, .inl (c 0, 210, .inl N))])) F s.heap _ _ := hW
        refine xb_FSx (As := [.ref b, .int (nI i), .int (nI (n 0))]) (rest := [.int (nI (9 * (n 2) + 50)), .ref q]) S (xj_in l D c b L xs hL i (by omega) (n 0) (by omega) (by omega)) (va_cwS 3 hts gL_isGenerator_L_in rfl rfl rfl (by decide +kernel) ⟨(Nat.le_of_ble_eq_true rfl), (Nat.le_of_ble_eq_true rfl)⟩) (Or.inr rfl) hG hK hW hA rfl hl.1 rfl (lv_room (Nat.le_of_ble_eq_true rfl)) dL_isGenerator_138 ⟨(Nat.le_of_ble_eq_true rfl), (Nat.le_of_ble_eq_true rfl)⟩ (fun H locs hW => ?_)
        have hv138 := xd_inlt (xs := xs) (L := L) (i := i) (k := n 0) (by omega)
        have hW : ze_W D ((ze_wC c a n A B E) ++ [(q, .inl (c 0, 210, .inl N))]) F s.heap _ _ := hW
        refine ze_iastN hX_ hB_ hK hW ((ze_wC c a n A B E).length + 0) (f := N) (ze_appL (k := 0) rfl) (i := 9 * (n 2) + 50) (by omega) (by decide) dL_isGenerator_141 (ze_appset rfl) (fun H locs hW => ?_)
        have hW : ze_W D ((ze_wC c a n A B E) ++ [(q, .inl (c 0, 210, .inl (upd N (9 * (n 2) + 50) (nI (xd_in xs L i (n 0))))))]) F s.heap _ _ := hW
        refine lv_aload_n hX_ hB_ dL_isGenerator_142 rfl (lv_at hl 5 rfl) ?_
        refine lv_iload hX_ hB_ dL_isGenerator_143 (lv_at hl 3 rfl) ?_
        refine lv_iconst (v := 1) hX_ hB_ dL_isGenerator_145 (by decide) ?_
        refine lv_iadd hX_ hB_ dL_isGenerator_146 ?_
        refine ze_top (xb_add (a := 9 * (n 2) + 50) (b := 1) (c := 9 * (n 2) + 51) (by omega)) ?_
        refine lv_iload hX_ hB_ dL_isGenerator_147 (lv_at hl 2 rfl) ?_
        refine ze_iastN hX_ hB_ hK hW ((ze_wC c a n A B E).length + 0) (f := (upd N (9 * (n 2) + 50) (nI (xd_in xs L i (n 0))))) (ze_appL (k := 0) rfl) (i := 9 * (n 2) + 51) (by omega) (by decide) dL_isGenerator_149 (ze_appset rfl) (fun H locs hW => ?_)
        have hW : ze_W D ((ze_wC c a n A B E) ++ [(q, .inl (c 0, 210, .inl (upd (upd N (9 * (n 2) + 50) (nI (xd_in xs L i (n 0)))) (9 * (n 2) + 51) (nI (xd_in xs L (i + 2) 30)))))]) F s.heap _ _ := hW
        refine lv_aload_n hX_ hB_ dL_isGenerator_150 rfl (lv_at hl 5 rfl) ?_
        refine lv_iload hX_ hB_ dL_isGenerator_151 (lv_at hl 3 rfl) ?_
        refine lv_iconst (v := 2) hX_ hB_ dL_isGenerator_153 (by decide) ?_
        refine lv_iadd hX_ hB_ dL_isGenerator_154 ?_
        refine ze_top (xb_add (a := 9 * (n 2) + 50) (b := 2) (c := 9 * (n 2) + 52) (by omega)) ?_
        refine lv_iload hX_ hB_ dL_isGenerator_155 (lv_at hl 1 rfl) ?_
        refine ze_iastN hX_ hB_ hK hW ((ze_wC c a n A B E).length + 0) (f := (upd (upd N (9 * (n 2) + 50) (nI (xd_in xs L i (n 0)))) (9 * (n 2) + 51) (nI (xd_in xs L (i + 2) 30)))) (ze_appL (k := 0) rfl) (i := 9 * (n 2) + 52) (by omega) (by decide) dL_isGenerator_157 (ze_appset rfl) (fun H locs hW => ?_)
        have hW : ze_W D ((ze_wC c a n A B E) ++ [(q, .inl (c 0, 210, .inl (upd (upd (upd N (9 * (n 2) + 50) (nI (xd_in xs L i (n 0)))) (9 * (n 2) + 51) (nI (xd_in xs L (i + 2) 30))) (9 * (n 2) + 52) (nI gr))))]) F s.heap _ _ := hW
        refine lv_aload_n hX_ hB_ dL_isGenerator_158 rfl (lv_at hl 5 rfl) ?_
        refine lv_iload hX_ hB_ dL_isGenerator_159 (lv_at hl 3 rfl) ?_
        refine lv_iconst (v := 3) hX_ hB_ dL_isGenerator_161 (by decide) ?_
        refine lv_iadd hX_ hB_ dL_isGenerator_162 ?_
        refine ze_top (xb_add (a := 9 * (n 2) + 50) (b := 3) (c := 9 * (n 2) + 53) (by omega)) ?_
        refine lv_aload_n hX_ hB_ dL_isGenerator_163 rfl (lv_at hl 6 rfl) ?_
        refine lv_iload_n hX_ hB_ dL_isGenerator_164 rfl (lv_at hl 7 rfl) ?_
        refine lv_iconst (v := 4) hX_ hB_ dL_isGenerator_165 (by decide) ?_
        refine lv_iadd hX_ hB_ dL_isGenerator_166 ?_
        refine ze_top (xb_add (a := i) (b := 4) (c := i + 4) (by omega)) ?_
        refine lv_iconst (v := 4) hX_ hB_ dL_isGenerator_167 (by decide) ?_
        have hW : ze_W D (([] : va_W) ++ ((ze_wC c a n A B E) ++ [(q, .inl (c 0, 210, .inl (upd (upd (upd N (9 * (n 2) + 50) (nI (xd_in xs L i (n 0)))) (9 * (n 2) + 51) (nI (xd_in xs L (i + 2) 30))) (9 * (n 2) + 52) (nI gr))))])) F s.heap _ _ := hW
        refine xb_FSx (As := [.ref b, .int (nI (i + 4)), .int 4]) (rest := [.int (nI (9 * (n 2) + 53)), .ref q]) S (xj_in l D c b L xs hL (i + 4) (by omega) 4 (by omega) (by omega)) (va_cwS 3 hts gL_isGenerator_L_in rfl rfl rfl (by decide +kernel) ⟨(Nat.le_of_ble_eq_true rfl), (Nat.le_of_ble_eq_true rfl)⟩) (Or.inr rfl) hG hK hW hA rfl hl.1 rfl (lv_room (Nat.le_of_ble_eq_true rfl)) dL_isGenerator_168 ⟨(Nat.le_of_ble_eq_true rfl), (Nat.le_of_ble_eq_true rfl)⟩ (fun H locs hW => ?_)
        have hv168 := xd_inlt (xs := xs) (L := L) (i := i + 4) (k := 4) (by omega)
        have hW : ze_W D ((ze_wC c a n A B E) ++ [(q, .inl (c 0, 210, .inl (upd (upd (upd N (9 * (n 2) + 50) (nI (xd_in xs L i (n 0)))) (9 * (n 2) + 51) (nI (xd_in xs L (i + 2) 30))) (9 * (n 2) + 52) (nI gr))))]) F s.heap _ _ := hW
        refine ze_iastN hX_ hB_ hK hW ((ze_wC c a n A B E).length + 0) (f := (upd (upd (upd N (9 * (n 2) + 50) (nI (xd_in xs L i (n 0)))) (9 * (n 2) + 51) (nI (xd_in xs L (i + 2) 30))) (9 * (n 2) + 52) (nI gr))) (ze_appL (k := 0) rfl) (i := 9 * (n 2) + 53) (by omega) (by decide) dL_isGenerator_171 (ze_appset rfl) (fun H locs hW => ?_)
        have hW : ze_W D ((ze_wC c a n A B E) ++ [(q, .inl (c 0, 210, .inl (upd (upd (upd (upd N (9 * (n 2) + 50) (nI (xd_in xs L i (n 0)))) (9 * (n 2) + 51) (nI (xd_in xs L (i + 2) 30))) (9 * (n 2) + 52) (nI gr)) (9 * (n 2) + 53) (nI (xd_in xs L (i + 4) 4)))))]) F s.heap _ _ := hW
        refine lv_aload_n hX_ hB_ dL_isGenerator_172 rfl (lv_at hl 5 rfl) ?_
        refine lv_iload hX_ hB_ dL_isGenerator_173 (lv_at hl 3 rfl) ?_
        refine lv_iconst (v := 4) hX_ hB_ dL_isGenerator_175 (by decide) ?_
        refine lv_iadd hX_ hB_ dL_isGenerator_176 ?_
        refine ze_top (xb_add (a := 9 * (n 2) + 50) (b := 4) (c := 9 * (n 2) + 54) (by omega)) ?_
        refine lv_iload hX_ hB_ dL_isGenerator_177 (lv_at hl 0 rfl) ?_
        refine ze_iastN hX_ hB_ hK hW ((ze_wC c a n A B E).length + 0) (f := (upd (upd (upd (upd N (9 * (n 2) + 50) (nI (xd_in xs L i (n 0)))) (9 * (n 2) + 51) (nI (xd_in xs L (i + 2) 30))) (9 * (n 2) + 52) (nI gr)) (9 * (n 2) + 53) (nI (xd_in xs L (i + 4) 4)))) (ze_appL (k := 0) rfl) (i := 9 * (n 2) + 54) (by omega) (by decide) dL_isGenerator_179 (ze_appset rfl) (fun H locs hW => ?_)
        have hW : ze_W D ((ze_wC c a n A B E) ++ [(q, .inl (c 0, 210, .inl (upd (upd (upd (upd (upd N (9 * (n 2) + 50) (nI (xd_in xs L i (n 0)))) (9 * (n 2) + 51) (nI (xd_in xs L (i + 2) 30))) (9 * (n 2) + 52) (nI gr)) (9 * (n 2) + 53) (nI (xd_in xs L (i + 4) 4))) (9 * (n 2) + 54) (nI (xd_in xs L (i + 6) 60)))))]) F s.heap _ _ := hW
        refine lv_aload_n hX_ hB_ dL_isGenerator_180 rfl (lv_at hl 5 rfl) ?_
        refine lv_iconst (v := 2) hX_ hB_ dL_isGenerator_181 (by decide) ?_
        refine lv_dup2_11 hX_ hB_ dL_isGenerator_182 rfl rfl ?_
        refine ze_ialdN hX_ hB_ hK hW ((ze_wC c a n A B E).length + 0) (f := (upd (upd (upd (upd (upd N (9 * (n 2) + 50) (nI (xd_in xs L i (n 0)))) (9 * (n 2) + 51) (nI (xd_in xs L (i + 2) 30))) (9 * (n 2) + 52) (nI gr)) (9 * (n 2) + 53) (nI (xd_in xs L (i + 4) 4))) (9 * (n 2) + 54) (nI (xd_in xs L (i + 6) 60)))) (ze_appL (k := 0) rfl) (i := 2) (by omega) (by decide) dL_isGenerator_183 ?_
        refine ze_top (xb_un (by omega)) ?_
        refine ze_top (xb_un (by omega)) ?_
        refine ze_top (xb_un (by omega)) ?_
        refine ze_top (xb_un (by omega)) ?_
        refine ze_top (xb_un (by omega)) ?_
        refine ze_top (y := nI (n 2)) hR.1.2.2.1 ?_
        refine lv_iconst (v := 1) hX_ hB_ dL_isGenerator_184 (by decide) ?_
        refine lv_iadd hX_ hB_ dL_isGenerator_185 ?_
        refine ze_top (xb_add (a := n 2) (b := 1) (c := n 2 + 1) (by omega)) ?_
        refine ze_iastN hX_ hB_ hK hW ((ze_wC c a n A B E).length + 0) (f := (upd (upd (upd (upd (upd N (9 * (n 2) + 50) (nI (xd_in xs L i (n 0)))) (9 * (n 2) + 51) (nI (xd_in xs L (i + 2) 30))) (9 * (n 2) + 52) (nI gr)) (9 * (n 2) + 53) (nI (xd_in xs L (i + 4) 4))) (9 * (n 2) + 54) (nI (xd_in xs L (i + 6) 60)))) (ze_appL (k := 0) rfl) (i := 2) (by omega) (by decide) dL_isGenerator_186 (ze_appset rfl) (fun H locs hW => ?_)
        have hW : ze_W D ((ze_wC c a n A B E) ++ [(q, .inl (c 0, 210, .inl (upd (upd (upd (upd (upd (upd N (9 * (n 2) + 50) (nI (xd_in xs L i (n 0)))) (9 * (n 2) + 51) (nI (xd_in xs L (i + 2) 30))) (9 * (n 2) + 52) (nI gr)) (9 * (n 2) + 53) (nI (xd_in xs L (i + 4) 4))) (9 * (n 2) + 54) (nI (xd_in xs L (i + 6) 60))) 2 (nI (n 2 + 1)))))]) F s.heap _ _ := hW
        refine lv_aload_n hX_ hB_ dL_isGenerator_187 rfl (lv_at hl 4 rfl) ?_
        refine lv_aload_n hX_ hB_ dL_isGenerator_188 rfl (lv_at hl 5 rfl) ?_
        refine lv_iload hX_ hB_ dL_isGenerator_189 (lv_at hl 3 rfl) ?_
        refine ze_ialdN hX_ hB_ hK hW ((ze_wC c a n A B E).length + 0) (f := (upd (upd (upd (upd (upd (upd N (9 * (n 2) + 50) (nI (xd_in xs L i (n 0)))) (9 * (n 2) + 51) (nI (xd_in xs L (i + 2) 30))) (9 * (n 2) + 52) (nI gr)) (9 * (n 2) + 53) (nI (xd_in xs L (i + 4) 4))) (9 * (n 2) + 54) (nI (xd_in xs L (i + 6) 60))) 2 (nI (n 2 + 1)))) (ze_appL (k := 0) rfl) (i := 9 * (n 2) + 50) (by omega) (by decide) dL_isGenerator_191 ?_
        refine ze_top (xb_un (by omega)) ?_
        refine ze_top (xb_un (by omega)) ?_
        refine ze_top (xb_un (by omega)) ?_
        refine ze_top (xb_un (by omega)) ?_
        refine ze_top (xb_un (by omega)) ?_
        refine ze_top (ze_updat _ _ _) ?_
        refine lv_iload hX_ hB_ dL_isGenerator_192 (lv_at hl 2 rfl) ?_
        refine lv_iload hX_ hB_ dL_isGenerator_194 (lv_at hl 1 rfl) ?_
        refine lv_aload_n hX_ hB_ dL_isGenerator_196 rfl (lv_at hl 5 rfl) ?_
        refine lv_iload hX_ hB_ dL_isGenerator_197 (lv_at hl 3 rfl) ?_
        refine lv_iconst (v := 3) hX_ hB_ dL_isGenerator_199 (by decide) ?_
        refine lv_iadd hX_ hB_ dL_isGenerator_200 ?_
        refine ze_top (xb_add (a := 9 * (n 2) + 50) (b := 3) (c := 9 * (n 2) + 53) (by omega)) ?_
        refine ze_ialdN hX_ hB_ hK hW ((ze_wC c a n A B E).length + 0) (f := (upd (upd (upd (upd (upd (upd N (9 * (n 2) + 50) (nI (xd_in xs L i (n 0)))) (9 * (n 2) + 51) (nI (xd_in xs L (i + 2) 30))) (9 * (n 2) + 52) (nI gr)) (9 * (n 2) + 53) (nI (xd_in xs L (i + 4) 4))) (9 * (n 2) + 54) (nI (xd_in xs L (i + 6) 60))) 2 (nI (n 2 + 1)))) (ze_appL (k := 0) rfl) (i := 9 * (n 2) + 53) (by omega) (by decide) dL_isGenerator_201 ?_
        refine ze_top (xb_un (by omega)) ?_
        refine ze_top (xb_un (by omega)) ?_
        refine ze_top (ze_updat _ _ _) ?_
        refine lv_iload hX_ hB_ dL_isGenerator_202 (lv_at hl 0 rfl) ?_
        refine xb_FSe (As := [.ref (a 0), .int (nI (xd_in xs L i (n 0))), .int (nI (xd_in xs L (i + 2) 30)), .int (nI gr), .int (nI (xd_in xs L (i + 4) 4)), .int (nI (xd_in xs L (i + 6) 60))]) (rest := []) S (xw_addGenerator_f l D c a n A B E (xd_in xs L i (n 0)) hN (by omega) (nI (xd_in xs L (i + 2) 30)) (nI gr) (nI (xd_in xs L (i + 4) 4)) (nI (xd_in xs L (i + 6) 60)) (xd_rg2 (lo := 0) (hi := 100) (by decide) (by decide) (by omega) (by omega) (by omega)) (xd_rgn gr1 (by omega) gr3 (by omega)) (xd_rg2 (lo := 0) (hi := 9) (by decide) (by decide) (by omega) (by omega) (by omega)) (xd_rg2 (lo := 0) (hi := 9999) (by decide) (by decide) (by omega) (by omega) (by omega)) (by omega) ((hZ.1 _ (Nat.le_refl _)).1) ((hZ.1 _ (Nat.le_refl _)).2)) (vx_cwSW 6 hts gL_isGenerator_L_addGenerator rfl rfl rfl (by decide +kernel) ⟨(Nat.le_of_ble_eq_true rfl), (Nat.le_of_ble_eq_true rfl)⟩) hG hK hW hA rfl hl.1 rfl (lv_room (Nat.le_of_ble_eq_true rfl)) dL_isGenerator_204 ⟨(Nat.le_of_ble_eq_true rfl), (Nat.le_of_ble_eq_true rfl)⟩ (fun qn H locs hW => ?_)
        have hW : ze_W D ((ze_wC c (va_up a (20 + n 2) qn) (ze_sn n 2 (n 2 + 1)) (ze_sE (ze_sE (ze_sE (ze_sE (ze_sE (ze_sE A 6 (n 2) (nI (xd_in xs L i (n 0)))) 7 (n 2) (nI (xd_in xs L (i + 2) 30))) 8 (n 2) (nI gr)) 9 (n 2) (nI (xd_in xs L (i + 4) 4))) 10 (n 2) (nI (xd_in xs L (i + 6) 60))) 13 (n 2) 111) B E) ++ [(q, .inl (c 0, 210, .inl (upd (upd (upd (upd (upd (upd N (9 * (n 2) + 50) (nI (xd_in xs L i (n 0)))) (9 * (n 2) + 51) (nI (xd_in xs L (i + 2) 30))) (9 * (n 2) + 52) (nI gr)) (9 * (n 2) + 53) (nI (xd_in xs L (i + 4) 4))) (9 * (n 2) + 54) (nI (xd_in xs L (i + 6) 60))) 2 (nI (n 2 + 1)))))]) F s.heap _ _ := hW
        refine lv_aload_n hX_ hB_ dL_isGenerator_207 rfl (lv_at hl 5 rfl) ?_
        refine lv_iconst (v := 2) hX_ hB_ dL_isGenerator_208 (by decide) ?_
        refine ze_ialdN hX_ hB_ hK hW ((ze_wC c (va_up a (20 + n 2) qn) (ze_sn n 2 (n 2 + 1)) (ze_sE (ze_sE (ze_sE (ze_sE (ze_sE (ze_sE A 6 (n 2) (nI (xd_in xs L i (n 0)))) 7 (n 2) (nI (xd_in xs L (i + 2) 30))) 8 (n 2) (nI gr)) 9 (n 2) (nI (xd_in xs L (i + 4) 4))) 10 (n 2) (nI (xd_in xs L (i + 6) 60))) 13 (n 2) 111) B E).length + 0) (f := (upd (upd (upd (upd (upd (upd N (9 * (n 2) + 50) (nI (xd_in xs L i (n 0)))) (9 * (n 2) + 51) (nI (xd_in xs L (i + 2) 30))) (9 * (n 2) + 52) (nI gr)) (9 * (n 2) + 53) (nI (xd_in xs L (i + 4) 4))) (9 * (n 2) + 54) (nI (xd_in xs L (i + 6) 60))) 2 (nI (n 2 + 1)))) (ze_appL (k := 0) rfl) (i := 2) (by omega) (by decide) dL_isGenerator_209 ?_
        refine ze_top (ze_updat _ _ _) ?_
        refine lv_iconst (v := 1) hX_ hB_ dL_isGenerator_210 (by decide) ?_
        refine lv_isub hX_ hB_ dL_isGenerator_211 ?_
        refine ze_top (nI_pred (n 2)) ?_
        refine lv_icmp_ne (tgt := 219) hX_ hB_ dL_isGenerator_212 (by decide) (fun c212 => ?_) (fun c212 => ?_)
        · exact absurd rfl c212
        · have c212 : (n 2) = (n 2) := (nI_eq (a := (n 2)) (b := (n 2)) (by omega) (by omega)).mp c212
          refine lv_iconst (v := 1) hX_ hB_ dL_isGenerator_215 (by decide) ?_
          refine lv_goto (tgt := 220) hX_ hB_ dL_isGenerator_216 (by decide) ?_
          exact xb_iret (T := xd_T) ((va_up a (20 + n 2) qn), (ze_sn n 2 (n 2 + 1)), (ze_sE (ze_sE (ze_sE (ze_sE (ze_sE (ze_sE A 6 (n 2) (nI (xd_in xs L i (n 0)))) 7 (n 2) (nI (xd_in xs L (i + 2) 30))) 8 (n 2) (nI gr)) 9 (n 2) (nI (xd_in xs L (i + 4) 4))) 10 (n 2) (nI (xd_in xs L (i + 6) 60))) 13 (n 2) 111), B, E, (upd (upd (upd (upd (upd (upd N (9 * (n 2) + 50) (nI (xd_in xs L i (n 0)))) (9 * (n 2) + 51) (nI (xd_in xs L (i + 2) 30))) (9 * (n 2) + 52) (nI gr)) (9 * (n 2) + 53) (nI (xd_in xs L (i + 4) 4))) (9 * (n 2) + 54) (nI (xd_in xs L (i + 6) 60))) 2 (nI (n 2 + 1)))) S hr hlocks hF hK hW rfl dL_isGenerator_220 (Nat.le_of_ble_eq_true rfl) (Nat.le_of_ble_eq_true rfl) ⟨rfl, ⟨(va_up_ne _ _ (by omega)), (xd_gen hI (by omega) (by omega) (by omega) (by omega) (by omega) (by omega) (by omega) (by omega)), rfl, Nat.le_succ _, Nat.le_refl _⟩, Nat.succ_le_succ (Nat.zero_le _)⟩ rfl
      · have c97 : (n 2) = 6 := (nI_eq (a := (n 2)) (b := 6) (by omega) (by omega)).mp c97
        refine lv_aload_n hX_ hB_ dL_isGenerator_100 rfl (lv_at hl 4 rfl) ?_
        refine lv_aload_n hX_ hB_ dL_isGenerator_101 rfl (lv_at hl 6 rfl) ?_
        refine lv_iload_n hX_ hB_ dL_isGenerator_102 rfl (lv_at hl 7 rfl) ?_
        refine lv_aload_n hX_ hB_ dL_isGenerator_103 rfl (lv_at hl 5 rfl) ?_
        refine lv_iconst (v := 0) hX_ hB_ dL_isGenerator_104 (by decide) ?_
        refine ze_ialdN hX_ hB_ hK hW ((ze_wC c a n A B E).length + 0) (f := N) (ze_appL (k := 0) rfl) (i := 0) (by omega) (by decide) dL_isGenerator_105 ?_
        refine ze_top (y := nI (n 0)) hR.1.1 ?_
        have hW : ze_W D (([] : va_W) ++ ((ze_wC c a n A B E) ++ [(q, .inl (c 0, 210, .inl N))])) F s.heap _ _ := hW
        refine xb_FSx (As := [.ref b, .int (nI i), .int (nI (n 0))]) (rest := [.ref (a 0)]) S (xj_in l D c b L xs hL i (by omega) (n 0) (by omega) (by omega)) (va_cwS 3 hts gL_isGenerator_L_in rfl rfl rfl (by decide +kernel) ⟨(Nat.le_of_ble_eq_true rfl), (Nat.le_of_ble_eq_true rfl)⟩) (Or.inr rfl) hG hK hW hA rfl hl.1 rfl (lv_room (Nat.le_of_ble_eq_true rfl)) dL_isGenerator_106 ⟨(Nat.le_of_ble_eq_true rfl), (Nat.le_of_ble_eq_true rfl)⟩ (fun H locs hW => ?_)
        have hv106 := xd_inlt (xs := xs) (L := L) (i := i) (k := n 0) (by omega)
        have hW : ze_W D ((ze_wC c a n A B E) ++ [(q, .inl (c 0, 210, .inl N))]) F s.heap _ _ := hW
        refine lv_iload hX_ hB_ dL_isGenerator_109 (lv_at hl 2 rfl) ?_
        refine lv_iload hX_ hB_ dL_isGenerator_111 (lv_at hl 1 rfl) ?_
        refine lv_iconst (v := 0) hX_ hB_ dL_isGenerator_113 (by decide) ?_
        refine lv_iload hX_ hB_ dL_isGenerator_114 (lv_at hl 0 rfl) ?_
        refine xb_FSq (As := [.ref (a 0), .int (nI (xd_in xs L i (n 0))), .int (nI (xd_in xs L (i + 2) 30)), .int (nI gr), .int 0, .int (nI (xd_in xs L (i + 6) 60))]) (rest := []) S (xw_addGenerator_t3 l D hst c a n A B E (xd_in xs L i (n 0)) hN (by omega) (nI (xd_in xs L (i + 2) 30)) (nI gr) 0 (nI (xd_in xs L (i + 6) 60)) (xd_rg2 (lo := 0) (hi := 100) (by decide) (by decide) (by omega) (by omega) (by omega)) (xd_rgn gr1 (by omega) gr3 (by omega)) (by decide) (xd_rg2 (lo := 0) (hi := 9999) (by decide) (by decide) (by omega) (by omega) (by omega)) (by omega)) (vx_cwSW 6 hts gL_isGenerator_L_addGenerator rfl rfl rfl (by decide +kernel) ⟨(Nat.le_of_ble_eq_true rfl), (Nat.le_of_ble_eq_true rfl)⟩) hG hK hW hA rfl hl.1 rfl (lv_room (Nat.le_of_ble_eq_true rfl)) dL_isGenerator_116 ⟨(Nat.le_of_ble_eq_true rfl), (Nat.le_of_ble_eq_true rfl)⟩ (fun H locs hW => ?_)
        have hW : ze_W D ((ze_wC c a n A B E) ++ [(q, .inl (c 0, 210, .inl N))]) F s.heap _ _ := hW
        refine lv_ldc (own := RL) (v := -900003) hX_ hB_ S.2.2.2.1 w4 dL_isGenerator_119 ?_
        refine lv_icmp_ne (tgt := 128) hX_ hB_ dL_isGenerator_121 (by decide) (fun c121 => ?_) (fun c121 => ?_)
        · exact absurd c121 (by decide)
        · refine lv_iconst (v := 1) hX_ hB_ dL_isGenerator_124 (by decide) ?_
          refine lv_goto (tgt := 129) hX_ hB_ dL_isGenerator_125 (by decide) ?_
          exact xb_iret (T := xd_T) (a, n, A, B, E, N) S hr hlocks hF hK hW rfl dL_isGenerator_129 (Nat.le_of_ble_eq_true rfl) (Nat.le_of_ble_eq_true rfl) ⟨rfl, ⟨rfl, hI, rfl, Nat.le_refl _, Nat.le_refl _⟩, (by show 1 ≤ n 2; omega)⟩ rfl
  · have c19 : (xd_in xs L (i + 1) 3) = 0 := (nI_eq (a := (xd_in xs L (i + 1) 3)) (b := 0) (by omega) (by omega)).mp c19
    refine lv_iconst (v := 0) hX_ hB_ dL_isGenerator_22 (by decide) ?_
    refine ze_top (y := nI 0) rfl ?_
    refine lv_goto (tgt := 35) hX_ hB_ dL_isGenerator_23 (by decide) ?_
    refine lv_istore (lv' := [(5, .int (nI 0)), (4, .int (nI (9 * (n 2) + 50))), (0, .ref (a 0)), (1, .ref q), (2, .ref b), (3, .int (nI i))]) hX_ hB_ dL_isGenerator_35 hl (by decide) rfl (fun ls hl => ?_)
    refine lv_iconst (v := 1) hX_ hB_ dL_isGenerator_37 (by decide) ?_
    refine lv_iload hX_ hB_ dL_isGenerator_38 (lv_at hl 0 rfl) ?_
    refine lv_aload_n hX_ hB_ dL_isGenerator_40 rfl (lv_at hl 4 rfl) ?_
    refine lv_iload_n hX_ hB_ dL_isGenerator_41 rfl (lv_at hl 5 rfl) ?_
    refine lv_iconst (v := 3) hX_ hB_ dL_isGenerator_42 (by decide) ?_
    refine lv_iadd hX_ hB_ dL_isGenerator_43 ?_
    refine ze_top (xb_add (a := i) (b := 3) (c := i + 3) (by omega)) ?_
    refine lv_bipush (v := 60) hX_ hB_ dL_isGenerator_44 (by decide) ?_
    have hW : ze_W D (([] : va_W) ++ ((ze_wC c a n A B E) ++ [(q, .inl (c 0, 210, .inl N))])) F s.heap _ _ := hW
    refine xb_FSx (As := [.ref b, .int (nI (i + 3)), .int 60]) (rest := [.int (nI 0), .int 1]) S (xj_in l D c b L xs hL (i + 3) (by omega) 60 (by omega) (by omega)) (va_cwS 3 hts gL_isGenerator_L_in rfl rfl rfl (by decide +kernel) ⟨(Nat.le_of_ble_eq_true rfl), (Nat.le_of_ble_eq_true rfl)⟩) (Or.inr rfl) hG hK hW hA rfl hl.1 rfl (lv_room (Nat.le_of_ble_eq_true rfl)) dL_isGenerator_46 ⟨(Nat.le_of_ble_eq_true rfl), (Nat.le_of_ble_eq_true rfl)⟩ (fun H locs hW => ?_)
    have hv46 := xd_inlt (xs := xs) (L := L) (i := i + 3) (k := 60) (by omega)
    have hW : ze_W D ((ze_wC c a n A B E) ++ [(q, .inl (c 0, 210, .inl N))]) F s.heap _ _ := hW
    refine lv_iadd hX_ hB_ dL_isGenerator_49 ?_
    refine ze_top (xb_add (a := 0) (b := xd_in xs L (i + 3) 60) (c := xd_in xs L (i + 3) 60) (by omega)) ?_
    refine ze_max S hl.1 w0 w1 w2 w3 ⟨Nat.le_of_ble_eq_true rfl, Nat.le_of_ble_eq_true rfl, Nat.le_of_ble_eq_true rfl, Nat.le_of_ble_eq_true rfl⟩ dL_isGenerator_50 ?_
    obtain ⟨gr, egr, gr1, gr2, gr3⟩ := xd_gr (le := (xd_in xs L (i + 3) 60)) (v := xd_in xs L (i + 3) 60) (by omega) (by omega)
    refine ze_top egr ?_
    refine lv_istore (lv' := [(6, .int (nI gr)), (5, .int (nI 0)), (4, .int (nI (9 * (n 2) + 50))), (0, .ref (a 0)), (1, .ref q), (2, .ref b), (3, .int (nI i))]) hX_ hB_ dL_isGenerator_53 hl (by decide) rfl (fun ls hl => ?_)
    refine lv_aload_n hX_ hB_ dL_isGenerator_55 rfl (lv_at hl 5 rfl) ?_
    refine lv_iload_n hX_ hB_ dL_isGenerator_56 rfl (lv_at hl 6 rfl) ?_
    refine lv_iconst (v := 5) hX_ hB_ dL_isGenerator_57 (by decide) ?_
    refine lv_iadd hX_ hB_ dL_isGenerator_58 ?_
    refine ze_top (xb_add (a := i) (b := 5) (c := i + 5) (by omega)) ?_
    refine lv_iconst (v := 3) hX_ hB_ dL_isGenerator_59 (by decide) ?_
    have hW : ze_W D (([] : va_W) ++ ((ze_wC c a n A B E) ++ [(q, .inl (c 0, 210, .inl N))])) F s.heap _ _ := hW
    refine xb_FSx (As := [.ref b, .int (nI (i + 5)), .int 3]) (rest := []) S (xj_in l D c b L xs hL (i + 5) (by omega) 3 (by omega) (by omega)) (va_cwS 3 hts gL_isGenerator_L_in rfl rfl rfl (by decide +kernel) ⟨(Nat.le_of_ble_eq_true rfl), (Nat.le_of_ble_eq_true rfl)⟩) (Or.inr rfl) hG hK hW hA rfl hl.1 rfl (lv_room (Nat.le_of_ble_eq_true rfl)) dL_isGenerator_60 ⟨(Nat.le_of_ble_eq_true rfl), (Nat.le_of_ble_eq_true rfl)⟩ (fun H locs hW => ?_)
    have hv60 := xd_inlt (xs := xs) (L := L) (i := i + 5) (k := 3) (by omega)
    have hW : ze_W D ((ze_wC c a n A B E) ++ [(q, .inl (c 0, 210, .inl N))]) F s.heap _ _ := hW
    refine lv_if_ne (tgt := 79) hX_ hB_ dL_isGenerator_63 (by decide) (fun c63 => ?_) (fun c63 => ?_)
    · have c63 : ¬ (xd_in xs L (i + 5) 3) = 0 := fun h9 => c63 ((nI_eq (a := (xd_in xs L (i + 5) 3)) (b := 0) (by omega) (by omega)).mpr h9)
      refine lv_aload_n hX_ hB_ dL_isGenerator_79 rfl (lv_at hl 5 rfl) ?_
      refine lv_iload_n hX_ hB_ dL_isGenerator_80 rfl (lv_at hl 6 rfl) ?_
      refine lv_bipush (v := 6) hX_ hB_ dL_isGenerator_81 (by decide) ?_
      refine lv_iadd hX_ hB_ dL_isGenerator_83 ?_
      refine ze_top (xb_add (a := i) (b := 6) (c := i + 6) (by omega)) ?_
      refine lv_sipush (v := 1500) hX_ hB_ dL_isGenerator_84 (by decide) ?_
      have hW : ze_W D (([] : va_W) ++ ((ze_wC c a n A B E) ++ [(q, .inl (c 0, 210, .inl N))])) F s.heap _ _ := hW
      refine xb_FSx (As := [.ref b, .int (nI (i + 6)), .int 1500]) (rest := []) S (xj_in l D c b L xs hL (i + 6) (by omega) 1500 (by omega) (by omega)) (va_cwS 3 hts gL_isGenerator_L_in rfl rfl rfl (by decide +kernel) ⟨(Nat.le_of_ble_eq_true rfl), (Nat.le_of_ble_eq_true rfl)⟩) (Or.inr rfl) hG hK hW hA rfl hl.1 rfl (lv_room (Nat.le_of_ble_eq_true rfl)) dL_isGenerator_87 ⟨(Nat.le_of_ble_eq_true rfl), (Nat.le_of_ble_eq_true rfl)⟩ (fun H locs hW => ?_)
      have hv87 := xd_inlt (xs := xs) (L := L) (i := i + 6) (k := 1500) (by omega)
      have hW : ze_W D ((ze_wC c a n A B E) ++ [(q, .inl (c 0, 210, .inl N))]) F s.heap _ _ := hW
      refine lv_istore (lv' := [(7, .int (nI (xd_in xs L (i + 6) 1500))), (6, .int (nI gr)), (5, .int (nI 0)), (4, .int (nI (9 * (n 2) + 50))), (0, .ref (a 0)), (1, .ref q), (2, .ref b), (3, .int (nI i))]) hX_ hB_ dL_isGenerator_90 hl (by decide) rfl (fun ls hl => ?_)
      refine lv_aload_n hX_ hB_ dL_isGenerator_92 rfl (lv_at hl 5 rfl) ?_
      refine lv_iconst (v := 2) hX_ hB_ dL_isGenerator_93 (by decide) ?_
      refine ze_ialdN hX_ hB_ hK hW ((ze_wC c a n A B E).length + 0) (f := N) (ze_appL (k := 0) rfl) (i := 2) (by omega) (by decide) dL_isGenerator_94 ?_
      refine ze_top (y := nI (n 2)) hR.1.2.2.1 ?_
      refine lv_bipush (v := 6) hX_ hB_ dL_isGenerator_95 (by decide) ?_
      refine lv_icmp_ne (tgt := 130) hX_ hB_ dL_isGenerator_97 (by decide) (fun c97 => ?_) (fun c97 => ?_)
      · have c97 : ¬ (n 2) = 6 := fun h9 => c97 ((nI_eq (a := (n 2)) (b := 6) (by omega) (by omega)).mpr h9)
        refine lv_aload_n hX_ hB_ dL_isGenerator_130 rfl (lv_at hl 5 rfl) ?_
        refine lv_iload hX_ hB_ dL_isGenerator_131 (lv_at hl 3 rfl) ?_
        refine lv_aload_n hX_ hB_ dL_isGenerator_133 rfl (lv_at hl 6 rfl) ?_
        refine lv_iload_n hX_ hB_ dL_isGenerator_134 rfl (lv_at hl 7 rfl) ?_
        refine lv_aload_n hX_ hB_ dL_isGenerator_135 rfl (lv_at hl 5 rfl) ?_
        refine lv_iconst (v := 0) hX_ hB_ dL_isGenerator_136 (by decide) ?_
        refine ze_ialdN hX_ hB_ hK hW ((ze_wC c a n A B E).length + 0) (f := N) (ze_appL (k := 0) rfl) (i := 0) (by omega) (by decide) dL_isGenerator_137 ?_
        refine ze_top (y := nI (n 0)) hR.1.1 ?_
        have hW : ze_W D (([] : va_W) ++ ((ze_wC c a n A B E) ++ [(q, .inl (c 0, 210, .inl N))])) F s.heap _ _ := hW
        refine xb_FSx (As := [.ref b, .int (nI i), .int (nI (n 0))]) (rest := [.int (nI (9 * (n 2) + 50)), .ref q]) S (xj_in l D c b L xs hL i (by omega) (n 0) (by omega) (by omega)) (va_cwS 3 hts gL_isGenerator_L_in rfl rfl rfl (by decide +kernel) ⟨(Nat.le_of_ble_eq_true rfl), (Nat.le_of_ble_eq_true rfl)⟩) (Or.inr rfl) hG hK hW hA rfl hl.1 rfl (lv_room (Nat.le_of_ble_eq_true rfl)) dL_isGenerator_138 ⟨(Nat.le_of_ble_eq_true rfl), (Nat.le_of_ble_eq_true rfl)⟩ (fun H locs hW => ?_)
        have hv138 := xd_inlt (xs := xs) (L := L) (i := i) (k := n 0) (by omega)
        have hW : ze_W D ((ze_wC c a n A B E) ++ [(q, .inl (c 0, 210, .inl N))]) F s.heap _ _ := hW
        refine ze_iastN hX_ hB_ hK hW ((ze_wC c a n A B E).length + 0) (f := N) (ze_appL (k := 0) rfl) (i := 9 * (n 2) + 50) (by omega) (by decide) dL_isGenerator_141 (ze_appset rfl) (fun H locs hW => ?_)
        have hW : ze_W D ((ze_wC c a n A B E) ++ [(q, .inl (c 0, 210, .inl (upd N (9 * (n 2) + 50) (nI (xd_in xs L i (n 0))))))]) F s.heap _ _ := hW
        refine lv_aload_n hX_ hB_ dL_isGenerator_142 rfl (lv_at hl 5 rfl) ?_
        refine lv_iload hX_ hB_ dL_isGenerator_143 (lv_at hl 3 rfl) ?_
        refine lv_iconst (v := 1) hX_ hB_ dL_isGenerator_145 (by decide) ?_
        refine lv_iadd hX_ hB_ dL_isGenerator_146 ?_
        refine ze_top (xb_add (a := 9 * (n 2) + 50) (b := 1) (c := 9 * (n 2) + 51) (by omega)) ?_
        refine lv_iload hX_ hB_ dL_isGenerator_147 (lv_at hl 2 rfl) ?_
        refine ze_iastN hX_ hB_ hK hW ((ze_wC c a n A B E).length + 0) (f := (upd N (9 * (n 2) + 50) (nI (xd_in xs L i (n 0))))) (ze_appL (k := 0) rfl) (i := 9 * (n 2) + 51) (by omega) (by decide) dL_isGenerator_149 (ze_appset rfl) (fun H locs hW => ?_)
        have hW : ze_W D ((ze_wC c a n A B E) ++ [(q, .inl (c 0, 210, .inl (upd (upd N (9 * (n 2) + 50) (nI (xd_in xs L i (n 0)))) (9 * (n 2) + 51) (nI 0))))]) F s.heap _ _ := hW
        refine lv_aload_n hX_ hB_ dL_isGenerator_150 rfl (lv_at hl 5 rfl) ?_
        refine lv_iload hX_ hB_ dL_isGenerator_151 (lv_at hl 3 rfl) ?_
        refine lv_iconst (v := 2) hX_ hB_ dL_isGenerator_153 (by decide) ?_
        refine lv_iadd hX_ hB_ dL_isGenerator_154 ?_
        refine ze_top (xb_add (a := 9 * (n 2) + 50) (b := 2) (c := 9 * (n 2) + 52) (by omega)) ?_
        refine lv_iload hX_ hB_ dL_isGenerator_155 (lv_at hl 1 rfl) ?_
        refine ze_iastN hX_ hB_ hK hW ((ze_wC c a n A B E).length + 0) (f := (upd (upd N (9 * (n 2) + 50) (nI (xd_in xs L i (n 0)))) (9 * (n 2) + 51) (nI 0))) (ze_appL (k := 0) rfl) (i := 9 * (n 2) + 52) (by omega) (by decide) dL_isGenerator_157 (ze_appset rfl) (fun H locs hW => ?_)
        have hW : ze_W D ((ze_wC c a n A B E) ++ [(q, .inl (c 0, 210, .inl (upd (upd (upd N (9 * (n 2) + 50) (nI (xd_in xs L i (n 0)))) (9 * (n 2) + 51) (nI 0)) (9 * (n 2) + 52) (nI gr))))]) F s.heap _ _ := hW
        refine lv_aload_n hX_ hB_ dL_isGenerator_158 rfl (lv_at hl 5 rfl) ?_
        refine lv_iload hX_ hB_ dL_isGenerator_159 (lv_at hl 3 rfl) ?_
        refine lv_iconst (v := 3) hX_ hB_ dL_isGenerator_161 (by decide) ?_
        refine lv_iadd hX_ hB_ dL_isGenerator_162 ?_
        refine ze_top (xb_add (a := 9 * (n 2) + 50) (b := 3) (c := 9 * (n 2) + 53) (by omega)) ?_
        refine lv_aload_n hX_ hB_ dL_isGenerator_163 rfl (lv_at hl 6 rfl) ?_
        refine lv_iload_n hX_ hB_ dL_isGenerator_164 rfl (lv_at hl 7 rfl) ?_
        refine lv_iconst (v := 4) hX_ hB_ dL_isGenerator_165 (by decide) ?_
        refine lv_iadd hX_ hB_ dL_isGenerator_166 ?_
        refine ze_top (xb_add (a := i) (b := 4) (c := i + 4) (by omega)) ?_
        refine lv_iconst (v := 4) hX_ hB_ dL_isGenerator_167 (by decide) ?_
        have hW : ze_W D (([] : va_W) ++ ((ze_wC c a n A B E) ++ [(q, .inl (c 0, 210, .inl (upd (upd (upd N (9 * (n 2) + 50) (nI (xd_in xs L i (n 0)))) (9 * (n 2) + 51) (nI 0)) (9 * (n 2) + 52) (nI gr))))])) F s.heap _ _ := hW
        refine xb_FSx (As := [.ref b, .int (nI (i + 4)), .int 4]) (rest := [.int (nI (9 * (n 2) + 53)), .ref q]) S (xj_in l D c b L xs hL (i + 4) (by omega) 4 (by omega) (by omega)) (va_cwS 3 hts gL_isGenerator_L_in rfl rfl rfl (by decide +kernel) ⟨(Nat.le_of_ble_eq_true rfl), (Nat.le_of_ble_eq_true rfl)⟩) (Or.inr rfl) hG hK hW hA rfl hl.1 rfl (lv_room (Nat.le_of_ble_eq_true rfl)) dL_isGenerator_168 ⟨(Nat.le_of_ble_eq_true rfl), (Nat.le_of_ble_eq_true rfl)⟩ (fun H locs hW => ?_)
        have hv168 := xd_inlt (xs := xs) (L := L) (i := i + 4) (k := 4) (by omega)
        have hW : ze_W D ((ze_wC c a n A B E) ++ [(q, .inl (c 0, 210, .inl (upd (upd (upd N (9 * (n 2) + 50) (nI (xd_in xs L i (n 0)))) (9 * (n 2) + 51) (nI 0)) (9 * (n 2) + 52) (nI gr))))]) F s.heap _ _ := hW
        refine ze_iastN hX_ hB_ hK hW ((ze_wC c a n A B E).length + 0) (f := (upd (upd (upd N (9 * (n 2) + 50) (nI (xd_in xs L i (n 0)))) (9 * (n 2) + 51) (nI 0)) (9 * (n 2) + 52) (nI gr))) (ze_appL (k := 0) rfl) (i := 9 * (n 2) + 53) (by omega) (by decide) dL_isGenerator_171 (ze_appset rfl) (fun H locs hW => ?_)
        have hW : ze_W D ((ze_wC c a n A B E) ++ [(q, .inl (c 0, 210, .inl (upd (upd (upd (upd N (9 * (n 2) + 50) (nI (xd_in xs L i (n 0)))) (9 * (n 2) + 51) (nI 0)) (9 * (n 2) + 52) (nI gr)) (9 * (n 2) + 53) (nI (xd_in xs L (i + 4) 4)))))]) F s.heap _ _ := hW
        refine lv_aload_n hX_ hB_ dL_isGenerator_172 rfl (lv_at hl 5 rfl) ?_
        refine lv_iload hX_ hB_ dL_isGenerator_173 (lv_at hl 3 rfl) ?_
        refine lv_iconst (v := 4) hX_ hB_ dL_isGenerator_175 (by decide) ?_
        refine lv_iadd hX_ hB_ dL_isGenerator_176 ?_
        refine ze_top (xb_add (a := 9 * (n 2) + 50) (b := 4) (c := 9 * (n 2) + 54) (by omega)) ?_
        refine lv_iload hX_ hB_ dL_isGenerator_177 (lv_at hl 0 rfl) ?_
        refine ze_iastN hX_ hB_ hK hW ((ze_wC c a n A B E).length + 0) (f := (upd (upd (upd (upd N (9 * (n 2) + 50) (nI (xd_in xs L i (n 0)))) (9 * (n 2) + 51) (nI 0)) (9 * (n 2) + 52) (nI gr)) (9 * (n 2) + 53) (nI (xd_in xs L (i + 4) 4)))) (ze_appL (k := 0) rfl) (i := 9 * (n 2) + 54) (by omega) (by decide) dL_isGenerator_179 (ze_appset rfl) (fun H locs hW => ?_)
        have hW : ze_W D ((ze_wC c a n A B E) ++ [(q, .inl (c 0, 210, .inl (upd (upd (upd (upd (upd N (9 * (n 2) + 50) (nI (xd_in xs L i (n 0)))) (9 * (n 2) + 51) (nI 0)) (9 * (n 2) + 52) (nI gr)) (9 * (n 2) + 53) (nI (xd_in xs L (i + 4) 4))) (9 * (n 2) + 54) (nI (xd_in xs L (i + 6) 1500)))))]) F s.heap _ _ := hW
        refine lv_aload_n hX_ hB_ dL_isGenerator_180 rfl (lv_at hl 5 rfl) ?_
        refine lv_iconst (v := 2) hX_ hB_ dL_isGenerator_181 (by decide) ?_
        refine lv_dup2_11 hX_ hB_ dL_isGenerator_182 rfl rfl ?_
        refine ze_ialdN hX_ hB_ hK hW ((ze_wC c a n A B E).length + 0) (f := (upd (upd (upd (upd (upd N (9 * (n 2) + 50) (nI (xd_in xs L i (n 0)))) (9 * (n 2) + 51) (nI 0)) (9 * (n 2) + 52) (nI gr)) (9 * (n 2) + 53) (nI (xd_in xs L (i + 4) 4))) (9 * (n 2) + 54) (nI (xd_in xs L (i + 6) 1500)))) (ze_appL (k := 0) rfl) (i := 2) (by omega) (by decide) dL_isGenerator_183 ?_
        refine ze_top (xb_un (by omega)) ?_
        refine ze_top (xb_un (by omega)) ?_
        refine ze_top (xb_un (by omega)) ?_
        refine ze_top (xb_un (by omega)) ?_
        refine ze_top (xb_un (by omega)) ?_
        refine ze_top (y := nI (n 2)) hR.1.2.2.1 ?_
        refine lv_iconst (v := 1) hX_ hB_ dL_isGenerator_184 (by decide) ?_
        refine lv_iadd hX_ hB_ dL_isGenerator_185 ?_
        refine ze_top (xb_add (a := n 2) (b := 1) (c := n 2 + 1) (by omega)) ?_
        refine ze_iastN hX_ hB_ hK hW ((ze_wC c a n A B E).length + 0) (f := (upd (upd (upd (upd (upd N (9 * (n 2) + 50) (nI (xd_in xs L i (n 0)))) (9 * (n 2) + 51) (nI 0)) (9 * (n 2) + 52) (nI gr)) (9 * (n 2) + 53) (nI (xd_in xs L (i + 4) 4))) (9 * (n 2) + 54) (nI (xd_in xs L (i + 6) 1500)))) (ze_appL (k := 0) rfl) (i := 2) (by omega) (by decide) dL_isGenerator_186 (ze_appset rfl) (fun H locs hW => ?_)
        have hW : ze_W D ((ze_wC c a n A B E) ++ [(q, .inl (c 0, 210, .inl (upd (upd (upd (upd (upd (upd N (9 * (n 2) + 50) (nI (xd_in xs L i (n 0)))) (9 * (n 2) + 51) (nI 0)) (9 * (n 2) + 52) (nI gr)) (9 * (n 2) + 53) (nI (xd_in xs L (i + 4) 4))) (9 * (n 2) + 54) (nI (xd_in xs L (i + 6) 1500))) 2 (nI (n 2 + 1)))))]) F s.heap _ _ := hW
        refine lv_aload_n hX_ hB_ dL_isGenerator_187 rfl (lv_at hl 4 rfl) ?_
        refine lv_aload_n hX_ hB_ dL_isGenerator_188 rfl (lv_at hl 5 rfl) ?_
        refine lv_iload hX_ hB_ dL_isGenerator_189 (lv_at hl 3 rfl) ?_
        refine ze_ialdN hX_ hB_ hK hW ((ze_wC c a n A B E).length + 0) (f := (upd (upd (upd (upd (upd (upd N (9 * (n 2) + 50) (nI (xd_in xs L i (n 0)))) (9 * (n 2) + 51) (nI 0)) (9 * (n 2) + 52) (nI gr)) (9 * (n 2) + 53) (nI (xd_in xs L (i + 4) 4))) (9 * (n 2) + 54) (nI (xd_in xs L (i + 6) 1500))) 2 (nI (n 2 + 1)))) (ze_appL (k := 0) rfl) (i := 9 * (n 2) + 50) (by omega) (by decide) dL_isGenerator_191 ?_
        refine ze_top (xb_un (by omega)) ?_
        refine ze_top (xb_un (by omega)) ?_
        refine ze_top (xb_un (by omega)) ?_
        refine ze_top (xb_un (by omega)) ?_
        refine ze_top (xb_un (by omega)) ?_
        refine ze_top (ze_updat _ _ _) ?_
        refine lv_iload hX_ hB_ dL_isGenerator_192 (lv_at hl 2 rfl) ?_
        refine lv_iload hX_ hB_ dL_isGenerator_194 (lv_at hl 1 rfl) ?_
        refine lv_aload_n hX_ hB_ dL_isGenerator_196 rfl (lv_at hl 5 rfl) ?_
        refine lv_iload hX_ hB_ dL_isGenerator_197 (lv_at hl 3 rfl) ?_
        refine lv_iconst (v := 3) hX_ hB_ dL_isGenerator_199 (by decide) ?_
        refine lv_iadd hX_ hB_ dL_isGenerator_200 ?_
        refine ze_top (xb_add (a := 9 * (n 2) + 50) (b := 3) (c := 9 * (n 2) + 53) (by omega)) ?_
        refine ze_ialdN hX_ hB_ hK hW ((ze_wC c a n A B E).length + 0) (f := (upd (upd (upd (upd (upd (upd N (9 * (n 2) + 50) (nI (xd_in xs L i (n 0)))) (9 * (n 2) + 51) (nI 0)) (9 * (n 2) + 52) (nI gr)) (9 * (n 2) + 53) (nI (xd_in xs L (i + 4) 4))) (9 * (n 2) + 54) (nI (xd_in xs L (i + 6) 1500))) 2 (nI (n 2 + 1)))) (ze_appL (k := 0) rfl) (i := 9 * (n 2) + 53) (by omega) (by decide) dL_isGenerator_201 ?_
        refine ze_top (xb_un (by omega)) ?_
        refine ze_top (xb_un (by omega)) ?_
        refine ze_top (ze_updat _ _ _) ?_
        refine lv_iload hX_ hB_ dL_isGenerator_202 (lv_at hl 0 rfl) ?_
        refine xb_FSe (As := [.ref (a 0), .int (nI (xd_in xs L i (n 0))), .int (nI 0), .int (nI gr), .int (nI (xd_in xs L (i + 4) 4)), .int (nI (xd_in xs L (i + 6) 1500))]) (rest := []) S (xw_addGenerator_f l D c a n A B E (xd_in xs L i (n 0)) hN (by omega) (nI 0) (nI gr) (nI (xd_in xs L (i + 4) 4)) (nI (xd_in xs L (i + 6) 1500)) (xd_rg2 (lo := 0) (hi := 100) (by decide) (by decide) (by omega) (by omega) (by omega)) (xd_rgn gr1 (by omega) gr3 (by omega)) (xd_rg2 (lo := 0) (hi := 9) (by decide) (by decide) (by omega) (by omega) (by omega)) (xd_rg2 (lo := 0) (hi := 9999) (by decide) (by decide) (by omega) (by omega) (by omega)) (by omega) ((hZ.1 _ (Nat.le_refl _)).1) ((hZ.1 _ (Nat.le_refl _)).2)) (vx_cwSW 6 hts gL_isGenerator_L_addGenerator rfl rfl rfl (by decide +kernel) ⟨(Nat.le_of_ble_eq_true rfl), (Nat.le_of_ble_eq_true rfl)⟩) hG hK hW hA rfl hl.1 rfl (lv_room (Nat.le_of_ble_eq_true rfl)) dL_isGenerator_204 ⟨(Nat.le_of_ble_eq_true rfl), (Nat.le_of_ble_eq_true rfl)⟩ (fun qn H locs hW => ?_)
        have hW : ze_W D ((ze_wC c (va_up a (20 + n 2) qn) (ze_sn n 2 (n 2 + 1)) (ze_sE (ze_sE (ze_sE (ze_sE (ze_sE (ze_sE A 6 (n 2) (nI (xd_in xs L i (n 0)))) 7 (n 2) (nI 0)) 8 (n 2) (nI gr)) 9 (n 2) (nI (xd_in xs L (i + 4) 4))) 10 (n 2) (nI (xd_in xs L (i + 6) 1500))) 13 (n 2) 111) B E) ++ [(q, .inl (c 0, 210, .inl (upd (upd (upd (upd (upd (upd N (9 * (n 2) + 50) (nI (xd_in xs L i (n 0)))) (9 * (n 2) + 51) (nI 0)) (9 * (n 2) + 52) (nI gr)) (9 * (n 2) + 53) (nI (xd_in xs L (i + 4) 4))) (9 * (n 2) + 54) (nI (xd_in xs L (i + 6) 1500))) 2 (nI (n 2 + 1)))))]) F s.heap _ _ := hW
        refine lv_aload_n hX_ hB_ dL_isGenerator_207 rfl (lv_at hl 5 rfl) ?_
        refine lv_iconst (v := 2) hX_ hB_ dL_isGenerator_208 (by decide) ?_
        refine ze_ialdN hX_ hB_ hK hW ((ze_wC c (va_up a (20 + n 2) qn) (ze_sn n 2 (n 2 + 1)) (ze_sE (ze_sE (ze_sE (ze_sE (ze_sE (ze_sE A 6 (n 2) (nI (xd_in xs L i (n 0)))) 7 (n 2) (nI 0)) 8 (n 2) (nI gr)) 9 (n 2) (nI (xd_in xs L (i + 4) 4))) 10 (n 2) (nI (xd_in xs L (i + 6) 1500))) 13 (n 2) 111) B E).length + 0) (f := (upd (upd (upd (upd (upd (upd N (9 * (n 2) + 50) (nI (xd_in xs L i (n 0)))) (9 * (n 2) + 51) (nI 0)) (9 * (n 2) + 52) (nI gr)) (9 * (n 2) + 53) (nI (xd_in xs L (i + 4) 4))) (9 * (n 2) + 54) (nI (xd_in xs L (i + 6) 1500))) 2 (nI (n 2 + 1)))) (ze_appL (k := 0) rfl) (i := 2) (by omega) (by decide) dL_isGenerator_209 ?_
        refine ze_top (ze_updat _ _ _) ?_
        refine lv_iconst (v := 1) hX_ hB_ dL_isGenerator_210 (by decide) ?_
        refine lv_isub hX_ hB_ dL_isGenerator_211 ?_
        refine ze_top (nI_pred (n 2)) ?_
        refine lv_icmp_ne (tgt := 219) hX_ hB_ dL_isGenerator_212 (by decide) (fun c212 => ?_) (fun c212 => ?_)
        · exact absurd rfl c212
        · have c212 : (n 2) = (n 2) := (nI_eq (a := (n 2)) (b := (n 2)) (by omega) (by omega)).mp c212
          refine lv_iconst (v := 1) hX_ hB_ dL_isGenerator_215 (by decide) ?_
          refine lv_goto (tgt := 220) hX_ hB_ dL_isGenerator_216 (by decide) ?_
          exact xb_iret (T := xd_T) ((va_up a (20 + n 2) qn), (ze_sn n 2 (n 2 + 1)), (ze_sE (ze_sE (ze_sE (ze_sE (ze_sE (ze_sE A 6 (n 2) (nI (xd_in xs L i (n 0)))) 7 (n 2) (nI 0)) 8 (n 2) (nI gr)) 9 (n 2) (nI (xd_in xs L (i + 4) 4))) 10 (n 2) (nI (xd_in xs L (i + 6) 1500))) 13 (n 2) 111), B, E, (upd (upd (upd (upd (upd (upd N (9 * (n 2) + 50) (nI (xd_in xs L i (n 0)))) (9 * (n 2) + 51) (nI 0)) (9 * (n 2) + 52) (nI gr)) (9 * (n 2) + 53) (nI (xd_in xs L (i + 4) 4))) (9 * (n 2) + 54) (nI (xd_in xs L (i + 6) 1500))) 2 (nI (n 2 + 1)))) S hr hlocks hF hK hW rfl dL_isGenerator_220 (Nat.le_of_ble_eq_true rfl) (Nat.le_of_ble_eq_true rfl) ⟨rfl, ⟨(va_up_ne _ _ (by omega)), (xd_gen hI (by omega) (by omega) (by omega) (by omega) (by omega) (by omega) (by omega) (by omega)), rfl, Nat.le_succ _, Nat.le_refl _⟩, Nat.succ_le_succ (Nat.zero_le _)⟩ rfl
      · have c97 : (n 2) = 6 := (nI_eq (a := (n 2)) (b := 6) (by omega) (by omega)).mp c97
        refine lv_aload_n hX_ hB_ dL_isGenerator_100 rfl (lv_at hl 4 rfl) ?_
        refine lv_aload_n hX_ hB_ dL_isGenerator_101 rfl (lv_at hl 6 rfl) ?_
        refine lv_iload_n hX_ hB_ dL_isGenerator_102 rfl (lv_at hl 7 rfl) ?_
        refine lv_aload_n hX_ hB_ dL_isGenerator_103 rfl (lv_at hl 5 rfl) ?_
        refine lv_iconst (v := 0) hX_ hB_ dL_isGenerator_104 (by decide) ?_
        refine ze_ialdN hX_ hB_ hK hW ((ze_wC c a n A B E).length + 0) (f := N) (ze_appL (k := 0) rfl) (i := 0) (by omega) (by decide) dL_isGenerator_105 ?_
        refine ze_top (y := nI (n 0)) hR.1.1 ?_
        have hW : ze_W D (([] : va_W) ++ ((ze_wC c a n A B E) ++ [(q, .inl (c 0, 210, .inl N))])) F s.heap _ _ := hW
        refine xb_FSx (As := [.ref b, .int (nI i), .int (nI (n 0))]) (rest := [.ref (a 0)]) S (xj_in l D c b L xs hL i (by omega) (n 0) (by omega) (by omega)) (va_cwS 3 hts gL_isGenerator_L_in rfl rfl rfl (by decide +kernel) ⟨(Nat.le_of_ble_eq_true rfl), (Nat.le_of_ble_eq_true rfl)⟩) (Or.inr rfl) hG hK hW hA rfl hl.1 rfl (lv_room (Nat.le_of_ble_eq_true rfl)) dL_isGenerator_106 ⟨(Nat.le_of_ble_eq_true rfl), (Nat.le_of_ble_eq_true rfl)⟩ (fun H locs hW => ?_)
        have hv106 := xd_inlt (xs := xs) (L := L) (i := i) (k := n 0) (by omega)
        have hW : ze_W D ((ze_wC c a n A B E) ++ [(q, .inl (c 0, 210, .inl N))]) F s.heap _ _ := hW
        refine lv_iload hX_ hB_ dL_isGenerator_109 (lv_at hl 2 rfl) ?_
        refine lv_iload hX_ hB_ dL_isGenerator_111 (lv_at hl 1 rfl) ?_
        refine lv_iconst (v := 0) hX_ hB_ dL_isGenerator_113 (by decide) ?_
        refine lv_iload hX_ hB_ dL_isGenerator_114 (lv_at hl 0 rfl) ?_
        refine xb_FSq (As := [.ref (a 0), .int (nI (xd_in xs L i (n 0))), .int (nI 0), .int (nI gr), .int 0, .int (nI (xd_in xs L (i + 6) 1500))]) (rest := []) S (xw_addGenerator_t3 l D hst c a n A B E (xd_in xs L i (n 0)) hN (by omega) (nI 0) (nI gr) 0 (nI (xd_in xs L (i + 6) 1500)) (xd_rg2 (lo := 0) (hi := 100) (by decide) (by decide) (by omega) (by omega) (by omega)) (xd_rgn gr1 (by omega) gr3 (by omega)) (by decide) (xd_rg2 (lo := 0) (hi := 9999) (by decide) (by decide) (by omega) (by omega) (by omega)) (by omega)) (vx_cwSW 6 hts gL_isGenerator_L_addGenerator rfl rfl rfl (by decide +kernel) ⟨(Nat.le_of_ble_eq_true rfl), (Nat.le_of_ble_eq_true rfl)⟩) hG hK hW hA rfl hl.1 rfl (lv_room (Nat.le_of_ble_eq_true rfl)) dL_isGenerator_116 ⟨(Nat.le_of_ble_eq_true rfl), (Nat.le_of_ble_eq_true rfl)⟩ (fun H locs hW => ?_)
        have hW : ze_W D ((ze_wC c a n A B E) ++ [(q, .inl (c 0, 210, .inl N))]) F s.heap _ _ := hW
        refine lv_ldc (own := RL) (v := -900003) hX_ hB_ S.2.2.2.1 w4 dL_isGenerator_119 ?_
        refine lv_icmp_ne (tgt := 128) hX_ hB_ dL_isGenerator_121 (by decide) (fun c121 => ?_) (fun c121 => ?_)
        · exact absurd c121 (by decide)
        · refine lv_iconst (v := 1) hX_ hB_ dL_isGenerator_124 (by decide) ?_
          refine lv_goto (tgt := 129) hX_ hB_ dL_isGenerator_125 (by decide) ?_
          exact xb_iret (T := xd_T) (a, n, A, B, E, N) S hr hlocks hF hK hW rfl dL_isGenerator_129 (Nat.le_of_ble_eq_true rfl) (Nat.le_of_ble_eq_true rfl) ⟨rfl, ⟨rfl, hI, rfl, Nat.le_refl _, Nat.le_refl _⟩, (by show 1 ≤ n 2; omega)⟩ rfl
    · have c63 : (xd_in xs L (i + 5) 3) = 0 := (nI_eq (a := (xd_in xs L (i + 5) 3)) (b := 0) (by omega) (by omega)).mp c63
      refine lv_aload_n hX_ hB_ dL_isGenerator_66 rfl (lv_at hl 5 rfl) ?_
      refine lv_iload_n hX_ hB_ dL_isGenerator_67 rfl (lv_at hl 6 rfl) ?_
      refine lv_bipush (v := 6) hX_ hB_ dL_isGenerator_68 (by decide) ?_
      refine lv_iadd hX_ hB_ dL_isGenerator_70 ?_
      refine ze_top (xb_add (a := i) (b := 6) (c := i + 6) (by omega)) ?_
      refine lv_bipush (v := 60) hX_ hB_ dL_isGenerator_71 (by decide) ?_
      have hW : ze_W D (([] : va_W) ++ ((ze_wC c a n A B E) ++ [(q, .inl (c 0, 210, .inl N))])) F s.heap _ _ := hW
      refine xb_FSx (As := [.ref b, .int (nI (i + 6)), .int 60]) (rest := []) S (xj_in l D c b L xs hL (i + 6) (by omega) 60 (by omega) (by omega)) (va_cwS 3 hts gL_isGenerator_L_in rfl rfl rfl (by decide +kernel) ⟨(Nat.le_of_ble_eq_true rfl), (Nat.le_of_ble_eq_true rfl)⟩) (Or.inr rfl) hG hK hW hA rfl hl.1 rfl (lv_room (Nat.le_of_ble_eq_true rfl)) dL_isGenerator_73 ⟨(Nat.le_of_ble_eq_true rfl), (Nat.le_of_ble_eq_true rfl)⟩ (fun H locs hW => ?_)
      have hv73 := xd_inlt (xs := xs) (L := L) (i := i + 6) (k := 60) (by omega)
      have hW : ze_W D ((ze_wC c a n A B E) ++ [(q, .inl (c 0, 210, .inl N))]) F s.heap _ _ := hW
      refine lv_goto (tgt := 90) hX_ hB_ dL_isGenerator_76 (by decide) ?_
      refine lv_istore (lv' := [(7, .int (nI (xd_in xs L (i + 6) 60))), (6, .int (nI gr)), (5, .int (nI 0)), (4, .int (nI (9 * (n 2) + 50))), (0, .ref (a 0)), (1, .ref q), (2, .ref b), (3, .int (nI i))]) hX_ hB_ dL_isGenerator_90 hl (by decide) rfl (fun ls hl => ?_)
      refine lv_aload_n hX_ hB_ dL_isGenerator_92 rfl (lv_at hl 5 rfl) ?_
      refine lv_iconst (v := 2) hX_ hB_ dL_isGenerator_93 (by decide) ?_
      refine ze_ialdN hX_ hB_ hK hW ((ze_wC c a n A B E).length + 0) (f := N) (ze_appL (k := 0) rfl) (i := 2) (by omega) (by decide) dL_isGenerator_94 ?_
      refine ze_top (y := nI (n 2)) hR.1.2.2.1 ?_
      refine lv_bipush (v := 6) hX_ hB_ dL_isGenerator_95 (by decide) ?_
      refine lv_icmp_ne (tgt := 130) hX_ hB_ dL_isGenerator_97 (by decide) (fun c97 => ?_) (fun c97 => ?_)
      · have c97 : ¬ (n 2) = 6 := fun h9 => c97 ((nI_eq (a := (n 2)) (b := 6) (by omega) (by omega)).mpr h9)
        refine lv_aload_n hX_ hB_ dL_isGenerator_130 rfl (lv_at hl 5 rfl) ?_
        refine lv_iload hX_ hB_ dL_isGenerator_131 (lv_at hl 3 rfl) ?_
        refine lv_aload_n hX_ hB_ dL_isGenerator_133 rfl (lv_at hl 6 rfl) ?_
        refine lv_iload_n hX_ hB_ dL_isGenerator_134 rfl (lv_at hl 7 rfl) ?_
        refine lv_aload_n hX_ hB_ dL_isGenerator_135 rfl (lv_at hl 5 rfl) ?_
        refine lv_iconst (v := 0) hX_ hB_ dL_isGenerator_136 (by decide) ?_
        refine ze_ialdN hX_ hB_ hK hW ((ze_wC c a n A B E).length + 0) (f := N) (ze_appL (k := 0) rfl) (i := 0) (by omega) (by decide) dL_isGenerator_137 ?_
        refine ze_top (y := nI (n 0)) hR.1.1 ?_
        have hW : ze_W D (([] : va_W) ++ ((ze_wC c a n A B E) ++ [(q, .inl (c 0, 210, .inl N))])) F s.heap _ _ := hW
        refine xb_FSx (As := [.ref b, .int (nI i), .int (nI (n 0))]) (rest := [.int (nI (9 * (n 2) + 50)), .ref q]) S (xj_in l D c b L xs hL i (by omega) (n 0) (by omega) (by omega)) (va_cwS 3 hts gL_isGenerator_L_in rfl rfl rfl (by decide +kernel) ⟨(Nat.le_of_ble_eq_true rfl), (Nat.le_of_ble_eq_true rfl)⟩) (Or.inr rfl) hG hK hW hA rfl hl.1 rfl (lv_room (Nat.le_of_ble_eq_true rfl)) dL_isGenerator_138 ⟨(Nat.le_of_ble_eq_true rfl), (Nat.le_of_ble_eq_true rfl)⟩ (fun H locs hW => ?_)
        have hv138 := xd_inlt (xs := xs) (L := L) (i := i) (k := n 0) (by omega)
        have hW : ze_W D ((ze_wC c a n A B E) ++ [(q, .inl (c 0, 210, .inl N))]) F s.heap _ _ := hW
        refine ze_iastN hX_ hB_ hK hW ((ze_wC c a n A B E).length + 0) (f := N) (ze_appL (k := 0) rfl) (i := 9 * (n 2) + 50) (by omega) (by decide) dL_isGenerator_141 (ze_appset rfl) (fun H locs hW => ?_)
        have hW : ze_W D ((ze_wC c a n A B E) ++ [(q, .inl (c 0, 210, .inl (upd N (9 * (n 2) + 50) (nI (xd_in xs L i (n 0))))))]) F s.heap _ _ := hW
        refine lv_aload_n hX_ hB_ dL_isGenerator_142 rfl (lv_at hl 5 rfl) ?_
        refine lv_iload hX_ hB_ dL_isGenerator_143 (lv_at hl 3 rfl) ?_
        refine lv_iconst (v := 1) hX_ hB_ dL_isGenerator_145 (by decide) ?_
        refine lv_iadd hX_ hB_ dL_isGenerator_146 ?_
        refine ze_top (xb_add (a := 9 * (n 2) + 50) (b := 1) (c := 9 * (n 2) + 51) (by omega)) ?_
        refine lv_iload hX_ hB_ dL_isGenerator_147 (lv_at hl 2 rfl) ?_
        refine ze_iastN hX_ hB_ hK hW ((ze_wC c a n A B E).length + 0) (f := (upd N (9 * (n 2) + 50) (nI (xd_in xs L i (n 0))))) (ze_appL (k := 0) rfl) (i := 9 * (n 2) + 51) (by omega) (by decide) dL_isGenerator_149 (ze_appset rfl) (fun H locs hW => ?_)
        have hW : ze_W D ((ze_wC c a n A B E) ++ [(q, .inl (c 0, 210, .inl (upd (upd N (9 * (n 2) + 50) (nI (xd_in xs L i (n 0)))) (9 * (n 2) + 51) (nI 0))))]) F s.heap _ _ := hW
        refine lv_aload_n hX_ hB_ dL_isGenerator_150 rfl (lv_at hl 5 rfl) ?_
        refine lv_iload hX_ hB_ dL_isGenerator_151 (lv_at hl 3 rfl) ?_
        refine lv_iconst (v := 2) hX_ hB_ dL_isGenerator_153 (by decide) ?_
        refine lv_iadd hX_ hB_ dL_isGenerator_154 ?_
        refine ze_top (xb_add (a := 9 * (n 2) + 50) (b := 2) (c := 9 * (n 2) + 52) (by omega)) ?_
        refine lv_iload hX_ hB_ dL_isGenerator_155 (lv_at hl 1 rfl) ?_
        refine ze_iastN hX_ hB_ hK hW ((ze_wC c a n A B E).length + 0) (f := (upd (upd N (9 * (n 2) + 50) (nI (xd_in xs L i (n 0)))) (9 * (n 2) + 51) (nI 0))) (ze_appL (k := 0) rfl) (i := 9 * (n 2) + 52) (by omega) (by decide) dL_isGenerator_157 (ze_appset rfl) (fun H locs hW => ?_)
        have hW : ze_W D ((ze_wC c a n A B E) ++ [(q, .inl (c 0, 210, .inl (upd (upd (upd N (9 * (n 2) + 50) (nI (xd_in xs L i (n 0)))) (9 * (n 2) + 51) (nI 0)) (9 * (n 2) + 52) (nI gr))))]) F s.heap _ _ := hW
        refine lv_aload_n hX_ hB_ dL_isGenerator_158 rfl (lv_at hl 5 rfl) ?_
        refine lv_iload hX_ hB_ dL_isGenerator_159 (lv_at hl 3 rfl) ?_
        refine lv_iconst (v := 3) hX_ hB_ dL_isGenerator_161 (by decide) ?_
        refine lv_iadd hX_ hB_ dL_isGenerator_162 ?_
        refine ze_top (xb_add (a := 9 * (n 2) + 50) (b := 3) (c := 9 * (n 2) + 53) (by omega)) ?_
        refine lv_aload_n hX_ hB_ dL_isGenerator_163 rfl (lv_at hl 6 rfl) ?_
        refine lv_iload_n hX_ hB_ dL_isGenerator_164 rfl (lv_at hl 7 rfl) ?_
        refine lv_iconst (v := 4) hX_ hB_ dL_isGenerator_165 (by decide) ?_
        refine lv_iadd hX_ hB_ dL_isGenerator_166 ?_
        refine ze_top (xb_add (a := i) (b := 4) (c := i + 4) (by omega)) ?_
        refine lv_iconst (v := 4) hX_ hB_ dL_isGenerator_167 (by decide) ?_
        have hW : ze_W D (([] : va_W) ++ ((ze_wC c a n A B E) ++ [(q, .inl (c 0, 210, .inl (upd (upd (upd N (9 * (n 2) + 50) (nI (xd_in xs L i (n 0)))) (9 * (n 2) + 51) (nI 0)) (9 * (n 2) + 52) (nI gr))))])) F s.heap _ _ := hW
        refine xb_FSx (As := [.ref b, .int (nI (i + 4)), .int 4]) (rest := [.int (nI (9 * (n 2) + 53)), .ref q]) S (xj_in l D c b L xs hL (i + 4) (by omega) 4 (by omega) (by omega)) (va_cwS 3 hts gL_isGenerator_L_in rfl rfl rfl (by decide +kernel) ⟨(Nat.le_of_ble_eq_true rfl), (Nat.le_of_ble_eq_true rfl)⟩) (Or.inr rfl) hG hK hW hA rfl hl.1 rfl (lv_room (Nat.le_of_ble_eq_true rfl)) dL_isGenerator_168 ⟨(Nat.le_of_ble_eq_true rfl), (Nat.le_of_ble_eq_true rfl)⟩ (fun H locs hW => ?_)
        have hv168 := xd_inlt (xs := xs) (L := L) (i := i + 4) (k := 4) (by omega)
        have hW : ze_W D ((ze_wC c a n A B E) ++ [(q, .inl (c 0, 210, .inl (upd (upd (upd N (9 * (n 2) + 50) (nI (xd_in xs L i (n 0)))) (9 * (n 2) + 51) (nI 0)) (9 * (n 2) + 52) (nI gr))))]) F s.heap _ _ := hW
        refine ze_iastN hX_ hB_ hK hW ((ze_wC c a n A B E).length + 0) (f := (upd (upd (upd N (9 * (n 2) + 50) (nI (xd_in xs L i (n 0)))) (9 * (n 2) + 51) (nI 0)) (9 * (n 2) + 52) (nI gr))) (ze_appL (k := 0) rfl) (i := 9 * (n 2) + 53) (by omega) (by decide) dL_isGenerator_171 (ze_appset rfl) (fun H locs hW => ?_)
        have hW : ze_W D ((ze_wC c a n A B E) ++ [(q, .inl (c 0, 210, .inl (upd (upd (upd (upd N (9 * (n 2) + 50) (nI (xd_in xs L i (n 0)))) (9 * (n 2) + 51) (nI 0)) (9 * (n 2) + 52) (nI gr)) (9 * (n 2) + 53) (nI (xd_in xs L (i + 4) 4)))))]) F s.heap _ _ := hW
        refine lv_aload_n hX_ hB_ dL_isGenerator_172 rfl (lv_at hl 5 rfl) ?_
        refine lv_iload hX_ hB_ dL_isGenerator_173 (lv_at hl 3 rfl) ?_
        refine lv_iconst (v := 4) hX_ hB_ dL_isGenerator_175 (by decide) ?_
        refine lv_iadd hX_ hB_ dL_isGenerator_176 ?_
        refine ze_top (xb_add (a := 9 * (n 2) + 50) (b := 4) (c := 9 * (n 2) + 54) (by omega)) ?_
        refine lv_iload hX_ hB_ dL_isGenerator_177 (lv_at hl 0 rfl) ?_
        refine ze_iastN hX_ hB_ hK hW ((ze_wC c a n A B E).length + 0) (f := (upd (upd (upd (upd N (9 * (n 2) + 50) (nI (xd_in xs L i (n 0)))) (9 * (n 2) + 51) (nI 0)) (9 * (n 2) + 52) (nI gr)) (9 * (n 2) + 53) (nI (xd_in xs L (i + 4) 4)))) (ze_appL (k := 0) rfl) (i := 9 * (n 2) + 54) (by omega) (by decide) dL_isGenerator_179 (ze_appset rfl) (fun H locs hW => ?_)
        have hW : ze_W D ((ze_wC c a n A B E) ++ [(q, .inl (c 0, 210, .inl (upd (upd (upd (upd (upd N (9 * (n 2) + 50) (nI (xd_in xs L i (n 0)))) (9 * (n 2) + 51) (nI 0)) (9 * (n 2) + 52) (nI gr)) (9 * (n 2) + 53) (nI (xd_in xs L (i + 4) 4))) (9 * (n 2) + 54) (nI (xd_in xs L (i + 6) 60)))))]) F s.heap _ _ := hW
        refine lv_aload_n hX_ hB_ dL_isGenerator_180 rfl (lv_at hl 5 rfl) ?_
        refine lv_iconst (v := 2) hX_ hB_ dL_isGenerator_181 (by decide) ?_
        refine lv_dup2_11 hX_ hB_ dL_isGenerator_182 rfl rfl ?_
        refine ze_ialdN hX_ hB_ hK hW ((ze_wC c a n A B E).length + 0) (f := (upd (upd (upd (upd (upd N (9 * (n 2) + 50) (nI (xd_in xs L i (n 0)))) (9 * (n 2) + 51) (nI 0)) (9 * (n 2) + 52) (nI gr)) (9 * (n 2) + 53) (nI (xd_in xs L (i + 4) 4))) (9 * (n 2) + 54) (nI (xd_in xs L (i + 6) 60)))) (ze_appL (k := 0) rfl) (i := 2) (by omega) (by decide) dL_isGenerator_183 ?_
        refine ze_top (xb_un (by omega)) ?_
        refine ze_top (xb_un (by omega)) ?_
        refine ze_top (xb_un (by omega)) ?_
        refine ze_top (xb_un (by omega)) ?_
        refine ze_top (xb_un (by omega)) ?_
        refine ze_top (y := nI (n 2)) hR.1.2.2.1 ?_
        refine lv_iconst (v := 1) hX_ hB_ dL_isGenerator_184 (by decide) ?_
        refine lv_iadd hX_ hB_ dL_isGenerator_185 ?_
        refine ze_top (xb_add (a := n 2) (b := 1) (c := n 2 + 1) (by omega)) ?_
        refine ze_iastN hX_ hB_ hK hW ((ze_wC c a n A B E).length + 0) (f := (upd (upd (upd (upd (upd N (9 * (n 2) + 50) (nI (xd_in xs L i (n 0)))) (9 * (n 2) + 51) (nI 0)) (9 * (n 2) + 52) (nI gr)) (9 * (n 2) + 53) (nI (xd_in xs L (i + 4) 4))) (9 * (n 2) + 54) (nI (xd_in xs L (i + 6) 60)))) (ze_appL (k := 0) rfl) (i := 2) (by omega) (by decide) dL_isGenerator_186 (ze_appset rfl) (fun H locs hW => ?_)
        have hW : ze_W D ((ze_wC c a n A B E) ++ [(q, .inl (c 0, 210, .inl (upd (upd (upd (upd (upd (upd N (9 * (n 2) + 50) (nI (xd_in xs L i (n 0)))) (9 * (n 2) + 51) (nI 0)) (9 * (n 2) + 52) (nI gr)) (9 * (n 2) + 53) (nI (xd_in xs L (i + 4) 4))) (9 * (n 2) + 54) (nI (xd_in xs L (i + 6) 60))) 2 (nI (n 2 + 1)))))]) F s.heap _ _ := hW
        refine lv_aload_n hX_ hB_ dL_isGenerator_187 rfl (lv_at hl 4 rfl) ?_
        refine lv_aload_n hX_ hB_ dL_isGenerator_188 rfl (lv_at hl 5 rfl) ?_
        refine lv_iload hX_ hB_ dL_isGenerator_189 (lv_at hl 3 rfl) ?_
        refine ze_ialdN hX_ hB_ hK hW ((ze_wC c a n A B E).length + 0) (f := (upd (upd (upd (upd (upd (upd N (9 * (n 2) + 50) (nI (xd_in xs L i (n 0)))) (9 * (n 2) + 51) (nI 0)) (9 * (n 2) + 52) (nI gr)) (9 * (n 2) + 53) (nI (xd_in xs L (i + 4) 4))) (9 * (n 2) + 54) (nI (xd_in xs L (i + 6) 60))) 2 (nI (n 2 + 1)))) (ze_appL (k := 0) rfl) (i := 9 * (n 2) + 50) (by omega) (by decide) dL_isGenerator_191 ?_
        refine ze_top (xb_un (by omega)) ?_
        refine ze_top (xb_un (by omega)) ?_
        refine ze_top (xb_un (by omega)) ?_
        refine ze_top (xb_un (by omega)) ?_
        refine ze_top (xb_un (by omega)) ?_
        refine ze_top (ze_updat _ _ _) ?_
        refine lv_iload hX_ hB_ dL_isGenerator_192 (lv_at hl 2 rfl) ?_
        refine lv_iload hX_ hB_ dL_isGenerator_194 (lv_at hl 1 rfl) ?_
        refine lv_aload_n hX_ hB_ dL_isGenerator_196 rfl (lv_at hl 5 rfl) ?_
        refine lv_iload hX_ hB_ dL_isGenerator_197 (lv_at hl 3 rfl) ?_
        refine lv_iconst (v := 3) hX_ hB_ dL_isGenerator_199 (by decide) ?_
        refine lv_iadd hX_ hB_ dL_isGenerator_200 ?_
        refine ze_top (xb_add (a := 9 * (n 2) + 50) (b := 3) (c := 9 * (n 2) + 53) (by omega)) ?_
        refine ze_ialdN hX_ hB_ hK hW ((ze_wC c a n A B E).length + 0) (f := (upd (upd (upd (upd (upd (upd N (9 * (n 2) + 50) (nI (xd_in xs L i (n 0)))) (9 * (n 2) + 51) (nI 0)) (9 * (n 2) + 52) (nI gr)) (9 * (n 2) + 53) (nI (xd_in xs L (i + 4) 4))) (9 * (n 2) + 54) (nI (xd_in xs L (i + 6) 60))) 2 (nI (n 2 + 1)))) (ze_appL (k := 0) rfl) (i := 9 * (n 2) + 53) (by omega) (by decide) dL_isGenerator_201 ?_
        refine ze_top (xb_un (by omega)) ?_
        refine ze_top (xb_un (by omega)) ?_
        refine ze_top (ze_updat _ _ _) ?_
        refine lv_iload hX_ hB_ dL_isGenerator_202 (lv_at hl 0 rfl) ?_
        refine xb_FSe (As := [.ref (a 0), .int (nI (xd_in xs L i (n 0))), .int (nI 0), .int (nI gr), .int (nI (xd_in xs L (i + 4) 4)), .int (nI (xd_in xs L (i + 6) 60))]) (rest := []) S (xw_addGenerator_f l D c a n A B E (xd_in xs L i (n 0)) hN (by omega) (nI 0) (nI gr) (nI (xd_in xs L (i + 4) 4)) (nI (xd_in xs L (i + 6) 60)) (xd_rg2 (lo := 0) (hi := 100) (by decide) (by decide) (by omega) (by omega) (by omega)) (xd_rgn gr1 (by omega) gr3 (by omega)) (xd_rg2 (lo := 0) (hi := 9) (by decide) (by decide) (by omega) (by omega) (by omega)) (xd_rg2 (lo := 0) (hi := 9999) (by decide) (by decide) (by omega) (by omega) (by omega)) (by omega) ((hZ.1 _ (Nat.le_refl _)).1) ((hZ.1 _ (Nat.le_refl _)).2)) (vx_cwSW 6 hts gL_isGenerator_L_addGenerator rfl rfl rfl (by decide +kernel) ⟨(Nat.le_of_ble_eq_true rfl), (Nat.le_of_ble_eq_true rfl)⟩) hG hK hW hA rfl hl.1 rfl (lv_room (Nat.le_of_ble_eq_true rfl)) dL_isGenerator_204 ⟨(Nat.le_of_ble_eq_true rfl), (Nat.le_of_ble_eq_true rfl)⟩ (fun qn H locs hW => ?_)
        have hW : ze_W D ((ze_wC c (va_up a (20 + n 2) qn) (ze_sn n 2 (n 2 + 1)) (ze_sE (ze_sE (ze_sE (ze_sE (ze_sE (ze_sE A 6 (n 2) (nI (xd_in xs L i (n 0)))) 7 (n 2) (nI 0)) 8 (n 2) (nI gr)) 9 (n 2) (nI (xd_in xs L (i + 4) 4))) 10 (n 2) (nI (xd_in xs L (i + 6) 60))) 13 (n 2) 111) B E) ++ [(q, .inl (c 0, 210, .inl (upd (upd (upd (upd (upd (upd N (9 * (n 2) + 50) (nI (xd_in xs L i (n 0)))) (9 * (n 2) + 51) (nI 0)) (9 * (n 2) + 52) (nI gr)) (9 * (n 2) + 53) (nI (xd_in xs L (i + 4) 4))) (9 * (n 2) + 54) (nI (xd_in xs L (i + 6) 60))) 2 (nI (n 2 + 1)))))]) F s.heap _ _ := hW
        refine lv_aload_n hX_ hB_ dL_isGenerator_207 rfl (lv_at hl 5 rfl) ?_
        refine lv_iconst (v := 2) hX_ hB_ dL_isGenerator_208 (by decide) ?_
        refine ze_ialdN hX_ hB_ hK hW ((ze_wC c (va_up a (20 + n 2) qn) (ze_sn n 2 (n 2 + 1)) (ze_sE (ze_sE (ze_sE (ze_sE (ze_sE (ze_sE A 6 (n 2) (nI (xd_in xs L i (n 0)))) 7 (n 2) (nI 0)) 8 (n 2) (nI gr)) 9 (n 2) (nI (xd_in xs L (i + 4) 4))) 10 (n 2) (nI (xd_in xs L (i + 6) 60))) 13 (n 2) 111) B E).length + 0) (f := (upd (upd (upd (upd (upd (upd N (9 * (n 2) + 50) (nI (xd_in xs L i (n 0)))) (9 * (n 2) + 51) (nI 0)) (9 * (n 2) + 52) (nI gr)) (9 * (n 2) + 53) (nI (xd_in xs L (i + 4) 4))) (9 * (n 2) + 54) (nI (xd_in xs L (i + 6) 60))) 2 (nI (n 2 + 1)))) (ze_appL (k := 0) rfl) (i := 2) (by omega) (by decide) dL_isGenerator_209 ?_
        refine ze_top (ze_updat _ _ _) ?_
        refine lv_iconst (v := 1) hX_ hB_ dL_isGenerator_210 (by decide) ?_
        refine lv_isub hX_ hB_ dL_isGenerator_211 ?_
        refine ze_top (nI_pred (n 2)) ?_
        refine lv_icmp_ne (tgt := 219) hX_ hB_ dL_isGenerator_212 (by decide) (fun c212 => ?_) (fun c212 => ?_)
        · exact absurd rfl c212
        · have c212 : (n 2) = (n 2) := (nI_eq (a := (n 2)) (b := (n 2)) (by omega) (by omega)).mp c212
          refine lv_iconst (v := 1) hX_ hB_ dL_isGenerator_215 (by decide) ?_
          refine lv_goto (tgt := 220) hX_ hB_ dL_isGenerator_216 (by decide) ?_
          exact xb_iret (T := xd_T) ((va_up a (20 + n 2) qn), (ze_sn n 2 (n 2 + 1)), (ze_sE (ze_sE (ze_sE (ze_sE (ze_sE (ze_sE A 6 (n 2) (nI (xd_in xs L i (n 0)))) 7 (n 2) (nI 0)) 8 (n 2) (nI gr)) 9 (n 2) (nI (xd_in xs L (i + 4) 4))) 10 (n 2) (nI (xd_in xs L (i + 6) 60))) 13 (n 2) 111), B, E, (upd (upd (upd (upd (upd (upd N (9 * (n 2) + 50) (nI (xd_in xs L i (n 0)))) (9 * (n 2) + 51) (nI 0)) (9 * (n 2) + 52) (nI gr)) (9 * (n 2) + 53) (nI (xd_in xs L (i + 4) 4))) (9 * (n 2) + 54) (nI (xd_in xs L (i + 6) 60))) 2 (nI (n 2 + 1)))) S hr hlocks hF hK hW rfl dL_isGenerator_220 (Nat.le_of_ble_eq_true rfl) (Nat.le_of_ble_eq_true rfl) ⟨rfl, ⟨(va_up_ne _ _ (by omega)), (xd_gen hI (by omega) (by omega) (by omega) (by omega) (by omega) (by omega) (by omega) (by omega)), rfl, Nat.le_succ _, Nat.le_refl _⟩, Nat.succ_le_succ (Nat.zero_le _)⟩ rfl
      · have c97 : (n 2) = 6 := (nI_eq (a := (n 2)) (b := 6) (by omega) (by omega)).mp c97
        refine lv_aload_n hX_ hB_ dL_isGenerator_100 rfl (lv_at hl 4 rfl) ?_
        refine lv_aload_n hX_ hB_ dL_isGenerator_101 rfl (lv_at hl 6 rfl) ?_
        refine lv_iload_n hX_ hB_ dL_isGenerator_102 rfl (lv_at hl 7 rfl) ?_
        refine lv_aload_n hX_ hB_ dL_isGenerator_103 rfl (lv_at hl 5 rfl) ?_
        refine lv_iconst (v := 0) hX_ hB_ dL_isGenerator_104 (by decide) ?_
        refine ze_ialdN hX_ hB_ hK hW ((ze_wC c a n A B E).length + 0) (f := N) (ze_appL (k := 0) rfl) (i := 0) (by omega) (by decide) dL_isGenerator_105 ?_
        refine ze_top (y := nI (n 0)) hR.1.1 ?_
        have hW : ze_W D (([] : va_W) ++ ((ze_wC c a n A B E) ++ [(q, .inl (c 0, 210, .inl N))])) F s.heap _ _ := hW
        refine xb_FSx (As := [.ref b, .int (nI i), .int (nI (n 0))]) (rest := [.ref (a 0)]) S (xj_in l D c b L xs hL i (by omega) (n 0) (by omega) (by omega)) (va_cwS 3 hts gL_isGenerator_L_in rfl rfl rfl (by decide +kernel) ⟨(Nat.le_of_ble_eq_true rfl), (Nat.le_of_ble_eq_true rfl)⟩) (Or.inr rfl) hG hK hW hA rfl hl.1 rfl (lv_room (Nat.le_of_ble_eq_true rfl)) dL_isGenerator_106 ⟨(Nat.le_of_ble_eq_true rfl), (Nat.le_of_ble_eq_true rfl)⟩ (fun H locs hW => ?_)
        have hv106 := xd_inlt (xs := xs) (L := L) (i := i) (k := n 0) (by omega)
        have hW : ze_W D ((ze_wC c a n A B E) ++ [(q, .inl (c 0, 210, .inl N))]) F s.heap _ _ := hW
        refine lv_iload hX_ hB_ dL_isGenerator_109 (lv_at hl 2 rfl) ?_
        refine lv_iload hX_ hB_ dL_isGenerator_111 (lv_at hl 1 rfl) ?_
        refine lv_iconst (v := 0) hX_ hB_ dL_isGenerator_113 (by decide) ?_
        refine lv_iload hX_ hB_ dL_isGenerator_114 (lv_at hl 0 rfl) ?_
        refine xb_FSq (As := [.ref (a 0), .int (nI (xd_in xs L i (n 0))), .int (nI 0), .int (nI gr), .int 0, .int (nI (xd_in xs L (i + 6) 60))]) (rest := []) S (xw_addGenerator_t3 l D hst c a n A B E (xd_in xs L i (n 0)) hN (by omega) (nI 0) (nI gr) 0 (nI (xd_in xs L (i + 6) 60)) (xd_rg2 (lo := 0) (hi := 100) (by decide) (by decide) (by omega) (by omega) (by omega)) (xd_rgn gr1 (by omega) gr3 (by omega)) (by decide) (xd_rg2 (lo := 0) (hi := 9999) (by decide) (by decide) (by omega) (by omega) (by omega)) (by omega)) (vx_cwSW 6 hts gL_isGenerator_L_addGenerator rfl rfl rfl (by decide +kernel) ⟨(Nat.le_of_ble_eq_true rfl), (Nat.le_of_ble_eq_true rfl)⟩) hG hK hW hA rfl hl.1 rfl (lv_room (Nat.le_of_ble_eq_true rfl)) dL_isGenerator_116 ⟨(Nat.le_of_ble_eq_true rfl), (Nat.le_of_ble_eq_true rfl)⟩ (fun H locs hW => ?_)
        have hW : ze_W D ((ze_wC c a n A B E) ++ [(q, .inl (c 0, 210, .inl N))]) F s.heap _ _ := hW
        refine lv_ldc (own := RL) (v := -900003) hX_ hB_ S.2.2.2.1 w4 dL_isGenerator_119 ?_
        refine lv_icmp_ne (tgt := 128) hX_ hB_ dL_isGenerator_121 (by decide) (fun c121 => ?_) (fun c121 => ?_)
        · exact absurd c121 (by decide)
        · refine lv_iconst (v := 1) hX_ hB_ dL_isGenerator_124 (by decide) ?_
          refine lv_goto (tgt := 129) hX_ hB_ dL_isGenerator_125 (by decide) ?_
          exact xb_iret (T := xd_T) (a, n, A, B, E, N) S hr hlocks hF hK hW rfl dL_isGenerator_129 (Nat.le_of_ble_eq_true rfl) (Nat.le_of_ble_eq_true rfl) ⟨rfl, ⟨rfl, hI, rfl, Nat.le_refl _, Nat.le_refl _⟩, (by show 1 ≤ n 2; omega)⟩ rfl
