/-! ===== the law's methods over the object and the net ===== -/
set_option maxHeartbeats 8000000 in
set_option maxRecDepth 100000 in
theorem xj_isLoad (l : Launch) (D : va_G) (hst : l.stackTraces = false) (c : Nat → ClassId) (q : Nat) (a n : Nat → Nat) (A : Nat → Nat → Int32) (B : Nat → Int64) (E : Nat → Nat → Int32) (N : Nat → Int32) (t : Nat) (hI : xd_I n A B E N t) (b L : Nat) (xs : Nat → Int32)  (hL : L ≤ 260) (i : Nat) (hi : i < 1000) (h0 : 0 < n 0) : xb_M (T := xd_T) l yL_isLoad wsL_isLoad 8 129 1 6 D c (some (b, L, xs)) ((ze_wC c a n A B E) ++ [(q, .inl (c 0, 210, .inl N))]) [.ref (a 0), .ref q, .ref b, .int (nI i)] (fun r (u : xd_T) => r = 1 ∧ xd_P (a 0) n (t) u ∧ 1 ≤ u.2.1 4) (fun u => xd_w c q u) := by
  intro sz
  refine xb_start (cc := cL_isLoad) (maxL := 5) (ret := (some .boolean)) (own := RL) (by decide) rfl rfl (Nat.le_of_ble_eq_true rfl) ?_
  have hKc := xd_K hI
  have hH := xc_KH hKc
  obtain ⟨hV, hR, hPh, hY, hWu⟩ := id hI
  obtain ⟨hN, hS, hE, hz, h4, h4z, hT, hC, hKz, hZ, hp⟩ := id hV
  obtain ⟨hn0, hn1, hn2, hn3, hn4⟩ := id hN
  have hE1 := zv_hE hV
  intro p e s m_ below meth cd F ls hF hsz E0 hG
  obtain ⟨S, hr, hlocks, hK, hW, hA, hl⟩ := E0
  have hX_ := S.1
  have hB_ := S.2.1
  have hts := S.2.2.2.2
  have hl : lv_has ls 5 [(0, .ref (a 0)), (1, .ref q), (2, .ref b), (3, .int (nI i))] := hl
  have w0 := hts (.constant RL 30 (-900003)) (List.mem_cons_of_mem _ (List.mem_append_left _ (List.mem_append_left _ (List.mem_append_left _ (List.mem_append_left _ (List.mem_append_left _ (List.mem_append_left _ (List.mem_append_left _ (List.mem_append_left _ (List.mem_of_getElem? (i := 0) rfl))))))))))
  refine lv_sipush (v := 140) hX_ hB_ dL_isLoad_0 (by decide) ?_
  refine lv_iconst (v := 5) hX_ hB_ dL_isLoad_3 (by decide) ?_
  refine lv_aload_n hX_ hB_ dL_isLoad_4 rfl (lv_at hl 1 rfl) ?_
  refine lv_iconst (v := 4) hX_ hB_ dL_isLoad_5 (by decide) ?_
  refine ze_ialdN hX_ hB_ hK hW ((ze_wC c a n A B E).length + 0) (f := N) (ze_appL (k := 0) rfl) (i := 4) (by omega) (by decide) dL_isLoad_6 ?_
  refine ze_top (y := nI (n 4)) hR.1.2.2.2.2 ?_
  refine lv_imul hX_ hB_ dL_isLoad_7 ?_
  refine ze_top (xb_mul (a := 5) (b := n 4) (c := 5 * (n 4)) (by omega)) ?_
  refine lv_iadd hX_ hB_ dL_isLoad_8 ?_
  refine ze_top (xb_add (a := 140) (b := 5 * (n 4)) (c := 5 * (n 4) + 140) (by omega)) ?_
  refine lv_istore (lv' := [(4, .int (nI (5 * (n 4) + 140))), (0, .ref (a 0)), (1, .ref q), (2, .ref b), (3, .int (nI i))]) hX_ hB_ dL_isLoad_9 hl (by decide) rfl (fun ls hl => ?_)
  refine lv_aload_n hX_ hB_ dL_isLoad_11 rfl (lv_at hl 2 rfl) ?_
  refine lv_iconst (v := 4) hX_ hB_ dL_isLoad_12 (by decide) ?_
  refine ze_ialdN hX_ hB_ hK hW ((ze_wC c a n A B E).length + 0) (f := N) (ze_appL (k := 0) rfl) (i := 4) (by omega) (by decide) dL_isLoad_13 ?_
  refine ze_top (y := nI (n 4)) hR.1.2.2.2.2 ?_
  refine lv_bipush (v := 10) hX_ hB_ dL_isLoad_14 (by decide) ?_
  refine lv_icmp_ne (tgt := 44) hX_ hB_ dL_isLoad_16 (by decide) (fun c16 => ?_) (fun c16 => ?_)
  · have c16 : ¬ (n 4) = 10 := fun h9 => c16 ((nI_eq (a := (n 4)) (b := 10) (by omega) (by omega)).mpr h9)
    refine lv_aload_n hX_ hB_ dL_isLoad_44 rfl (lv_at hl 2 rfl) ?_
    refine lv_iload hX_ hB_ dL_isLoad_45 (lv_at hl 0 rfl) ?_
    refine lv_aload_n hX_ hB_ dL_isLoad_47 rfl (lv_at hl 3 rfl) ?_
    refine lv_iload_n hX_ hB_ dL_isLoad_48 rfl (lv_at hl 4 rfl) ?_
    refine lv_aload_n hX_ hB_ dL_isLoad_49 rfl (lv_at hl 2 rfl) ?_
    refine lv_iconst (v := 0) hX_ hB_ dL_isLoad_50 (by decide) ?_
    refine ze_ialdN hX_ hB_ hK hW ((ze_wC c a n A B E).length + 0) (f := N) (ze_appL (k := 0) rfl) (i := 0) (by omega) (by decide) dL_isLoad_51 ?_
    refine ze_top (y := nI (n 0)) hR.1.1 ?_
    have hW : ze_W D (([] : va_W) ++ ((ze_wC c a n A B E) ++ [(q, .inl (c 0, 210, .inl N))])) F s.heap _ _ := hW
    refine xb_FSx (As := [.ref b, .int (nI i), .int (nI (n 0))]) (rest := [.int (nI (5 * (n 4) + 140)), .ref q]) S (xj_in l D c b L xs hL i (by omega) (n 0) (by omega) (by omega)) (va_cwS 3 hts gL_isLoad_L_in rfl rfl rfl (by decide +kernel) ⟨(Nat.le_of_ble_eq_true rfl), (Nat.le_of_ble_eq_true rfl)⟩) (Or.inr rfl) hG hK hW hA rfl hl.1 rfl (lv_room (Nat.le_of_ble_eq_true rfl)) dL_isLoad_52 ⟨(Nat.le_of_ble_eq_true rfl), (Nat.le_of_ble_eq_true rfl)⟩ (fun H locs hW => ?_)
    have hv52 := xd_inlt (xs := xs) (L := L) (i := i) (k := n 0) (by omega)
    have hW : ze_W D ((ze_wC c a n A B E) ++ [(q, .inl (c 0, 210, .inl N))]) F s.heap _ _ := hW
    refine ze_iastN hX_ hB_ hK hW ((ze_wC c a n A B E).length + 0) (f := N) (ze_appL (k := 0) rfl) (i := 5 * (n 4) + 140) (by omega) (by decide) dL_isLoad_55 (ze_appset rfl) (fun H locs hW => ?_)
    have hW : ze_W D ((ze_wC c a n A B E) ++ [(q, .inl (c 0, 210, .inl (upd N (5 * (n 4) + 140) (nI (xd_in xs L i (n 0))))))]) F s.heap _ _ := hW
    refine lv_aload_n hX_ hB_ dL_isLoad_56 rfl (lv_at hl 2 rfl) ?_
    refine lv_iload hX_ hB_ dL_isLoad_57 (lv_at hl 0 rfl) ?_
    refine lv_iconst (v := 1) hX_ hB_ dL_isLoad_59 (by decide) ?_
    refine lv_iadd hX_ hB_ dL_isLoad_60 ?_
    refine ze_top (xb_add (a := 5 * (n 4) + 140) (b := 1) (c := 5 * (n 4) + 141) (by omega)) ?_
    refine lv_iconst (v := 1) hX_ hB_ dL_isLoad_61 (by decide) ?_
    refine lv_aload_n hX_ hB_ dL_isLoad_62 rfl (lv_at hl 3 rfl) ?_
    refine lv_iload_n hX_ hB_ dL_isLoad_63 rfl (lv_at hl 4 rfl) ?_
    refine lv_iconst (v := 1) hX_ hB_ dL_isLoad_64 (by decide) ?_
    refine lv_iadd hX_ hB_ dL_isLoad_65 ?_
    refine ze_top (xb_add (a := i) (b := 1) (c := i + 1) (by omega)) ?_
    refine lv_bipush (v := 50) hX_ hB_ dL_isLoad_66 (by decide) ?_
    have hW : ze_W D (([] : va_W) ++ ((ze_wC c a n A B E) ++ [(q, .inl (c 0, 210, .inl (upd N (5 * (n 4) + 140) (nI (xd_in xs L i (n 0))))))])) F s.heap _ _ := hW
    refine xb_FSx (As := [.ref b, .int (nI (i + 1)), .int 50]) (rest := [.int 1, .int (nI (5 * (n 4) + 141)), .ref q]) S (xj_in l D c b L xs hL (i + 1) (by omega) 50 (by omega) (by omega)) (va_cwS 3 hts gL_isLoad_L_in rfl rfl rfl (by decide +kernel) ⟨(Nat.le_of_ble_eq_true rfl), (Nat.le_of_ble_eq_true rfl)⟩) (Or.inr rfl) hG hK hW hA rfl hl.1 rfl (lv_room (Nat.le_of_ble_eq_true rfl)) dL_isLoad_68 ⟨(Nat.le_of_ble_eq_true rfl), (Nat.le_of_ble_eq_true rfl)⟩ (fun H locs hW => ?_)
    have hv68 := xd_inlt (xs := xs) (L := L) (i := i + 1) (k := 50) (by omega)
    have hW : ze_W D ((ze_wC c a n A B E) ++ [(q, .inl (c 0, 210, .inl (upd N (5 * (n 4) + 140) (nI (xd_in xs L i (n 0))))))]) F s.heap _ _ := hW
    refine lv_iadd hX_ hB_ dL_isLoad_71 ?_
    refine ze_top (xb_add (a := 1) (b := xd_in xs L (i + 1) 50) (c := xd_in xs L (i + 1) 50 + 1) (by omega)) ?_
    refine ze_iastN hX_ hB_ hK hW ((ze_wC c a n A B E).length + 0) (f := (upd N (5 * (n 4) + 140) (nI (xd_in xs L i (n 0))))) (ze_appL (k := 0) rfl) (i := 5 * (n 4) + 141) (by omega) (by decide) dL_isLoad_72 (ze_appset rfl) (fun H locs hW => ?_)
    have hW : ze_W D ((ze_wC c a n A B E) ++ [(q, .inl (c 0, 210, .inl (upd (upd N (5 * (n 4) + 140) (nI (xd_in xs L i (n 0)))) (5 * (n 4) + 141) (nI (xd_in xs L (i + 1) 50 + 1)))))]) F s.heap _ _ := hW
    refine lv_aload_n hX_ hB_ dL_isLoad_73 rfl (lv_at hl 2 rfl) ?_
    refine lv_iload hX_ hB_ dL_isLoad_74 (lv_at hl 0 rfl) ?_
    refine lv_iconst (v := 2) hX_ hB_ dL_isLoad_76 (by decide) ?_
    refine lv_iadd hX_ hB_ dL_isLoad_77 ?_
    refine ze_top (xb_add (a := 5 * (n 4) + 140) (b := 2) (c := 5 * (n 4) + 142) (by omega)) ?_
    refine lv_iconst (v := 1) hX_ hB_ dL_isLoad_78 (by decide) ?_
    refine lv_aload_n hX_ hB_ dL_isLoad_79 rfl (lv_at hl 3 rfl) ?_
    refine lv_iload_n hX_ hB_ dL_isLoad_80 rfl (lv_at hl 4 rfl) ?_
    refine lv_iconst (v := 2) hX_ hB_ dL_isLoad_81 (by decide) ?_
    refine lv_iadd hX_ hB_ dL_isLoad_82 ?_
    refine ze_top (xb_add (a := i) (b := 2) (c := i + 2) (by omega)) ?_
    refine lv_iconst (v := 4) hX_ hB_ dL_isLoad_83 (by decide) ?_
    have hW : ze_W D (([] : va_W) ++ ((ze_wC c a n A B E) ++ [(q, .inl (c 0, 210, .inl (upd (upd N (5 * (n 4) + 140) (nI (xd_in xs L i (n 0)))) (5 * (n 4) + 141) (nI (xd_in xs L (i + 1) 50 + 1)))))])) F s.heap _ _ := hW
    refine xb_FSx (As := [.ref b, .int (nI (i + 2)), .int 4]) (rest := [.int 1, .int (nI (5 * (n 4) + 142)), .ref q]) S (xj_in l D c b L xs hL (i + 2) (by omega) 4 (by omega) (by omega)) (va_cwS 3 hts gL_isLoad_L_in rfl rfl rfl (by decide +kernel) ⟨(Nat.le_of_ble_eq_true rfl), (Nat.le_of_ble_eq_true rfl)⟩) (Or.inr rfl) hG hK hW hA rfl hl.1 rfl (lv_room (Nat.le_of_ble_eq_true rfl)) dL_isLoad_84 ⟨(Nat.le_of_ble_eq_true rfl), (Nat.le_of_ble_eq_true rfl)⟩ (fun H locs hW => ?_)
    have hv84 := xd_inlt (xs := xs) (L := L) (i := i + 2) (k := 4) (by omega)
    have hW : ze_W D ((ze_wC c a n A B E) ++ [(q, .inl (c 0, 210, .inl (upd (upd N (5 * (n 4) + 140) (nI (xd_in xs L i (n 0)))) (5 * (n 4) + 141) (nI (xd_in xs L (i + 1) 50 + 1)))))]) F s.heap _ _ := hW
    refine lv_iadd hX_ hB_ dL_isLoad_87 ?_
    refine ze_top (xb_add (a := 1) (b := xd_in xs L (i + 2) 4) (c := xd_in xs L (i + 2) 4 + 1) (by omega)) ?_
    refine ze_iastN hX_ hB_ hK hW ((ze_wC c a n A B E).length + 0) (f := (upd (upd N (5 * (n 4) + 140) (nI (xd_in xs L i (n 0)))) (5 * (n 4) + 141) (nI (xd_in xs L (i + 1) 50 + 1)))) (ze_appL (k := 0) rfl) (i := 5 * (n 4) + 142) (by omega) (by decide) dL_isLoad_88 (ze_appset rfl) (fun H locs hW => ?_)
    have hW : ze_W D ((ze_wC c a n A B E) ++ [(q, .inl (c 0, 210, .inl (upd (upd (upd N (5 * (n 4) + 140) (nI (xd_in xs L i (n 0)))) (5 * (n 4) + 141) (nI (xd_in xs L (i + 1) 50 + 1))) (5 * (n 4) + 142) (nI (xd_in xs L (i + 2) 4 + 1)))))]) F s.heap _ _ := hW
    refine lv_aload_n hX_ hB_ dL_isLoad_89 rfl (lv_at hl 2 rfl) ?_
    refine lv_iconst (v := 4) hX_ hB_ dL_isLoad_90 (by decide) ?_
    refine lv_dup2_11 hX_ hB_ dL_isLoad_91 rfl rfl ?_
    refine ze_ialdN hX_ hB_ hK hW ((ze_wC c a n A B E).length + 0) (f := (upd (upd (upd N (5 * (n 4) + 140) (nI (xd_in xs L i (n 0)))) (5 * (n 4) + 141) (nI (xd_in xs L (i + 1) 50 + 1))) (5 * (n 4) + 142) (nI (xd_in xs L (i + 2) 4 + 1)))) (ze_appL (k := 0) rfl) (i := 4) (by omega) (by decide) dL_isLoad_92 ?_
    refine ze_top (xb_un (by omega)) ?_
    refine ze_top (xb_un (by omega)) ?_
    refine ze_top (xb_un (by omega)) ?_
    refine ze_top (y := nI (n 4)) hR.1.2.2.2.2 ?_
    refine lv_iconst (v := 1) hX_ hB_ dL_isLoad_93 (by decide) ?_
    refine lv_iadd hX_ hB_ dL_isLoad_94 ?_
    refine ze_top (xb_add (a := n 4) (b := 1) (c := n 4 + 1) (by omega)) ?_
    refine ze_iastN hX_ hB_ hK hW ((ze_wC c a n A B E).length + 0) (f := (upd (upd (upd N (5 * (n 4) + 140) (nI (xd_in xs L i (n 0)))) (5 * (n 4) + 141) (nI (xd_in xs L (i + 1) 50 + 1))) (5 * (n 4) + 142) (nI (xd_in xs L (i + 2) 4 + 1)))) (ze_appL (k := 0) rfl) (i := 4) (by omega) (by decide) dL_isLoad_95 (ze_appset rfl) (fun H locs hW => ?_)
    have hW : ze_W D ((ze_wC c a n A B E) ++ [(q, .inl (c 0, 210, .inl (upd (upd (upd (upd N (5 * (n 4) + 140) (nI (xd_in xs L i (n 0)))) (5 * (n 4) + 141) (nI (xd_in xs L (i + 1) 50 + 1))) (5 * (n 4) + 142) (nI (xd_in xs L (i + 2) 4 + 1))) 4 (nI (n 4 + 1)))))]) F s.heap _ _ := hW
    refine lv_aload_n hX_ hB_ dL_isLoad_96 rfl (lv_at hl 1 rfl) ?_
    refine lv_aload_n hX_ hB_ dL_isLoad_97 rfl (lv_at hl 2 rfl) ?_
    refine lv_iload hX_ hB_ dL_isLoad_98 (lv_at hl 0 rfl) ?_
    refine ze_ialdN hX_ hB_ hK hW ((ze_wC c a n A B E).length + 0) (f := (upd (upd (upd (upd N (5 * (n 4) + 140) (nI (xd_in xs L i (n 0)))) (5 * (n 4) + 141) (nI (xd_in xs L (i + 1) 50 + 1))) (5 * (n 4) + 142) (nI (xd_in xs L (i + 2) 4 + 1))) 4 (nI (n 4 + 1)))) (ze_appL (k := 0) rfl) (i := 5 * (n 4) + 140) (by omega) (by decide) dL_isLoad_100 ?_
    refine ze_top (xb_un (by omega)) ?_
    refine ze_top (xb_un (by omega)) ?_
    refine ze_top (xb_un (by omega)) ?_
    refine ze_top (ze_updat _ _ _) ?_
    refine lv_aload_n hX_ hB_ dL_isLoad_101 rfl (lv_at hl 2 rfl) ?_
    refine lv_iload hX_ hB_ dL_isLoad_102 (lv_at hl 0 rfl) ?_
    refine lv_iconst (v := 1) hX_ hB_ dL_isLoad_104 (by decide) ?_
    refine lv_iadd hX_ hB_ dL_isLoad_105 ?_
    refine ze_top (xb_add (a := 5 * (n 4) + 140) (b := 1) (c := 5 * (n 4) + 141) (by omega)) ?_
    refine ze_ialdN hX_ hB_ hK hW ((ze_wC c a n A B E).length + 0) (f := (upd (upd (upd (upd N (5 * (n 4) + 140) (nI (xd_in xs L i (n 0)))) (5 * (n 4) + 141) (nI (xd_in xs L (i + 1) 50 + 1))) (5 * (n 4) + 142) (nI (xd_in xs L (i + 2) 4 + 1))) 4 (nI (n 4 + 1)))) (ze_appL (k := 0) rfl) (i := 5 * (n 4) + 141) (by omega) (by decide) dL_isLoad_106 ?_
    refine ze_top (xb_un (by omega)) ?_
    refine ze_top (xb_un (by omega)) ?_
    refine ze_top (ze_updat _ _ _) ?_
    refine lv_aload_n hX_ hB_ dL_isLoad_107 rfl (lv_at hl 2 rfl) ?_
    refine lv_iload hX_ hB_ dL_isLoad_108 (lv_at hl 0 rfl) ?_
    refine lv_iconst (v := 2) hX_ hB_ dL_isLoad_110 (by decide) ?_
    refine lv_iadd hX_ hB_ dL_isLoad_111 ?_
    refine ze_top (xb_add (a := 5 * (n 4) + 140) (b := 2) (c := 5 * (n 4) + 142) (by omega)) ?_
    refine ze_ialdN hX_ hB_ hK hW ((ze_wC c a n A B E).length + 0) (f := (upd (upd (upd (upd N (5 * (n 4) + 140) (nI (xd_in xs L i (n 0)))) (5 * (n 4) + 141) (nI (xd_in xs L (i + 1) 50 + 1))) (5 * (n 4) + 142) (nI (xd_in xs L (i + 2) 4 + 1))) 4 (nI (n 4 + 1)))) (ze_appL (k := 0) rfl) (i := 5 * (n 4) + 142) (by omega) (by decide) dL_isLoad_112 ?_
    refine ze_top (xb_un (by omega)) ?_
    refine ze_top (ze_updat _ _ _) ?_
    refine xb_FSe (As := [.ref (a 0), .int (nI (xd_in xs L i (n 0))), .int (nI (xd_in xs L (i + 1) 50 + 1)), .int (nI (xd_in xs L (i + 2) 4 + 1))]) (rest := []) S (xw_addLoad_f l D c a n A B E (xd_in xs L i (n 0)) hN (by omega) (nI (xd_in xs L (i + 1) 50 + 1)) (nI (xd_in xs L (i + 2) 4 + 1)) (xd_rg2 (lo := 1) (hi := 200) (by decide) (by decide) (by omega) (by omega) (by omega)) (xd_rg2 (lo := 1) (hi := 9) (by decide) (by decide) (by omega) (by omega) (by omega)) (by omega) ((hZ.2.2 _ (Nat.le_refl _)).1) ((hZ.2.2 _ (Nat.le_refl _)).2)) (vx_cwSW 4 hts gL_isLoad_L_addLoad rfl rfl rfl (by decide +kernel) ⟨(Nat.le_of_ble_eq_true rfl), (Nat.le_of_ble_eq_true rfl)⟩) hG hK hW hA rfl hl.1 rfl (lv_room (Nat.le_of_ble_eq_true rfl)) dL_isLoad_113 ⟨(Nat.le_of_ble_eq_true rfl), (Nat.le_of_ble_eq_true rfl)⟩ (fun qn H locs hW => ?_)
    have hW : ze_W D ((ze_wC c (va_up a (40 + n 4) qn) (ze_sn n 4 (n 4 + 1)) (ze_sE (ze_sE (ze_sE A 19 (n 4) (nI (xd_in xs L i (n 0)))) 20 (n 4) (nI (xd_in xs L (i + 1) 50 + 1))) 21 (n 4) (nI (xd_in xs L (i + 2) 4 + 1))) B E) ++ [(q, .inl (c 0, 210, .inl (upd (upd (upd (upd N (5 * (n 4) + 140) (nI (xd_in xs L i (n 0)))) (5 * (n 4) + 141) (nI (xd_in xs L (i + 1) 50 + 1))) (5 * (n 4) + 142) (nI (xd_in xs L (i + 2) 4 + 1))) 4 (nI (n 4 + 1)))))]) F s.heap _ _ := hW
    refine lv_aload_n hX_ hB_ dL_isLoad_116 rfl (lv_at hl 2 rfl) ?_
    refine lv_iconst (v := 4) hX_ hB_ dL_isLoad_117 (by decide) ?_
    refine ze_ialdN hX_ hB_ hK hW ((ze_wC c (va_up a (40 + n 4) qn) (ze_sn n 4 (n 4 + 1)) (ze_sE (ze_sE (ze_sE A 19 (n 4) (nI (xd_in xs L i (n 0)))) 20 (n 4) (nI (xd_in xs L (i + 1) 50 + 1))) 21 (n 4) (nI (xd_in xs L (i + 2) 4 + 1))) B E).length + 0) (f := (upd (upd (upd (upd N (5 * (n 4) + 140) (nI (xd_in xs L i (n 0)))) (5 * (n 4) + 141) (nI (xd_in xs L (i + 1) 50 + 1))) (5 * (n 4) + 142) (nI (xd_in xs L (i + 2) 4 + 1))) 4 (nI (n 4 + 1)))) (ze_appL (k := 0) rfl) (i := 4) (by omega) (by decide) dL_isLoad_118 ?_
    refine ze_top (ze_updat _ _ _) ?_
    refine lv_iconst (v := 1) hX_ hB_ dL_isLoad_119 (by decide) ?_
    refine lv_isub hX_ hB_ dL_isLoad_120 ?_
    refine ze_top (nI_pred (n 4)) ?_
    refine lv_icmp_ne (tgt := 128) hX_ hB_ dL_isLoad_121 (by decide) (fun c121 => ?_) (fun c121 => ?_)
    · exact absurd rfl c121
    · have c121 : (n 4) = (n 4) := (nI_eq (a := (n 4)) (b := (n 4)) (by omega) (by omega)).mp c121
      refine lv_iconst (v := 1) hX_ hB_ dL_isLoad_124 (by decide) ?_
      refine lv_goto (tgt := 129) hX_ hB_ dL_isLoad_125 (by decide) ?_
      exact xb_iret (T := xd_T) ((va_up a (40 + n 4) qn), (ze_sn n 4 (n 4 + 1)), (ze_sE (ze_sE (ze_sE A 19 (n 4) (nI (xd_in xs L i (n 0)))) 20 (n 4) (nI (xd_in xs L (i + 1) 50 + 1))) 21 (n 4) (nI (xd_in xs L (i + 2) 4 + 1))), B, E, (upd (upd (upd (upd N (5 * (n 4) + 140) (nI (xd_in xs L i (n 0)))) (5 * (n 4) + 141) (nI (xd_in xs L (i + 1) 50 + 1))) (5 * (n 4) + 142) (nI (xd_in xs L (i + 2) 4 + 1))) 4 (nI (n 4 + 1)))) S hr hlocks hF hK hW rfl dL_isLoad_129 (Nat.le_of_ble_eq_true rfl) (Nat.le_of_ble_eq_true rfl) ⟨rfl, ⟨(va_up_ne _ _ (by omega)), (xd_load hI (by omega) (by omega) (by omega) (by omega) (by omega)), rfl, Nat.le_refl _, Nat.le_succ _⟩, Nat.succ_le_succ (Nat.zero_le _)⟩ rfl
  · have c16 : (n 4) = 10 := (nI_eq (a := (n 4)) (b := 10) (by omega) (by omega)).mp c16
    refine lv_aload_n hX_ hB_ dL_isLoad_19 rfl (lv_at hl 1 rfl) ?_
    refine lv_aload_n hX_ hB_ dL_isLoad_20 rfl (lv_at hl 3 rfl) ?_
    refine lv_iload_n hX_ hB_ dL_isLoad_21 rfl (lv_at hl 4 rfl) ?_
    refine lv_aload_n hX_ hB_ dL_isLoad_22 rfl (lv_at hl 2 rfl) ?_
    refine lv_iconst (v := 0) hX_ hB_ dL_isLoad_23 (by decide) ?_
    refine ze_ialdN hX_ hB_ hK hW ((ze_wC c a n A B E).length + 0) (f := N) (ze_appL (k := 0) rfl) (i := 0) (by omega) (by decide) dL_isLoad_24 ?_
    refine ze_top (y := nI (n 0)) hR.1.1 ?_
    have hW : ze_W D (([] : va_W) ++ ((ze_wC c a n A B E) ++ [(q, .inl (c 0, 210, .inl N))])) F s.heap _ _ := hW
    refine xb_FSx (As := [.ref b, .int (nI i), .int (nI (n 0))]) (rest := [.ref (a 0)]) S (xj_in l D c b L xs hL i (by omega) (n 0) (by omega) (by omega)) (va_cwS 3 hts gL_isLoad_L_in rfl rfl rfl (by decide +kernel) ⟨(Nat.le_of_ble_eq_true rfl), (Nat.le_of_ble_eq_true rfl)⟩) (Or.inr rfl) hG hK hW hA rfl hl.1 rfl (lv_room (Nat.le_of_ble_eq_true rfl)) dL_isLoad_25 ⟨(Nat.le_of_ble_eq_true rfl), (Nat.le_of_ble_eq_true rfl)⟩ (fun H locs hW => ?_)
    have hv25 := xd_inlt (xs := xs) (L := L) (i := i) (k := n 0) (by omega)
    have hW : ze_W D ((ze_wC c a n A B E) ++ [(q, .inl (c 0, 210, .inl N))]) F s.heap _ _ := hW
    refine lv_iconst (v := 1) hX_ hB_ dL_isLoad_28 (by decide) ?_
    refine lv_iconst (v := 1) hX_ hB_ dL_isLoad_29 (by decide) ?_
    refine xb_FSq (As := [.ref (a 0), .int (nI (xd_in xs L i (n 0))), .int 1, .int 1]) (rest := []) S (xw_addLoad_t3 l D hst c a n A B E (xd_in xs L i (n 0)) hN (by omega) 1 1 (by decide) (by decide) (by omega)) (vx_cwSW 4 hts gL_isLoad_L_addLoad rfl rfl rfl (by decide +kernel) ⟨(Nat.le_of_ble_eq_true rfl), (Nat.le_of_ble_eq_true rfl)⟩) hG hK hW hA rfl hl.1 rfl (lv_room (Nat.le_of_ble_eq_true rfl)) dL_isLoad_30 ⟨(Nat.le_of_ble_eq_true rfl), (Nat.le_of_ble_eq_true rfl)⟩ (fun H locs hW => ?_)
    have hW : ze_W D ((ze_wC c a n A B E) ++ [(q, .inl (c 0, 210, .inl N))]) F s.heap _ _ := hW
    refine lv_ldc (own := RL) (v := -900003) hX_ hB_ S.2.2.2.1 w0 dL_isLoad_33 ?_
    refine lv_icmp_ne (tgt := 42) hX_ hB_ dL_isLoad_35 (by decide) (fun c35 => ?_) (fun c35 => ?_)
    · exact absurd c35 (by decide)
    · refine lv_iconst (v := 1) hX_ hB_ dL_isLoad_38 (by decide) ?_
      refine lv_goto (tgt := 43) hX_ hB_ dL_isLoad_39 (by decide) ?_
      exact xb_iret (T := xd_T) (a, n, A, B, E, N) S hr hlocks hF hK hW rfl dL_isLoad_43 (Nat.le_of_ble_eq_true rfl) (Nat.le_of_ble_eq_true rfl) ⟨rfl, ⟨rfl, hI, rfl, Nat.le_refl _, Nat.le_refl _⟩, (by show 1 ≤ n 4; omega)⟩ rfl
