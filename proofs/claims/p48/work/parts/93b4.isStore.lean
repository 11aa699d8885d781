/-! ===== the law's methods over the object and the net ===== -/
set_option maxHeartbeats 8000000 in
set_option maxRecDepth 100000 in
theorem xj_isStore (l : Launch) (D : va_G) (hst : l.stackTraces = false) (c : Nat → ClassId) (q : Nat) (a n : Nat → Nat) (A : Nat → Nat → Int32) (B : Nat → Int64) (E : Nat → Nat → Int32) (N : Nat → Int32) (t : Nat) (hI : xd_I n A B E N t) (b L : Nat) (xs : Nat → Int32)  (hL : L ≤ 260) (i : Nat) (hi : i < 1000) (h0 : 0 < n 0) : xb_M (T := xd_T) l yL_isStore wsL_isStore 8 129 1 6 D c (some (b, L, xs)) ((ze_wC c a n A B E) ++ [(q, .inl (c 0, 210, .inl N))]) [.ref (a 0), .ref q, .ref b, .int (nI i)] (fun r (u : xd_T) => r = 1 ∧ xd_P (a 0) n (t) u) (fun u => xd_w c q u) := by
  intro sz
  refine xb_start (cc := cL_isStore) (maxL := 5) (ret := (some .boolean)) (own := RL) (by decide) rfl rfl (Nat.le_of_ble_eq_true rfl) ?_
  have hKc := xd_K hI
  have hH := xc_KH hKc
  obtain ⟨hV, hR, hPh, hY, hWu⟩ := id hI
  obtain ⟨hN, hS, hE, hz, h4, h4z, hT, hC, hKz, hZ, hp⟩ := id hV
  obtain ⟨hn0, hn1, hn2, hn3, hn4⟩ := id hN
  have hE1 := zv_hE hV
  intro p e s m_ below meth cd F ls hF hsz E0 hG
  obtain ⟨S, hr, hlocks, hK, hW, hA, hl⟩ := E0
  have hX_ := S.1
  have hB_ := S.2.1
  have hts := S.2.2.2.2
  have hl : lv_has ls 5 [(0, .ref (a 0)), (1, .ref q), (2, .ref b), (3, .int (nI i))] := hl
  have w0 := hts (.constant RL 30 (-900003)) (List.mem_cons_of_mem _ (List.mem_append_left _ (List.mem_append_left _ (List.mem_append_left _ (List.mem_append_left _ (List.mem_append_left _ (List.mem_append_left _ (List.mem_append_left _ (List.mem_append_left _ (List.mem_of_getElem? (i := 0) rfl))))))))))
  refine lv_bipush (v := 110) hX_ hB_ dL_isStore_0 (by decide) ?_
  refine lv_bipush (v := 6) hX_ hB_ dL_isStore_2 (by decide) ?_
  refine lv_aload_n hX_ hB_ dL_isStore_4 rfl (lv_at hl 1 rfl) ?_
  refine lv_iconst (v := 3) hX_ hB_ dL_isStore_5 (by decide) ?_
  refine ze_ialdN hX_ hB_ hK hW ((ze_wC c a n A B E).length + 0) (f := N) (ze_appL (k := 0) rfl) (i := 3) (by omega) (by decide) dL_isStore_6 ?_
  refine ze_top (y := nI (n 3)) hR.1.2.2.2.1 ?_
  refine lv_imul hX_ hB_ dL_isStore_7 ?_
  refine ze_top (xb_mul (a := 6) (b := n 3) (c := 6 * (n 3)) (by omega)) ?_
  refine lv_iadd hX_ hB_ dL_isStore_8 ?_
  refine ze_top (xb_add (a := 110) (b := 6 * (n 3)) (c := 6 * (n 3) + 110) (by omega)) ?_
  refine lv_istore (lv' := [(4, .int (nI (6 * (n 3) + 110))), (0, .ref (a 0)), (1, .ref q), (2, .ref b), (3, .int (nI i))]) hX_ hB_ dL_isStore_9 hl (by decide) rfl (fun ls hl => ?_)
  refine lv_aload_n hX_ hB_ dL_isStore_11 rfl (lv_at hl 2 rfl) ?_
  refine lv_iconst (v := 3) hX_ hB_ dL_isStore_12 (by decide) ?_
  refine ze_ialdN hX_ hB_ hK hW ((ze_wC c a n A B E).length + 0) (f := N) (ze_appL (k := 0) rfl) (i := 3) (by omega) (by decide) dL_isStore_13 ?_
  refine ze_top (y := nI (n 3)) hR.1.2.2.2.1 ?_
  refine lv_iconst (v := 4) hX_ hB_ dL_isStore_14 (by decide) ?_
  refine lv_icmp_ne (tgt := 43) hX_ hB_ dL_isStore_15 (by decide) (fun c15 => ?_) (fun c15 => ?_)
  · have c15 : ¬ (n 3) = 4 := fun h9 => c15 ((nI_eq (a := (n 3)) (b := 4) (by omega) (by omega)).mpr h9)
    refine lv_aload_n hX_ hB_ dL_isStore_43 rfl (lv_at hl 2 rfl) ?_
    refine lv_iload hX_ hB_ dL_isStore_44 (lv_at hl 0 rfl) ?_
    refine lv_aload_n hX_ hB_ dL_isStore_46 rfl (lv_at hl 3 rfl) ?_
    refine lv_iload_n hX_ hB_ dL_isStore_47 rfl (lv_at hl 4 rfl) ?_
    refine lv_aload_n hX_ hB_ dL_isStore_48 rfl (lv_at hl 2 rfl) ?_
    refine lv_iconst (v := 0) hX_ hB_ dL_isStore_49 (by decide) ?_
    refine ze_ialdN hX_ hB_ hK hW ((ze_wC c a n A B E).length + 0) (f := N) (ze_appL (k := 0) rfl) (i := 0) (by omega) (by decide) dL_isStore_50 ?_
    refine ze_top (y := nI (n 0)) hR.1.1 ?_
    have hW : ze_W D (([] : va_W) ++ ((ze_wC c a n A B E) ++ [(q, .inl (c 0, 210, .inl N))])) F s.heap _ _ := hW
    refine xb_FSx (As := [.ref b, .int (nI i), .int (nI (n 0))]) (rest := [.int (nI (6 * (n 3) + 110)), .ref q]) S (xj_in l D c b L xs hL i (by omega) (n 0) (by omega) (by omega)) (va_cwS 3 hts gL_isStore_L_in rfl rfl rfl (by decide +kernel) ⟨(Nat.le_of_ble_eq_true rfl), (Nat.le_of_ble_eq_true rfl)⟩) (Or.inr rfl) hG hK hW hA rfl hl.1 rfl (lv_room (Nat.le_of_ble_eq_true rfl)) dL_isStore_51 ⟨(Nat.le_of_ble_eq_true rfl), (Nat.le_of_ble_eq_true rfl)⟩ (fun H locs hW => ?_)
    have hv51 := xd_inlt (xs := xs) (L := L) (i := i) (k := n 0) (by omega)
    have hW : ze_W D ((ze_wC c a n A B E) ++ [(q, .inl (c 0, 210, .inl N))]) F s.heap _ _ := hW
    refine ze_iastN hX_ hB_ hK hW ((ze_wC c a n A B E).length + 0) (f := N) (ze_appL (k := 0) rfl) (i := 6 * (n 3) + 110) (by omega) (by decide) dL_isStore_54 (ze_appset rfl) (fun H locs hW => ?_)
    have hW : ze_W D ((ze_wC c a n A B E) ++ [(q, .inl (c 0, 210, .inl (upd N (6 * (n 3) + 110) (nI (xd_in xs L i (n 0))))))]) F s.heap _ _ := hW
    refine lv_aload_n hX_ hB_ dL_isStore_55 rfl (lv_at hl 2 rfl) ?_
    refine lv_iload hX_ hB_ dL_isStore_56 (lv_at hl 0 rfl) ?_
    refine lv_iconst (v := 1) hX_ hB_ dL_isStore_58 (by decide) ?_
    refine lv_iadd hX_ hB_ dL_isStore_59 ?_
    refine ze_top (xb_add (a := 6 * (n 3) + 110) (b := 1) (c := 6 * (n 3) + 111) (by omega)) ?_
    refine lv_iconst (v := 1) hX_ hB_ dL_isStore_60 (by decide) ?_
    refine lv_aload_n hX_ hB_ dL_isStore_61 rfl (lv_at hl 3 rfl) ?_
    refine lv_iload_n hX_ hB_ dL_isStore_62 rfl (lv_at hl 4 rfl) ?_
    refine lv_iconst (v := 1) hX_ hB_ dL_isStore_63 (by decide) ?_
    refine lv_iadd hX_ hB_ dL_isStore_64 ?_
    refine ze_top (xb_add (a := i) (b := 1) (c := i + 1) (by omega)) ?_
    refine lv_bipush (v := 120) hX_ hB_ dL_isStore_65 (by decide) ?_
    have hW : ze_W D (([] : va_W) ++ ((ze_wC c a n A B E) ++ [(q, .inl (c 0, 210, .inl (upd N (6 * (n 3) + 110) (nI (xd_in xs L i (n 0))))))])) F s.heap _ _ := hW
    refine xb_FSx (As := [.ref b, .int (nI (i + 1)), .int 120]) (rest := [.int 1, .int (nI (6 * (n 3) + 111)), .ref q]) S (xj_in l D c b L xs hL (i + 1) (by omega) 120 (by omega) (by omega)) (va_cwS 3 hts gL_isStore_L_in rfl rfl rfl (by decide +kernel) ⟨(Nat.le_of_ble_eq_true rfl), (Nat.le_of_ble_eq_true rfl)⟩) (Or.inr rfl) hG hK hW hA rfl hl.1 rfl (lv_room (Nat.le_of_ble_eq_true rfl)) dL_isStore_67 ⟨(Nat.le_of_ble_eq_true rfl), (Nat.le_of_ble_eq_true rfl)⟩ (fun H locs hW => ?_)
    have hv67 := xd_inlt (xs := xs) (L := L) (i := i + 1) (k := 120) (by omega)
    have hW : ze_W D ((ze_wC c a n A B E) ++ [(q, .inl (c 0, 210, .inl (upd N (6 * (n 3) + 110) (nI (xd_in xs L i (n 0))))))]) F s.heap _ _ := hW
    refine lv_iadd hX_ hB_ dL_isStore_70 ?_
    refine ze_top (xb_add (a := 1) (b := xd_in xs L (i + 1) 120) (c := xd_in xs L (i + 1) 120 + 1) (by omega)) ?_
    refine ze_iastN hX_ hB_ hK hW ((ze_wC c a n A B E).length + 0) (f := (upd N (6 * (n 3) + 110) (nI (xd_in xs L i (n 0))))) (ze_appL (k := 0) rfl) (i := 6 * (n 3) + 111) (by omega) (by decide) dL_isStore_71 (ze_appset rfl) (fun H locs hW => ?_)
    have hW : ze_W D ((ze_wC c a n A B E) ++ [(q, .inl (c 0, 210, .inl (upd (upd N (6 * (n 3) + 110) (nI (xd_in xs L i (n 0)))) (6 * (n 3) + 111) (nI (xd_in xs L (i + 1) 120 + 1)))))]) F s.heap _ _ := hW
    refine lv_aload_n hX_ hB_ dL_isStore_72 rfl (lv_at hl 2 rfl) ?_
    refine lv_iload hX_ hB_ dL_isStore_73 (lv_at hl 0 rfl) ?_
    refine lv_iconst (v := 2) hX_ hB_ dL_isStore_75 (by decide) ?_
    refine lv_iadd hX_ hB_ dL_isStore_76 ?_
    refine ze_top (xb_add (a := 6 * (n 3) + 110) (b := 2) (c := 6 * (n 3) + 112) (by omega)) ?_
    refine lv_iconst (v := 1) hX_ hB_ dL_isStore_77 (by decide) ?_
    refine lv_aload_n hX_ hB_ dL_isStore_78 rfl (lv_at hl 3 rfl) ?_
    refine lv_iload_n hX_ hB_ dL_isStore_79 rfl (lv_at hl 4 rfl) ?_
    refine lv_iconst (v := 2) hX_ hB_ dL_isStore_80 (by decide) ?_
    refine lv_iadd hX_ hB_ dL_isStore_81 ?_
    refine ze_top (xb_add (a := i) (b := 2) (c := i + 2) (by omega)) ?_
    refine lv_bipush (v := 30) hX_ hB_ dL_isStore_82 (by decide) ?_
    have hW : ze_W D (([] : va_W) ++ ((ze_wC c a n A B E) ++ [(q, .inl (c 0, 210, .inl (upd (upd N (6 * (n 3) + 110) (nI (xd_in xs L i (n 0)))) (6 * (n 3) + 111) (nI (xd_in xs L (i + 1) 120 + 1)))))])) F s.heap _ _ := hW
    refine xb_FSx (As := [.ref b, .int (nI (i + 2)), .int 30]) (rest := [.int 1, .int (nI (6 * (n 3) + 112)), .ref q]) S (xj_in l D c b L xs hL (i + 2) (by omega) 30 (by omega) (by omega)) (va_cwS 3 hts gL_isStore_L_in rfl rfl rfl (by decide +kernel) ⟨(Nat.le_of_ble_eq_true rfl), (Nat.le_of_ble_eq_true rfl)⟩) (Or.inr rfl) hG hK hW hA rfl hl.1 rfl (lv_room (Nat.le_of_ble_eq_true rfl)) dL_isStore_84 ⟨(Nat.le_of_ble_eq_true rfl), (Nat.le_of_ble_eq_true rfl)⟩ (fun H locs hW => ?_)
    have hv84 := xd_inlt (xs := xs) (L := L) (i := i + 2) (k := 30) (by omega)
    have hW : ze_W D ((ze_wC c a n A B E) ++ [(q, .inl (c 0, 210, .inl (upd (upd N (6 * (n 3) + 110) (nI (xd_in xs L i (n 0)))) (6 * (n 3) + 111) (nI (xd_in xs L (i + 1) 120 + 1)))))]) F s.heap _ _ := hW
    refine lv_iadd hX_ hB_ dL_isStore_87 ?_
    refine ze_top (xb_add (a := 1) (b := xd_in xs L (i + 2) 30) (c := xd_in xs L (i + 2) 30 + 1) (by omega)) ?_
    refine ze_iastN hX_ hB_ hK hW ((ze_wC c a n A B E).length + 0) (f := (upd (upd N (6 * (n 3) + 110) (nI (xd_in xs L i (n 0)))) (6 * (n 3) + 111) (nI (xd_in xs L (i + 1) 120 + 1)))) (ze_appL (k := 0) rfl) (i := 6 * (n 3) + 112) (by omega) (by decide) dL_isStore_88 (ze_appset rfl) (fun H locs hW => ?_)
    have hW : ze_W D ((ze_wC c a n A B E) ++ [(q, .inl (c 0, 210, .inl (upd (upd (upd N (6 * (n 3) + 110) (nI (xd_in xs L i (n 0)))) (6 * (n 3) + 111) (nI (xd_in xs L (i + 1) 120 + 1))) (6 * (n 3) + 112) (nI (xd_in xs L (i + 2) 30 + 1)))))]) F s.heap _ _ := hW
    refine lv_aload_n hX_ hB_ dL_isStore_89 rfl (lv_at hl 2 rfl) ?_
    refine lv_iconst (v := 3) hX_ hB_ dL_isStore_90 (by decide) ?_
    refine lv_dup2_11 hX_ hB_ dL_isStore_91 rfl rfl ?_
    refine ze_ialdN hX_ hB_ hK hW ((ze_wC c a n A B E).length + 0) (f := (upd (upd (upd N (6 * (n 3) + 110) (nI (xd_in xs L i (n 0)))) (6 * (n 3) + 111) (nI (xd_in xs L (i + 1) 120 + 1))) (6 * (n 3) + 112) (nI (xd_in xs L (i + 2) 30 + 1)))) (ze_appL (k := 0) rfl) (i := 3) (by omega) (by decide) dL_isStore_92 ?_
    refine ze_top (xb_un (by omega)) ?_
    refine ze_top (xb_un (by omega)) ?_
    refine ze_top (xb_un (by omega)) ?_
    refine ze_top (y := nI (n 3)) hR.1.2.2.2.1 ?_
    refine lv_iconst (v := 1) hX_ hB_ dL_isStore_93 (by decide) ?_
    refine lv_iadd hX_ hB_ dL_isStore_94 ?_
    refine ze_top (xb_add (a := n 3) (b := 1) (c := n 3 + 1) (by omega)) ?_
    refine ze_iastN hX_ hB_ hK hW ((ze_wC c a n A B E).length + 0) (f := (upd (upd (upd N (6 * (n 3) + 110) (nI (xd_in xs L i (n 0)))) (6 * (n 3) + 111) (nI (xd_in xs L (i + 1) 120 + 1))) (6 * (n 3) + 112) (nI (xd_in xs L (i + 2) 30 + 1)))) (ze_appL (k := 0) rfl) (i := 3) (by omega) (by decide) dL_isStore_95 (ze_appset rfl) (fun H locs hW => ?_)
    have hW : ze_W D ((ze_wC c a n A B E) ++ [(q, .inl (c 0, 210, .inl (upd (upd (upd (upd N (6 * (n 3) + 110) (nI (xd_in xs L i (n 0)))) (6 * (n 3) + 111) (nI (xd_in xs L (i + 1) 120 + 1))) (6 * (n 3) + 112) (nI (xd_in xs L (i + 2) 30 + 1))) 3 (nI (n 3 + 1)))))]) F s.heap _ _ := hW
    refine lv_aload_n hX_ hB_ dL_isStore_96 rfl (lv_at hl 1 rfl) ?_
    refine lv_aload_n hX_ hB_ dL_isStore_97 rfl (lv_at hl 2 rfl) ?_
    refine lv_iload hX_ hB_ dL_isStore_98 (lv_at hl 0 rfl) ?_
    refine ze_ialdN hX_ hB_ hK hW ((ze_wC c a n A B E).length + 0) (f := (upd (upd (upd (upd N (6 * (n 3) + 110) (nI (xd_in xs L i (n 0)))) (6 * (n 3) + 111) (nI (xd_in xs L (i + 1) 120 + 1))) (6 * (n 3) + 112) (nI (xd_in xs L (i + 2) 30 + 1))) 3 (nI (n 3 + 1)))) (ze_appL (k := 0) rfl) (i := 6 * (n 3) + 110) (by omega) (by decide) dL_isStore_100 ?_
    refine ze_top (xb_un (by omega)) ?_
    refine ze_top (xb_un (by omega)) ?_
    refine ze_top (xb_un (by omega)) ?_
    refine ze_top (ze_updat _ _ _) ?_
    refine lv_aload_n hX_ hB_ dL_isStore_101 rfl (lv_at hl 2 rfl) ?_
    refine lv_iload hX_ hB_ dL_isStore_102 (lv_at hl 0 rfl) ?_
    refine lv_iconst (v := 1) hX_ hB_ dL_isStore_104 (by decide) ?_
    refine lv_iadd hX_ hB_ dL_isStore_105 ?_
    refine ze_top (xb_add (a := 6 * (n 3) + 110) (b := 1) (c := 6 * (n 3) + 111) (by omega)) ?_
    refine ze_ialdN hX_ hB_ hK hW ((ze_wC c a n A B E).length + 0) (f := (upd (upd (upd (upd N (6 * (n 3) + 110) (nI (xd_in xs L i (n 0)))) (6 * (n 3) + 111) (nI (xd_in xs L (i + 1) 120 + 1))) (6 * (n 3) + 112) (nI (xd_in xs L (i + 2) 30 + 1))) 3 (nI (n 3 + 1)))) (ze_appL (k := 0) rfl) (i := 6 * (n 3) + 111) (by omega) (by decide) dL_isStore_106 ?_
    refine ze_top (xb_un (by omega)) ?_
    refine ze_top (xb_un (by omega)) ?_
    refine ze_top (ze_updat _ _ _) ?_
    refine lv_aload_n hX_ hB_ dL_isStore_107 rfl (lv_at hl 2 rfl) ?_
    refine lv_iload hX_ hB_ dL_isStore_108 (lv_at hl 0 rfl) ?_
    refine lv_iconst (v := 2) hX_ hB_ dL_isStore_110 (by decide) ?_
    refine lv_iadd hX_ hB_ dL_isStore_111 ?_
    refine ze_top (xb_add (a := 6 * (n 3) + 110) (b := 2) (c := 6 * (n 3) + 112) (by omega)) ?_
    refine ze_ialdN hX_ hB_ hK hW ((ze_wC c a n A B E).length + 0) (f := (upd (upd (upd (upd N (6 * (n 3) + 110) (nI (xd_in xs L i (n 0)))) (6 * (n 3) + 111) (nI (xd_in xs L (i + 1) 120 + 1))) (6 * (n 3) + 112) (nI (xd_in xs L (i + 2) 30 + 1))) 3 (nI (n 3 + 1)))) (ze_appL (k := 0) rfl) (i := 6 * (n 3) + 112) (by omega) (by decide) dL_isStore_112 ?_
    refine ze_top (xb_un (by omega)) ?_
    refine ze_top (ze_updat _ _ _) ?_
    refine xb_FSe (As := [.ref (a 0), .int (nI (xd_in xs L i (n 0))), .int (nI (xd_in xs L (i + 1) 120 + 1)), .int (nI (xd_in xs L (i + 2) 30 + 1))]) (rest := []) S (xw_addStore_f l D c a n A B E (xd_in xs L i (n 0)) hN (by omega) (nI (xd_in xs L (i + 1) 120 + 1)) (nI (xd_in xs L (i + 2) 30 + 1)) (xd_rg2 (lo := 1) (hi := 999) (by decide) (by decide) (by omega) (by omega) (by omega)) (xd_rg2 (lo := 1) (hi := 99) (by decide) (by decide) (by omega) (by omega) (by omega)) (by omega) ((hZ.2.1 _ (Nat.le_refl _)).1) ((hZ.2.1 _ (Nat.le_refl _)).2)) (vx_cwSW 4 hts gL_isStore_L_addStore rfl rfl rfl (by decide +kernel) ⟨(Nat.le_of_ble_eq_true rfl), (Nat.le_of_ble_eq_true rfl)⟩) hG hK hW hA rfl hl.1 rfl (lv_room (Nat.le_of_ble_eq_true rfl)) dL_isStore_113 ⟨(Nat.le_of_ble_eq_true rfl), (Nat.le_of_ble_eq_true rfl)⟩ (fun qn H locs hW => ?_)
    have hW : ze_W D ((ze_wC c (va_up a (30 + n 3) qn) (ze_sn n 3 (n 3 + 1)) (ze_sE (ze_sE (ze_sE A 14 (n 3) (nI (xd_in xs L i (n 0)))) 15 (n 3) (nI (xd_in xs L (i + 1) 120 + 1))) 16 (n 3) (nI (xd_in xs L (i + 2) 30 + 1))) B E) ++ [(q, .inl (c 0, 210, .inl (upd (upd (upd (upd N (6 * (n 3) + 110) (nI (xd_in xs L i (n 0)))) (6 * (n 3) + 111) (nI (xd_in xs L (i + 1) 120 + 1))) (6 * (n 3) + 112) (nI (xd_in xs L (i + 2) 30 + 1))) 3 (nI (n 3 + 1)))))]) F s.heap _ _ := hW
    refine lv_aload_n hX_ hB_ dL_isStore_116 rfl (lv_at hl 2 rfl) ?_
    refine lv_iconst (v := 3) hX_ hB_ dL_isStore_117 (by decide) ?_
    refine ze_ialdN hX_ hB_ hK hW ((ze_wC c (va_up a (30 + n 3) qn) (ze_sn n 3 (n 3 + 1)) (ze_sE (ze_sE (ze_sE A 14 (n 3) (nI (xd_in xs L i (n 0)))) 15 (n 3) (nI (xd_in xs L (i + 1) 120 + 1))) 16 (n 3) (nI (xd_in xs L (i + 2) 30 + 1))) B E).length + 0) (f := (upd (upd (upd (upd N (6 * (n 3) + 110) (nI (xd_in xs L i (n 0)))) (6 * (n 3) + 111) (nI (xd_in xs L (i + 1) 120 + 1))) (6 * (n 3) + 112) (nI (xd_in xs L (i + 2) 30 + 1))) 3 (nI (n 3 + 1)))) (ze_appL (k := 0) rfl) (i := 3) (by omega) (by decide) dL_isStore_118 ?_
    refine ze_top (ze_updat _ _ _) ?_
    refine lv_iconst (v := 1) hX_ hB_ dL_isStore_119 (by decide) ?_
    refine lv_isub hX_ hB_ dL_isStore_120 ?_
    refine ze_top (nI_pred (n 3)) ?_
    refine lv_icmp_ne (tgt := 128) hX_ hB_ dL_isStore_121 (by decide) (fun c121 => ?_) (fun c121 => ?_)
    · exact absurd rfl c121
    · have c121 : (n 3) = (n 3) := (nI_eq (a := (n 3)) (b := (n 3)) (by omega) (by omega)).mp c121
      refine lv_iconst (v := 1) hX_ hB_ dL_isStore_124 (by decide) ?_
      refine lv_goto (tgt := 129) hX_ hB_ dL_isStore_125 (by decide) ?_
      exact xb_iret (T := xd_T) ((va_up a (30 + n 3) qn), (ze_sn n 3 (n 3 + 1)), (ze_sE (ze_sE (ze_sE A 14 (n 3) (nI (xd_in xs L i (n 0)))) 15 (n 3) (nI (xd_in xs L (i + 1) 120 + 1))) 16 (n 3) (nI (xd_in xs L (i + 2) 30 + 1))), B, E, (upd (upd (upd (upd N (6 * (n 3) + 110) (nI (xd_in xs L i (n 0)))) (6 * (n 3) + 111) (nI (xd_in xs L (i + 1) 120 + 1))) (6 * (n 3) + 112) (nI (xd_in xs L (i + 2) 30 + 1))) 3 (nI (n 3 + 1)))) S hr hlocks hF hK hW rfl dL_isStore_129 (Nat.le_of_ble_eq_true rfl) (Nat.le_of_ble_eq_true rfl) ⟨rfl, ⟨(va_up_ne _ _ (by omega)), (xd_store hI (by omega) (by omega) (by omega) (by omega) (by omega) (by omega)), rfl, Nat.le_refl _, Nat.le_refl _⟩⟩ rfl
  · have c15 : (n 3) = 4 := (nI_eq (a := (n 3)) (b := 4) (by omega) (by omega)).mp c15
    refine lv_aload_n hX_ hB_ dL_isStore_18 rfl (lv_at hl 1 rfl) ?_
    refine lv_aload_n hX_ hB_ dL_isStore_19 rfl (lv_at hl 3 rfl) ?_
    refine lv_iload_n hX_ hB_ dL_isStore_20 rfl (lv_at hl 4 rfl) ?_
    refine lv_aload_n hX_ hB_ dL_isStore_21 rfl (lv_at hl 2 rfl) ?_
    refine lv_iconst (v := 0) hX_ hB_ dL_isStore_22 (by decide) ?_
    refine ze_ialdN hX_ hB_ hK hW ((ze_wC c a n A B E).length + 0) (f := N) (ze_appL (k := 0) rfl) (i := 0) (by omega) (by decide) dL_isStore_23 ?_
    refine ze_top (y := nI (n 0)) hR.1.1 ?_
    have hW : ze_W D (([] : va_W) ++ ((ze_wC c a n A B E) ++ [(q, .inl (c 0, 210, .inl N))])) F s.heap _ _ := hW
    refine xb_FSx (As := [.ref b, .int (nI i), .int (nI (n 0))]) (rest := [.ref (a 0)]) S (xj_in l D c b L xs hL i (by omega) (n 0) (by omega) (by omega)) (va_cwS 3 hts gL_isStore_L_in rfl rfl rfl (by decide +kernel) ⟨(Nat.le_of_ble_eq_true rfl), (Nat.le_of_ble_eq_true rfl)⟩) (Or.inr rfl) hG hK hW hA rfl hl.1 rfl (lv_room (Nat.le_of_ble_eq_true rfl)) dL_isStore_24 ⟨(Nat.le_of_ble_eq_true rfl), (Nat.le_of_ble_eq_true rfl)⟩ (fun H locs hW => ?_)
    have hv24 := xd_inlt (xs := xs) (L := L) (i := i) (k := n 0) (by omega)
    have hW : ze_W D ((ze_wC c a n A B E) ++ [(q, .inl (c 0, 210, .inl N))]) F s.heap _ _ := hW
    refine lv_iconst (v := 1) hX_ hB_ dL_isStore_27 (by decide) ?_
    refine lv_iconst (v := 1) hX_ hB_ dL_isStore_28 (by decide) ?_
    refine xb_FSq (As := [.ref (a 0), .int (nI (xd_in xs L i (n 0))), .int 1, .int 1]) (rest := []) S (xw_addStore_t3 l D hst c a n A B E (xd_in xs L i (n 0)) hN (by omega) 1 1 (by decide) (by decide) (by omega)) (vx_cwSW 4 hts gL_isStore_L_addStore rfl rfl rfl (by decide +kernel) ⟨(Nat.le_of_ble_eq_true rfl), (Nat.le_of_ble_eq_true rfl)⟩) hG hK hW hA rfl hl.1 rfl (lv_room (Nat.le_of_ble_eq_true rfl)) dL_isStore_29 ⟨(Nat.le_of_ble_eq_true rfl), (Nat.le_of_ble_eq_true rfl)⟩ (fun H locs hW => ?_)
    have hW : ze_W D ((ze_wC c a n A B E) ++ [(q, .inl (c 0, 210, .inl N))]) F s.heap _ _ := hW
    refine lv_ldc (own := RL) (v := -900003) hX_ hB_ S.2.2.2.1 w0 dL_isStore_32 ?_
    refine lv_icmp_ne (tgt := 41) hX_ hB_ dL_isStore_34 (by decide) (fun c34 => ?_) (fun c34 => ?_)
    · exact absurd c34 (by decide)
    · refine lv_iconst (v := 1) hX_ hB_ dL_isStore_37 (by decide) ?_
      refine lv_goto (tgt := 42) hX_ hB_ dL_isStore_38 (by decide) ?_
      exact xb_iret (T := xd_T) (a, n, A, B, E, N) S hr hlocks hF hK hW rfl dL_isStore_42 (Nat.le_of_ble_eq_true rfl) (Nat.le_of_ble_eq_true rfl) ⟨rfl, ⟨rfl, hI, rfl, Nat.le_refl _, Nat.le_refl _⟩⟩ rfl
