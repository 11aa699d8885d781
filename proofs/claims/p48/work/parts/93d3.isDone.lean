/-! ===== the law's longer methods over the object and the net ===== -/
set_option maxHeartbeats 8000000 in
set_option maxRecDepth 100000 in
theorem xj_isDone (l : Launch) (D : va_G) (hst : l.stackTraces = false) (c : Nat → ClassId) (q : Nat) (a n : Nat → Nat) (A : Nat → Nat → Int32) (B : Nat → Int64) (E : Nat → Nat → Int32) (N : Nat → Int32) (t : Nat) (hI : xd_I n A B E N t) (b L : Nat) (xs : Nat → Int32)  (hL : L ≤ 260) (i : Nat) (hi : i < 900) (h0 : 0 < n 0) (h2p : 1 ≤ n 2) (h4p : 1 ≤ n 4) (ht : t ≤ 200) : xb_M (T := xd_T) l yL_isDone wsL_isDone 10 213 18 108 D c (some (b, L, xs)) ((ze_wC c a n A B E) ++ [(q, .inl (c 0, 210, .inl N))]) [.ref (a 0), .ref q, .ref b, .int (nI i)] (fun r (u : xd_T) => r = 1 ∧ xd_P (a 0) n (t + 3) u) (fun u => xd_w c q u) := by
  intro sz
  refine xb_start (cc := cL_isDone) (maxL := 8) (ret := (some .boolean)) (own := RL) (by decide) rfl rfl (Nat.le_of_ble_eq_true rfl) ?_
  have hKc := xd_K hI
  have hH := xc_KH hKc
  obtain ⟨hV, hR, hPh, hY, hWu⟩ := id hI
  obtain ⟨hN, hS, hE, hz, h4, h4z, hT, hC, hKz, hZ, hp⟩ := id hV
  obtain ⟨hn0, hn1, hn2, hn3, hn4⟩ := id hN
  have hE1 := zv_hE hV
  intro p e s m_ below meth cd F ls hF hsz E0 hG
  obtain ⟨S, hr, hlocks, hK, hW, hA, hl⟩ := E0
  have hX_ := S.1
  have hB_ := S.2.1
  have hts := S.2.2.2.2
  have hl : lv_has ls 8 [(0, .ref (a 0)), (1, .ref q), (2, .ref b), (3, .int (nI i))] := hl
  refine lv_aload_n hX_ hB_ dL_isDone_0 rfl (lv_at hl 2 rfl) ?_
  refine lv_iload_n hX_ hB_ dL_isDone_1 rfl (lv_at hl 3 rfl) ?_
  refine lv_iconst (v := 1) hX_ hB_ dL_isDone_2 (by decide) ?_
  refine lv_iadd hX_ hB_ dL_isDone_3 ?_
  refine ze_top (xb_add (a := i) (b := 1) (c := i + 1) (by omega)) ?_
  refine lv_aload_n hX_ hB_ dL_isDone_4 rfl (lv_at hl 1 rfl) ?_
  refine lv_iconst (v := 2) hX_ hB_ dL_isDone_5 (by decide) ?_
  refine ze_ialdN hX_ hB_ hK hW ((ze_wC c a n A B E).length + 0) (f := N) (ze_appL (k := 0) rfl) (i := 2) (by omega) (by decide) dL_isDone_6 ?_
  refine ze_top (y := nI (n 2)) hR.1.2.2.1 ?_
  have hW : ze_W D (([] : va_W) ++ ((ze_wC c a n A B E) ++ [(q, .inl (c 0, 210, .inl N))])) F s.heap _ _ := hW
  refine xb_FSx (As := [.ref b, .int (nI (i + 1)), .int (nI (n 2))]) (rest := []) S (xj_in l D c b L xs hL (i + 1) (by omega) (n 2) (by omega) (by omega)) (va_cwS 3 hts gL_isDone_L_in rfl rfl rfl (by decide +kernel) ⟨(Nat.le_of_ble_eq_true rfl), (Nat.le_of_ble_eq_true rfl)⟩) (Or.inr rfl) hG hK hW hA rfl hl.1 rfl (lv_room (Nat.le_of_ble_eq_true rfl)) dL_isDone_7 ⟨(Nat.le_of_ble_eq_true rfl), (Nat.le_of_ble_eq_true rfl)⟩ (fun H locs hW => ?_)
  have hv7 := xd_inlt (xs := xs) (L := L) (i := i + 1) (k := n 2) (by omega)
  have hW : ze_W D ((ze_wC c a n A B E) ++ [(q, .inl (c 0, 210, .inl N))]) F s.heap _ _ := hW
  refine lv_istore (lv' := [(4, .int (nI (xd_in xs L (i + 1) (n 2)))), (0, .ref (a 0)), (1, .ref q), (2, .ref b), (3, .int (nI i))]) hX_ hB_ dL_isDone_10 hl (by decide) rfl (fun ls hl => ?_)
  refine lv_aload_n hX_ hB_ dL_isDone_12 rfl (lv_at hl 3 rfl) ?_
  refine lv_iload_n hX_ hB_ dL_isDone_13 rfl (lv_at hl 4 rfl) ?_
  refine lv_iconst (v := 1) hX_ hB_ dL_isDone_14 (by decide) ?_
  refine lv_iadd hX_ hB_ dL_isDone_15 ?_
  refine ze_top (xb_add (a := i) (b := 1) (c := i + 1) (by omega)) ?_
  refine lv_aload_n hX_ hB_ dL_isDone_16 rfl (lv_at hl 2 rfl) ?_
  refine lv_iconst (v := 0) hX_ hB_ dL_isDone_17 (by decide) ?_
  refine ze_ialdN hX_ hB_ hK hW ((ze_wC c a n A B E).length + 0) (f := N) (ze_appL (k := 0) rfl) (i := 0) (by omega) (by decide) dL_isDone_18 ?_
  refine ze_top (y := nI (n 0)) hR.1.1 ?_
  have hW : ze_W D (([] : va_W) ++ ((ze_wC c a n A B E) ++ [(q, .inl (c 0, 210, .inl N))])) F s.heap _ _ := hW
  refine xb_FSx (As := [.ref b, .int (nI (i + 1)), .int (nI (n 0))]) (rest := []) S (xj_in l D c b L xs hL (i + 1) (by omega) (n 0) (by omega) (by omega)) (va_cwS 3 hts gL_isDone_L_in rfl rfl rfl (by decide +kernel) ⟨(Nat.le_of_ble_eq_true rfl), (Nat.le_of_ble_eq_true rfl)⟩) (Or.inr rfl) hG hK hW hA rfl hl.1 rfl (lv_room (Nat.le_of_ble_eq_true rfl)) dL_isDone_19 ⟨(Nat.le_of_ble_eq_true rfl), (Nat.le_of_ble_eq_true rfl)⟩ (fun H locs hW => ?_)
  have hv19 := xd_inlt (xs := xs) (L := L) (i := i + 1) (k := n 0) (by omega)
  have hW : ze_W D ((ze_wC c a n A B E) ++ [(q, .inl (c 0, 210, .inl N))]) F s.heap _ _ := hW
  refine lv_istore (lv' := [(5, .int (nI (xd_in xs L (i + 1) (n 0)))), (4, .int (nI (xd_in xs L (i + 1) (n 2)))), (0, .ref (a 0)), (1, .ref q), (2, .ref b), (3, .int (nI i))]) hX_ hB_ dL_isDone_22 hl (by decide) rfl (fun ls hl => ?_)
  refine lv_aload_n hX_ hB_ dL_isDone_24 rfl (lv_at hl 4 rfl) ?_
  refine lv_iload_n hX_ hB_ dL_isDone_25 rfl (lv_at hl 5 rfl) ?_
  refine lv_bipush (v := 14) hX_ hB_ dL_isDone_26 (by decide) ?_
  have hW : ze_W D (([] : va_W) ++ ((ze_wC c a n A B E) ++ [(q, .inl (c 0, 210, .inl N))])) F s.heap _ _ := hW
  refine xb_FSx (As := [.ref b, .int (nI i), .int 14]) (rest := []) S (xj_in l D c b L xs hL i (by omega) 14 (by omega) (by omega)) (va_cwS 3 hts gL_isDone_L_in rfl rfl rfl (by decide +kernel) ⟨(Nat.le_of_ble_eq_true rfl), (Nat.le_of_ble_eq_true rfl)⟩) (Or.inr rfl) hG hK hW hA rfl hl.1 rfl (lv_room (Nat.le_of_ble_eq_true rfl)) dL_isDone_28 ⟨(Nat.le_of_ble_eq_true rfl), (Nat.le_of_ble_eq_true rfl)⟩ (fun H locs hW => ?_)
  have hv28 := xd_inlt (xs := xs) (L := L) (i := i) (k := 14) (by omega)
  have hW : ze_W D ((ze_wC c a n A B E) ++ [(q, .inl (c 0, 210, .inl N))]) F s.heap _ _ := hW
  have h31 : xd_in xs L i 14 = 0 ∨ xd_in xs L i 14 = 1 ∨ xd_in xs L i 14 = 2 ∨ xd_in xs L i 14 = 3 ∨ xd_in xs L i 14 = 4 ∨ xd_in xs L i 14 = 5 ∨ xd_in xs L i 14 = 6 ∨ xd_in xs L i 14 = 7 ∨ xd_in xs L i 14 = 8 ∨ xd_in xs L i 14 = 9 ∨ xd_in xs L i 14 = 10 ∨ xd_in xs L i 14 = 11 ∨ xd_in xs L i 14 = 12 ∨ xd_in xs L i 14 = 13 := by omega
  rcases h31 with h31 | h31 | h31 | h31 | h31 | h31 | h31 | h31 | h31 | h31 | h31 | h31 | h31 | h31
  · refine ze_top (y := nI 0) (by rw [h31]) ?_
    refine lv_tableIn (off := 61) (tgt := 92) hX_ hB_ dL_isDone_31 (by decide) (by decide) rfl (by decide) ?_
    refine lv_aload_n hX_ hB_ dL_isDone_92 rfl (lv_at hl 2 rfl) ?_
    refine lv_aload_n hX_ hB_ dL_isDone_93 rfl (lv_at hl 3 rfl) ?_
    refine lv_iload hX_ hB_ dL_isDone_94 (lv_at hl 1 rfl) ?_
    have hW := ze_W0 hW
    refine xb_FSm (As := [.ref (a 0), .ref q, .int (nI (xd_in xs L (i + 1) (n 2)))]) (rest := []) S (xj_isStarted l D hst c q a n A B E N t hI (xd_in xs L (i + 1) (n 2)) (by omega)) (va_cwS 3 hts gL_isDone_L_isStarted rfl rfl rfl (by decide +kernel) ⟨(Nat.le_of_ble_eq_true rfl), (Nat.le_of_ble_eq_true rfl)⟩) (Or.inl rfl) hG hK hW hA rfl hl.1 rfl (lv_room (Nat.le_of_ble_eq_true rfl)) dL_isDone_96 ⟨(Nat.le_of_ble_eq_true rfl), (Nat.le_of_ble_eq_true rfl)⟩ (fun r_ u9 hu9 H locs hW => ?_)
    obtain ⟨a9, n9, A9, B9, E9, N9⟩ := u9
    obtain ⟨hr9, ha9, hI9, hn9, h29, h49⟩ := hu9
    have ha9 : a9 0 = a 0 := ha9
    have hI9 : xd_I n9 A9 B9 E9 N9 (t) := hI9
    have hn9 : n9 0 = n 0 := hn9
    have h29 : n 2 ≤ n9 2 := h29
    have h49 : n 4 ≤ n9 4 := h49
    subst hr9
    have hW := ze_W0' hW
    have hW : ze_W D ((ze_wC c a9 n9 A9 B9 E9) ++ [(q, .inl (c 0, 210, .inl N9))]) F s.heap _ _ := hW
    exact xb_iret (T := xd_T) (a9, n9, A9, B9, E9, N9) S hr hlocks hF hK hW rfl dL_isDone_99 (Nat.le_of_ble_eq_true rfl) (Nat.le_of_ble_eq_true rfl) ⟨rfl, ⟨ha9, (xd_m hI9 (by omega)), hn9, h29, h49⟩⟩ rfl
  · refine ze_top (y := nI 1) (by rw [h31]) ?_
    refine lv_tableIn (off := 61) (tgt := 92) hX_ hB_ dL_isDone_31 (by decide) (by decide) rfl (by decide) ?_
    refine lv_aload_n hX_ hB_ dL_isDone_92 rfl (lv_at hl 2 rfl) ?_
    refine lv_aload_n hX_ hB_ dL_isDone_93 rfl (lv_at hl 3 rfl) ?_
    refine lv_iload hX_ hB_ dL_isDone_94 (lv_at hl 1 rfl) ?_
    have hW := ze_W0 hW
    refine xb_FSm (As := [.ref (a 0), .ref q, .int (nI (xd_in xs L (i + 1) (n 2)))]) (rest := []) S (xj_isStarted l D hst c q a n A B E N t hI (xd_in xs L (i + 1) (n 2)) (by omega)) (va_cwS 3 hts gL_isDone_L_isStarted rfl rfl rfl (by decide +kernel) ⟨(Nat.le_of_ble_eq_true rfl), (Nat.le_of_ble_eq_true rfl)⟩) (Or.inl rfl) hG hK hW hA rfl hl.1 rfl (lv_room (Nat.le_of_ble_eq_true rfl)) dL_isDone_96 ⟨(Nat.le_of_ble_eq_true rfl), (Nat.le_of_ble_eq_true rfl)⟩ (fun r_ u9 hu9 H locs hW => ?_)
    obtain ⟨a9, n9, A9, B9, E9, N9⟩ := u9
    obtain ⟨hr9, ha9, hI9, hn9, h29, h49⟩ := hu9
    have ha9 : a9 0 = a 0 := ha9
    have hI9 : xd_I n9 A9 B9 E9 N9 (t) := hI9
    have hn9 : n9 0 = n 0 := hn9
    have h29 : n 2 ≤ n9 2 := h29
    have h49 : n 4 ≤ n9 4 := h49
    subst hr9
    have hW := ze_W0' hW
    have hW : ze_W D ((ze_wC c a9 n9 A9 B9 E9) ++ [(q, .inl (c 0, 210, .inl N9))]) F s.heap _ _ := hW
    exact xb_iret (T := xd_T) (a9, n9, A9, B9, E9, N9) S hr hlocks hF hK hW rfl dL_isDone_99 (Nat.le_of_ble_eq_true rfl) (Nat.le_of_ble_eq_true rfl) ⟨rfl, ⟨ha9, (xd_m hI9 (by omega)), hn9, h29, h49⟩⟩ rfl
  · refine ze_top (y := nI 2) (by rw [h31]) ?_
    refine lv_tableIn (off := 61) (tgt := 92) hX_ hB_ dL_isDone_31 (by decide) (by decide) rfl (by decide) ?_
    refine lv_aload_n hX_ hB_ dL_isDone_92 rfl (lv_at hl 2 rfl) ?_
    refine lv_aload_n hX_ hB_ dL_isDone_93 rfl (lv_at hl 3 rfl) ?_
    refine lv_iload hX_ hB_ dL_isDone_94 (lv_at hl 1 rfl) ?_
    have hW := ze_W0 hW
    refine xb_FSm (As := [.ref (a 0), .ref q, .int (nI (xd_in xs L (i + 1) (n 2)))]) (rest := []) S (xj_isStarted l D hst c q a n A B E N t hI (xd_in xs L (i + 1) (n 2)) (by omega)) (va_cwS 3 hts gL_isDone_L_isStarted rfl rfl rfl (by decide +kernel) ⟨(Nat.le_of_ble_eq_true rfl), (Nat.le_of_ble_eq_true rfl)⟩) (Or.inl rfl) hG hK hW hA rfl hl.1 rfl (lv_room (Nat.le_of_ble_eq_true rfl)) dL_isDone_96 ⟨(Nat.le_of_ble_eq_true rfl), (Nat.le_of_ble_eq_true rfl)⟩ (fun r_ u9 hu9 H locs hW => ?_)
    obtain ⟨a9, n9, A9, B9, E9, N9⟩ := u9
    obtain ⟨hr9, ha9, hI9, hn9, h29, h49⟩ := hu9
    have ha9 : a9 0 = a 0 := ha9
    have hI9 : xd_I n9 A9 B9 E9 N9 (t) := hI9
    have hn9 : n9 0 = n 0 := hn9
    have h29 : n 2 ≤ n9 2 := h29
    have h49 : n 4 ≤ n9 4 := h49
    subst hr9
    have hW := ze_W0' hW
    have hW : ze_W D ((ze_wC c a9 n9 A9 B9 E9) ++ [(q, .inl (c 0, 210, .inl N9))]) F s.heap _ _ := hW
    exact xb_iret (T := xd_T) (a9, n9, A9, B9, E9, N9) S hr hlocks hF hK hW rfl dL_isDone_99 (Nat.le_of_ble_eq_true rfl) (Nat.le_of_ble_eq_true rfl) ⟨rfl, ⟨ha9, (xd_m hI9 (by omega)), hn9, h29, h49⟩⟩ rfl
  · refine ze_top (y := nI 3) (by rw [h31]) ?_
    refine lv_tableIn (off := 69) (tgt := 100) hX_ hB_ dL_isDone_31 (by decide) (by decide) rfl (by decide) ?_
    refine lv_aload_n hX_ hB_ dL_isDone_100 rfl (lv_at hl 2 rfl) ?_
    refine lv_aload_n hX_ hB_ dL_isDone_101 rfl (lv_at hl 3 rfl) ?_
    refine lv_iload hX_ hB_ dL_isDone_102 (lv_at hl 0 rfl) ?_
    have hW := ze_W0 hW
    refine xb_FSm (As := [.ref (a 0), .ref q, .int (nI (xd_in xs L (i + 1) (n 0)))]) (rest := []) S (xj_isNext l D hst c q a n A B E N t hI (xd_in xs L (i + 1) (n 0)) (by omega)) (va_cwS 3 hts gL_isDone_L_isNext rfl rfl rfl (by decide +kernel) ⟨(Nat.le_of_ble_eq_true rfl), (Nat.le_of_ble_eq_true rfl)⟩) (Or.inl rfl) hG hK hW hA rfl hl.1 rfl (lv_room (Nat.le_of_ble_eq_true rfl)) dL_isDone_104 ⟨(Nat.le_of_ble_eq_true rfl), (Nat.le_of_ble_eq_true rfl)⟩ (fun r_ u9 hu9 H locs hW => ?_)
    obtain ⟨a9, n9, A9, B9, E9, N9⟩ := u9
    obtain ⟨hr9, ha9, hI9, hn9, h29, h49⟩ := hu9
    have ha9 : a9 0 = a 0 := ha9
    have hI9 : xd_I n9 A9 B9 E9 N9 (t) := hI9
    have hn9 : n9 0 = n 0 := hn9
    have h29 : n 2 ≤ n9 2 := h29
    have h49 : n 4 ≤ n9 4 := h49
    subst hr9
    have hW := ze_W0' hW
    have hW : ze_W D ((ze_wC c a9 n9 A9 B9 E9) ++ [(q, .inl (c 0, 210, .inl N9))]) F s.heap _ _ := hW
    exact xb_iret (T := xd_T) (a9, n9, A9, B9, E9, N9) S hr hlocks hF hK hW rfl dL_isDone_107 (Nat.le_of_ble_eq_true rfl) (Nat.le_of_ble_eq_true rfl) ⟨rfl, ⟨ha9, (xd_m hI9 (by omega)), hn9, h29, h49⟩⟩ rfl
  · refine ze_top (y := nI 4) (by rw [h31]) ?_
    refine lv_tableIn (off := 77) (tgt := 108) hX_ hB_ dL_isDone_31 (by decide) (by decide) rfl (by decide) ?_
    refine lv_aload_n hX_ hB_ dL_isDone_108 rfl (lv_at hl 3 rfl) ?_
    refine lv_bipush (v := 54) hX_ hB_ dL_isDone_109 (by decide) ?_
    refine lv_bipush (v := 9) hX_ hB_ dL_isDone_111 (by decide) ?_
    refine lv_iload hX_ hB_ dL_isDone_113 (lv_at hl 1 rfl) ?_
    refine lv_imul hX_ hB_ dL_isDone_115 ?_
    refine ze_top (xb_mul (a := 9) (b := xd_in xs L (i + 1) (n 2)) (c := 9 * (xd_in xs L (i + 1) (n 2))) (by omega)) ?_
    refine lv_iadd hX_ hB_ dL_isDone_116 ?_
    refine ze_top (xb_add (a := 54) (b := 9 * (xd_in xs L (i + 1) (n 2))) (c := 9 * (xd_in xs L (i + 1) (n 2)) + 54) (by omega)) ?_
    refine lv_dup2_11 hX_ hB_ dL_isDone_117 rfl rfl ?_
    refine ze_ialdN hX_ hB_ hK hW ((ze_wC c a n A B E).length + 0) (f := N) (ze_appL (k := 0) rfl) (i := 9 * (xd_in xs L (i + 1) (n 2)) + 54) (by omega) (by decide) dL_isDone_118 ?_
    refine ze_top (y := A 10 (xd_in xs L (i + 1) (n 2))) (hR.2.2.2.1.1 (xd_in xs L (i + 1) (n 2)) (by omega)).2.2.2.2.1 ?_
    refine lv_iconst (v := 1) hX_ hB_ dL_isDone_119 (by decide) ?_
    refine lv_aload_n hX_ hB_ dL_isDone_120 rfl (lv_at hl 4 rfl) ?_
    refine lv_iload_n hX_ hB_ dL_isDone_121 rfl (lv_at hl 5 rfl) ?_
    refine lv_iconst (v := 2) hX_ hB_ dL_isDone_122 (by decide) ?_
    refine lv_iadd hX_ hB_ dL_isDone_123 ?_
    refine ze_top (xb_add (a := i) (b := 2) (c := i + 2) (by omega)) ?_
    refine lv_sipush (v := 300) hX_ hB_ dL_isDone_124 (by decide) ?_
    have hW : ze_W D (([] : va_W) ++ ((ze_wC c a n A B E) ++ [(q, .inl (c 0, 210, .inl N))])) F s.heap _ _ := hW
    refine xb_FSx (As := [.ref b, .int (nI (i + 2)), .int 300]) (rest := [.int 1, .int (A 10 (xd_in xs L (i + 1) (n 2))), .int (nI (9 * (xd_in xs L (i + 1) (n 2)) + 54)), .ref q]) S (xj_in l D c b L xs hL (i + 2) (by omega) 300 (by omega) (by omega)) (va_cwS 3 hts gL_isDone_L_in rfl rfl rfl (by decide +kernel) ⟨(Nat.le_of_ble_eq_true rfl), (Nat.le_of_ble_eq_true rfl)⟩) (Or.inr rfl) hG hK hW hA rfl hl.1 rfl (lv_room (Nat.le_of_ble_eq_true rfl)) dL_isDone_127 ⟨(Nat.le_of_ble_eq_true rfl), (Nat.le_of_ble_eq_true rfl)⟩ (fun H locs hW => ?_)
    have hv127 := xd_inlt (xs := xs) (L := L) (i := i + 2) (k := 300) (by omega)
    have hW : ze_W D ((ze_wC c a n A B E) ++ [(q, .inl (c 0, 210, .inl N))]) F s.heap _ _ := hW
    refine lv_iadd hX_ hB_ dL_isDone_130 ?_
    refine ze_top (xb_add (a := 1) (b := xd_in xs L (i + 2) 300) (c := xd_in xs L (i + 2) 300 + 1) (by omega)) ?_
    refine lv_iadd hX_ hB_ dL_isDone_131 ?_
    refine ze_iastN hX_ hB_ hK hW ((ze_wC c a n A B E).length + 0) (f := N) (ze_appL (k := 0) rfl) (i := 9 * (xd_in xs L (i + 1) (n 2)) + 54) (by omega) (by decide) dL_isDone_132 (ze_appset rfl) (fun H locs hW => ?_)
    have hW : ze_W D ((ze_wC c a n A B E) ++ [(q, .inl (c 0, 210, .inl (upd N (9 * (xd_in xs L (i + 1) (n 2)) + 54) (A 10 (xd_in xs L (i + 1) (n 2)) + nI (xd_in xs L (i + 2) 300 + 1)))))]) F s.heap _ _ := hW
    have hr8 := xd_refuel hI ht (g := xd_in xs L (i + 1) (n 2)) (z := xd_in xs L (i + 2) 300 + 1) (by omega) (by omega) (by omega)
    refine lv_aload_n hX_ hB_ dL_isDone_133 rfl (lv_at hl 2 rfl) ?_
    refine lv_iload hX_ hB_ dL_isDone_134 (lv_at hl 1 rfl) ?_
    refine lv_iconst (v := 1) hX_ hB_ dL_isDone_136 (by decide) ?_
    refine lv_aload_n hX_ hB_ dL_isDone_137 rfl (lv_at hl 4 rfl) ?_
    refine lv_iload_n hX_ hB_ dL_isDone_138 rfl (lv_at hl 5 rfl) ?_
    refine lv_iconst (v := 2) hX_ hB_ dL_isDone_139 (by decide) ?_
    refine lv_iadd hX_ hB_ dL_isDone_140 ?_
    refine ze_top (xb_add (a := i) (b := 2) (c := i + 2) (by omega)) ?_
    refine lv_sipush (v := 300) hX_ hB_ dL_isDone_141 (by decide) ?_
    have hW : ze_W D (([] : va_W) ++ ((ze_wC c a n A B E) ++ [(q, .inl (c 0, 210, .inl (upd N (9 * (xd_in xs L (i + 1) (n 2)) + 54) (A 10 (xd_in xs L (i + 1) (n 2)) + nI (xd_in xs L (i + 2) 300 + 1)))))])) F s.heap _ _ := hW
    refine xb_FSx (As := [.ref b, .int (nI (i + 2)), .int 300]) (rest := [.int 1, .int (nI (xd_in xs L (i + 1) (n 2))), .ref (a 0)]) S (xj_in l D c b L xs hL (i + 2) (by omega) 300 (by omega) (by omega)) (va_cwS 3 hts gL_isDone_L_in rfl rfl rfl (by decide +kernel) ⟨(Nat.le_of_ble_eq_true rfl), (Nat.le_of_ble_eq_true rfl)⟩) (Or.inr rfl) hG hK hW hA rfl hl.1 rfl (lv_room (Nat.le_of_ble_eq_true rfl)) dL_isDone_144 ⟨(Nat.le_of_ble_eq_true rfl), (Nat.le_of_ble_eq_true rfl)⟩ (fun H locs hW => ?_)
    have hv144 := xd_inlt (xs := xs) (L := L) (i := i + 2) (k := 300) (by omega)
    have hW : ze_W D ((ze_wC c a n A B E) ++ [(q, .inl (c 0, 210, .inl (upd N (9 * (xd_in xs L (i + 1) (n 2)) + 54) (A 10 (xd_in xs L (i + 1) (n 2)) + nI (xd_in xs L (i + 2) 300 + 1)))))]) F s.heap _ _ := hW
    refine lv_iadd hX_ hB_ dL_isDone_147 ?_
    refine ze_top (xb_add (a := 1) (b := xd_in xs L (i + 2) 300) (c := xd_in xs L (i + 2) 300 + 1) (by omega)) ?_
    refine xb_FSq (As := [.ref (a 0), .int (nI (xd_in xs L (i + 1) (n 2))), .int (nI (xd_in xs L (i + 2) 300 + 1))]) (rest := []) S (xw_refuel_f l D c a n A B E (xd_in xs L (i + 1) (n 2)) hN (by omega) (nI (xd_in xs L (i + 2) 300 + 1)) hr8.2.1 hr8.2.2) (vx_cwSW 3 hts gL_isDone_L_refuel rfl rfl rfl (by decide +kernel) ⟨(Nat.le_of_ble_eq_true rfl), (Nat.le_of_ble_eq_true rfl)⟩) hG hK hW hA rfl hl.1 rfl (lv_room (Nat.le_of_ble_eq_true rfl)) dL_isDone_148 ⟨(Nat.le_of_ble_eq_true rfl), (Nat.le_of_ble_eq_true rfl)⟩ (fun H locs hW => ?_)
    have hW : ze_W D ((ze_wC c a n (ze_sE A 10 (xd_in xs L (i + 1) (n 2)) (A 10 (xd_in xs L (i + 1) (n 2)) + (nI (xd_in xs L (i + 2) 300 + 1)))) B E) ++ [(q, .inl (c 0, 210, .inl (upd N (9 * (xd_in xs L (i + 1) (n 2)) + 54) (A 10 (xd_in xs L (i + 1) (n 2)) + nI (xd_in xs L (i + 2) 300 + 1)))))]) F s.heap _ _ := hW
    refine ze_top (y := A 10 (xd_in xs L (i + 1) (n 2)) + nI (xd_in xs L (i + 2) 300 + 1)) rfl ?_
    refine lv_aload_n hX_ hB_ dL_isDone_151 rfl (lv_at hl 3 rfl) ?_
    refine lv_bipush (v := 54) hX_ hB_ dL_isDone_152 (by decide) ?_
    refine lv_bipush (v := 9) hX_ hB_ dL_isDone_154 (by decide) ?_
    refine lv_iload hX_ hB_ dL_isDone_156 (lv_at hl 1 rfl) ?_
    refine lv_imul hX_ hB_ dL_isDone_158 ?_
    refine ze_top (xb_mul (a := 9) (b := xd_in xs L (i + 1) (n 2)) (c := 9 * (xd_in xs L (i + 1) (n 2))) (by omega)) ?_
    refine lv_iadd hX_ hB_ dL_isDone_159 ?_
    refine ze_top (xb_add (a := 54) (b := 9 * (xd_in xs L (i + 1) (n 2))) (c := 9 * (xd_in xs L (i + 1) (n 2)) + 54) (by omega)) ?_
    refine ze_ialdN hX_ hB_ hK hW ((ze_wC c a n (ze_sE A 10 (xd_in xs L (i + 1) (n 2)) (A 10 (xd_in xs L (i + 1) (n 2)) + (nI (xd_in xs L (i + 2) 300 + 1)))) B E).length + 0) (f := (upd N (9 * (xd_in xs L (i + 1) (n 2)) + 54) (A 10 (xd_in xs L (i + 1) (n 2)) + nI (xd_in xs L (i + 2) 300 + 1)))) (ze_appL (k := 0) rfl) (i := 9 * (xd_in xs L (i + 1) (n 2)) + 54) (by omega) (by decide) dL_isDone_160 ?_
    refine ze_top (ze_updat _ _ _) ?_
    refine lv_icmp_ne (tgt := 168) hX_ hB_ dL_isDone_161 (by decide) (fun c161 => ?_) (fun c161 => ?_)
    · exact absurd rfl c161
    · refine lv_iconst (v := 1) hX_ hB_ dL_isDone_164 (by decide) ?_
      refine lv_goto (tgt := 169) hX_ hB_ dL_isDone_165 (by decide) ?_
      exact xb_iret (T := xd_T) (a, n, (ze_sE A 10 (xd_in xs L (i + 1) (n 2)) (A 10 (xd_in xs L (i + 1) (n 2)) + (nI (xd_in xs L (i + 2) 300 + 1)))), B, E, (upd N (9 * (xd_in xs L (i + 1) (n 2)) + 54) (A 10 (xd_in xs L (i + 1) (n 2)) + nI (xd_in xs L (i + 2) 300 + 1)))) S hr hlocks hF hK hW rfl dL_isDone_169 (Nat.le_of_ble_eq_true rfl) (Nat.le_of_ble_eq_true rfl) ⟨rfl, ⟨rfl, hr8.1, rfl, Nat.le_refl _, Nat.le_refl _⟩⟩ rfl
  · refine ze_top (y := nI 5) (by rw [h31]) ?_
    refine lv_tableIn (off := 139) (tgt := 170) hX_ hB_ dL_isDone_31 (by decide) (by decide) rfl (by decide) ?_
    refine lv_aload_n hX_ hB_ dL_isDone_170 rfl (lv_at hl 3 rfl) ?_
    refine lv_iconst (v := 1) hX_ hB_ dL_isDone_171 (by decide) ?_
    refine ze_ialdN hX_ hB_ hK hW ((ze_wC c a n A B E).length + 0) (f := N) (ze_appL (k := 0) rfl) (i := 1) (by omega) (by decide) dL_isDone_172 ?_
    refine ze_top (y := nI (n 1)) hR.1.2.1 ?_
    refine lv_if_eq (tgt := 194) hX_ hB_ dL_isDone_173 (by decide) (fun c173 => ?_) (fun c173 => ?_)
    · have c173 : (n 1) = 0 := (nI_eq (a := (n 1)) (b := 0) (by omega) (by omega)).mp c173
      refine lv_iconst (v := 1) hX_ hB_ dL_isDone_194 (by decide) ?_
      refine lv_goto (tgt := 199) hX_ hB_ dL_isDone_195 (by decide) ?_
      exact xb_iret (T := xd_T) (a, n, A, B, E, N) S hr hlocks hF hK hW rfl dL_isDone_199 (Nat.le_of_ble_eq_true rfl) (Nat.le_of_ble_eq_true rfl) ⟨rfl, ⟨rfl, (xd_m hI (by omega)), rfl, Nat.le_refl _, Nat.le_refl _⟩⟩ rfl
    · have c173 : ¬ (n 1) = 0 := fun h9 => c173 ((nI_eq (a := (n 1)) (b := 0) (by omega) (by omega)).mpr h9)
      refine lv_aload_n hX_ hB_ dL_isDone_176 rfl (lv_at hl 2 rfl) ?_
      refine lv_aload_n hX_ hB_ dL_isDone_177 rfl (lv_at hl 3 rfl) ?_
      refine lv_aload_n hX_ hB_ dL_isDone_178 rfl (lv_at hl 4 rfl) ?_
      refine lv_iload_n hX_ hB_ dL_isDone_179 rfl (lv_at hl 5 rfl) ?_
      refine lv_iconst (v := 1) hX_ hB_ dL_isDone_180 (by decide) ?_
      refine lv_iadd hX_ hB_ dL_isDone_181 ?_
      refine ze_top (xb_add (a := i) (b := 1) (c := i + 1) (by omega)) ?_
      refine lv_aload_n hX_ hB_ dL_isDone_182 rfl (lv_at hl 3 rfl) ?_
      refine lv_iconst (v := 1) hX_ hB_ dL_isDone_183 (by decide) ?_
      refine ze_ialdN hX_ hB_ hK hW ((ze_wC c a n A B E).length + 0) (f := N) (ze_appL (k := 0) rfl) (i := 1) (by omega) (by decide) dL_isDone_184 ?_
      refine ze_top (y := nI (n 1)) hR.1.2.1 ?_
      have hW : ze_W D (([] : va_W) ++ ((ze_wC c a n A B E) ++ [(q, .inl (c 0, 210, .inl N))])) F s.heap _ _ := hW
      refine xb_FSx (As := [.ref b, .int (nI (i + 1)), .int (nI (n 1))]) (rest := [.ref q, .ref (a 0)]) S (xj_in l D c b L xs hL (i + 1) (by omega) (n 1) (by omega) (by omega)) (va_cwS 3 hts gL_isDone_L_in rfl rfl rfl (by decide +kernel) ⟨(Nat.le_of_ble_eq_true rfl), (Nat.le_of_ble_eq_true rfl)⟩) (Or.inr rfl) hG hK hW hA rfl hl.1 rfl (lv_room (Nat.le_of_ble_eq_true rfl)) dL_isDone_185 ⟨(Nat.le_of_ble_eq_true rfl), (Nat.le_of_ble_eq_true rfl)⟩ (fun H locs hW => ?_)
      have hv185 := xd_inlt (xs := xs) (L := L) (i := i + 1) (k := n 1) (by omega)
      have hW : ze_W D ((ze_wC c a n A B E) ++ [(q, .inl (c 0, 210, .inl N))]) F s.heap _ _ := hW
      have hW := ze_W0 hW
      refine xb_FSm (As := [.ref (a 0), .ref q, .int (nI (xd_in xs L (i + 1) (n 1)))]) (rest := []) S (xj_isSwitched l D hst c q a n A B E N t hI (xd_in xs L (i + 1) (n 1)) (by omega)) (va_cwS 3 hts gL_isDone_L_isSwitched rfl rfl rfl (by decide +kernel) ⟨(Nat.le_of_ble_eq_true rfl), (Nat.le_of_ble_eq_true rfl)⟩) (Or.inl rfl) hG hK hW hA rfl hl.1 rfl (lv_room (Nat.le_of_ble_eq_true rfl)) dL_isDone_188 ⟨(Nat.le_of_ble_eq_true rfl), (Nat.le_of_ble_eq_true rfl)⟩ (fun r_ u9 hu9 H locs hW => ?_)
      obtain ⟨a9, n9, A9, B9, E9, N9⟩ := u9
      obtain ⟨hr9, ha9, hI9, hn9, h29, h49⟩ := hu9
      have ha9 : a9 0 = a 0 := ha9
      have hI9 : xd_I n9 A9 B9 E9 N9 (t) := hI9
      have hn9 : n9 0 = n 0 := hn9
      have h29 : n 2 ≤ n9 2 := h29
      have h49 : n 4 ≤ n9 4 := h49
      subst hr9
      have hW := ze_W0' hW
      have hW : ze_W D ((ze_wC c a9 n9 A9 B9 E9) ++ [(q, .inl (c 0, 210, .inl N9))]) F s.heap _ _ := hW
      refine lv_if_eq (tgt := 198) hX_ hB_ dL_isDone_191 (by decide) (fun c191 => ?_) (fun c191 => ?_)
      · exact absurd c191 (by decide)
      · refine lv_iconst (v := 1) hX_ hB_ dL_isDone_194 (by decide) ?_
        refine lv_goto (tgt := 199) hX_ hB_ dL_isDone_195 (by decide) ?_
        exact xb_iret (T := xd_T) (a9, n9, A9, B9, E9, N9) S hr hlocks hF hK hW rfl dL_isDone_199 (Nat.le_of_ble_eq_true rfl) (Nat.le_of_ble_eq_true rfl) ⟨rfl, ⟨ha9, (xd_m hI9 (by omega)), hn9, h29, h49⟩⟩ rfl
  · refine ze_top (y := nI 6) (by rw [h31]) ?_
    refine lv_tableIn (off := 139) (tgt := 170) hX_ hB_ dL_isDone_31 (by decide) (by decide) rfl (by decide) ?_
    refine lv_aload_n hX_ hB_ dL_isDone_170 rfl (lv_at hl 3 rfl) ?_
    refine lv_iconst (v := 1) hX_ hB_ dL_isDone_171 (by decide) ?_
    refine ze_ialdN hX_ hB_ hK hW ((ze_wC c a n A B E).length + 0) (f := N) (ze_appL (k := 0) rfl) (i := 1) (by omega) (by decide) dL_isDone_172 ?_
    refine ze_top (y := nI (n 1)) hR.1.2.1 ?_
    refine lv_if_eq (tgt := 194) hX_ hB_ dL_isDone_173 (by decide) (fun c173 => ?_) (fun c173 => ?_)
    · have c173 : (n 1) = 0 := (nI_eq (a := (n 1)) (b := 0) (by omega) (by omega)).mp c173
      refine lv_iconst (v := 1) hX_ hB_ dL_isDone_194 (by decide) ?_
      refine lv_goto (tgt := 199) hX_ hB_ dL_isDone_195 (by decide) ?_
      exact xb_iret (T := xd_T) (a, n, A, B, E, N) S hr hlocks hF hK hW rfl dL_isDone_199 (Nat.le_of_ble_eq_true rfl) (Nat.le_of_ble_eq_true rfl) ⟨rfl, ⟨rfl, (xd_m hI (by omega)), rfl, Nat.le_refl _, Nat.le_refl _⟩⟩ rfl
    · have c173 : ¬ (n 1) = 0 := fun h9 => c173 ((nI_eq (a := (n 1)) (b := 0) (by omega) (by omega)).mpr h9)
      refine lv_aload_n hX_ hB_ dL_isDone_176 rfl (lv_at hl 2 rfl) ?_
      refine lv_aload_n hX_ hB_ dL_isDone_177 rfl (lv_at hl 3 rfl) ?_
      refine lv_aload_n hX_ hB_ dL_isDone_178 rfl (lv_at hl 4 rfl) ?_
      refine lv_iload_n hX_ hB_ dL_isDone_179 rfl (lv_at hl 5 rfl) ?_
      refine lv_iconst (v := 1) hX_ hB_ dL_isDone_180 (by decide) ?_
      refine lv_iadd hX_ hB_ dL_isDone_181 ?_
      refine ze_top (xb_add (a := i) (b := 1) (c := i + 1) (by omega)) ?_
      refine lv_aload_n hX_ hB_ dL_isDone_182 rfl (lv_at hl 3 rfl) ?_
      refine lv_iconst (v := 1) hX_ hB_ dL_isDone_183 (by decide) ?_
      refine ze_ialdN hX_ hB_ hK hW ((ze_wC c a n A B E).length + 0) (f := N) (ze_appL (k := 0) rfl) (i := 1) (by omega) (by decide) dL_isDone_184 ?_
      refine ze_top (y := nI (n 1)) hR.1.2.1 ?_
      have hW : ze_W D (([] : va_W) ++ ((ze_wC c a n A B E) ++ [(q, .inl (c 0, 210, .inl N))])) F s.heap _ _ := hW
      refine xb_FSx (As := [.ref b, .int (nI (i + 1)), .int (nI (n 1))]) (rest := [.ref q, .ref (a 0)]) S (xj_in l D c b L xs hL (i + 1) (by omega) (n 1) (by omega) (by omega)) (va_cwS 3 hts gL_isDone_L_in rfl rfl rfl (by decide +kernel) ⟨(Nat.le_of_ble_eq_true rfl), (Nat.le_of_ble_eq_true rfl)⟩) (Or.inr rfl) hG hK hW hA rfl hl.1 rfl (lv_room (Nat.le_of_ble_eq_true rfl)) dL_isDone_185 ⟨(Nat.le_of_ble_eq_true rfl), (Nat.le_of_ble_eq_true rfl)⟩ (fun H locs hW => ?_)
      have hv185 := xd_inlt (xs := xs) (L := L) (i := i + 1) (k := n 1) (by omega)
      have hW : ze_W D ((ze_wC c a n A B E) ++ [(q, .inl (c 0, 210, .inl N))]) F s.heap _ _ := hW
      have hW := ze_W0 hW
      refine xb_FSm (As := [.ref (a 0), .ref q, .int (nI (xd_in xs L (i + 1) (n 1)))]) (rest := []) S (xj_isSwitched l D hst c q a n A B E N t hI (xd_in xs L (i + 1) (n 1)) (by omega)) (va_cwS 3 hts gL_isDone_L_isSwitched rfl rfl rfl (by decide +kernel) ⟨(Nat.le_of_ble_eq_true rfl), (Nat.le_of_ble_eq_true rfl)⟩) (Or.inl rfl) hG hK hW hA rfl hl.1 rfl (lv_room (Nat.le_of_ble_eq_true rfl)) dL_isDone_188 ⟨(Nat.le_of_ble_eq_true rfl), (Nat.le_of_ble_eq_true rfl)⟩ (fun r_ u9 hu9 H locs hW => ?_)
      obtain ⟨a9, n9, A9, B9, E9, N9⟩ := u9
      obtain ⟨hr9, ha9, hI9, hn9, h29, h49⟩ := hu9
      have ha9 : a9 0 = a 0 := ha9
      have hI9 : xd_I n9 A9 B9 E9 N9 (t) := hI9
      have hn9 : n9 0 = n 0 := hn9
      have h29 : n 2 ≤ n9 2 := h29
      have h49 : n 4 ≤ n9 4 := h49
      subst hr9
      have hW := ze_W0' hW
      have hW : ze_W D ((ze_wC c a9 n9 A9 B9 E9) ++ [(q, .inl (c 0, 210, .inl N9))]) F s.heap _ _ := hW
      refine lv_if_eq (tgt := 198) hX_ hB_ dL_isDone_191 (by decide) (fun c191 => ?_) (fun c191 => ?_)
      · exact absurd c191 (by decide)
      · refine lv_iconst (v := 1) hX_ hB_ dL_isDone_194 (by decide) ?_
        refine lv_goto (tgt := 199) hX_ hB_ dL_isDone_195 (by decide) ?_
        exact xb_iret (T := xd_T) (a9, n9, A9, B9, E9, N9) S hr hlocks hF hK hW rfl dL_isDone_199 (Nat.le_of_ble_eq_true rfl) (Nat.le_of_ble_eq_true rfl) ⟨rfl, ⟨ha9, (xd_m hI9 (by omega)), hn9, h29, h49⟩⟩ rfl
  · refine ze_top (y := nI 7) (by rw [h31]) ?_
    refine lv_tableIn (off := 169) (tgt := 200) hX_ hB_ dL_isDone_31 (by decide) (by decide) rfl (by decide) ?_
    refine lv_aload_n hX_ hB_ dL_isDone_200 rfl (lv_at hl 2 rfl) ?_
    refine lv_aload_n hX_ hB_ dL_isDone_201 rfl (lv_at hl 3 rfl) ?_
    have hW := ze_W0 hW
    refine xb_FSm (As := [.ref (a 0), .ref q]) (rest := []) S (xj_isTied l D hst c q a n A B E N t hI h0) (va_cwS 2 hts gL_isDone_L_isTied rfl rfl rfl (by decide +kernel) ⟨(Nat.le_of_ble_eq_true rfl), (Nat.le_of_ble_eq_true rfl)⟩) (Or.inl rfl) hG hK hW hA rfl hl.1 rfl (lv_room (Nat.le_of_ble_eq_true rfl)) dL_isDone_202 ⟨(Nat.le_of_ble_eq_true rfl), (Nat.le_of_ble_eq_true rfl)⟩ (fun r_ u9 hu9 H locs hW => ?_)
    obtain ⟨a9, n9, A9, B9, E9, N9⟩ := u9
    obtain ⟨hr9, ha9, hI9, hn9, h29, h49⟩ := hu9
    have ha9 : a9 0 = a 0 := ha9
    have hI9 : xd_I n9 A9 B9 E9 N9 (t) := hI9
    have hn9 : n9 0 = n 0 := hn9
    have h29 : n 2 ≤ n9 2 := h29
    have h49 : n 4 ≤ n9 4 := h49
    subst hr9
    have hW := ze_W0' hW
    have hW : ze_W D ((ze_wC c a9 n9 A9 B9 E9) ++ [(q, .inl (c 0, 210, .inl N9))]) F s.heap _ _ := hW
    exact xb_iret (T := xd_T) (a9, n9, A9, B9, E9, N9) S hr hlocks hF hK hW rfl dL_isDone_205 (Nat.le_of_ble_eq_true rfl) (Nat.le_of_ble_eq_true rfl) ⟨rfl, ⟨ha9, (xd_m hI9 (by omega)), hn9, h29, h49⟩⟩ rfl
  · refine ze_top (y := nI 8) (by rw [h31]) ?_
    refine lv_tableIn (off := 175) (tgt := 206) hX_ hB_ dL_isDone_31 (by decide) (by decide) rfl (by decide) ?_
    refine lv_aload_n hX_ hB_ dL_isDone_206 rfl (lv_at hl 3 rfl) ?_
    refine lv_bipush (v := 10) hX_ hB_ dL_isDone_207 (by decide) ?_
    refine lv_iload hX_ hB_ dL_isDone_209 (lv_at hl 0 rfl) ?_
    refine lv_iadd hX_ hB_ dL_isDone_211 ?_
    refine ze_top (xb_add (a := 10) (b := xd_in xs L (i + 1) (n 0)) (c := xd_in xs L (i + 1) (n 0) + 10) (by omega)) ?_
    refine ze_ialdN hX_ hB_ hK hW ((ze_wC c a n A B E).length + 0) (f := N) (ze_appL (k := 0) rfl) (i := xd_in xs L (i + 1) (n 0) + 10) (by omega) (by decide) dL_isDone_212 ?_
    refine ze_top (y := A 0 (xd_in xs L (i + 1) (n 0))) (hR.2.1.2 (xd_in xs L (i + 1) (n 0)) (by omega)) ?_
    refine lv_istore (lv' := [(6, .int (A 0 (xd_in xs L (i + 1) (n 0)))), (5, .int (nI (xd_in xs L (i + 1) (n 0)))), (4, .int (nI (xd_in xs L (i + 1) (n 2)))), (0, .ref (a 0)), (1, .ref q), (2, .ref b), (3, .int (nI i))]) hX_ hB_ dL_isDone_213 hl (by decide) rfl (fun ls hl => ?_)
    refine lv_aload_n hX_ hB_ dL_isDone_215 rfl (lv_at hl 4 rfl) ?_
    refine lv_bipush (v := 10) hX_ hB_ dL_isDone_216 (by decide) ?_
    refine lv_iload hX_ hB_ dL_isDone_218 (lv_at hl 1 rfl) ?_
    refine lv_iadd hX_ hB_ dL_isDone_220 ?_
    refine ze_top (xb_add (a := 10) (b := xd_in xs L (i + 1) (n 0)) (c := xd_in xs L (i + 1) (n 0) + 10) (by omega)) ?_
    refine lv_aload_n hX_ hB_ dL_isDone_221 rfl (lv_at hl 5 rfl) ?_
    refine lv_iload_n hX_ hB_ dL_isDone_222 rfl (lv_at hl 6 rfl) ?_
    refine lv_iconst (v := 2) hX_ hB_ dL_isDone_223 (by decide) ?_
    refine lv_iadd hX_ hB_ dL_isDone_224 ?_
    refine ze_top (xb_add (a := i) (b := 2) (c := i + 2) (by omega)) ?_
    refine lv_iconst (v := 2) hX_ hB_ dL_isDone_225 (by decide) ?_
    have hW : ze_W D (([] : va_W) ++ ((ze_wC c a n A B E) ++ [(q, .inl (c 0, 210, .inl N))])) F s.heap _ _ := hW
    refine xb_FSx (As := [.ref b, .int (nI (i + 2)), .int 2]) (rest := [.int (nI (xd_in xs L (i + 1) (n 0) + 10)), .ref q]) S (xj_in l D c b L xs hL (i + 2) (by omega) 2 (by omega) (by omega)) (va_cwS 3 hts gL_isDone_L_in rfl rfl rfl (by decide +kernel) ⟨(Nat.le_of_ble_eq_true rfl), (Nat.le_of_ble_eq_true rfl)⟩) (Or.inr rfl) hG hK hW hA rfl hl.1 rfl (lv_room (Nat.le_of_ble_eq_true rfl)) dL_isDone_226 ⟨(Nat.le_of_ble_eq_true rfl), (Nat.le_of_ble_eq_true rfl)⟩ (fun H locs hW => ?_)
    have hv226 := xd_inlt (xs := xs) (L := L) (i := i + 2) (k := 2) (by omega)
    have hW : ze_W D ((ze_wC c a n A B E) ++ [(q, .inl (c 0, 210, .inl N))]) F s.heap _ _ := hW
    refine lv_if_ne (tgt := 244) hX_ hB_ dL_isDone_229 (by decide) (fun c229 => ?_) (fun c229 => ?_)
    · have c229 : ¬ (xd_in xs L (i + 2) 2) = 0 := fun h9 => c229 ((nI_eq (a := (xd_in xs L (i + 2) 2)) (b := 0) (by omega) (by omega)).mpr h9)
      refine lv_aload_n hX_ hB_ dL_isDone_244 rfl (lv_at hl 5 rfl) ?_
      refine lv_iload_n hX_ hB_ dL_isDone_245 rfl (lv_at hl 6 rfl) ?_
      refine lv_iconst (v := 3) hX_ hB_ dL_isDone_246 (by decide) ?_
      refine lv_iadd hX_ hB_ dL_isDone_247 ?_
      refine ze_top (xb_add (a := i) (b := 3) (c := i + 3) (by omega)) ?_
      refine lv_sipush (v := 360) hX_ hB_ dL_isDone_248 (by decide) ?_
      have hW : ze_W D (([] : va_W) ++ ((ze_wC c a n A B E) ++ [(q, .inl (c 0, 210, .inl N))])) F s.heap _ _ := hW
      refine xb_FSx (As := [.ref b, .int (nI (i + 3)), .int 360]) (rest := [.int (nI (xd_in xs L (i + 1) (n 0) + 10)), .ref q]) S (xj_in l D c b L xs hL (i + 3) (by omega) 360 (by omega) (by omega)) (va_cwS 3 hts gL_isDone_L_in rfl rfl rfl (by decide +kernel) ⟨(Nat.le_of_ble_eq_true rfl), (Nat.le_of_ble_eq_true rfl)⟩) (Or.inr rfl) hG hK hW hA rfl hl.1 rfl (lv_room (Nat.le_of_ble_eq_true rfl)) dL_isDone_251 ⟨(Nat.le_of_ble_eq_true rfl), (Nat.le_of_ble_eq_true rfl)⟩ (fun H locs hW => ?_)
      have hv251 := xd_inlt (xs := xs) (L := L) (i := i + 3) (k := 360) (by omega)
      have hW : ze_W D ((ze_wC c a n A B E) ++ [(q, .inl (c 0, 210, .inl N))]) F s.heap _ _ := hW
      refine ze_iastN hX_ hB_ hK hW ((ze_wC c a n A B E).length + 0) (f := N) (ze_appL (k := 0) rfl) (i := xd_in xs L (i + 1) (n 0) + 10) (by omega) (by decide) dL_isDone_254 (ze_appset rfl) (fun H locs hW => ?_)
      have hW : ze_W D ((ze_wC c a n A B E) ++ [(q, .inl (c 0, 210, .inl (upd N (xd_in xs L (i + 1) (n 0) + 10) (nI (xd_in xs L (i + 3) 360)))))]) F s.heap _ _ := hW
      refine lv_aload_n hX_ hB_ dL_isDone_255 rfl (lv_at hl 3 rfl) ?_
      refine lv_iload hX_ hB_ dL_isDone_256 (lv_at hl 1 rfl) ?_
      refine lv_aload_n hX_ hB_ dL_isDone_258 rfl (lv_at hl 4 rfl) ?_
      refine lv_bipush (v := 10) hX_ hB_ dL_isDone_259 (by decide) ?_
      refine lv_iload hX_ hB_ dL_isDone_261 (lv_at hl 1 rfl) ?_
      refine lv_iadd hX_ hB_ dL_isDone_263 ?_
      refine ze_top (xb_add (a := 10) (b := xd_in xs L (i + 1) (n 0)) (c := xd_in xs L (i + 1) (n 0) + 10) (by omega)) ?_
      refine ze_ialdN hX_ hB_ hK hW ((ze_wC c a n A B E).length + 0) (f := (upd N (xd_in xs L (i + 1) (n 0) + 10) (nI (xd_in xs L (i + 3) 360)))) (ze_appL (k := 0) rfl) (i := xd_in xs L (i + 1) (n 0) + 10) (by omega) (by decide) dL_isDone_264 ?_
      refine ze_top (ze_updat _ _ _) ?_
      refine xb_FSq (As := [.ref (a 0), .int (nI (xd_in xs L (i + 1) (n 0))), .int (nI (xd_in xs L (i + 3) 360))]) (rest := []) S (xw_setPhase_f l D c a n A B E (xd_in xs L (i + 1) (n 0)) hN (by omega) (nI (xd_in xs L (i + 3) 360)) ((xd_phase hI (j := xd_in xs L (i + 1) (n 0)) (p := xd_in xs L (i + 3) 360) (by omega) (by omega)).2)) (vx_cwSW 3 hts gL_isDone_L_setPhase rfl rfl rfl (by decide +kernel) ⟨(Nat.le_of_ble_eq_true rfl), (Nat.le_of_ble_eq_true rfl)⟩) hG hK hW hA rfl hl.1 rfl (lv_room (Nat.le_of_ble_eq_true rfl)) dL_isDone_265 ⟨(Nat.le_of_ble_eq_true rfl), (Nat.le_of_ble_eq_true rfl)⟩ (fun H locs hW => ?_)
      have hW : ze_W D ((ze_wC c a n (ze_sE A 0 (xd_in xs L (i + 1) (n 0)) (nI (xd_in xs L (i + 3) 360))) B E) ++ [(q, .inl (c 0, 210, .inl (upd N (xd_in xs L (i + 1) (n 0) + 10) (nI (xd_in xs L (i + 3) 360)))))]) F s.heap _ _ := hW
      refine lv_iload hX_ hB_ dL_isDone_268 (lv_at hl 0 rfl) ?_
      refine lv_icmp_ne (tgt := 277) hX_ hB_ dL_isDone_270 (by decide) (fun c270 => ?_) (fun c270 => ?_)
      · exact absurd rfl c270
      · refine lv_iconst (v := 1) hX_ hB_ dL_isDone_273 (by decide) ?_
        refine lv_goto (tgt := 278) hX_ hB_ dL_isDone_274 (by decide) ?_
        exact xb_iret (T := xd_T) (a, n, (ze_sE A 0 (xd_in xs L (i + 1) (n 0)) (nI (xd_in xs L (i + 3) 360))), B, E, (upd N (xd_in xs L (i + 1) (n 0) + 10) (nI (xd_in xs L (i + 3) 360)))) S hr hlocks hF hK hW rfl dL_isDone_278 (Nat.le_of_ble_eq_true rfl) (Nat.le_of_ble_eq_true rfl) ⟨rfl, ⟨rfl, (xd_m (xd_phase hI (by omega) (by omega)).1 (by omega)), rfl, Nat.le_refl _, Nat.le_refl _⟩⟩ rfl
    · have c229 : (xd_in xs L (i + 2) 2) = 0 := (nI_eq (a := (xd_in xs L (i + 2) 2)) (b := 0) (by omega) (by omega)).mp c229
      refine lv_aload_n hX_ hB_ dL_isDone_232 rfl (lv_at hl 5 rfl) ?_
      refine lv_iload_n hX_ hB_ dL_isDone_233 rfl (lv_at hl 6 rfl) ?_
      refine lv_iconst (v := 3) hX_ hB_ dL_isDone_234 (by decide) ?_
      refine lv_iadd hX_ hB_ dL_isDone_235 ?_
      refine ze_top (xb_add (a := i) (b := 3) (c := i + 3) (by omega)) ?_
      refine lv_bipush (v := 12) hX_ hB_ dL_isDone_236 (by decide) ?_
      have hW : ze_W D (([] : va_W) ++ ((ze_wC c a n A B E) ++ [(q, .inl (c 0, 210, .inl N))])) F s.heap _ _ := hW
      refine xb_FSx (As := [.ref b, .int (nI (i + 3)), .int 12]) (rest := [.int (nI (xd_in xs L (i + 1) (n 0) + 10)), .ref q]) S (xj_in l D c b L xs hL (i + 3) (by omega) 12 (by omega) (by omega)) (va_cwS 3 hts gL_isDone_L_in rfl rfl rfl (by decide +kernel) ⟨(Nat.le_of_ble_eq_true rfl), (Nat.le_of_ble_eq_true rfl)⟩) (Or.inr rfl) hG hK hW hA rfl hl.1 rfl (lv_room (Nat.le_of_ble_eq_true rfl)) dL_isDone_238 ⟨(Nat.le_of_ble_eq_true rfl), (Nat.le_of_ble_eq_true rfl)⟩ (fun H locs hW => ?_)
      have hv238 := xd_inlt (xs := xs) (L := L) (i := i + 3) (k := 12) (by omega)
      have hW : ze_W D ((ze_wC c a n A B E) ++ [(q, .inl (c 0, 210, .inl N))]) F s.heap _ _ := hW
      refine lv_goto (tgt := 254) hX_ hB_ dL_isDone_241 (by decide) ?_
      refine ze_iastN hX_ hB_ hK hW ((ze_wC c a n A B E).length + 0) (f := N) (ze_appL (k := 0) rfl) (i := xd_in xs L (i + 1) (n 0) + 10) (by omega) (by decide) dL_isDone_254 (ze_appset rfl) (fun H locs hW => ?_)
      have hW : ze_W D ((ze_wC c a n A B E) ++ [(q, .inl (c 0, 210, .inl (upd N (xd_in xs L (i + 1) (n 0) + 10) (nI (xd_in xs L (i + 3) 12)))))]) F s.heap _ _ := hW
      refine lv_aload_n hX_ hB_ dL_isDone_255 rfl (lv_at hl 3 rfl) ?_
      refine lv_iload hX_ hB_ dL_isDone_256 (lv_at hl 1 rfl) ?_
      refine lv_aload_n hX_ hB_ dL_isDone_258 rfl (lv_at hl 4 rfl) ?_
      refine lv_bipush (v := 10) hX_ hB_ dL_isDone_259 (by decide) ?_
      refine lv_iload hX_ hB_ dL_isDone_261 (lv_at hl 1 rfl) ?_
      refine lv_iadd hX_ hB_ dL_isDone_263 ?_
      refine ze_top (xb_add (a := 10) (b := xd_in xs L (i + 1) (n 0)) (c := xd_in xs L (i + 1) (n 0) + 10) (by omega)) ?_
      refine ze_ialdN hX_ hB_ hK hW ((ze_wC c a n A B E).length + 0) (f := (upd N (xd_in xs L (i + 1) (n 0) + 10) (nI (xd_in xs L (i + 3) 12)))) (ze_appL (k := 0) rfl) (i := xd_in xs L (i + 1) (n 0) + 10) (by omega) (by decide) dL_isDone_264 ?_
      refine ze_top (ze_updat _ _ _) ?_
      refine xb_FSq (As := [.ref (a 0), .int (nI (xd_in xs L (i + 1) (n 0))), .int (nI (xd_in xs L (i + 3) 12))]) (rest := []) S (xw_setPhase_f l D c a n A B E (xd_in xs L (i + 1) (n 0)) hN (by omega) (nI (xd_in xs L (i + 3) 12)) ((xd_phase hI (j := xd_in xs L (i + 1) (n 0)) (p := xd_in xs L (i + 3) 12) (by omega) (by omega)).2)) (vx_cwSW 3 hts gL_isDone_L_setPhase rfl rfl rfl (by decide +kernel) ⟨(Nat.le_of_ble_eq_true rfl), (Nat.le_of_ble_eq_true rfl)⟩) hG hK hW hA rfl hl.1 rfl (lv_room (Nat.le_of_ble_eq_true rfl)) dL_isDone_265 ⟨(Nat.le_of_ble_eq_true rfl), (Nat.le_of_ble_eq_true rfl)⟩ (fun H locs hW => ?_)
      have hW : ze_W D ((ze_wC c a n (ze_sE A 0 (xd_in xs L (i + 1) (n 0)) (nI (xd_in xs L (i + 3) 12))) B E) ++ [(q, .inl (c 0, 210, .inl (upd N (xd_in xs L (i + 1) (n 0) + 10) (nI (xd_in xs L (i + 3) 12)))))]) F s.heap _ _ := hW
      refine lv_iload hX_ hB_ dL_isDone_268 (lv_at hl 0 rfl) ?_
      refine lv_icmp_ne (tgt := 277) hX_ hB_ dL_isDone_270 (by decide) (fun c270 => ?_) (fun c270 => ?_)
      · exact absurd rfl c270
      · refine lv_iconst (v := 1) hX_ hB_ dL_isDone_273 (by decide) ?_
        refine lv_goto (tgt := 278) hX_ hB_ dL_isDone_274 (by decide) ?_
        exact xb_iret (T := xd_T) (a, n, (ze_sE A 0 (xd_in xs L (i + 1) (n 0)) (nI (xd_in xs L (i + 3) 12))), B, E, (upd N (xd_in xs L (i + 1) (n 0) + 10) (nI (xd_in xs L (i + 3) 12)))) S hr hlocks hF hK hW rfl dL_isDone_278 (Nat.le_of_ble_eq_true rfl) (Nat.le_of_ble_eq_true rfl) ⟨rfl, ⟨rfl, (xd_m (xd_phase hI (by omega) (by omega)).1 (by omega)), rfl, Nat.le_refl _, Nat.le_refl _⟩⟩ rfl
  · refine ze_top (y := nI 9) (by rw [h31]) ?_
    refine lv_tableIn (off := 248) (tgt := 279) hX_ hB_ dL_isDone_31 (by decide) (by decide) rfl (by decide) ?_
    refine lv_aload_n hX_ hB_ dL_isDone_279 rfl (lv_at hl 3 rfl) ?_
    refine lv_iconst (v := 5) hX_ hB_ dL_isDone_280 (by decide) ?_
    refine ze_ialdN hX_ hB_ hK hW ((ze_wC c a n A B E).length + 0) (f := N) (ze_appL (k := 0) rfl) (i := 5) (by omega) (by decide) dL_isDone_281 ?_
    refine ze_top (y := A 28 0) hR.2.1.1.1 ?_
    refine lv_istore (lv' := [(6, .int (A 28 0)), (5, .int (nI (xd_in xs L (i + 1) (n 0)))), (4, .int (nI (xd_in xs L (i + 1) (n 2)))), (0, .ref (a 0)), (1, .ref q), (2, .ref b), (3, .int (nI i))]) hX_ hB_ dL_isDone_282 hl (by decide) rfl (fun ls hl => ?_)
    refine lv_aload_n hX_ hB_ dL_isDone_284 rfl (lv_at hl 4 rfl) ?_
    refine lv_iconst (v := 5) hX_ hB_ dL_isDone_285 (by decide) ?_
    refine lv_aload_n hX_ hB_ dL_isDone_286 rfl (lv_at hl 5 rfl) ?_
    refine lv_iload_n hX_ hB_ dL_isDone_287 rfl (lv_at hl 6 rfl) ?_
    refine lv_iconst (v := 2) hX_ hB_ dL_isDone_288 (by decide) ?_
    refine lv_iadd hX_ hB_ dL_isDone_289 ?_
    refine ze_top (xb_add (a := i) (b := 2) (c := i + 2) (by omega)) ?_
    refine lv_bipush (v := 40) hX_ hB_ dL_isDone_290 (by decide) ?_
    have hW : ze_W D (([] : va_W) ++ ((ze_wC c a n A B E) ++ [(q, .inl (c 0, 210, .inl N))])) F s.heap _ _ := hW
    refine xb_FSx (As := [.ref b, .int (nI (i + 2)), .int 40]) (rest := [.int 5, .ref q]) S (xj_in l D c b L xs hL (i + 2) (by omega) 40 (by omega) (by omega)) (va_cwS 3 hts gL_isDone_L_in rfl rfl rfl (by decide +kernel) ⟨(Nat.le_of_ble_eq_true rfl), (Nat.le_of_ble_eq_true rfl)⟩) (Or.inr rfl) hG hK hW hA rfl hl.1 rfl (lv_room (Nat.le_of_ble_eq_true rfl)) dL_isDone_292 ⟨(Nat.le_of_ble_eq_true rfl), (Nat.le_of_ble_eq_true rfl)⟩ (fun H locs hW => ?_)
    have hv292 := xd_inlt (xs := xs) (L := L) (i := i + 2) (k := 40) (by omega)
    have hW : ze_W D ((ze_wC c a n A B E) ++ [(q, .inl (c 0, 210, .inl N))]) F s.heap _ _ := hW
    refine ze_iastN hX_ hB_ hK hW ((ze_wC c a n A B E).length + 0) (f := N) (ze_appL (k := 0) rfl) (i := 5) (by omega) (by decide) dL_isDone_295 (ze_appset rfl) (fun H locs hW => ?_)
    have hW : ze_W D ((ze_wC c a n A B E) ++ [(q, .inl (c 0, 210, .inl (upd N 5 (nI (xd_in xs L (i + 2) 40)))))]) F s.heap _ _ := hW
    refine lv_aload_n hX_ hB_ dL_isDone_296 rfl (lv_at hl 4 rfl) ?_
    refine lv_bipush (v := 6) hX_ hB_ dL_isDone_297 (by decide) ?_
    refine ze_ialdN hX_ hB_ hK hW ((ze_wC c a n A B E).length + 0) (f := (upd N 5 (nI (xd_in xs L (i + 2) 40)))) (ze_appL (k := 0) rfl) (i := 6) (by omega) (by decide) dL_isDone_299 ?_
    refine ze_top (xb_un (by omega)) ?_
    refine ze_top (y := A 29 0) hR.2.1.1.2.1 ?_
    refine lv_istore (lv' := [(7, .int (A 29 0)), (6, .int (A 28 0)), (5, .int (nI (xd_in xs L (i + 1) (n 0)))), (4, .int (nI (xd_in xs L (i + 1) (n 2)))), (0, .ref (a 0)), (1, .ref q), (2, .ref b), (3, .int (nI i))]) hX_ hB_ dL_isDone_300 hl (by decide) rfl (fun ls hl => ?_)
    refine lv_aload_n hX_ hB_ dL_isDone_302 rfl (lv_at hl 5 rfl) ?_
    refine lv_bipush (v := 6) hX_ hB_ dL_isDone_303 (by decide) ?_
    refine lv_aload_n hX_ hB_ dL_isDone_305 rfl (lv_at hl 6 rfl) ?_
    refine lv_iload_n hX_ hB_ dL_isDone_306 rfl (lv_at hl 7 rfl) ?_
    refine lv_iconst (v := 3) hX_ hB_ dL_isDone_307 (by decide) ?_
    refine lv_iadd hX_ hB_ dL_isDone_308 ?_
    refine ze_top (xb_add (a := i) (b := 3) (c := i + 3) (by omega)) ?_
    refine lv_iconst (v := 4) hX_ hB_ dL_isDone_309 (by decide) ?_
    have hW : ze_W D (([] : va_W) ++ ((ze_wC c a n A B E) ++ [(q, .inl (c 0, 210, .inl (upd N 5 (nI (xd_in xs L (i + 2) 40)))))])) F s.heap _ _ := hW
    refine xb_FSx (As := [.ref b, .int (nI (i + 3)), .int 4]) (rest := [.int 6, .ref q]) S (xj_in l D c b L xs hL (i + 3) (by omega) 4 (by omega) (by omega)) (va_cwS 3 hts gL_isDone_L_in rfl rfl rfl (by decide +kernel) ⟨(Nat.le_of_ble_eq_true rfl), (Nat.le_of_ble_eq_true rfl)⟩) (Or.inr rfl) hG hK hW hA rfl hl.1 rfl (lv_room (Nat.le_of_ble_eq_true rfl)) dL_isDone_310 ⟨(Nat.le_of_ble_eq_true rfl), (Nat.le_of_ble_eq_true rfl)⟩ (fun H locs hW => ?_)
    have hv310 := xd_inlt (xs := xs) (L := L) (i := i + 3) (k := 4) (by omega)
    have hW : ze_W D ((ze_wC c a n A B E) ++ [(q, .inl (c 0, 210, .inl (upd N 5 (nI (xd_in xs L (i + 2) 40)))))]) F s.heap _ _ := hW
    refine ze_iastN hX_ hB_ hK hW ((ze_wC c a n A B E).length + 0) (f := (upd N 5 (nI (xd_in xs L (i + 2) 40)))) (ze_appL (k := 0) rfl) (i := 6) (by omega) (by decide) dL_isDone_313 (ze_appset rfl) (fun H locs hW => ?_)
    have hW : ze_W D ((ze_wC c a n A B E) ++ [(q, .inl (c 0, 210, .inl (upd (upd N 5 (nI (xd_in xs L (i + 2) 40))) 6 (nI (xd_in xs L (i + 3) 4)))))]) F s.heap _ _ := hW
    refine lv_aload_n hX_ hB_ dL_isDone_314 rfl (lv_at hl 4 rfl) ?_
    refine lv_aload_n hX_ hB_ dL_isDone_315 rfl (lv_at hl 5 rfl) ?_
    refine lv_iconst (v := 5) hX_ hB_ dL_isDone_316 (by decide) ?_
    refine ze_ialdN hX_ hB_ hK hW ((ze_wC c a n A B E).length + 0) (f := (upd (upd N 5 (nI (xd_in xs L (i + 2) 40))) 6 (nI (xd_in xs L (i + 3) 4)))) (ze_appL (k := 0) rfl) (i := 5) (by omega) (by decide) dL_isDone_317 ?_
    refine ze_top (xb_un (by omega)) ?_
    refine ze_top (ze_updat _ _ _) ?_
    refine xb_FSq (As := [.ref (a 0), .int (nI (xd_in xs L (i + 2) 40))]) (rest := []) S (xw_setReserve_f l D c a n A B E (nI (xd_in xs L (i + 2) 40)) ((xd_resv hI (r := xd_in xs L (i + 2) 40) (d := xd_in xs L (i + 3) 4) (by omega) (by omega)).2.1)) (vx_cwSW 2 hts gL_isDone_L_setReserve rfl rfl rfl (by decide +kernel) ⟨(Nat.le_of_ble_eq_true rfl), (Nat.le_of_ble_eq_true rfl)⟩) hG hK hW hA rfl hl.1 rfl (lv_room (Nat.le_of_ble_eq_true rfl)) dL_isDone_318 ⟨(Nat.le_of_ble_eq_true rfl), (Nat.le_of_ble_eq_true rfl)⟩ (fun H locs hW => ?_)
    have hW : ze_W D ((ze_wC c a n (ze_sC A 28 (nI (xd_in xs L (i + 2) 40))) B E) ++ [(q, .inl (c 0, 210, .inl (upd (upd N 5 (nI (xd_in xs L (i + 2) 40))) 6 (nI (xd_in xs L (i + 3) 4)))))]) F s.heap _ _ := hW
    refine lv_iload hX_ hB_ dL_isDone_321 (lv_at hl 1 rfl) ?_
    refine lv_icmp_ne (tgt := 343) hX_ hB_ dL_isDone_323 (by decide) (fun c323 => ?_) (fun c323 => ?_)
    · exact absurd rfl c323
    · refine lv_aload_n hX_ hB_ dL_isDone_326 rfl (lv_at hl 4 rfl) ?_
      refine lv_aload_n hX_ hB_ dL_isDone_327 rfl (lv_at hl 5 rfl) ?_
      refine lv_bipush (v := 6) hX_ hB_ dL_isDone_328 (by decide) ?_
      refine ze_ialdN hX_ hB_ hK hW ((ze_wC c a n (ze_sC A 28 (nI (xd_in xs L (i + 2) 40))) B E).length + 0) (f := (upd (upd N 5 (nI (xd_in xs L (i + 2) 40))) 6 (nI (xd_in xs L (i + 3) 4)))) (ze_appL (k := 0) rfl) (i := 6) (by omega) (by decide) dL_isDone_330 ?_
      refine ze_top (ze_updat _ _ _) ?_
      refine xb_FSq (As := [.ref (a 0), .int (nI (xd_in xs L (i + 3) 4))]) (rest := []) S (xw_setDelay_f l D c a n (ze_sC A 28 (nI (xd_in xs L (i + 2) 40))) B E (nI (xd_in xs L (i + 3) 4)) ((xd_resv hI (r := xd_in xs L (i + 2) 40) (d := xd_in xs L (i + 3) 4) (by omega) (by omega)).2.2)) (vx_cwSW 2 hts gL_isDone_L_setDelay rfl rfl rfl (by decide +kernel) ⟨(Nat.le_of_ble_eq_true rfl), (Nat.le_of_ble_eq_true rfl)⟩) hG hK hW hA rfl hl.1 rfl (lv_room (Nat.le_of_ble_eq_true rfl)) dL_isDone_331 ⟨(Nat.le_of_ble_eq_true rfl), (Nat.le_of_ble_eq_true rfl)⟩ (fun H locs hW => ?_)
      have hW : ze_W D ((ze_wC c a n (ze_sC (ze_sC A 28 (nI (xd_in xs L (i + 2) 40))) 29 (nI (xd_in xs L (i + 3) 4))) B E) ++ [(q, .inl (c 0, 210, .inl (upd (upd N 5 (nI (xd_in xs L (i + 2) 40))) 6 (nI (xd_in xs L (i + 3) 4)))))]) F s.heap _ _ := hW
      refine ze_top (y := A 29 0) rfl ?_
      refine lv_iload hX_ hB_ dL_isDone_334 (lv_at hl 0 rfl) ?_
      refine lv_icmp_ne (tgt := 343) hX_ hB_ dL_isDone_336 (by decide) (fun c336 => ?_) (fun c336 => ?_)
      · exact absurd rfl c336
      · refine lv_iconst (v := 1) hX_ hB_ dL_isDone_339 (by decide) ?_
        refine lv_goto (tgt := 344) hX_ hB_ dL_isDone_340 (by decide) ?_
        exact xb_iret (T := xd_T) (a, n, (ze_sC (ze_sC A 28 (nI (xd_in xs L (i + 2) 40))) 29 (nI (xd_in xs L (i + 3) 4))), B, E, (upd (upd N 5 (nI (xd_in xs L (i + 2) 40))) 6 (nI (xd_in xs L (i + 3) 4)))) S hr hlocks hF hK hW rfl dL_isDone_344 (Nat.le_of_ble_eq_true rfl) (Nat.le_of_ble_eq_true rfl) ⟨rfl, ⟨rfl, (xd_m (xd_resv hI (r := xd_in xs L (i + 2) 40) (d := xd_in xs L (i + 3) 4) (by omega) (by omega)).1 (by omega)), rfl, Nat.le_refl _, Nat.le_refl _⟩⟩ rfl
  · refine ze_top (y := nI 10) (by rw [h31]) ?_
    refine lv_tableIn (off := 314) (tgt := 345) hX_ hB_ dL_isDone_31 (by decide) (by decide) rfl (by decide) ?_
    refine lv_aload_n hX_ hB_ dL_isDone_345 rfl (lv_at hl 4 rfl) ?_
    refine lv_iload_n hX_ hB_ dL_isDone_346 rfl (lv_at hl 5 rfl) ?_
    refine lv_iconst (v := 1) hX_ hB_ dL_isDone_347 (by decide) ?_
    refine lv_iadd hX_ hB_ dL_isDone_348 ?_
    refine ze_top (xb_add (a := i) (b := 1) (c := i + 1) (by omega)) ?_
    refine lv_aload_n hX_ hB_ dL_isDone_349 rfl (lv_at hl 3 rfl) ?_
    refine lv_iconst (v := 4) hX_ hB_ dL_isDone_350 (by decide) ?_
    refine ze_ialdN hX_ hB_ hK hW ((ze_wC c a n A B E).length + 0) (f := N) (ze_appL (k := 0) rfl) (i := 4) (by omega) (by decide) dL_isDone_351 ?_
    refine ze_top (y := nI (n 4)) hR.1.2.2.2.2 ?_
    have hW : ze_W D (([] : va_W) ++ ((ze_wC c a n A B E) ++ [(q, .inl (c 0, 210, .inl N))])) F s.heap _ _ := hW
    refine xb_FSx (As := [.ref b, .int (nI (i + 1)), .int (nI (n 4))]) (rest := []) S (xj_in l D c b L xs hL (i + 1) (by omega) (n 4) (by omega) (by omega)) (va_cwS 3 hts gL_isDone_L_in rfl rfl rfl (by decide +kernel) ⟨(Nat.le_of_ble_eq_true rfl), (Nat.le_of_ble_eq_true rfl)⟩) (Or.inr rfl) hG hK hW hA rfl hl.1 rfl (lv_room (Nat.le_of_ble_eq_true rfl)) dL_isDone_352 ⟨(Nat.le_of_ble_eq_true rfl), (Nat.le_of_ble_eq_true rfl)⟩ (fun H locs hW => ?_)
    have hv352 := xd_inlt (xs := xs) (L := L) (i := i + 1) (k := n 4) (by omega)
    have hW : ze_W D ((ze_wC c a n A B E) ++ [(q, .inl (c 0, 210, .inl N))]) F s.heap _ _ := hW
    refine lv_istore (lv' := [(6, .int (nI (xd_in xs L (i + 1) (n 4)))), (5, .int (nI (xd_in xs L (i + 1) (n 0)))), (4, .int (nI (xd_in xs L (i + 1) (n 2)))), (0, .ref (a 0)), (1, .ref q), (2, .ref b), (3, .int (nI i))]) hX_ hB_ dL_isDone_355 hl (by decide) rfl (fun ls hl => ?_)
    refine lv_aload_n hX_ hB_ dL_isDone_357 rfl (lv_at hl 4 rfl) ?_
    refine lv_sipush (v := 142) hX_ hB_ dL_isDone_358 (by decide) ?_
    refine lv_iconst (v := 5) hX_ hB_ dL_isDone_361 (by decide) ?_
    refine lv_iload hX_ hB_ dL_isDone_362 (lv_at hl 0 rfl) ?_
    refine lv_imul hX_ hB_ dL_isDone_364 ?_
    refine ze_top (xb_mul (a := 5) (b := xd_in xs L (i + 1) (n 4)) (c := 5 * (xd_in xs L (i + 1) (n 4))) (by omega)) ?_
    refine lv_iadd hX_ hB_ dL_isDone_365 ?_
    refine ze_top (xb_add (a := 142) (b := 5 * (xd_in xs L (i + 1) (n 4))) (c := 5 * (xd_in xs L (i + 1) (n 4)) + 142) (by omega)) ?_
    refine ze_ialdN hX_ hB_ hK hW ((ze_wC c a n A B E).length + 0) (f := N) (ze_appL (k := 0) rfl) (i := 5 * (xd_in xs L (i + 1) (n 4)) + 142) (by omega) (by decide) dL_isDone_366 ?_
    refine ze_top (y := A 21 (xd_in xs L (i + 1) (n 4))) (hR.2.2.2.2.2.1.1 (xd_in xs L (i + 1) (n 4)) (by omega)).2.2 ?_
    refine lv_istore (lv' := [(7, .int (A 21 (xd_in xs L (i + 1) (n 4)))), (6, .int (nI (xd_in xs L (i + 1) (n 4)))), (5, .int (nI (xd_in xs L (i + 1) (n 0)))), (4, .int (nI (xd_in xs L (i + 1) (n 2)))), (0, .ref (a 0)), (1, .ref q), (2, .ref b), (3, .int (nI i))]) hX_ hB_ dL_isDone_367 hl (by decide) rfl (fun ls hl => ?_)
    refine lv_aload_n hX_ hB_ dL_isDone_369 rfl (lv_at hl 5 rfl) ?_
    refine lv_sipush (v := 142) hX_ hB_ dL_isDone_370 (by decide) ?_
    refine lv_iconst (v := 5) hX_ hB_ dL_isDone_373 (by decide) ?_
    refine lv_iload hX_ hB_ dL_isDone_374 (lv_at hl 1 rfl) ?_
    refine lv_imul hX_ hB_ dL_isDone_376 ?_
    refine ze_top (xb_mul (a := 5) (b := xd_in xs L (i + 1) (n 4)) (c := 5 * (xd_in xs L (i + 1) (n 4))) (by omega)) ?_
    refine lv_iadd hX_ hB_ dL_isDone_377 ?_
    refine ze_top (xb_add (a := 142) (b := 5 * (xd_in xs L (i + 1) (n 4))) (c := 5 * (xd_in xs L (i + 1) (n 4)) + 142) (by omega)) ?_
    refine lv_iconst (v := 1) hX_ hB_ dL_isDone_378 (by decide) ?_
    refine lv_aload_n hX_ hB_ dL_isDone_379 rfl (lv_at hl 6 rfl) ?_
    refine lv_iload_n hX_ hB_ dL_isDone_380 rfl (lv_at hl 7 rfl) ?_
    refine lv_iconst (v := 2) hX_ hB_ dL_isDone_381 (by decide) ?_
    refine lv_iadd hX_ hB_ dL_isDone_382 ?_
    refine ze_top (xb_add (a := i) (b := 2) (c := i + 2) (by omega)) ?_
    refine lv_iconst (v := 5) hX_ hB_ dL_isDone_383 (by decide) ?_
    have hW : ze_W D (([] : va_W) ++ ((ze_wC c a n A B E) ++ [(q, .inl (c 0, 210, .inl N))])) F s.heap _ _ := hW
    refine xb_FSx (As := [.ref b, .int (nI (i + 2)), .int 5]) (rest := [.int 1, .int (nI (5 * (xd_in xs L (i + 1) (n 4)) + 142)), .ref q]) S (xj_in l D c b L xs hL (i + 2) (by omega) 5 (by omega) (by omega)) (va_cwS 3 hts gL_isDone_L_in rfl rfl rfl (by decide +kernel) ⟨(Nat.le_of_ble_eq_true rfl), (Nat.le_of_ble_eq_true rfl)⟩) (Or.inr rfl) hG hK hW hA rfl hl.1 rfl (lv_room (Nat.le_of_ble_eq_true rfl)) dL_isDone_384 ⟨(Nat.le_of_ble_eq_true rfl), (Nat.le_of_ble_eq_true rfl)⟩ (fun H locs hW => ?_)
    have hv384 := xd_inlt (xs := xs) (L := L) (i := i + 2) (k := 5) (by omega)
    have hW : ze_W D ((ze_wC c a n A B E) ++ [(q, .inl (c 0, 210, .inl N))]) F s.heap _ _ := hW
    refine lv_iadd hX_ hB_ dL_isDone_387 ?_
    refine ze_top (xb_add (a := 1) (b := xd_in xs L (i + 2) 5) (c := xd_in xs L (i + 2) 5 + 1) (by omega)) ?_
    refine ze_iastN hX_ hB_ hK hW ((ze_wC c a n A B E).length + 0) (f := N) (ze_appL (k := 0) rfl) (i := 5 * (xd_in xs L (i + 1) (n 4)) + 142) (by omega) (by decide) dL_isDone_388 (ze_appset rfl) (fun H locs hW => ?_)
    have hW : ze_W D ((ze_wC c a n A B E) ++ [(q, .inl (c 0, 210, .inl (upd N (5 * (xd_in xs L (i + 1) (n 4)) + 142) (nI (xd_in xs L (i + 2) 5 + 1)))))]) F s.heap _ _ := hW
    refine lv_aload_n hX_ hB_ dL_isDone_389 rfl (lv_at hl 4 rfl) ?_
    refine lv_iload hX_ hB_ dL_isDone_390 (lv_at hl 1 rfl) ?_
    refine lv_aload_n hX_ hB_ dL_isDone_392 rfl (lv_at hl 5 rfl) ?_
    refine lv_sipush (v := 142) hX_ hB_ dL_isDone_393 (by decide) ?_
    refine lv_iconst (v := 5) hX_ hB_ dL_isDone_396 (by decide) ?_
    refine lv_iload hX_ hB_ dL_isDone_397 (lv_at hl 1 rfl) ?_
    refine lv_imul hX_ hB_ dL_isDone_399 ?_
    refine ze_top (xb_mul (a := 5) (b := xd_in xs L (i + 1) (n 4)) (c := 5 * (xd_in xs L (i + 1) (n 4))) (by omega)) ?_
    refine lv_iadd hX_ hB_ dL_isDone_400 ?_
    refine ze_top (xb_add (a := 142) (b := 5 * (xd_in xs L (i + 1) (n 4))) (c := 5 * (xd_in xs L (i + 1) (n 4)) + 142) (by omega)) ?_
    refine ze_ialdN hX_ hB_ hK hW ((ze_wC c a n A B E).length + 0) (f := (upd N (5 * (xd_in xs L (i + 1) (n 4)) + 142) (nI (xd_in xs L (i + 2) 5 + 1)))) (ze_appL (k := 0) rfl) (i := 5 * (xd_in xs L (i + 1) (n 4)) + 142) (by omega) (by decide) dL_isDone_401 ?_
    refine ze_top (ze_updat _ _ _) ?_
    refine xb_FSq (As := [.ref (a 0), .int (nI (xd_in xs L (i + 1) (n 4))), .int (nI (xd_in xs L (i + 2) 5 + 1))]) (rest := []) S (xw_setRank_f l D c a n A B E (xd_in xs L (i + 1) (n 4)) hN (by omega) (nI (xd_in xs L (i + 2) 5 + 1)) ((xd_rank hI (k := xd_in xs L (i + 1) (n 4)) (y := xd_in xs L (i + 2) 5 + 1) (by omega) (by omega) (by omega)).2)) (vx_cwSW 3 hts gL_isDone_L_setRank rfl rfl rfl (by decide +kernel) ⟨(Nat.le_of_ble_eq_true rfl), (Nat.le_of_ble_eq_true rfl)⟩) hG hK hW hA rfl hl.1 rfl (lv_room (Nat.le_of_ble_eq_true rfl)) dL_isDone_402 ⟨(Nat.le_of_ble_eq_true rfl), (Nat.le_of_ble_eq_true rfl)⟩ (fun H locs hW => ?_)
    have hW : ze_W D ((ze_wC c a n (ze_sE A 21 (xd_in xs L (i + 1) (n 4)) (nI (xd_in xs L (i + 2) 5 + 1))) B E) ++ [(q, .inl (c 0, 210, .inl (upd N (5 * (xd_in xs L (i + 1) (n 4)) + 142) (nI (xd_in xs L (i + 2) 5 + 1)))))]) F s.heap _ _ := hW
    refine lv_iload hX_ hB_ dL_isDone_405 (lv_at hl 0 rfl) ?_
    refine lv_icmp_ne (tgt := 414) hX_ hB_ dL_isDone_407 (by decide) (fun c407 => ?_) (fun c407 => ?_)
    · exact absurd rfl c407
    · refine lv_iconst (v := 1) hX_ hB_ dL_isDone_410 (by decide) ?_
      refine lv_goto (tgt := 415) hX_ hB_ dL_isDone_411 (by decide) ?_
      exact xb_iret (T := xd_T) (a, n, (ze_sE A 21 (xd_in xs L (i + 1) (n 4)) (nI (xd_in xs L (i + 2) 5 + 1))), B, E, (upd N (5 * (xd_in xs L (i + 1) (n 4)) + 142) (nI (xd_in xs L (i + 2) 5 + 1)))) S hr hlocks hF hK hW rfl dL_isDone_415 (Nat.le_of_ble_eq_true rfl) (Nat.le_of_ble_eq_true rfl) ⟨rfl, ⟨rfl, (xd_m (xd_rank hI (by omega) (by omega) (by omega)).1 (by omega)), rfl, Nat.le_refl _, Nat.le_refl _⟩⟩ rfl
  · refine ze_top (y := nI 11) (by rw [h31]) ?_
    refine lv_tableIn (off := 385) (tgt := 416) hX_ hB_ dL_isDone_31 (by decide) (by decide) rfl (by decide) ?_
    refine lv_aload_n hX_ hB_ dL_isDone_416 rfl (lv_at hl 4 rfl) ?_
    refine lv_iload_n hX_ hB_ dL_isDone_417 rfl (lv_at hl 5 rfl) ?_
    refine lv_iconst (v := 1) hX_ hB_ dL_isDone_418 (by decide) ?_
    refine lv_iadd hX_ hB_ dL_isDone_419 ?_
    refine ze_top (xb_add (a := i) (b := 1) (c := i + 1) (by omega)) ?_
    refine lv_iconst (v := 2) hX_ hB_ dL_isDone_420 (by decide) ?_
    have hW : ze_W D (([] : va_W) ++ ((ze_wC c a n A B E) ++ [(q, .inl (c 0, 210, .inl N))])) F s.heap _ _ := hW
    refine xb_FSx (As := [.ref b, .int (nI (i + 1)), .int 2]) (rest := []) S (xj_in l D c b L xs hL (i + 1) (by omega) 2 (by omega) (by omega)) (va_cwS 3 hts gL_isDone_L_in rfl rfl rfl (by decide +kernel) ⟨(Nat.le_of_ble_eq_true rfl), (Nat.le_of_ble_eq_true rfl)⟩) (Or.inr rfl) hG hK hW hA rfl hl.1 rfl (lv_room (Nat.le_of_ble_eq_true rfl)) dL_isDone_421 ⟨(Nat.le_of_ble_eq_true rfl), (Nat.le_of_ble_eq_true rfl)⟩ (fun H locs hW => ?_)
    have hv421 := xd_inlt (xs := xs) (L := L) (i := i + 1) (k := 2) (by omega)
    have hW : ze_W D ((ze_wC c a n A B E) ++ [(q, .inl (c 0, 210, .inl N))]) F s.heap _ _ := hW
    refine lv_if_ne (tgt := 439) hX_ hB_ dL_isDone_424 (by decide) (fun c424 => ?_) (fun c424 => ?_)
    · have c424 : ¬ (xd_in xs L (i + 1) 2) = 0 := fun h9 => c424 ((nI_eq (a := (xd_in xs L (i + 1) 2)) (b := 0) (by omega) (by omega)).mpr h9)
      refine lv_aload_n hX_ hB_ dL_isDone_439 rfl (lv_at hl 2 rfl) ?_
      refine lv_aload_n hX_ hB_ dL_isDone_440 rfl (lv_at hl 3 rfl) ?_
      refine lv_aload_n hX_ hB_ dL_isDone_441 rfl (lv_at hl 4 rfl) ?_
      refine lv_iload_n hX_ hB_ dL_isDone_442 rfl (lv_at hl 5 rfl) ?_
      refine lv_iconst (v := 2) hX_ hB_ dL_isDone_443 (by decide) ?_
      refine lv_iadd hX_ hB_ dL_isDone_444 ?_
      refine ze_top (xb_add (a := i) (b := 2) (c := i + 2) (by omega)) ?_
      have hW := ze_W0 hW
      refine xb_FSm (As := [.ref (a 0), .ref q, .ref b, .int (nI (i + 2))]) (rest := []) S (xj_isStore l D hst c q a n A B E N t hI b L xs hL (i + 2) (by omega) h0) (va_cwS 4 hts gL_isDone_L_isStore rfl rfl rfl (by decide +kernel) ⟨(Nat.le_of_ble_eq_true rfl), (Nat.le_of_ble_eq_true rfl)⟩) (Or.inr rfl) hG hK hW hA rfl hl.1 rfl (lv_room (Nat.le_of_ble_eq_true rfl)) dL_isDone_445 ⟨(Nat.le_of_ble_eq_true rfl), (Nat.le_of_ble_eq_true rfl)⟩ (fun r_ u9 hu9 H locs hW => ?_)
      obtain ⟨a9, n9, A9, B9, E9, N9⟩ := u9
      obtain ⟨hr9, ha9, hI9, hn9, h29, h49⟩ := hu9
      have ha9 : a9 0 = a 0 := ha9
      have hI9 : xd_I n9 A9 B9 E9 N9 (t) := hI9
      have hn9 : n9 0 = n 0 := hn9
      have h29 : n 2 ≤ n9 2 := h29
      have h49 : n 4 ≤ n9 4 := h49
      subst hr9
      have hW := ze_W0' hW
      have hW : ze_W D ((ze_wC c a9 n9 A9 B9 E9) ++ [(q, .inl (c 0, 210, .inl N9))]) F s.heap _ _ := hW
      exact xb_iret (T := xd_T) (a9, n9, A9, B9, E9, N9) S hr hlocks hF hK hW rfl dL_isDone_448 (Nat.le_of_ble_eq_true rfl) (Nat.le_of_ble_eq_true rfl) ⟨rfl, ⟨ha9, (xd_m hI9 (by omega)), hn9, h29, h49⟩⟩ rfl
    · have c424 : (xd_in xs L (i + 1) 2) = 0 := (nI_eq (a := (xd_in xs L (i + 1) 2)) (b := 0) (by omega) (by omega)).mp c424
      refine lv_aload_n hX_ hB_ dL_isDone_427 rfl (lv_at hl 2 rfl) ?_
      refine lv_aload_n hX_ hB_ dL_isDone_428 rfl (lv_at hl 3 rfl) ?_
      refine lv_aload_n hX_ hB_ dL_isDone_429 rfl (lv_at hl 4 rfl) ?_
      refine lv_iload_n hX_ hB_ dL_isDone_430 rfl (lv_at hl 5 rfl) ?_
      refine lv_iconst (v := 2) hX_ hB_ dL_isDone_431 (by decide) ?_
      refine lv_iadd hX_ hB_ dL_isDone_432 ?_
      refine ze_top (xb_add (a := i) (b := 2) (c := i + 2) (by omega)) ?_
      have hW := ze_W0 hW
      refine xb_FSm (As := [.ref (a 0), .ref q, .ref b, .int (nI (i + 2))]) (rest := []) S (xj_isLoad l D hst c q a n A B E N t hI b L xs hL (i + 2) (by omega) h0) (va_cwS 4 hts gL_isDone_L_isLoad rfl rfl rfl (by decide +kernel) ⟨(Nat.le_of_ble_eq_true rfl), (Nat.le_of_ble_eq_true rfl)⟩) (Or.inr rfl) hG hK hW hA rfl hl.1 rfl (lv_room (Nat.le_of_ble_eq_true rfl)) dL_isDone_433 ⟨(Nat.le_of_ble_eq_true rfl), (Nat.le_of_ble_eq_true rfl)⟩ (fun r_ u9 hu9 H locs hW => ?_)
      obtain ⟨a9, n9, A9, B9, E9, N9⟩ := u9
      obtain ⟨hr9, ⟨ha9, hI9, hn9, h29, h49⟩, hx9⟩ := hu9
      have ha9 : a9 0 = a 0 := ha9
      have hI9 : xd_I n9 A9 B9 E9 N9 (t) := hI9
      have hn9 : n9 0 = n 0 := hn9
      have h29 : n 2 ≤ n9 2 := h29
      have h49 : n 4 ≤ n9 4 := h49
      subst hr9
      have hW := ze_W0' hW
      have hW : ze_W D ((ze_wC c a9 n9 A9 B9 E9) ++ [(q, .inl (c 0, 210, .inl N9))]) F s.heap _ _ := hW
      refine lv_goto (tgt := 448) hX_ hB_ dL_isDone_436 (by decide) ?_
      exact xb_iret (T := xd_T) (a9, n9, A9, B9, E9, N9) S hr hlocks hF hK hW rfl dL_isDone_448 (Nat.le_of_ble_eq_true rfl) (Nat.le_of_ble_eq_true rfl) ⟨rfl, ⟨ha9, (xd_m hI9 (by omega)), hn9, h29, h49⟩⟩ rfl
  · refine ze_top (y := nI 12) (by rw [h31]) ?_
    refine lv_tableOut (tgt := 449) hX_ hB_ dL_isDone_31 (Or.inr (by decide)) (by decide) ?_
    refine lv_aload_n hX_ hB_ dL_isDone_449 rfl (lv_at hl 2 rfl) ?_
    refine lv_aload_n hX_ hB_ dL_isDone_450 rfl (lv_at hl 3 rfl) ?_
    refine lv_iconst (v := 1) hX_ hB_ dL_isDone_451 (by decide) ?_
    refine lv_aload_n hX_ hB_ dL_isDone_452 rfl (lv_at hl 4 rfl) ?_
    refine lv_iload_n hX_ hB_ dL_isDone_453 rfl (lv_at hl 5 rfl) ?_
    refine lv_iconst (v := 1) hX_ hB_ dL_isDone_454 (by decide) ?_
    refine lv_iadd hX_ hB_ dL_isDone_455 ?_
    refine ze_top (xb_add (a := i) (b := 1) (c := i + 1) (by omega)) ?_
    refine lv_iconst (v := 3) hX_ hB_ dL_isDone_456 (by decide) ?_
    have hW : ze_W D (([] : va_W) ++ ((ze_wC c a n A B E) ++ [(q, .inl (c 0, 210, .inl N))])) F s.heap _ _ := hW
    refine xb_FSx (As := [.ref b, .int (nI (i + 1)), .int 3]) (rest := [.int 1, .ref q, .ref (a 0)]) S (xj_in l D c b L xs hL (i + 1) (by omega) 3 (by omega) (by omega)) (va_cwS 3 hts gL_isDone_L_in rfl rfl rfl (by decide +kernel) ⟨(Nat.le_of_ble_eq_true rfl), (Nat.le_of_ble_eq_true rfl)⟩) (Or.inr rfl) hG hK hW hA rfl hl.1 rfl (lv_room (Nat.le_of_ble_eq_true rfl)) dL_isDone_457 ⟨(Nat.le_of_ble_eq_true rfl), (Nat.le_of_ble_eq_true rfl)⟩ (fun H locs hW => ?_)
    have hv457 := xd_inlt (xs := xs) (L := L) (i := i + 1) (k := 3) (by omega)
    have hW : ze_W D ((ze_wC c a n A B E) ++ [(q, .inl (c 0, 210, .inl N))]) F s.heap _ _ := hW
    refine lv_iadd hX_ hB_ dL_isDone_460 ?_
    refine ze_top (xb_add (a := 1) (b := xd_in xs L (i + 1) 3) (c := xd_in xs L (i + 1) 3 + 1) (by omega)) ?_
    have hW := ze_W0 hW
    refine xb_FSm (As := [.ref (a 0), .ref q, .int (nI (xd_in xs L (i + 1) 3 + 1))]) (rest := []) S (xj_isPassed l D hst c q a n A B E N t hI ht (xd_in xs L (i + 1) 3 + 1) (by omega) (by omega)) (va_cwS 3 hts gL_isDone_L_isPassed rfl rfl rfl (by decide +kernel) ⟨(Nat.le_of_ble_eq_true rfl), (Nat.le_of_ble_eq_true rfl)⟩) (Or.inl rfl) hG hK hW hA rfl hl.1 rfl (lv_room (Nat.le_of_ble_eq_true rfl)) dL_isDone_461 ⟨(Nat.le_of_ble_eq_true rfl), (Nat.le_of_ble_eq_true rfl)⟩ (fun r_ u9 hu9 H locs hW => ?_)
    obtain ⟨a9, n9, A9, B9, E9, N9⟩ := u9
    obtain ⟨hr9, ha9, hI9, hn9, h29, h49⟩ := hu9
    have ha9 : a9 0 = a 0 := ha9
    have hI9 : xd_I n9 A9 B9 E9 N9 (t + 3) := hI9
    have hn9 : n9 0 = n 0 := hn9
    have h29 : n 2 ≤ n9 2 := h29
    have h49 : n 4 ≤ n9 4 := h49
    subst hr9
    have hW := ze_W0' hW
    have hW : ze_W D ((ze_wC c a9 n9 A9 B9 E9) ++ [(q, .inl (c 0, 210, .inl N9))]) F s.heap _ _ := hW
    exact xb_iret (T := xd_T) (a9, n9, A9, B9, E9, N9) S hr hlocks hF hK hW rfl dL_isDone_464 (Nat.le_of_ble_eq_true rfl) (Nat.le_of_ble_eq_true rfl) ⟨rfl, ⟨ha9, hI9, hn9, h29, h49⟩⟩ rfl
  · refine ze_top (y := nI 13) (by rw [h31]) ?_
    refine lv_tableOut (tgt := 449) hX_ hB_ dL_isDone_31 (Or.inr (by decide)) (by decide) ?_
    refine lv_aload_n hX_ hB_ dL_isDone_449 rfl (lv_at hl 2 rfl) ?_
    refine lv_aload_n hX_ hB_ dL_isDone_450 rfl (lv_at hl 3 rfl) ?_
    refine lv_iconst (v := 1) hX_ hB_ dL_isDone_451 (by decide) ?_
    refine lv_aload_n hX_ hB_ dL_isDone_452 rfl (lv_at hl 4 rfl) ?_
    refine lv_iload_n hX_ hB_ dL_isDone_453 rfl (lv_at hl 5 rfl) ?_
    refine lv_iconst (v := 1) hX_ hB_ dL_isDone_454 (by decide) ?_
    refine lv_iadd hX_ hB_ dL_isDone_455 ?_
    refine ze_top (xb_add (a := i) (b := 1) (c := i + 1) (by omega)) ?_
    refine lv_iconst (v := 3) hX_ hB_ dL_isDone_456 (by decide) ?_
    have hW : ze_W D (([] : va_W) ++ ((ze_wC c a n A B E) ++ [(q, .inl (c 0, 210, .inl N))])) F s.heap _ _ := hW
    refine xb_FSx (As := [.ref b, .int (nI (i + 1)), .int 3]) (rest := [.int 1, .ref q, .ref (a 0)]) S (xj_in l D c b L xs hL (i + 1) (by omega) 3 (by omega) (by omega)) (va_cwS 3 hts gL_isDone_L_in rfl rfl rfl (by decide +kernel) ⟨(Nat.le_of_ble_eq_true rfl), (Nat.le_of_ble_eq_true rfl)⟩) (Or.inr rfl) hG hK hW hA rfl hl.1 rfl (lv_room (Nat.le_of_ble_eq_true rfl)) dL_isDone_457 ⟨(Nat.le_of_ble_eq_true rfl), (Nat.le_of_ble_eq_true rfl)⟩ (fun H locs hW => ?_)
    have hv457 := xd_inlt (xs := xs) (L := L) (i := i + 1) (k := 3) (by omega)
    have hW : ze_W D ((ze_wC c a n A B E) ++ [(q, .inl (c 0, 210, .inl N))]) F s.heap _ _ := hW
    refine lv_iadd hX_ hB_ dL_isDone_460 ?_
    refine ze_top (xb_add (a := 1) (b := xd_in xs L (i + 1) 3) (c := xd_in xs L (i + 1) 3 + 1) (by omega)) ?_
    have hW := ze_W0 hW
    refine xb_FSm (As := [.ref (a 0), .ref q, .int (nI (xd_in xs L (i + 1) 3 + 1))]) (rest := []) S (xj_isPassed l D hst c q a n A B E N t hI ht (xd_in xs L (i + 1) 3 + 1) (by omega) (by omega)) (va_cwS 3 hts gL_isDone_L_isPassed rfl rfl rfl (by decide +kernel) ⟨(Nat.le_of_ble_eq_true rfl), (Nat.le_of_ble_eq_true rfl)⟩) (Or.inl rfl) hG hK hW hA rfl hl.1 rfl (lv_room (Nat.le_of_ble_eq_true rfl)) dL_isDone_461 ⟨(Nat.le_of_ble_eq_true rfl), (Nat.le_of_ble_eq_true rfl)⟩ (fun r_ u9 hu9 H locs hW => ?_)
    obtain ⟨a9, n9, A9, B9, E9, N9⟩ := u9
    obtain ⟨hr9, ha9, hI9, hn9, h29, h49⟩ := hu9
    have ha9 : a9 0 = a 0 := ha9
    have hI9 : xd_I n9 A9 B9 E9 N9 (t + 3) := hI9
    have hn9 : n9 0 = n 0 := hn9
    have h29 : n 2 ≤ n9 2 := h29
    have h49 : n 4 ≤ n9 4 := h49
    subst hr9
    have hW := ze_W0' hW
    have hW : ze_W D ((ze_wC c a9 n9 A9 B9 E9) ++ [(q, .inl (c 0, 210, .inl N9))]) F s.heap _ _ := hW
    exact xb_iret (T := xd_T) (a9, n9, A9, B9, E9, N9) S hr hlocks hF hK hW rfl dL_isDone_464 (Nat.le_of_ble_eq_true rfl) (Nat.le_of_ble_eq_true rfl) ⟨rfl, ⟨ha9, hI9, hn9, h29, h49⟩⟩ rfl
