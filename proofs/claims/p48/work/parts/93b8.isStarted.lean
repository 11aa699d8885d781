/-! ===== the law's methods over the object and the net ===== -/
set_option maxHeartbeats 8000000 in
set_option maxRecDepth 100000 in
theorem xj_isStarted (l : Launch) (D : va_G) (hst : l.stackTraces = false) (c : Nat → ClassId) (q : Nat) (a n : Nat → Nat) (A : Nat → Nat → Int32) (B : Nat → Int64) (E : Nat → Nat → Int32) (N : Nat → Int32) (t : Nat) (hI : xd_I n A B E N t) (g : Nat) (hg : g < n 2) : xb_M (T := xd_T) l yL_isStarted wsL_isStarted 8 126 2 12 D c none ((ze_wC c a n A B E) ++ [(q, .inl (c 0, 210, .inl N))]) [.ref (a 0), .ref q, .int (nI g)] (fun r (u : xd_T) => r = 1 ∧ xd_P (a 0) n (t) u) (fun u => xd_w c q u) := by
  intro sz
  refine xb_start (cc := cL_isStarted) (maxL := 5) (ret := (some .boolean)) (own := RL) (by decide) rfl rfl (Nat.le_of_ble_eq_true rfl) ?_
  have hKc := xd_K hI
  have hH := xc_KH hKc
  obtain ⟨hV, hR, hPh, hY, hWu⟩ := id hI
  obtain ⟨hN, hS, hE, hz, h4, h4z, hT, hC, hKz, hZ, hp⟩ := id hV
  obtain ⟨hn0, hn1, hn2, hn3, hn4⟩ := id hN
  have hE1 := zv_hE hV
  have hst5 := (hR.2.2.2.1.1 g hg).2.2.2.2.2
  intro p e s m_ below meth cd F ls hF hsz E0 hG
  obtain ⟨S, hr, hlocks, hK, hW, hA, hl⟩ := E0
  have hX_ := S.1
  have hB_ := S.2.1
  have hts := S.2.2.2.2
  have hl : lv_has ls 5 [(0, .ref (a 0)), (1, .ref q), (2, .int (nI g))] := hl
  have w0 := hts (.constant RL 26 (-900002)) (List.mem_cons_of_mem _ (List.mem_append_left _ (List.mem_append_left _ (List.mem_append_left _ (List.mem_append_left _ (List.mem_append_left _ (List.mem_append_left _ (List.mem_append_left _ (List.mem_of_getElem? (i := 0) rfl)))))))))
  have w1 := hts (.constant RL 30 (-900003)) (List.mem_cons_of_mem _ (List.mem_append_left _ (List.mem_append_left _ (List.mem_append_left _ (List.mem_append_left _ (List.mem_append_left _ (List.mem_append_left _ (List.mem_append_left _ (List.mem_of_getElem? (i := 1) rfl)))))))))
  refine lv_bipush (v := 50) hX_ hB_ dL_isStarted_0 (by decide) ?_
  refine lv_bipush (v := 9) hX_ hB_ dL_isStarted_2 (by decide) ?_
  refine lv_iload_n hX_ hB_ dL_isStarted_4 rfl (lv_at hl 2 rfl) ?_
  refine lv_imul hX_ hB_ dL_isStarted_5 ?_
  refine ze_top (xb_mul (a := 9) (b := g) (c := 9 * g) (by omega)) ?_
  refine lv_iadd hX_ hB_ dL_isStarted_6 ?_
  refine ze_top (xb_add (a := 50) (b := 9 * g) (c := 9 * g + 50) (by omega)) ?_
  refine lv_istore_n (lv' := [(3, .int (nI (9 * g + 50))), (0, .ref (a 0)), (1, .ref q), (2, .int (nI g))]) hX_ hB_ dL_isStarted_7 rfl hl (by decide) rfl (fun ls hl => ?_)
  refine lv_aload_n hX_ hB_ dL_isStarted_8 rfl (lv_at hl 2 rfl) ?_
  refine lv_iload_n hX_ hB_ dL_isStarted_9 rfl (lv_at hl 0 rfl) ?_
  refine lv_iconst (v := 5) hX_ hB_ dL_isStarted_10 (by decide) ?_
  refine lv_iadd hX_ hB_ dL_isStarted_11 ?_
  refine ze_top (xb_add (a := 9 * g + 50) (b := 5) (c := 9 * g + 55) (by omega)) ?_
  refine ze_ialdN hX_ hB_ hK hW ((ze_wC c a n A B E).length + 0) (f := N) (ze_appL (k := 0) rfl) (i := 9 * g + 55) (by omega) (by decide) dL_isStarted_12 ?_
  refine ze_top (y := xc_st (A 13 g)) (hR.2.2.2.1.1 g (by omega)).2.2.2.2.2 ?_
  refine lv_if_eq (tgt := 86) hX_ hB_ dL_isStarted_13 (by decide) (fun c13 => ?_) (fun c13 => ?_)
  · refine lv_aload_n hX_ hB_ dL_isStarted_86 rfl (lv_at hl 2 rfl) ?_
    refine lv_iload_n hX_ hB_ dL_isStarted_87 rfl (lv_at hl 0 rfl) ?_
    refine lv_iconst (v := 4) hX_ hB_ dL_isStarted_88 (by decide) ?_
    refine lv_iadd hX_ hB_ dL_isStarted_89 ?_
    refine ze_top (xb_add (a := 9 * g + 50) (b := 4) (c := 9 * g + 54) (by omega)) ?_
    refine ze_ialdN hX_ hB_ hK hW ((ze_wC c a n A B E).length + 0) (f := N) (ze_appL (k := 0) rfl) (i := 9 * g + 54) (by omega) (by decide) dL_isStarted_90 ?_
    refine ze_top (y := A 10 g) (hR.2.2.2.1.1 g (by omega)).2.2.2.2.1 ?_
    refine lv_aload_n hX_ hB_ dL_isStarted_91 rfl (lv_at hl 2 rfl) ?_
    refine lv_iload_n hX_ hB_ dL_isStarted_92 rfl (lv_at hl 0 rfl) ?_
    refine lv_iconst (v := 1) hX_ hB_ dL_isStarted_93 (by decide) ?_
    refine lv_iadd hX_ hB_ dL_isStarted_94 ?_
    refine ze_top (xb_add (a := 9 * g + 50) (b := 1) (c := 9 * g + 51) (by omega)) ?_
    refine ze_ialdN hX_ hB_ hK hW ((ze_wC c a n A B E).length + 0) (f := N) (ze_appL (k := 0) rfl) (i := 9 * g + 51) (by omega) (by decide) dL_isStarted_95 ?_
    refine ze_top (y := A 7 g) (hR.2.2.2.1.1 g (by omega)).2.1 ?_
    refine lv_icmp_ge (tgt := 125) hX_ hB_ dL_isStarted_96 (by decide) (fun c96 => ?_) (fun c96 => ?_)
    · refine lv_aload_n hX_ hB_ dL_isStarted_125 rfl (lv_at hl 2 rfl) ?_
      refine lv_iload_n hX_ hB_ dL_isStarted_126 rfl (lv_at hl 0 rfl) ?_
      refine lv_iconst (v := 5) hX_ hB_ dL_isStarted_127 (by decide) ?_
      refine lv_iadd hX_ hB_ dL_isStarted_128 ?_
      refine ze_top (xb_add (a := 9 * g + 50) (b := 5) (c := 9 * g + 55) (by omega)) ?_
      refine lv_aload_n hX_ hB_ dL_isStarted_129 rfl (lv_at hl 2 rfl) ?_
      refine lv_iload_n hX_ hB_ dL_isStarted_130 rfl (lv_at hl 0 rfl) ?_
      refine lv_iconst (v := 3) hX_ hB_ dL_isStarted_131 (by decide) ?_
      refine lv_iadd hX_ hB_ dL_isStarted_132 ?_
      refine ze_top (xb_add (a := 9 * g + 50) (b := 3) (c := 9 * g + 53) (by omega)) ?_
      refine ze_ialdN hX_ hB_ hK hW ((ze_wC c a n A B E).length + 0) (f := N) (ze_appL (k := 0) rfl) (i := 9 * g + 53) (by omega) (by decide) dL_isStarted_133 ?_
      refine ze_top (y := A 9 g) (hR.2.2.2.1.1 g (by omega)).2.2.2.1 ?_
      refine lv_if_ne (tgt := 141) hX_ hB_ dL_isStarted_134 (by decide) (fun c134 => ?_) (fun c134 => ?_)
      · refine lv_iconst (v := 1) hX_ hB_ dL_isStarted_141 (by decide) ?_
        refine ze_iastN hX_ hB_ hK hW ((ze_wC c a n A B E).length + 0) (f := N) (ze_appL (k := 0) rfl) (i := 9 * g + 55) (by omega) (by decide) dL_isStarted_142 (ze_appset rfl) (fun H locs hW => ?_)
        have hW : ze_W D ((ze_wC c a n A B E) ++ [(q, .inl (c 0, 210, .inl (upd N (9 * g + 55) 1)))]) F s.heap _ _ := hW
        refine lv_aload_n hX_ hB_ dL_isStarted_143 rfl (lv_at hl 2 rfl) ?_
        refine lv_iload_n hX_ hB_ dL_isStarted_144 rfl (lv_at hl 0 rfl) ?_
        refine lv_bipush (v := 6) hX_ hB_ dL_isStarted_145 (by decide) ?_
        refine lv_iadd hX_ hB_ dL_isStarted_147 ?_
        refine ze_top (xb_add (a := 9 * g + 50) (b := 6) (c := 9 * g + 56) (by omega)) ?_
        refine lv_aload_n hX_ hB_ dL_isStarted_148 rfl (lv_at hl 2 rfl) ?_
        refine lv_iload_n hX_ hB_ dL_isStarted_149 rfl (lv_at hl 0 rfl) ?_
        refine lv_iconst (v := 3) hX_ hB_ dL_isStarted_150 (by decide) ?_
        refine lv_iadd hX_ hB_ dL_isStarted_151 ?_
        refine ze_top (xb_add (a := 9 * g + 50) (b := 3) (c := 9 * g + 53) (by omega)) ?_
        refine ze_ialdN hX_ hB_ hK hW ((ze_wC c a n A B E).length + 0) (f := (upd N (9 * g + 55) 1)) (ze_appL (k := 0) rfl) (i := 9 * g + 53) (by omega) (by decide) dL_isStarted_152 ?_
        refine ze_top (xb_un (by omega)) ?_
        refine ze_top (y := A 9 g) (hR.2.2.2.1.1 g (by omega)).2.2.2.1 ?_
        refine ze_iastN hX_ hB_ hK hW ((ze_wC c a n A B E).length + 0) (f := (upd N (9 * g + 55) 1)) (ze_appL (k := 0) rfl) (i := 9 * g + 56) (by omega) (by decide) dL_isStarted_153 (ze_appset rfl) (fun H locs hW => ?_)
        have hW : ze_W D ((ze_wC c a n A B E) ++ [(q, .inl (c 0, 210, .inl (upd (upd N (9 * g + 55) 1) (9 * g + 56) (A 9 g))))]) F s.heap _ _ := hW
        refine lv_aload_n hX_ hB_ dL_isStarted_154 rfl (lv_at hl 1 rfl) ?_
        refine lv_iload_n hX_ hB_ dL_isStarted_155 rfl (lv_at hl 3 rfl) ?_
        refine xb_FSq (As := [.ref (a 0), .int (nI g)]) (rest := []) S (xw_start_f l D c a n A B E g hN hg ((xc_st0 (hC g hg)).mp c13) (fun z9 => z9 c96)) (vx_cwSW 2 hts gL_isStarted_L_start rfl rfl rfl (by decide +kernel) ⟨(Nat.le_of_ble_eq_true rfl), (Nat.le_of_ble_eq_true rfl)⟩) hG hK hW hA rfl hl.1 rfl (lv_room (Nat.le_of_ble_eq_true rfl)) dL_isStarted_156 ⟨(Nat.le_of_ble_eq_true rfl), (Nat.le_of_ble_eq_true rfl)⟩ (fun H locs hW => ?_)
        have hW : ze_W D ((ze_wC c a n (zf_start A g) B E) ++ [(q, .inl (c 0, 210, .inl (upd (upd N (9 * g + 55) 1) (9 * g + 56) (A 9 g))))]) F s.heap _ _ := hW
        refine ze_top (y := A 9 g) (xd_st11 A g) ?_
        refine lv_aload_n hX_ hB_ dL_isStarted_159 rfl (lv_at hl 2 rfl) ?_
        refine lv_iload_n hX_ hB_ dL_isStarted_160 rfl (lv_at hl 0 rfl) ?_
        refine lv_iconst (v := 3) hX_ hB_ dL_isStarted_161 (by decide) ?_
        refine lv_iadd hX_ hB_ dL_isStarted_162 ?_
        refine ze_top (xb_add (a := 9 * g + 50) (b := 3) (c := 9 * g + 53) (by omega)) ?_
        refine ze_ialdN hX_ hB_ hK hW ((ze_wC c a n (zf_start A g) B E).length + 0) (f := (upd (upd N (9 * g + 55) 1) (9 * g + 56) (A 9 g))) (ze_appL (k := 0) rfl) (i := 9 * g + 53) (by omega) (by decide) dL_isStarted_163 ?_
        refine ze_top (xb_un (by omega)) ?_
        refine ze_top (xb_un (by omega)) ?_
        refine ze_top (y := A 9 g) (hR.2.2.2.1.1 g (by omega)).2.2.2.1 ?_
        refine lv_icmp_ne (tgt := 171) hX_ hB_ dL_isStarted_164 (by decide) (fun c164 => ?_) (fun c164 => ?_)
        · exact absurd rfl c164
        · refine lv_iconst (v := 1) hX_ hB_ dL_isStarted_167 (by decide) ?_
          refine lv_goto (tgt := 172) hX_ hB_ dL_isStarted_168 (by decide) ?_
          exact xb_iret (T := xd_T) (a, n, (zf_start A g), B, E, (upd (upd N (9 * g + 55) 1) (9 * g + 56) (A 9 g))) S hr hlocks hF hK hW rfl dL_isStarted_172 (Nat.le_of_ble_eq_true rfl) (Nat.le_of_ble_eq_true rfl) ⟨rfl, ⟨rfl, (by have z9 := xd_start hI hg; rw [if_neg c134] at z9; exact z9), rfl, Nat.le_refl _, Nat.le_refl _⟩⟩ rfl
      · refine lv_iconst (v := 2) hX_ hB_ dL_isStarted_137 (by decide) ?_
        refine lv_goto (tgt := 142) hX_ hB_ dL_isStarted_138 (by decide) ?_
        refine ze_iastN hX_ hB_ hK hW ((ze_wC c a n A B E).length + 0) (f := N) (ze_appL (k := 0) rfl) (i := 9 * g + 55) (by omega) (by decide) dL_isStarted_142 (ze_appset rfl) (fun H locs hW => ?_)
        have hW : ze_W D ((ze_wC c a n A B E) ++ [(q, .inl (c 0, 210, .inl (upd N (9 * g + 55) 2)))]) F s.heap _ _ := hW
        refine lv_aload_n hX_ hB_ dL_isStarted_143 rfl (lv_at hl 2 rfl) ?_
        refine lv_iload_n hX_ hB_ dL_isStarted_144 rfl (lv_at hl 0 rfl) ?_
        refine lv_bipush (v := 6) hX_ hB_ dL_isStarted_145 (by decide) ?_
        refine lv_iadd hX_ hB_ dL_isStarted_147 ?_
        refine ze_top (xb_add (a := 9 * g + 50) (b := 6) (c := 9 * g + 56) (by omega)) ?_
        refine lv_aload_n hX_ hB_ dL_isStarted_148 rfl (lv_at hl 2 rfl) ?_
        refine lv_iload_n hX_ hB_ dL_isStarted_149 rfl (lv_at hl 0 rfl) ?_
        refine lv_iconst (v := 3) hX_ hB_ dL_isStarted_150 (by decide) ?_
        refine lv_iadd hX_ hB_ dL_isStarted_151 ?_
        refine ze_top (xb_add (a := 9 * g + 50) (b := 3) (c := 9 * g + 53) (by omega)) ?_
        refine ze_ialdN hX_ hB_ hK hW ((ze_wC c a n A B E).length + 0) (f := (upd N (9 * g + 55) 2)) (ze_appL (k := 0) rfl) (i := 9 * g + 53) (by omega) (by decide) dL_isStarted_152 ?_
        refine ze_top (xb_un (by omega)) ?_
        refine ze_top (y := A 9 g) (hR.2.2.2.1.1 g (by omega)).2.2.2.1 ?_
        refine ze_iastN hX_ hB_ hK hW ((ze_wC c a n A B E).length + 0) (f := (upd N (9 * g + 55) 2)) (ze_appL (k := 0) rfl) (i := 9 * g + 56) (by omega) (by decide) dL_isStarted_153 (ze_appset rfl) (fun H locs hW => ?_)
        have hW : ze_W D ((ze_wC c a n A B E) ++ [(q, .inl (c 0, 210, .inl (upd (upd N (9 * g + 55) 2) (9 * g + 56) (A 9 g))))]) F s.heap _ _ := hW
        refine lv_aload_n hX_ hB_ dL_isStarted_154 rfl (lv_at hl 1 rfl) ?_
        refine lv_iload_n hX_ hB_ dL_isStarted_155 rfl (lv_at hl 3 rfl) ?_
        refine xb_FSq (As := [.ref (a 0), .int (nI g)]) (rest := []) S (xw_start_f l D c a n A B E g hN hg ((xc_st0 (hC g hg)).mp c13) (fun z9 => z9 c96)) (vx_cwSW 2 hts gL_isStarted_L_start rfl rfl rfl (by decide +kernel) ⟨(Nat.le_of_ble_eq_true rfl), (Nat.le_of_ble_eq_true rfl)⟩) hG hK hW hA rfl hl.1 rfl (lv_room (Nat.le_of_ble_eq_true rfl)) dL_isStarted_156 ⟨(Nat.le_of_ble_eq_true rfl), (Nat.le_of_ble_eq_true rfl)⟩ (fun H locs hW => ?_)
        have hW : ze_W D ((ze_wC c a n (zf_start A g) B E) ++ [(q, .inl (c 0, 210, .inl (upd (upd N (9 * g + 55) 2) (9 * g + 56) (A 9 g))))]) F s.heap _ _ := hW
        refine ze_top (y := A 9 g) (xd_st11 A g) ?_
        refine lv_aload_n hX_ hB_ dL_isStarted_159 rfl (lv_at hl 2 rfl) ?_
        refine lv_iload_n hX_ hB_ dL_isStarted_160 rfl (lv_at hl 0 rfl) ?_
        refine lv_iconst (v := 3) hX_ hB_ dL_isStarted_161 (by decide) ?_
        refine lv_iadd hX_ hB_ dL_isStarted_162 ?_
        refine ze_top (xb_add (a := 9 * g + 50) (b := 3) (c := 9 * g + 53) (by omega)) ?_
        refine ze_ialdN hX_ hB_ hK hW ((ze_wC c a n (zf_start A g) B E).length + 0) (f := (upd (upd N (9 * g + 55) 2) (9 * g + 56) (A 9 g))) (ze_appL (k := 0) rfl) (i := 9 * g + 53) (by omega) (by decide) dL_isStarted_163 ?_
        refine ze_top (xb_un (by omega)) ?_
        refine ze_top (xb_un (by omega)) ?_
        refine ze_top (y := A 9 g) (hR.2.2.2.1.1 g (by omega)).2.2.2.1 ?_
        refine lv_icmp_ne (tgt := 171) hX_ hB_ dL_isStarted_164 (by decide) (fun c164 => ?_) (fun c164 => ?_)
        · exact absurd rfl c164
        · refine lv_iconst (v := 1) hX_ hB_ dL_isStarted_167 (by decide) ?_
          refine lv_goto (tgt := 172) hX_ hB_ dL_isStarted_168 (by decide) ?_
          exact xb_iret (T := xd_T) (a, n, (zf_start A g), B, E, (upd (upd N (9 * g + 55) 2) (9 * g + 56) (A 9 g))) S hr hlocks hF hK hW rfl dL_isStarted_172 (Nat.le_of_ble_eq_true rfl) (Nat.le_of_ble_eq_true rfl) ⟨rfl, ⟨rfl, (by have z9 := xd_start hI hg; rw [if_pos c134] at z9; exact z9), rfl, Nat.le_refl _, Nat.le_refl _⟩⟩ rfl
    · refine lv_aload_n hX_ hB_ dL_isStarted_99 rfl (lv_at hl 1 rfl) ?_
      refine lv_iload_n hX_ hB_ dL_isStarted_100 rfl (lv_at hl 3 rfl) ?_
      refine xb_FSq (As := [.ref (a 0), .int (nI g)]) (rest := []) S (xw_stop_t2 l D hst c a n A B E g hN hg ((xc_st0 (hC g hg)).mp c13)) (vx_cwSW 2 hts gL_isStarted_L_stop rfl rfl rfl (by decide +kernel) ⟨(Nat.le_of_ble_eq_true rfl), (Nat.le_of_ble_eq_true rfl)⟩) hG hK hW hA rfl hl.1 rfl (lv_room (Nat.le_of_ble_eq_true rfl)) dL_isStarted_101 ⟨(Nat.le_of_ble_eq_true rfl), (Nat.le_of_ble_eq_true rfl)⟩ (fun H locs hW => ?_)
      have hW : ze_W D ((ze_wC c a n A B E) ++ [(q, .inl (c 0, 210, .inl N))]) F s.heap _ _ := hW
      refine lv_ldc (own := RL) (v := -900002) hX_ hB_ S.2.2.2.1 w0 dL_isStarted_104 ?_
      refine lv_icmp_ne (tgt := 123) hX_ hB_ dL_isStarted_106 (by decide) (fun c106 => ?_) (fun c106 => ?_)
      · exact absurd c106 (by decide)
      · refine lv_aload_n hX_ hB_ dL_isStarted_109 rfl (lv_at hl 1 rfl) ?_
        refine lv_iload_n hX_ hB_ dL_isStarted_110 rfl (lv_at hl 3 rfl) ?_
        refine xb_FSq (As := [.ref (a 0), .int (nI g)]) (rest := []) S (xw_start_t3 l D hst c a n A B E g hN hg ((xc_st0 (hC g hg)).mp c13) c96) (vx_cwSW 2 hts gL_isStarted_L_start rfl rfl rfl (by decide +kernel) ⟨(Nat.le_of_ble_eq_true rfl), (Nat.le_of_ble_eq_true rfl)⟩) hG hK hW hA rfl hl.1 rfl (lv_room (Nat.le_of_ble_eq_true rfl)) dL_isStarted_111 ⟨(Nat.le_of_ble_eq_true rfl), (Nat.le_of_ble_eq_true rfl)⟩ (fun H locs hW => ?_)
        have hW : ze_W D ((ze_wC c a n A B E) ++ [(q, .inl (c 0, 210, .inl N))]) F s.heap _ _ := hW
        refine lv_ldc (own := RL) (v := -900003) hX_ hB_ S.2.2.2.1 w1 dL_isStarted_114 ?_
        refine lv_icmp_ne (tgt := 123) hX_ hB_ dL_isStarted_116 (by decide) (fun c116 => ?_) (fun c116 => ?_)
        · exact absurd c116 (by decide)
        · refine lv_iconst (v := 1) hX_ hB_ dL_isStarted_119 (by decide) ?_
          refine lv_goto (tgt := 124) hX_ hB_ dL_isStarted_120 (by decide) ?_
          exact xb_iret (T := xd_T) (a, n, A, B, E, N) S hr hlocks hF hK hW rfl dL_isStarted_124 (Nat.le_of_ble_eq_true rfl) (Nat.le_of_ble_eq_true rfl) ⟨rfl, ⟨rfl, hI, rfl, Nat.le_refl _, Nat.le_refl _⟩⟩ rfl
  · refine lv_aload_n hX_ hB_ dL_isStarted_16 rfl (lv_at hl 2 rfl) ?_
    refine lv_iload_n hX_ hB_ dL_isStarted_17 rfl (lv_at hl 0 rfl) ?_
    refine lv_iconst (v := 4) hX_ hB_ dL_isStarted_18 (by decide) ?_
    refine lv_iadd hX_ hB_ dL_isStarted_19 ?_
    refine ze_top (xb_add (a := 9 * g + 50) (b := 4) (c := 9 * g + 54) (by omega)) ?_
    refine ze_ialdN hX_ hB_ hK hW ((ze_wC c a n A B E).length + 0) (f := N) (ze_appL (k := 0) rfl) (i := 9 * g + 54) (by omega) (by decide) dL_isStarted_20 ?_
    refine ze_top (y := A 10 g) (hR.2.2.2.1.1 g (by omega)).2.2.2.2.1 ?_
    refine lv_iconst (v := 2) hX_ hB_ dL_isStarted_21 (by decide) ?_
    refine lv_irem hX_ hB_ dL_isStarted_22 (by decide) ?_
    refine lv_if_ne (tgt := 30) hX_ hB_ dL_isStarted_23 (by decide) (fun c23 => ?_) (fun c23 => ?_)
    · refine lv_iconst (v := 0) hX_ hB_ dL_isStarted_30 (by decide) ?_
      refine lv_istore (lv' := [(4, .int 0), (3, .int (nI (9 * g + 50))), (0, .ref (a 0)), (1, .ref q), (2, .int (nI g))]) hX_ hB_ dL_isStarted_31 hl (by decide) rfl (fun ls hl => ?_)
      refine lv_aload_n hX_ hB_ dL_isStarted_33 rfl (lv_at hl 3 rfl) ?_
      refine lv_iload_n hX_ hB_ dL_isStarted_34 rfl (lv_at hl 1 rfl) ?_
      refine lv_iconst (v := 5) hX_ hB_ dL_isStarted_35 (by decide) ?_
      refine lv_iadd hX_ hB_ dL_isStarted_36 ?_
      refine ze_top (xb_add (a := 9 * g + 50) (b := 5) (c := 9 * g + 55) (by omega)) ?_
      refine lv_iload hX_ hB_ dL_isStarted_37 (lv_at hl 0 rfl) ?_
      refine lv_if_eq (tgt := 46) hX_ hB_ dL_isStarted_39 (by decide) (fun c39 => ?_) (fun c39 => ?_)
      · refine lv_aload_n hX_ hB_ dL_isStarted_46 rfl (lv_at hl 3 rfl) ?_
        refine lv_iload_n hX_ hB_ dL_isStarted_47 rfl (lv_at hl 1 rfl) ?_
        refine lv_iconst (v := 5) hX_ hB_ dL_isStarted_48 (by decide) ?_
        refine lv_iadd hX_ hB_ dL_isStarted_49 ?_
        refine ze_top (xb_add (a := 9 * g + 50) (b := 5) (c := 9 * g + 55) (by omega)) ?_
        refine ze_ialdN hX_ hB_ hK hW ((ze_wC c a n A B E).length + 0) (f := N) (ze_appL (k := 0) rfl) (i := 9 * g + 55) (by omega) (by decide) dL_isStarted_50 ?_
        refine ze_top (y := xc_st (A 13 g)) (hR.2.2.2.1.1 g (by omega)).2.2.2.2.2 ?_
        refine ze_iastN hX_ hB_ hK hW ((ze_wC c a n A B E).length + 0) (f := N) (ze_appL (k := 0) rfl) (i := 9 * g + 55) (by omega) (by decide) dL_isStarted_51 (ze_appset rfl) (fun H locs hW => ?_)
        have hW : ze_W D ((ze_wC c a n A B E) ++ [(q, .inl (c 0, 210, .inl (upd N (9 * g + 55) (xc_st (A 13 g)))))]) F s.heap _ _ := hW
        refine lv_aload_n hX_ hB_ dL_isStarted_52 rfl (lv_at hl 2 rfl) ?_
        refine lv_iload_n hX_ hB_ dL_isStarted_53 rfl (lv_at hl 4 rfl) ?_
        refine xb_FSq (As := [.ref (a 0), .int (nI g)]) (rest := []) S (xw_start_t2 l D hst c a n A B E g hN hg (fun z9 => c13 ((xc_st0 (hC g hg)).mpr z9))) (vx_cwSW 2 hts gL_isStarted_L_start rfl rfl rfl (by decide +kernel) ⟨(Nat.le_of_ble_eq_true rfl), (Nat.le_of_ble_eq_true rfl)⟩) hG hK hW hA rfl hl.1 rfl (lv_room (Nat.le_of_ble_eq_true rfl)) dL_isStarted_54 ⟨(Nat.le_of_ble_eq_true rfl), (Nat.le_of_ble_eq_true rfl)⟩ (fun H locs hW => ?_)
        have hW : ze_W D ((ze_wC c a n A B E) ++ [(q, .inl (c 0, 210, .inl (upd N (9 * g + 55) (xc_st (A 13 g)))))]) F s.heap _ _ := hW
        refine lv_ldc (own := RL) (v := -900002) hX_ hB_ S.2.2.2.1 w0 dL_isStarted_57 ?_
        refine lv_icmp_ne (tgt := 84) hX_ hB_ dL_isStarted_59 (by decide) (fun c59 => ?_) (fun c59 => ?_)
        · exact absurd c59 (by decide)
        · refine lv_iload hX_ hB_ dL_isStarted_62 (lv_at hl 0 rfl) ?_
          refine lv_if_eq (tgt := 80) hX_ hB_ dL_isStarted_64 (by decide) (fun c64 => ?_) (fun c64 => ?_)
          · refine lv_iconst (v := 1) hX_ hB_ dL_isStarted_80 (by decide) ?_
            refine lv_goto (tgt := 85) hX_ hB_ dL_isStarted_81 (by decide) ?_
            exact xb_iret (T := xd_T) (a, n, A, B, E, (upd N (9 * g + 55) (xc_st (A 13 g)))) S hr hlocks hF hK hW rfl dL_isStarted_85 (Nat.le_of_ble_eq_true rfl) (Nat.le_of_ble_eq_true rfl) ⟨rfl, ⟨rfl, (by rw [xd_self hst5.symm]; exact hI), rfl, Nat.le_refl _, Nat.le_refl _⟩⟩ rfl
          · exact absurd c64 (by decide)
      · exact absurd c39 (by decide)
    · refine lv_iconst (v := 1) hX_ hB_ dL_isStarted_26 (by decide) ?_
      refine lv_goto (tgt := 31) hX_ hB_ dL_isStarted_27 (by decide) ?_
      refine lv_istore (lv' := [(4, .int 1), (3, .int (nI (9 * g + 50))), (0, .ref (a 0)), (1, .ref q), (2, .int (nI g))]) hX_ hB_ dL_isStarted_31 hl (by decide) rfl (fun ls hl => ?_)
      refine lv_aload_n hX_ hB_ dL_isStarted_33 rfl (lv_at hl 3 rfl) ?_
      refine lv_iload_n hX_ hB_ dL_isStarted_34 rfl (lv_at hl 1 rfl) ?_
      refine lv_iconst (v := 5) hX_ hB_ dL_isStarted_35 (by decide) ?_
      refine lv_iadd hX_ hB_ dL_isStarted_36 ?_
      refine ze_top (xb_add (a := 9 * g + 50) (b := 5) (c := 9 * g + 55) (by omega)) ?_
      refine lv_iload hX_ hB_ dL_isStarted_37 (lv_at hl 0 rfl) ?_
      refine lv_if_eq (tgt := 46) hX_ hB_ dL_isStarted_39 (by decide) (fun c39 => ?_) (fun c39 => ?_)
      · exact absurd c39 (by decide)
      · refine lv_iconst (v := 0) hX_ hB_ dL_isStarted_42 (by decide) ?_
        refine lv_goto (tgt := 51) hX_ hB_ dL_isStarted_43 (by decide) ?_
        refine ze_iastN hX_ hB_ hK hW ((ze_wC c a n A B E).length + 0) (f := N) (ze_appL (k := 0) rfl) (i := 9 * g + 55) (by omega) (by decide) dL_isStarted_51 (ze_appset rfl) (fun H locs hW => ?_)
        have hW : ze_W D ((ze_wC c a n A B E) ++ [(q, .inl (c 0, 210, .inl (upd N (9 * g + 55) 0)))]) F s.heap _ _ := hW
        refine lv_aload_n hX_ hB_ dL_isStarted_52 rfl (lv_at hl 2 rfl) ?_
        refine lv_iload_n hX_ hB_ dL_isStarted_53 rfl (lv_at hl 4 rfl) ?_
        refine xb_FSq (As := [.ref (a 0), .int (nI g)]) (rest := []) S (xw_start_t2 l D hst c a n A B E g hN hg (fun z9 => c13 ((xc_st0 (hC g hg)).mpr z9))) (vx_cwSW 2 hts gL_isStarted_L_start rfl rfl rfl (by decide +kernel) ⟨(Nat.le_of_ble_eq_true rfl), (Nat.le_of_ble_eq_true rfl)⟩) hG hK hW hA rfl hl.1 rfl (lv_room (Nat.le_of_ble_eq_true rfl)) dL_isStarted_54 ⟨(Nat.le_of_ble_eq_true rfl), (Nat.le_of_ble_eq_true rfl)⟩ (fun H locs hW => ?_)
        have hW : ze_W D ((ze_wC c a n A B E) ++ [(q, .inl (c 0, 210, .inl (upd N (9 * g + 55) 0)))]) F s.heap _ _ := hW
        refine lv_ldc (own := RL) (v := -900002) hX_ hB_ S.2.2.2.1 w0 dL_isStarted_57 ?_
        refine lv_icmp_ne (tgt := 84) hX_ hB_ dL_isStarted_59 (by decide) (fun c59 => ?_) (fun c59 => ?_)
        · exact absurd c59 (by decide)
        · refine lv_iload hX_ hB_ dL_isStarted_62 (lv_at hl 0 rfl) ?_
          refine lv_if_eq (tgt := 80) hX_ hB_ dL_isStarted_64 (by decide) (fun c64 => ?_) (fun c64 => ?_)
          · exact absurd c64 (by decide)
          · refine lv_aload_n hX_ hB_ dL_isStarted_67 rfl (lv_at hl 2 rfl) ?_
            refine lv_iload_n hX_ hB_ dL_isStarted_68 rfl (lv_at hl 4 rfl) ?_
            refine xb_FSq (As := [.ref (a 0), .int (nI g)]) (rest := []) S (xw_stop_f l D c a n A B E g hN hg (fun z9 => c13 ((xc_st0 (hC g hg)).mpr z9))) (vx_cwSW 2 hts gL_isStarted_L_stop rfl rfl rfl (by decide +kernel) ⟨(Nat.le_of_ble_eq_true rfl), (Nat.le_of_ble_eq_true rfl)⟩) hG hK hW hA rfl hl.1 rfl (lv_room (Nat.le_of_ble_eq_true rfl)) dL_isStarted_69 ⟨(Nat.le_of_ble_eq_true rfl), (Nat.le_of_ble_eq_true rfl)⟩ (fun H locs hW => ?_)
            have hW : ze_W D ((ze_wC c a n (ze_sE A 13 g 111) B E) ++ [(q, .inl (c 0, 210, .inl (upd N (9 * g + 55) 0)))]) F s.heap _ _ := hW
            refine lv_aload_n hX_ hB_ dL_isStarted_72 rfl (lv_at hl 3 rfl) ?_
            refine lv_iload_n hX_ hB_ dL_isStarted_73 rfl (lv_at hl 1 rfl) ?_
            refine lv_iconst (v := 4) hX_ hB_ dL_isStarted_74 (by decide) ?_
            refine lv_iadd hX_ hB_ dL_isStarted_75 ?_
            refine ze_top (xb_add (a := 9 * g + 50) (b := 4) (c := 9 * g + 54) (by omega)) ?_
            refine ze_ialdN hX_ hB_ hK hW ((ze_wC c a n (ze_sE A 13 g 111) B E).length + 0) (f := (upd N (9 * g + 55) 0)) (ze_appL (k := 0) rfl) (i := 9 * g + 54) (by omega) (by decide) dL_isStarted_76 ?_
            refine ze_top (xb_un (by omega)) ?_
            refine ze_top (y := A 10 g) (hR.2.2.2.1.1 g (by omega)).2.2.2.2.1 ?_
            refine lv_icmp_ne (tgt := 84) hX_ hB_ dL_isStarted_77 (by decide) (fun c77 => ?_) (fun c77 => ?_)
            · exact absurd rfl c77
            · refine lv_iconst (v := 1) hX_ hB_ dL_isStarted_80 (by decide) ?_
              refine lv_goto (tgt := 85) hX_ hB_ dL_isStarted_81 (by decide) ?_
              exact xb_iret (T := xd_T) (a, n, (ze_sE A 13 g 111), B, E, (upd N (9 * g + 55) 0)) S hr hlocks hF hK hW rfl dL_isStarted_85 (Nat.le_of_ble_eq_true rfl) (Nat.le_of_ble_eq_true rfl) ⟨rfl, ⟨rfl, (xd_stop hI hg), rfl, Nat.le_refl _, Nat.le_refl _⟩⟩ rfl
