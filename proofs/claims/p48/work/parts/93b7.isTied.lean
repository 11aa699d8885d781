/-! ===== the law's methods over the object and the net ===== -/
set_option maxHeartbeats 8000000 in
set_option maxRecDepth 100000 in
theorem xj_isTied (l : Launch) (D : va_G) (hst : l.stackTraces = false) (c : Nat → ClassId) (q : Nat) (a n : Nat → Nat) (A : Nat → Nat → Int32) (B : Nat → Int64) (E : Nat → Nat → Int32) (N : Nat → Int32) (t : Nat) (hI : xd_I n A B E N t) (h0 : 0 < n 0) : xb_M (T := xd_T) l yL_isTied wsL_isTied 8 123 2 12 D c none ((ze_wC c a n A B E) ++ [(q, .inl (c 0, 210, .inl N))]) [.ref (a 0), .ref q] (fun r (u : xd_T) => r = 1 ∧ xd_P (a 0) n (t) u) (fun u => xd_w c q u) := by
  intro sz
  refine xb_start (cc := cL_isTied) (maxL := 2) (ret := (some .boolean)) (own := RL) (by decide) rfl rfl (Nat.le_of_ble_eq_true rfl) ?_
  have hKc := xd_K hI
  have hH := xc_KH hKc
  obtain ⟨hV, hR, hPh, hY, hWu⟩ := id hI
  obtain ⟨hN, hS, hE, hz, h4, h4z, hT, hC, hKz, hZ, hp⟩ := id hV
  obtain ⟨hn0, hn1, hn2, hn3, hn4⟩ := id hN
  have hE1 := zv_hE hV
  obtain ⟨p9, lp9, ep9⟩ := hPh 0 (by omega)
  intro p e s m_ below meth cd F ls hF hsz E0 hG
  obtain ⟨S, hr, hlocks, hK, hW, hA, hl⟩ := E0
  have hX_ := S.1
  have hB_ := S.2.1
  have hts := S.2.2.2.2
  have hl : lv_has ls 2 [(0, .ref (a 0)), (1, .ref q)] := hl
  have w0 := hts (.constant RL 17 (-900001)) (List.mem_cons_of_mem _ (List.mem_append_left _ (List.mem_append_left _ (List.mem_append_left _ (List.mem_append_left _ (List.mem_append_left _ (List.mem_append_left _ (List.mem_of_getElem? (i := 1) rfl))))))))
  have w1 := hts (.constant RL 30 (-900003)) (List.mem_cons_of_mem _ (List.mem_append_left _ (List.mem_append_left _ (List.mem_append_left _ (List.mem_append_left _ (List.mem_append_left _ (List.mem_append_left _ (List.mem_of_getElem? (i := 2) rfl))))))))
  have w2 := hts (.constant RL 26 (-900002)) (List.mem_cons_of_mem _ (List.mem_append_left _ (List.mem_append_left _ (List.mem_append_left _ (List.mem_append_left _ (List.mem_append_left _ (List.mem_append_left _ (List.mem_of_getElem? (i := 0) rfl))))))))
  refine lv_aload_n hX_ hB_ dL_isTied_0 rfl (lv_at hl 1 rfl) ?_
  refine lv_bipush (v := 8) hX_ hB_ dL_isTied_1 (by decide) ?_
  refine ze_ialdN hX_ hB_ hK hW ((ze_wC c a n A B E).length + 0) (f := N) (ze_appL (k := 0) rfl) (i := 8) (by omega) (by decide) dL_isTied_3 ?_
  refine ze_top (y := A 38 0) hR.2.1.1.2.2.2.1 ?_
  refine lv_iconst (v := 1) hX_ hB_ dL_isTied_4 (by decide) ?_
  refine lv_icmp_ne (tgt := 39) hX_ hB_ dL_isTied_5 (by decide) (fun c5 => ?_) (fun c5 => ?_)
  · refine lv_aload_n hX_ hB_ dL_isTied_39 rfl (lv_at hl 1 rfl) ?_
    refine lv_bipush (v := 10) hX_ hB_ dL_isTied_40 (by decide) ?_
    refine ze_ialdN hX_ hB_ hK hW ((ze_wC c a n A B E).length + 0) (f := N) (ze_appL (k := 0) rfl) (i := 10) (by omega) (by decide) dL_isTied_42 ?_
    refine ze_top (y := A 0 0) (hR.2.1.2 0 (by omega)) ?_
    refine lv_bipush (v := 10) hX_ hB_ dL_isTied_43 (by decide) ?_
    refine lv_icmp_le (tgt := 82) hX_ hB_ dL_isTied_45 (by decide) (fun c45 => ?_) (fun c45 => ?_)
    · refine lv_aload_n hX_ hB_ dL_isTied_82 rfl (lv_at hl 1 rfl) ?_
      refine lv_bipush (v := 8) hX_ hB_ dL_isTied_83 (by decide) ?_
      refine lv_iconst (v := 1) hX_ hB_ dL_isTied_85 (by decide) ?_
      refine ze_iastN hX_ hB_ hK hW ((ze_wC c a n A B E).length + 0) (f := N) (ze_appL (k := 0) rfl) (i := 8) (by omega) (by decide) dL_isTied_86 (ze_appset rfl) (fun H locs hW => ?_)
      have hW : ze_W D ((ze_wC c a n A B E) ++ [(q, .inl (c 0, 210, .inl (upd N 8 1)))]) F s.heap _ _ := hW
      refine lv_aload_n hX_ hB_ dL_isTied_87 rfl (lv_at hl 0 rfl) ?_
      refine xb_FSq (As := [.ref (a 0)]) (rest := []) S (xw_tie_f l D c a n A B E hN (by omega) (hT.resolve_right c5) (xd_apY (hT.resolve_right c5) lp9 ep9 (Or.inl c45))) (vx_cwSW 1 hts gL_isTied_L_tie rfl rfl rfl (by decide +kernel) ⟨(Nat.le_of_ble_eq_true rfl), (Nat.le_of_ble_eq_true rfl)⟩) hG hK hW hA rfl hl.1 rfl (lv_room (Nat.le_of_ble_eq_true rfl)) dL_isTied_88 ⟨(Nat.le_of_ble_eq_true rfl), (Nat.le_of_ble_eq_true rfl)⟩ (fun H locs hW => ?_)
      have hW : ze_W D ((ze_wC c a n (ze_sC A 38 1) B E) ++ [(q, .inl (c 0, 210, .inl (upd N 8 1)))]) F s.heap _ _ := hW
      refine ze_top (y := zf_first (zf_CI n A) (n 0)) (by rw [hE]; rfl) ?_
      refine lv_aload_n hX_ hB_ dL_isTied_91 rfl (lv_at hl 1 rfl) ?_
      have hW := ze_Wc hW
      refine ze_FSi (As := [.ref q]) (rest := [.int (zf_first (zf_CI n A) (n 0))]) S (xl_size l D c q n (upd N 8 1) (xc_KH (xd_K (xd_tie hI (Or.inr rfl))))) (va_cwS 1 hts gL_isTied_L_size rfl rfl rfl (by decide +kernel) ⟨(Nat.le_of_ble_eq_true rfl), (Nat.le_of_ble_eq_true rfl)⟩) hK hW hA rfl hl.1 rfl (lv_room (Nat.le_of_ble_eq_true rfl)) dL_isTied_92 ⟨(Nat.le_of_ble_eq_true rfl), (Nat.le_of_ble_eq_true rfl)⟩ (fun H locs hW => ?_)
      have hW := ze_Wc hW
      have hW : ze_W D ((ze_wC c a n (ze_sC A 38 1) B E) ++ [(q, .inl (c 0, 210, .inl (upd N 8 1)))]) F s.heap _ _ := hW
      refine ze_top (y := zf_first (zf_CI n A) (n 0)) ((xc_size (xd_K (xd_tie hI (Or.inr rfl)))).trans (congrArg (fun z9 => zf_first z9 (n 0)) (zf_CIcong rfl rfl rfl))) ?_
      refine lv_icmp_ne (tgt := 102) hX_ hB_ dL_isTied_95 (by decide) (fun c95 => ?_) (fun c95 => ?_)
      · exact absurd rfl c95
      · refine lv_iconst (v := 1) hX_ hB_ dL_isTied_98 (by decide) ?_
        refine lv_goto (tgt := 103) hX_ hB_ dL_isTied_99 (by decide) ?_
        exact xb_iret (T := xd_T) (a, n, (ze_sC A 38 1), B, E, upd N 8 1) S hr hlocks hF hK hW rfl dL_isTied_103 (Nat.le_of_ble_eq_true rfl) (Nat.le_of_ble_eq_true rfl) ⟨rfl, ⟨rfl, (xd_tie hI (Or.inr rfl)), rfl, Nat.le_refl _, Nat.le_refl _⟩⟩ rfl
    · refine lv_aload_n hX_ hB_ dL_isTied_48 rfl (lv_at hl 1 rfl) ?_
      refine lv_bipush (v := 10) hX_ hB_ dL_isTied_49 (by decide) ?_
      refine ze_ialdN hX_ hB_ hK hW ((ze_wC c a n A B E).length + 0) (f := N) (ze_appL (k := 0) rfl) (i := 10) (by omega) (by decide) dL_isTied_51 ?_
      refine ze_top (y := A 0 0) (hR.2.1.2 0 (by omega)) ?_
      refine lv_sipush (v := 350) hX_ hB_ dL_isTied_52 (by decide) ?_
      refine lv_icmp_ge (tgt := 82) hX_ hB_ dL_isTied_55 (by decide) (fun c55 => ?_) (fun c55 => ?_)
      · refine lv_aload_n hX_ hB_ dL_isTied_82 rfl (lv_at hl 1 rfl) ?_
        refine lv_bipush (v := 8) hX_ hB_ dL_isTied_83 (by decide) ?_
        refine lv_iconst (v := 1) hX_ hB_ dL_isTied_85 (by decide) ?_
        refine ze_iastN hX_ hB_ hK hW ((ze_wC c a n A B E).length + 0) (f := N) (ze_appL (k := 0) rfl) (i := 8) (by omega) (by decide) dL_isTied_86 (ze_appset rfl) (fun H locs hW => ?_)
        have hW : ze_W D ((ze_wC c a n A B E) ++ [(q, .inl (c 0, 210, .inl (upd N 8 1)))]) F s.heap _ _ := hW
        refine lv_aload_n hX_ hB_ dL_isTied_87 rfl (lv_at hl 0 rfl) ?_
        refine xb_FSq (As := [.ref (a 0)]) (rest := []) S (xw_tie_f l D c a n A B E hN (by omega) (hT.resolve_right c5) (xd_apY (hT.resolve_right c5) lp9 ep9 (Or.inr c55))) (vx_cwSW 1 hts gL_isTied_L_tie rfl rfl rfl (by decide +kernel) ⟨(Nat.le_of_ble_eq_true rfl), (Nat.le_of_ble_eq_true rfl)⟩) hG hK hW hA rfl hl.1 rfl (lv_room (Nat.le_of_ble_eq_true rfl)) dL_isTied_88 ⟨(Nat.le_of_ble_eq_true rfl), (Nat.le_of_ble_eq_true rfl)⟩ (fun H locs hW => ?_)
        have hW : ze_W D ((ze_wC c a n (ze_sC A 38 1) B E) ++ [(q, .inl (c 0, 210, .inl (upd N 8 1)))]) F s.heap _ _ := hW
        refine ze_top (y := zf_first (zf_CI n A) (n 0)) (by rw [hE]; rfl) ?_
        refine lv_aload_n hX_ hB_ dL_isTied_91 rfl (lv_at hl 1 rfl) ?_
        have hW := ze_Wc hW
        refine ze_FSi (As := [.ref q]) (rest := [.int (zf_first (zf_CI n A) (n 0))]) S (xl_size l D c q n (upd N 8 1) (xc_KH (xd_K (xd_tie hI (Or.inr rfl))))) (va_cwS 1 hts gL_isTied_L_size rfl rfl rfl (by decide +kernel) ⟨(Nat.le_of_ble_eq_true rfl), (Nat.le_of_ble_eq_true rfl)⟩) hK hW hA rfl hl.1 rfl (lv_room (Nat.le_of_ble_eq_true rfl)) dL_isTied_92 ⟨(Nat.le_of_ble_eq_true rfl), (Nat.le_of_ble_eq_true rfl)⟩ (fun H locs hW => ?_)
        have hW := ze_Wc hW
        have hW : ze_W D ((ze_wC c a n (ze_sC A 38 1) B E) ++ [(q, .inl (c 0, 210, .inl (upd N 8 1)))]) F s.heap _ _ := hW
        refine ze_top (y := zf_first (zf_CI n A) (n 0)) ((xc_size (xd_K (xd_tie hI (Or.inr rfl)))).trans (congrArg (fun z9 => zf_first z9 (n 0)) (zf_CIcong rfl rfl rfl))) ?_
        refine lv_icmp_ne (tgt := 102) hX_ hB_ dL_isTied_95 (by decide) (fun c95 => ?_) (fun c95 => ?_)
        · exact absurd rfl c95
        · refine lv_iconst (v := 1) hX_ hB_ dL_isTied_98 (by decide) ?_
          refine lv_goto (tgt := 103) hX_ hB_ dL_isTied_99 (by decide) ?_
          exact xb_iret (T := xd_T) (a, n, (ze_sC A 38 1), B, E, upd N 8 1) S hr hlocks hF hK hW rfl dL_isTied_103 (Nat.le_of_ble_eq_true rfl) (Nat.le_of_ble_eq_true rfl) ⟨rfl, ⟨rfl, (xd_tie hI (Or.inr rfl)), rfl, Nat.le_refl _, Nat.le_refl _⟩⟩ rfl
      · refine lv_aload_n hX_ hB_ dL_isTied_58 rfl (lv_at hl 0 rfl) ?_
        refine xb_FSq (As := [.ref (a 0)]) (rest := []) S (xw_untie_t1 l D hst c a n A B E (hT.resolve_right c5)) (vx_cwSW 1 hts gL_isTied_L_untie rfl rfl rfl (by decide +kernel) ⟨(Nat.le_of_ble_eq_true rfl), (Nat.le_of_ble_eq_true rfl)⟩) hG hK hW hA rfl hl.1 rfl (lv_room (Nat.le_of_ble_eq_true rfl)) dL_isTied_59 ⟨(Nat.le_of_ble_eq_true rfl), (Nat.le_of_ble_eq_true rfl)⟩ (fun H locs hW => ?_)
        have hW : ze_W D ((ze_wC c a n A B E) ++ [(q, .inl (c 0, 210, .inl N))]) F s.heap _ _ := hW
        refine lv_ldc (own := RL) (v := -900001) hX_ hB_ S.2.2.2.1 w0 dL_isTied_62 ?_
        refine lv_icmp_ne (tgt := 80) hX_ hB_ dL_isTied_64 (by decide) (fun c64 => ?_) (fun c64 => ?_)
        · exact absurd c64 (by decide)
        · refine lv_aload_n hX_ hB_ dL_isTied_67 rfl (lv_at hl 0 rfl) ?_
          refine xb_FSq (As := [.ref (a 0)]) (rest := []) S (xw_tie_t3 l D hst c a n A B E hN (by omega) (hT.resolve_right c5) (xd_apN (hT.resolve_right c5) lp9 ep9 c45 c55)) (vx_cwSW 1 hts gL_isTied_L_tie rfl rfl rfl (by decide +kernel) ⟨(Nat.le_of_ble_eq_true rfl), (Nat.le_of_ble_eq_true rfl)⟩) hG hK hW hA rfl hl.1 rfl (lv_room (Nat.le_of_ble_eq_true rfl)) dL_isTied_68 ⟨(Nat.le_of_ble_eq_true rfl), (Nat.le_of_ble_eq_true rfl)⟩ (fun H locs hW => ?_)
          have hW : ze_W D ((ze_wC c a n A B E) ++ [(q, .inl (c 0, 210, .inl N))]) F s.heap _ _ := hW
          refine lv_ldc (own := RL) (v := -900003) hX_ hB_ S.2.2.2.1 w1 dL_isTied_71 ?_
          refine lv_icmp_ne (tgt := 80) hX_ hB_ dL_isTied_73 (by decide) (fun c73 => ?_) (fun c73 => ?_)
          · exact absurd c73 (by decide)
          · refine lv_iconst (v := 1) hX_ hB_ dL_isTied_76 (by decide) ?_
            refine lv_goto (tgt := 81) hX_ hB_ dL_isTied_77 (by decide) ?_
            exact xb_iret (T := xd_T) (a, n, A, B, E, N) S hr hlocks hF hK hW rfl dL_isTied_81 (Nat.le_of_ble_eq_true rfl) (Nat.le_of_ble_eq_true rfl) ⟨rfl, ⟨rfl, hI, rfl, Nat.le_refl _, Nat.le_refl _⟩⟩ rfl
  · refine lv_aload_n hX_ hB_ dL_isTied_8 rfl (lv_at hl 1 rfl) ?_
    refine lv_bipush (v := 8) hX_ hB_ dL_isTied_9 (by decide) ?_
    refine lv_iconst (v := 0) hX_ hB_ dL_isTied_11 (by decide) ?_
    refine ze_iastN hX_ hB_ hK hW ((ze_wC c a n A B E).length + 0) (f := N) (ze_appL (k := 0) rfl) (i := 8) (by omega) (by decide) dL_isTied_12 (ze_appset rfl) (fun H locs hW => ?_)
    have hW : ze_W D ((ze_wC c a n A B E) ++ [(q, .inl (c 0, 210, .inl (upd N 8 0)))]) F s.heap _ _ := hW
    refine lv_aload_n hX_ hB_ dL_isTied_13 rfl (lv_at hl 0 rfl) ?_
    refine xb_FSq (As := [.ref (a 0)]) (rest := []) S (xw_tie_t2 l D hst c a n A B E hN (by omega) (by rw [c5]; decide)) (vx_cwSW 1 hts gL_isTied_L_tie rfl rfl rfl (by decide +kernel) ⟨(Nat.le_of_ble_eq_true rfl), (Nat.le_of_ble_eq_true rfl)⟩) hG hK hW hA rfl hl.1 rfl (lv_room (Nat.le_of_ble_eq_true rfl)) dL_isTied_14 ⟨(Nat.le_of_ble_eq_true rfl), (Nat.le_of_ble_eq_true rfl)⟩ (fun H locs hW => ?_)
    have hW : ze_W D ((ze_wC c a n A B E) ++ [(q, .inl (c 0, 210, .inl (upd N 8 0)))]) F s.heap _ _ := hW
    refine lv_ldc (own := RL) (v := -900002) hX_ hB_ S.2.2.2.1 w2 dL_isTied_17 ?_
    refine lv_icmp_ne (tgt := 37) hX_ hB_ dL_isTied_19 (by decide) (fun c19 => ?_) (fun c19 => ?_)
    · exact absurd c19 (by decide)
    · refine lv_aload_n hX_ hB_ dL_isTied_22 rfl (lv_at hl 0 rfl) ?_
      refine xb_FSq (As := [.ref (a 0)]) (rest := []) S (xw_untie_f l D c a n A B E hN (by rw [c5]; decide)) (vx_cwSW 1 hts gL_isTied_L_untie rfl rfl rfl (by decide +kernel) ⟨(Nat.le_of_ble_eq_true rfl), (Nat.le_of_ble_eq_true rfl)⟩) hG hK hW hA rfl hl.1 rfl (lv_room (Nat.le_of_ble_eq_true rfl)) dL_isTied_23 ⟨(Nat.le_of_ble_eq_true rfl), (Nat.le_of_ble_eq_true rfl)⟩ (fun H locs hW => ?_)
      have hW : ze_W D ((ze_wC c a n (ze_sC A 38 0) B E) ++ [(q, .inl (c 0, 210, .inl (upd N 8 0)))]) F s.heap _ _ := hW
      refine ze_top (y := zf_first (zf_CI n A) (n 0)) (by rw [hE]; rfl) ?_
      refine lv_aload_n hX_ hB_ dL_isTied_26 rfl (lv_at hl 1 rfl) ?_
      have hW := ze_Wc hW
      refine ze_FSi (As := [.ref q]) (rest := [.int (zf_first (zf_CI n A) (n 0))]) S (xl_size l D c q n (upd N 8 0) (xc_KH (xd_K (xd_tie hI (Or.inl rfl))))) (va_cwS 1 hts gL_isTied_L_size rfl rfl rfl (by decide +kernel) ⟨(Nat.le_of_ble_eq_true rfl), (Nat.le_of_ble_eq_true rfl)⟩) hK hW hA rfl hl.1 rfl (lv_room (Nat.le_of_ble_eq_true rfl)) dL_isTied_27 ⟨(Nat.le_of_ble_eq_true rfl), (Nat.le_of_ble_eq_true rfl)⟩ (fun H locs hW => ?_)
      have hW := ze_Wc hW
      have hW : ze_W D ((ze_wC c a n (ze_sC A 38 0) B E) ++ [(q, .inl (c 0, 210, .inl (upd N 8 0)))]) F s.heap _ _ := hW
      refine ze_top (y := zf_first (zf_CI n A) (n 0)) ((xc_size (xd_K (xd_tie hI (Or.inl rfl)))).trans (congrArg (fun z9 => zf_first z9 (n 0)) (zf_CIcong rfl rfl rfl))) ?_
      refine lv_icmp_ne (tgt := 37) hX_ hB_ dL_isTied_30 (by decide) (fun c30 => ?_) (fun c30 => ?_)
      · exact absurd rfl c30
      · refine lv_iconst (v := 1) hX_ hB_ dL_isTied_33 (by decide) ?_
        refine lv_goto (tgt := 38) hX_ hB_ dL_isTied_34 (by decide) ?_
        exact xb_iret (T := xd_T) (a, n, (ze_sC A 38 0), B, E, upd N 8 0) S hr hlocks hF hK hW rfl dL_isTied_38 (Nat.le_of_ble_eq_true rfl) (Nat.le_of_ble_eq_true rfl) ⟨rfl, ⟨rfl, (xd_tie hI (Or.inl rfl)), rfl, Nat.le_refl _, Nat.le_refl _⟩⟩ rfl
