/-! ===== the law's methods over the object and the net ===== -/
set_option maxHeartbeats 8000000 in
set_option maxRecDepth 100000 in
theorem xj_isSwitched (l : Launch) (D : va_G) (hst : l.stackTraces = false) (c : Nat → ClassId) (q : Nat) (a n : Nat → Nat) (A : Nat → Nat → Int32) (B : Nat → Int64) (E : Nat → Nat → Int32) (N : Nat → Int32) (t : Nat) (hI : xd_I n A B E N t) (i : Nat) (hi : i < n 1) : xb_M (T := xd_T) l yL_isSwitched wsL_isSwitched 8 134 2 12 D c none ((ze_wC c a n A B E) ++ [(q, .inl (c 0, 210, .inl N))]) [.ref (a 0), .ref q, .int (nI i)] (fun r (u : xd_T) => r = 1 ∧ xd_P (a 0) n (t) u) (fun u => xd_w c q u) := by
  intro sz
  refine xb_start (cc := cL_isSwitched) (maxL := 3) (ret := (some .boolean)) (own := RL) (by decide) rfl rfl (Nat.le_of_ble_eq_true rfl) ?_
  have hKc := xd_K hI
  have hH := xc_KH hKc
  obtain ⟨hV, hR, hPh, hY, hWu⟩ := id hI
  obtain ⟨hN, hS, hE, hz, h4, h4z, hT, hC, hKz, hZ, hp⟩ := id hV
  obtain ⟨hn0, hn1, hn2, hn3, hn4⟩ := id hN
  have hE1 := zv_hE hV
  have hz0 : ∀ s, n 0 ≤ s → E 0 s = 0 := fun s hs => by rw [hE]; exact zf_CIz hN hS s hs
  have hq0 : (zf_fi n (ze_sE A 4 i 0) (E 0) (E 1) (n 0)).1 = zf_CI n (ze_sE A 4 i 0) := zf_fiE hN (zf_Scong rfl rfl rfl rfl rfl hS) hz0
  have hq1 : (zf_fi n (ze_sE A 4 i 1) (E 0) (E 1) (n 0)).1 = zf_CI n (ze_sE A 4 i 1) := zf_fiE hN (zf_Scong rfl rfl rfl rfl rfl hS) hz0
  have hg9 : xa_gap N (n 1) i = zf_gapC A (E 0) i := by rw [xc_gap hPh hKc hi, hE]
  intro p e s m_ below meth cd F ls hF hsz E0 hG
  obtain ⟨S, hr, hlocks, hK, hW, hA, hl⟩ := E0
  have hX_ := S.1
  have hB_ := S.2.1
  have hts := S.2.2.2.2
  have hl : lv_has ls 3 [(0, .ref (a 0)), (1, .ref q), (2, .int (nI i))] := hl
  have w0 := hts (.constant RL 26 (-900002)) (List.mem_cons_of_mem _ (List.mem_append_left _ (List.mem_append_left _ (List.mem_append_left _ (List.mem_append_left _ (List.mem_append_left _ (List.mem_append_left _ (List.mem_of_getElem? (i := 0) rfl))))))))
  have w1 := hts (.constant RL 30 (-900003)) (List.mem_cons_of_mem _ (List.mem_append_left _ (List.mem_append_left _ (List.mem_append_left _ (List.mem_append_left _ (List.mem_append_left _ (List.mem_append_left _ (List.mem_of_getElem? (i := 1) rfl))))))))
  refine lv_aload_n hX_ hB_ dL_isSwitched_0 rfl (lv_at hl 1 rfl) ?_
  refine lv_bipush (v := 22) hX_ hB_ dL_isSwitched_1 (by decide) ?_
  refine lv_iconst (v := 3) hX_ hB_ dL_isSwitched_3 (by decide) ?_
  refine lv_iload_n hX_ hB_ dL_isSwitched_4 rfl (lv_at hl 2 rfl) ?_
  refine lv_imul hX_ hB_ dL_isSwitched_5 ?_
  refine ze_top (xb_mul (a := 3) (b := i) (c := 3 * i) (by omega)) ?_
  refine lv_iadd hX_ hB_ dL_isSwitched_6 ?_
  refine ze_top (xb_add (a := 22) (b := 3 * i) (c := 3 * i + 22) (by omega)) ?_
  refine ze_ialdN hX_ hB_ hK hW ((ze_wC c a n A B E).length + 0) (f := N) (ze_appL (k := 0) rfl) (i := 3 * i + 22) (by omega) (by decide) dL_isSwitched_7 ?_
  refine ze_top (y := A 4 i) (hR.2.2.1.2 i (by omega)) ?_
  refine lv_iconst (v := 1) hX_ hB_ dL_isSwitched_8 (by decide) ?_
  refine lv_icmp_ne (tgt := 49) hX_ hB_ dL_isSwitched_9 (by decide) (fun c9 => ?_) (fun c9 => ?_)
  · refine lv_aload_n hX_ hB_ dL_isSwitched_49 rfl (lv_at hl 1 rfl) ?_
    refine lv_iload_n hX_ hB_ dL_isSwitched_50 rfl (lv_at hl 2 rfl) ?_
    have hW := ze_Wc hW
    refine ze_FSi (As := [.ref q, .int (nI i)]) (rest := []) S (xl_gap l D c q n N hH i (by omega)) (va_cwS 2 hts gL_isSwitched_L_gap rfl rfl rfl (by decide +kernel) ⟨(Nat.le_of_ble_eq_true rfl), (Nat.le_of_ble_eq_true rfl)⟩) hK hW hA rfl hl.1 rfl (lv_room (Nat.le_of_ble_eq_true rfl)) dL_isSwitched_51 ⟨(Nat.le_of_ble_eq_true rfl), (Nat.le_of_ble_eq_true rfl)⟩ (fun H locs hW => ?_)
    have hW := ze_Wc hW
    have hW : ze_W D ((ze_wC c a n A B E) ++ [(q, .inl (c 0, 210, .inl N))]) F s.heap _ _ := hW
    refine ze_top (y := zf_gapC A (E 0) i) hg9 ?_
    refine lv_bipush (v := 10) hX_ hB_ dL_isSwitched_54 (by decide) ?_
    refine lv_icmp_le (tgt := 85) hX_ hB_ dL_isSwitched_56 (by decide) (fun c56 => ?_) (fun c56 => ?_)
    · refine lv_aload_n hX_ hB_ dL_isSwitched_85 rfl (lv_at hl 1 rfl) ?_
      refine lv_bipush (v := 22) hX_ hB_ dL_isSwitched_86 (by decide) ?_
      refine lv_iconst (v := 3) hX_ hB_ dL_isSwitched_88 (by decide) ?_
      refine lv_iload_n hX_ hB_ dL_isSwitched_89 rfl (lv_at hl 2 rfl) ?_
      refine lv_imul hX_ hB_ dL_isSwitched_90 ?_
      refine ze_top (xb_mul (a := 3) (b := i) (c := 3 * i) (by omega)) ?_
      refine lv_iadd hX_ hB_ dL_isSwitched_91 ?_
      refine ze_top (xb_add (a := 22) (b := 3 * i) (c := 3 * i + 22) (by omega)) ?_
      refine lv_iconst (v := 1) hX_ hB_ dL_isSwitched_92 (by decide) ?_
      refine ze_iastN hX_ hB_ hK hW ((ze_wC c a n A B E).length + 0) (f := N) (ze_appL (k := 0) rfl) (i := 3 * i + 22) (by omega) (by decide) dL_isSwitched_93 (ze_appset rfl) (fun H locs hW => ?_)
      have hW : ze_W D ((ze_wC c a n A B E) ++ [(q, .inl (c 0, 210, .inl (upd N (3 * i + 22) 1)))]) F s.heap _ _ := hW
      refine lv_aload_n hX_ hB_ dL_isSwitched_94 rfl (lv_at hl 0 rfl) ?_
      refine lv_iload_n hX_ hB_ dL_isSwitched_95 rfl (lv_at hl 2 rfl) ?_
      refine xb_FSq (As := [.ref (a 0), .int (nI i)]) (rest := []) S (xw_close_f l D c a n A B E i hN hi hS hE1 ((h4 i).resolve_right c9) c56) (vx_cwSW 2 hts gL_isSwitched_L_close rfl rfl rfl (by decide +kernel) ⟨(Nat.le_of_ble_eq_true rfl), (Nat.le_of_ble_eq_true rfl)⟩) hG hK hW hA rfl hl.1 rfl (lv_room (Nat.le_of_ble_eq_true rfl)) dL_isSwitched_96 ⟨(Nat.le_of_ble_eq_true rfl), (Nat.le_of_ble_eq_true rfl)⟩ (fun H locs hW => ?_)
      have hW : ze_W D ((ze_wC c a n (ze_sE A 4 i 1) B (ze_sA (ze_sA E 0 ((zf_fi n (ze_sE A 4 i 1) (E 0) (E 1) (n 0)).1)) 1 ((zf_fi n (ze_sE A 4 i 1) (E 0) (E 1) (n 0)).2))) ++ [(q, .inl (c 0, 210, .inl (upd N (3 * i + 22) 1)))]) F s.heap _ _ := hW
      refine ze_top (y := zf_many (zf_CI n (ze_sE A 4 i 1)) (n 0)) (by rw [hq1]) ?_
      refine lv_aload_n hX_ hB_ dL_isSwitched_99 rfl (lv_at hl 1 rfl) ?_
      have hW := ze_Wc hW
      refine ze_FSi (As := [.ref q]) (rest := [.int (zf_many (zf_CI n (ze_sE A 4 i 1)) (n 0))]) S (xl_islands l D c q n (upd N (3 * i + 22) 1) (xc_KH (xd_K (xd_sw hI hi (Or.inr rfl) hq1 (E2 := (ze_sA (ze_sA E 0 (zf_fi n (ze_sE A 4 i 1) (E 0) (E 1) (n 0)).1) 1 (zf_fi n (ze_sE A 4 i 1) (E 0) (E 1) (n 0)).2)))))) (va_cwS 1 hts gL_isSwitched_L_islands rfl rfl rfl (by decide +kernel) ⟨(Nat.le_of_ble_eq_true rfl), (Nat.le_of_ble_eq_true rfl)⟩) hK hW hA rfl hl.1 rfl (lv_room (Nat.le_of_ble_eq_true rfl)) dL_isSwitched_100 ⟨(Nat.le_of_ble_eq_true rfl), (Nat.le_of_ble_eq_true rfl)⟩ (fun H locs hW => ?_)
      have hW := ze_Wc hW
      have hW : ze_W D ((ze_wC c a n (ze_sE A 4 i 1) B (ze_sA (ze_sA E 0 ((zf_fi n (ze_sE A 4 i 1) (E 0) (E 1) (n 0)).1)) 1 ((zf_fi n (ze_sE A 4 i 1) (E 0) (E 1) (n 0)).2))) ++ [(q, .inl (c 0, 210, .inl (upd N (3 * i + 22) 1)))]) F s.heap _ _ := hW
      refine ze_top (y := zf_many (zf_CI n (ze_sE A 4 i 1)) (n 0)) (xc_many (xd_K (xd_sw hI hi (Or.inr rfl) hq1 (E2 := (ze_sA (ze_sA E 0 (zf_fi n (ze_sE A 4 i 1) (E 0) (E 1) (n 0)).1) 1 (zf_fi n (ze_sE A 4 i 1) (E 0) (E 1) (n 0)).2))))) ?_
      refine lv_icmp_ne (tgt := 110) hX_ hB_ dL_isSwitched_103 (by decide) (fun c103 => ?_) (fun c103 => ?_)
      · exact absurd rfl c103
      · refine lv_iconst (v := 1) hX_ hB_ dL_isSwitched_106 (by decide) ?_
        refine lv_goto (tgt := 111) hX_ hB_ dL_isSwitched_107 (by decide) ?_
        exact xb_iret (T := xd_T) (a, n, (ze_sE A 4 i 1), B, (ze_sA (ze_sA E 0 ((zf_fi n (ze_sE A 4 i 1) (E 0) (E 1) (n 0)).1)) 1 ((zf_fi n (ze_sE A 4 i 1) (E 0) (E 1) (n 0)).2)), upd N (3 * i + 22) 1) S hr hlocks hF hK hW rfl dL_isSwitched_111 (Nat.le_of_ble_eq_true rfl) (Nat.le_of_ble_eq_true rfl) ⟨rfl, ⟨rfl, (xd_sw hI hi (Or.inr rfl) hq1), rfl, Nat.le_refl _, Nat.le_refl _⟩⟩ rfl
    · refine lv_aload_n hX_ hB_ dL_isSwitched_59 rfl (lv_at hl 0 rfl) ?_
      refine lv_iload_n hX_ hB_ dL_isSwitched_60 rfl (lv_at hl 2 rfl) ?_
      refine xb_FSq (As := [.ref (a 0), .int (nI i)]) (rest := []) S (xw_open_t2 l D hst c a n A B E i hN hi ((h4 i).resolve_right c9)) (vx_cwSW 2 hts gL_isSwitched_L_open rfl rfl rfl (by decide +kernel) ⟨(Nat.le_of_ble_eq_true rfl), (Nat.le_of_ble_eq_true rfl)⟩) hG hK hW hA rfl hl.1 rfl (lv_room (Nat.le_of_ble_eq_true rfl)) dL_isSwitched_61 ⟨(Nat.le_of_ble_eq_true rfl), (Nat.le_of_ble_eq_true rfl)⟩ (fun H locs hW => ?_)
      have hW : ze_W D ((ze_wC c a n A B E) ++ [(q, .inl (c 0, 210, .inl N))]) F s.heap _ _ := hW
      refine lv_ldc (own := RL) (v := -900002) hX_ hB_ S.2.2.2.1 w0 dL_isSwitched_64 ?_
      refine lv_icmp_ne (tgt := 83) hX_ hB_ dL_isSwitched_66 (by decide) (fun c66 => ?_) (fun c66 => ?_)
      · exact absurd c66 (by decide)
      · refine lv_aload_n hX_ hB_ dL_isSwitched_69 rfl (lv_at hl 0 rfl) ?_
        refine lv_iload_n hX_ hB_ dL_isSwitched_70 rfl (lv_at hl 2 rfl) ?_
        refine xb_FSq (As := [.ref (a 0), .int (nI i)]) (rest := []) S (xw_close_t3 l D hst c a n A B E i hN hi hS hE1 ((h4 i).resolve_right c9) c56) (vx_cwSW 2 hts gL_isSwitched_L_close rfl rfl rfl (by decide +kernel) ⟨(Nat.le_of_ble_eq_true rfl), (Nat.le_of_ble_eq_true rfl)⟩) hG hK hW hA rfl hl.1 rfl (lv_room (Nat.le_of_ble_eq_true rfl)) dL_isSwitched_71 ⟨(Nat.le_of_ble_eq_true rfl), (Nat.le_of_ble_eq_true rfl)⟩ (fun H locs hW => ?_)
        have hW : ze_W D ((ze_wC c a n A B E) ++ [(q, .inl (c 0, 210, .inl N))]) F s.heap _ _ := hW
        refine lv_ldc (own := RL) (v := -900003) hX_ hB_ S.2.2.2.1 w1 dL_isSwitched_74 ?_
        refine lv_icmp_ne (tgt := 83) hX_ hB_ dL_isSwitched_76 (by decide) (fun c76 => ?_) (fun c76 => ?_)
        · exact absurd c76 (by decide)
        · refine lv_iconst (v := 1) hX_ hB_ dL_isSwitched_79 (by decide) ?_
          refine lv_goto (tgt := 84) hX_ hB_ dL_isSwitched_80 (by decide) ?_
          exact xb_iret (T := xd_T) (a, n, A, B, E, N) S hr hlocks hF hK hW rfl dL_isSwitched_84 (Nat.le_of_ble_eq_true rfl) (Nat.le_of_ble_eq_true rfl) ⟨rfl, ⟨rfl, hI, rfl, Nat.le_refl _, Nat.le_refl _⟩⟩ rfl
  · refine lv_aload_n hX_ hB_ dL_isSwitched_12 rfl (lv_at hl 1 rfl) ?_
    refine lv_bipush (v := 22) hX_ hB_ dL_isSwitched_13 (by decide) ?_
    refine lv_iconst (v := 3) hX_ hB_ dL_isSwitched_15 (by decide) ?_
    refine lv_iload_n hX_ hB_ dL_isSwitched_16 rfl (lv_at hl 2 rfl) ?_
    refine lv_imul hX_ hB_ dL_isSwitched_17 ?_
    refine ze_top (xb_mul (a := 3) (b := i) (c := 3 * i) (by omega)) ?_
    refine lv_iadd hX_ hB_ dL_isSwitched_18 ?_
    refine ze_top (xb_add (a := 22) (b := 3 * i) (c := 3 * i + 22) (by omega)) ?_
    refine lv_iconst (v := 0) hX_ hB_ dL_isSwitched_19 (by decide) ?_
    refine ze_iastN hX_ hB_ hK hW ((ze_wC c a n A B E).length + 0) (f := N) (ze_appL (k := 0) rfl) (i := 3 * i + 22) (by omega) (by decide) dL_isSwitched_20 (ze_appset rfl) (fun H locs hW => ?_)
    have hW : ze_W D ((ze_wC c a n A B E) ++ [(q, .inl (c 0, 210, .inl (upd N (3 * i + 22) 0)))]) F s.heap _ _ := hW
    refine lv_aload_n hX_ hB_ dL_isSwitched_21 rfl (lv_at hl 0 rfl) ?_
    refine lv_iload_n hX_ hB_ dL_isSwitched_22 rfl (lv_at hl 2 rfl) ?_
    refine xb_FSq (As := [.ref (a 0), .int (nI i)]) (rest := []) S (xw_close_t2 l D hst c a n A B E i hN hi (by rw [c9]; decide)) (vx_cwSW 2 hts gL_isSwitched_L_close rfl rfl rfl (by decide +kernel) ⟨(Nat.le_of_ble_eq_true rfl), (Nat.le_of_ble_eq_true rfl)⟩) hG hK hW hA rfl hl.1 rfl (lv_room (Nat.le_of_ble_eq_true rfl)) dL_isSwitched_23 ⟨(Nat.le_of_ble_eq_true rfl), (Nat.le_of_ble_eq_true rfl)⟩ (fun H locs hW => ?_)
    have hW : ze_W D ((ze_wC c a n A B E) ++ [(q, .inl (c 0, 210, .inl (upd N (3 * i + 22) 0)))]) F s.heap _ _ := hW
    refine lv_ldc (own := RL) (v := -900002) hX_ hB_ S.2.2.2.1 w0 dL_isSwitched_26 ?_
    refine lv_icmp_ne (tgt := 47) hX_ hB_ dL_isSwitched_28 (by decide) (fun c28 => ?_) (fun c28 => ?_)
    · exact absurd c28 (by decide)
    · refine lv_aload_n hX_ hB_ dL_isSwitched_31 rfl (lv_at hl 0 rfl) ?_
      refine lv_iload_n hX_ hB_ dL_isSwitched_32 rfl (lv_at hl 2 rfl) ?_
      refine xb_FSq (As := [.ref (a 0), .int (nI i)]) (rest := []) S (xw_open_f l D c a n A B E i hN hi hS (by rw [c9]; decide)) (vx_cwSW 2 hts gL_isSwitched_L_open rfl rfl rfl (by decide +kernel) ⟨(Nat.le_of_ble_eq_true rfl), (Nat.le_of_ble_eq_true rfl)⟩) hG hK hW hA rfl hl.1 rfl (lv_room (Nat.le_of_ble_eq_true rfl)) dL_isSwitched_33 ⟨(Nat.le_of_ble_eq_true rfl), (Nat.le_of_ble_eq_true rfl)⟩ (fun H locs hW => ?_)
      have hW : ze_W D ((ze_wC c a n (ze_sE A 4 i 0) B (ze_sA (ze_sA E 0 ((zf_fi n (ze_sE A 4 i 0) (E 0) (E 1) (n 0)).1)) 1 ((zf_fi n (ze_sE A 4 i 0) (E 0) (E 1) (n 0)).2))) ++ [(q, .inl (c 0, 210, .inl (upd N (3 * i + 22) 0)))]) F s.heap _ _ := hW
      refine ze_top (y := zf_many (zf_CI n (ze_sE A 4 i 0)) (n 0)) (by rw [hq0]) ?_
      refine lv_aload_n hX_ hB_ dL_isSwitched_36 rfl (lv_at hl 1 rfl) ?_
      have hW := ze_Wc hW
      refine ze_FSi (As := [.ref q]) (rest := [.int (zf_many (zf_CI n (ze_sE A 4 i 0)) (n 0))]) S (xl_islands l D c q n (upd N (3 * i + 22) 0) (xc_KH (xd_K (xd_sw hI hi (Or.inl rfl) hq0 (E2 := (ze_sA (ze_sA E 0 (zf_fi n (ze_sE A 4 i 0) (E 0) (E 1) (n 0)).1) 1 (zf_fi n (ze_sE A 4 i 0) (E 0) (E 1) (n 0)).2)))))) (va_cwS 1 hts gL_isSwitched_L_islands rfl rfl rfl (by decide +kernel) ⟨(Nat.le_of_ble_eq_true rfl), (Nat.le_of_ble_eq_true rfl)⟩) hK hW hA rfl hl.1 rfl (lv_room (Nat.le_of_ble_eq_true rfl)) dL_isSwitched_37 ⟨(Nat.le_of_ble_eq_true rfl), (Nat.le_of_ble_eq_true rfl)⟩ (fun H locs hW => ?_)
      have hW := ze_Wc hW
      have hW : ze_W D ((ze_wC c a n (ze_sE A 4 i 0) B (ze_sA (ze_sA E 0 ((zf_fi n (ze_sE A 4 i 0) (E 0) (E 1) (n 0)).1)) 1 ((zf_fi n (ze_sE A 4 i 0) (E 0) (E 1) (n 0)).2))) ++ [(q, .inl (c 0, 210, .inl (upd N (3 * i + 22) 0)))]) F s.heap _ _ := hW
      refine ze_top (y := zf_many (zf_CI n (ze_sE A 4 i 0)) (n 0)) (xc_many (xd_K (xd_sw hI hi (Or.inl rfl) hq0 (E2 := (ze_sA (ze_sA E 0 (zf_fi n (ze_sE A 4 i 0) (E 0) (E 1) (n 0)).1) 1 (zf_fi n (ze_sE A 4 i 0) (E 0) (E 1) (n 0)).2))))) ?_
      refine lv_icmp_ne (tgt := 47) hX_ hB_ dL_isSwitched_40 (by decide) (fun c40 => ?_) (fun c40 => ?_)
      · exact absurd rfl c40
      · refine lv_iconst (v := 1) hX_ hB_ dL_isSwitched_43 (by decide) ?_
        refine lv_goto (tgt := 48) hX_ hB_ dL_isSwitched_44 (by decide) ?_
        exact xb_iret (T := xd_T) (a, n, (ze_sE A 4 i 0), B, (ze_sA (ze_sA E 0 ((zf_fi n (ze_sE A 4 i 0) (E 0) (E 1) (n 0)).1)) 1 ((zf_fi n (ze_sE A 4 i 0) (E 0) (E 1) (n 0)).2)), upd N (3 * i + 22) 0) S hr hlocks hF hK hW rfl dL_isSwitched_48 (Nat.le_of_ble_eq_true rfl) (Nat.le_of_ble_eq_true rfl) ⟨rfl, ⟨rfl, (xd_sw hI hi (Or.inl rfl) hq0), rfl, Nat.le_refl _, Nat.le_refl _⟩⟩ rfl
