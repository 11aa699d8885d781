/-! ===== the law makes the grid ===== -/
set_option maxHeartbeats 8000000 in
set_option maxRecDepth 100000 in
theorem xj_begun (l : Launch) (D : va_G) (hst : l.stackTraces = false) (c : Nat → ClassId) (q : Nat) (b L : Nat) (xs : Nat → Int32) (hL : L ≤ 260) : xz_R (T := xd_T) l yL_begun wsL_begun 9 160 200 2000 D c (some (b, L, xs)) ([(q, .inl (c 0, 210, .inl (fun _ => 0)))] : va_W) [.ref b, .ref q] (fun (u : xd_T) => xd_I u.2.1 u.2.2.1 u.2.2.2.1 u.2.2.2.2.1 u.2.2.2.2.2 0 ∧ 0 < u.2.1 0 ∧ 1 ≤ u.2.1 2 ∧ 1 ≤ u.2.1 4) (fun (u : xd_T) => u.1 0) (fun u => xd_w c q u) := by
  intro sz
  refine xz_start (cc := cL_begun) (maxL := 5) (ret := (some (.object "Islandgrid"))) (own := RL) (by decide) rfl rfl (Nat.le_of_ble_eq_true rfl) ?_
  have hN0 : zf_N (fun _ => 0) := ⟨Nat.zero_le _, Nat.zero_le _, Nat.zero_le _, Nat.zero_le _, Nat.zero_le _⟩
  intro p e s m_ below meth cd F ls hF hsz E0 hG hZ
  obtain ⟨S, hr, hlocks, hK, hW, hA, hl⟩ := E0
  have hX_ := S.1
  have hB_ := S.2.1
  have hts := S.2.2.2.2
  have hl : lv_has ls 5 [(0, .ref b), (1, .ref q)] := hl
  have hiX8 : ∀ w ∈ u_ws RX8 TX8 8, w ∈ wsL_begun := fun _ h => (List.mem_cons_of_mem _ (List.mem_append_left _ (List.mem_append_left _ (List.mem_append_left _ (List.mem_append_left _ (List.mem_append_left _ (List.mem_append_left _ (List.mem_append_left _ (List.mem_append_left _ (List.mem_append_left _ (List.mem_append_left _ (List.mem_append_left _ (List.mem_append_left _ (List.mem_append_left _ (List.mem_append_right _ h)))))))))))))))
  have w0 := hts (.classLink RL 10 RX8) (List.mem_cons_of_mem _ (List.mem_append_left _ (List.mem_append_left _ (List.mem_append_left _ (List.mem_append_left _ (List.mem_append_left _ (List.mem_append_left _ (List.mem_append_left _ (List.mem_append_left _ (List.mem_append_left _ (List.mem_append_left _ (List.mem_append_left _ (List.mem_append_left _ (List.mem_append_left _ (List.mem_append_left _ (List.mem_append_left _ (List.mem_of_getElem? (i := 0) rfl)))))))))))))))))
  have w1 := hts (.instantiable RX8 8) (List.mem_cons_of_mem _ (List.mem_append_left _ (List.mem_append_left _ (List.mem_append_left _ (List.mem_append_left _ (List.mem_append_left _ (List.mem_append_left _ (List.mem_append_left _ (List.mem_append_left _ (List.mem_append_left _ (List.mem_append_left _ (List.mem_append_left _ (List.mem_append_left _ (List.mem_append_left _ (List.mem_append_left _ (List.mem_append_left _ (List.mem_of_getElem? (i := 1) rfl)))))))))))))))))
  have w2 := hts (.initialized RX8) (List.mem_cons_of_mem _ (List.mem_append_left _ (List.mem_append_left _ (List.mem_append_left _ (List.mem_append_left _ (List.mem_append_left _ (List.mem_append_left _ (List.mem_append_left _ (List.mem_append_left _ (List.mem_append_left _ (List.mem_append_left _ (List.mem_append_left _ (List.mem_append_left _ (List.mem_append_left _ (List.mem_append_left _ (List.mem_append_left _ (List.mem_of_getElem? (i := 2) rfl)))))))))))))))))
  have w3 := hts (.methodLink RL 153 yX8_init) (List.mem_cons_of_mem _ (List.mem_append_left _ (List.mem_append_left _ (List.mem_append_left _ (List.mem_append_left _ (List.mem_append_left _ (List.mem_append_left _ (List.mem_append_left _ (List.mem_append_left _ (List.mem_append_left _ (List.mem_append_left _ (List.mem_append_left _ (List.mem_append_left _ (List.mem_append_left _ (List.mem_append_left _ (List.mem_append_left _ (List.mem_of_getElem? (i := 5) rfl)))))))))))))))))
  have w4 := hts (.instanceMethod yX8_init) (List.mem_cons_of_mem _ (List.mem_append_left _ (List.mem_append_left _ (List.mem_append_left _ (List.mem_append_left _ (List.mem_append_left _ (List.mem_append_left _ (List.mem_append_left _ (List.mem_append_left _ (List.mem_append_left _ (List.mem_append_left _ (List.mem_append_left _ (List.mem_append_left _ (List.mem_append_left _ (List.mem_append_left _ (List.mem_append_left _ (List.mem_of_getElem? (i := 6) rfl)))))))))))))))))
  have w5 := hts (.constant RL 17 (-900001)) (List.mem_cons_of_mem _ (List.mem_append_left _ (List.mem_append_left _ (List.mem_append_left _ (List.mem_append_left _ (List.mem_append_left _ (List.mem_append_left _ (List.mem_append_left _ (List.mem_append_left _ (List.mem_append_left _ (List.mem_append_left _ (List.mem_append_left _ (List.mem_append_left _ (List.mem_append_left _ (List.mem_append_left _ (List.mem_append_left _ (List.mem_of_getElem? (i := 3) rfl)))))))))))))))))
  have w6 := hts (.constantFloat RL 121 (3378231824)) (List.mem_cons_of_mem _ (List.mem_append_left _ (List.mem_append_left _ (List.mem_append_left _ (List.mem_append_left _ (List.mem_append_left _ (List.mem_append_left _ (List.mem_append_left _ (List.mem_append_left _ (List.mem_append_left _ (List.mem_append_left _ (List.mem_append_left _ (List.mem_append_left _ (List.mem_append_left _ (List.mem_append_left _ (List.mem_append_left _ (List.mem_of_getElem? (i := 4) rfl)))))))))))))))))
  refine ze_new (ci := 8) (C := RX8) (T := TX8) (N := 8) (fs := [.null, .null, .null, .null, .null, .int 0, .int 0, .int 0]) S hiX8 tyX8 tyX8_ok w0 w1 w2 hK hW hA rfl (by decide) (Nat.le_of_ble_eq_true rfl) (Nat.le_of_ble_eq_true rfl) dL_begun_0 (fun r0 H hW => ?_)
  refine lv_dup hX_ hB_ dL_begun_3 rfl ?_
  have hW := ze_Wc hW
  refine ze_FIg (As := []) (rest := [.ref r0]) S (zi_X8 l D c r0) (cwI 0 hts gL_begun_X8_init rfl rfl rfl w2 w3 w4 rfl (by decide +kernel) ⟨(Nat.le_of_ble_eq_true rfl), (Nat.le_of_ble_eq_true rfl)⟩) hZ hK hW hA rfl hl.1 rfl (lv_room (Nat.le_of_ble_eq_true rfl)) dL_begun_4 ⟨(Nat.le_of_ble_eq_true rfl), (Nat.le_of_ble_eq_true rfl)⟩ (fun an H locs hW => ?_)
  rw [zs_C c an r0] at hW
  obtain ⟨a, ha⟩ : ∃ a : Nat → Nat, va_up an 0 r0 = a := ⟨_, rfl⟩
  have ea : r0 = a 0 := by
    rw [← ha]
    rfl
  rw [ha] at hW
  rw [ea]
  have hW : ze_W D ((ze_wC c a (fun _ => 0) zs_A (fun _ => 0) (fun _ _ => 0)) ++ [(q, .inl (c 0, 210, .inl (fun _ => 0)))]) F s.heap _ _ := hW
  refine lv_astore_n (lv' := [(2, .ref (a 0)), (0, .ref b), (1, .ref q)]) hX_ hB_ dL_begun_7 rfl hl (by decide) rfl (fun ls hl => ?_)
  refine lv_aload_n hX_ hB_ dL_begun_8 rfl (lv_at hl 2 rfl) ?_
  refine lv_bipush (v := 6) hX_ hB_ dL_begun_9 (by decide) ?_
  refine lv_iconst (v := 2) hX_ hB_ dL_begun_11 (by decide) ?_
  refine ze_iastN hX_ hB_ hK hW ((ze_wC c a (fun _ => 0) zs_A (fun _ => 0) (fun _ _ => 0)).length + 0) (f := (fun _ => 0)) (ze_appL (k := 0) rfl) (i := 6) (by omega) (by decide) dL_begun_12 (ze_appset rfl) (fun H locs hW => ?_)
  have hW : ze_W D ((ze_wC c a (fun _ => 0) zs_A (fun _ => 0) (fun _ _ => 0)) ++ [(q, .inl (c 0, 210, .inl (upd (fun _ => 0) 6 2)))]) F s.heap _ _ := hW
  refine lv_aload_n hX_ hB_ dL_begun_13 rfl (lv_at hl 0 rfl) ?_
  refine xb_FSq (As := [.ref (a 0)]) (rest := []) S (xw_tie_t1 l D hst c a (fun _ => 0) zs_A (fun _ => 0) (fun _ _ => 0) hN0 rfl) (vx_cwSW 1 hts gL_begun_L_tie rfl rfl rfl (by decide +kernel) ⟨(Nat.le_of_ble_eq_true rfl), (Nat.le_of_ble_eq_true rfl)⟩) hG hK hW hA rfl hl.1 rfl (lv_room (Nat.le_of_ble_eq_true rfl)) dL_begun_14 ⟨(Nat.le_of_ble_eq_true rfl), (Nat.le_of_ble_eq_true rfl)⟩ (fun H locs hW => ?_)
  have hW : ze_W D ((ze_wC c a (fun _ => 0) zs_A (fun _ => 0) (fun _ _ => 0)) ++ [(q, .inl (c 0, 210, .inl (upd (fun _ => 0) 6 2)))]) F s.heap _ _ := hW
  refine lv_ldc (own := RL) (v := -900001) hX_ hB_ S.2.2.2.1 w5 dL_begun_17 ?_
  refine lv_icmp_ne (tgt := 52) hX_ hB_ dL_begun_19 (by decide) (fun c19 => ?_) (fun c19 => ?_)
  · exact absurd c19 (by decide)
  · refine lv_aload_n hX_ hB_ dL_begun_22 rfl (lv_at hl 0 rfl) ?_
    refine xb_FSq (As := [.ref (a 0)]) (rest := []) S (xw_untie_t1 l D hst c a (fun _ => 0) zs_A (fun _ => 0) (fun _ _ => 0) rfl) (vx_cwSW 1 hts gL_begun_L_untie rfl rfl rfl (by decide +kernel) ⟨(Nat.le_of_ble_eq_true rfl), (Nat.le_of_ble_eq_true rfl)⟩) hG hK hW hA rfl hl.1 rfl (lv_room (Nat.le_of_ble_eq_true rfl)) dL_begun_23 ⟨(Nat.le_of_ble_eq_true rfl), (Nat.le_of_ble_eq_true rfl)⟩ (fun H locs hW => ?_)
    have hW : ze_W D ((ze_wC c a (fun _ => 0) zs_A (fun _ => 0) (fun _ _ => 0)) ++ [(q, .inl (c 0, 210, .inl (upd (fun _ => 0) 6 2)))]) F s.heap _ _ := hW
    refine lv_ldc (own := RL) (v := -900001) hX_ hB_ S.2.2.2.1 w5 dL_begun_26 ?_
    refine lv_icmp_ne (tgt := 52) hX_ hB_ dL_begun_28 (by decide) (fun c28 => ?_) (fun c28 => ?_)
    · exact absurd c28 (by decide)
    · refine lv_aload_n hX_ hB_ dL_begun_31 rfl (lv_at hl 0 rfl) ?_
      refine xb_FSf (As := [.ref (a 0)]) (rest := []) S (xw_litShare_t1 l D hst c a (fun _ => 0) zs_A (fun _ => 0) (fun _ _ => 0) hN0 rfl) (vx_cwSW 1 hts gL_begun_L_litShare rfl rfl rfl (by decide +kernel) ⟨(Nat.le_of_ble_eq_true rfl), (Nat.le_of_ble_eq_true rfl)⟩) hG hK hW hA rfl hl.1 rfl (lv_room (Nat.le_of_ble_eq_true rfl)) dL_begun_32 ⟨(Nat.le_of_ble_eq_true rfl), (Nat.le_of_ble_eq_true rfl)⟩ (fun H locs hW => ?_)
      have hW : ze_W D ((ze_wC c a (fun _ => 0) zs_A (fun _ => 0) (fun _ _ => 0)) ++ [(q, .inl (c 0, 210, .inl (upd (fun _ => 0) 6 2)))]) F s.heap _ _ := hW
      refine lv_ldcf (own := RL) (v := (3378231824)) hX_ hB_ S.2.2.2.1 w6 dL_begun_35 ?_
      refine lv_fcmp hX_ hB_ dL_begun_37 ?_
      refine ze_top (y := 0) (by decide +kernel) ?_
      refine lv_if_ne (tgt := 52) hX_ hB_ dL_begun_38 (by decide) (fun c38 => ?_) (fun c38 => ?_)
      · exact absurd c38 (by decide)
      · refine lv_aload_n hX_ hB_ dL_begun_41 rfl (lv_at hl 0 rfl) ?_
        refine ze_FVi (As := []) (rest := []) (ci := 8) (q0 := 0) (k := (RX8, TX8, 8)) S (zp_islands_f l D c a (fun _ => 0) zs_A (fun _ => 0) (fun _ _ => 0) hN0) (cwV 0 hts gL_begun_X8_islands rfl rfl rfl (by decide +kernel) ⟨(Nat.le_of_ble_eq_true rfl), (Nat.le_of_ble_eq_true rfl)⟩) hK hW hA rfl (ze_at0 0 rfl) rfl hl.1 rfl (lv_room (Nat.le_of_ble_eq_true rfl)) dL_begun_42 ⟨(Nat.le_of_ble_eq_true rfl), (Nat.le_of_ble_eq_true rfl)⟩ (fun H locs hW => ?_)
        have hW : ze_W D ((ze_wC c a (fun _ => 0) zs_A (fun _ => 0) (fun _ _ => 0)) ++ [(q, .inl (c 0, 210, .inl (upd (fun _ => 0) 6 2)))]) F s.heap _ _ := hW
        refine ze_top (y := 0) rfl ?_
        refine lv_if_ne (tgt := 52) hX_ hB_ dL_begun_45 (by decide) (fun c45 => ?_) (fun c45 => ?_)
        · exact absurd c45 (by decide)
        · refine lv_iconst (v := 1) hX_ hB_ dL_begun_48 (by decide) ?_
          refine lv_goto (tgt := 53) hX_ hB_ dL_begun_49 (by decide) ?_
          refine lv_istore_n (lv' := [(3, .int 1), (2, .ref (a 0)), (0, .ref b), (1, .ref q)]) hX_ hB_ dL_begun_53 rfl hl (by decide) rfl (fun ls hl => ?_)
          refine lv_iconst (v := 1) hX_ hB_ dL_begun_54 (by decide) ?_
          refine lv_aload_n hX_ hB_ dL_begun_55 rfl (lv_at hl 2 rfl) ?_
          refine lv_iconst (v := 0) hX_ hB_ dL_begun_56 (by decide) ?_
          refine lv_bipush (v := 6) hX_ hB_ dL_begun_57 (by decide) ?_
          have hW : ze_W D (([] : va_W) ++ ((ze_wC c a (fun _ => 0) zs_A (fun _ => 0) (fun _ _ => 0)) ++ [(q, .inl (c 0, 210, .inl (upd (fun _ => 0) 6 2)))])) F s.heap _ _ := hW
          refine xb_FSx (As := [.ref b, .int 0, .int 6]) (rest := [.int 1]) S (xj_in l D c b L xs hL 0 (by omega) 6 (by omega) (by omega)) (va_cwS 3 hts gL_begun_L_in rfl rfl rfl (by decide +kernel) ⟨(Nat.le_of_ble_eq_true rfl), (Nat.le_of_ble_eq_true rfl)⟩) (Or.inr rfl) hG hK hW hA rfl hl.1 rfl (lv_room (Nat.le_of_ble_eq_true rfl)) dL_begun_59 ⟨(Nat.le_of_ble_eq_true rfl), (Nat.le_of_ble_eq_true rfl)⟩ (fun H locs hW => ?_)
          have hv59 := xd_inlt (xs := xs) (L := L) (i := 0) (k := 6) (by omega)
          have hW : ze_W D ((ze_wC c a (fun _ => 0) zs_A (fun _ => 0) (fun _ _ => 0)) ++ [(q, .inl (c 0, 210, .inl (upd (fun _ => 0) 6 2)))]) F s.heap _ _ := hW
          refine lv_iadd hX_ hB_ dL_begun_62 ?_
          refine ze_top (xb_add (a := 1) (b := xd_in xs L 0 6) (c := xd_in xs L 0 6 + 1) (by omega)) ?_
          refine lv_istore (lv' := [(4, .int (nI (xd_in xs L 0 6 + 1))), (3, .int 1), (2, .ref (a 0)), (0, .ref b), (1, .ref q)]) hX_ hB_ dL_begun_63 hl (by decide) rfl (fun ls hl => ?_)
          have L65 : ∀ (k65 : Nat) (a : Nat → Nat) (n : Nat → Nat) (A : Nat → Nat → Int32) (B : Nat → Int64) (E : Nat → Nat → Int32) (N : Nat → Int32) (k : Nat), (xd_I n A B E N 0) → (k + n 0 ≤ 6) → (0 < k ∨ 0 < n 0) → k < k65 → ∀ (H : Heap) (locs : List Loc) (ls : Array Slot), ze_W D ((ze_wC c a n A B E) ++ [(q, .inl (c 0, 210, .inl N))]) F s.heap H locs → lv_has ls 5 [(4, .int (nI k)), (3, .int 1), (2, .ref (a 0)), (0, .ref b), (1, .ref q)] → W p l e { frames := 9, cells := 200, slots := 2000, locals := 160 } s m_ ([.ref b, .ref q] : List Value).toArray below meth cd H locs 21 133 (MQ below (xb_Qr (T := xd_T) D c ([(q, .inl (c 0, 210, .inl (fun _ => 0)))] : va_W) sz (fun (u : xd_T) => xd_I u.2.1 u.2.2.1 u.2.2.2.1 u.2.2.2.2.1 u.2.2.2.2.2 0 ∧ 0 < u.2.1 0 ∧ 1 ≤ u.2.1 2 ∧ 1 ≤ u.2.1 4) (fun (u : xd_T) => u.1 0) (fun u => xd_w c q u)) ([.ref b, .ref q] : List Value).toArray s 200 2000 F) (F0 m_ 65 ls []) := by
            intro k65
            induction k65 with
            | zero =>
              intro a n A B E N k hI hs hp hk65
              exact absurd hk65 (Nat.not_lt_zero _)
            | succ k65 ih65 =>
              intro a n A B E N k hI hs hp hk65 H locs ls hW hl
              have hKc := xd_K hI
              have hH := xc_KH hKc
              obtain ⟨hV, hR, hPh, hY, hWu⟩ := id hI
              obtain ⟨hN, hS, hE, hz, h4, h4z, hT, hC, hKz, hZ, hp⟩ := id hV
              obtain ⟨hn0, hn1, hn2, hn3, hn4⟩ := id hN
              have hE1 := zv_hE hV
              rcases k with _ | k
              · have hl : lv_has ls 5 [(4, .int 0), (3, .int 1), (2, .ref (a 0)), (0, .ref b), (1, .ref q)] := hl
                refine lv_iload hX_ hB_ dL_begun_65 (lv_at hl 0 rfl) ?_
                refine lv_if_le (tgt := 103) hX_ hB_ dL_begun_67 (by decide) (fun c67 => ?_) (fun c67 => ?_)
                · refine lv_aload_n hX_ hB_ dL_begun_103 rfl (lv_at hl 3 rfl) ?_
                  refine lv_iconst (v := 1) hX_ hB_ dL_begun_104 (by decide) ?_
                  refine lv_bipush (v := 9) hX_ hB_ dL_begun_105 (by decide) ?_
                  have hW : ze_W D (([] : va_W) ++ ((ze_wC c a n A B E) ++ [(q, .inl (c 0, 210, .inl N))])) F s.heap _ _ := hW
                  refine xb_FSx (As := [.ref b, .int 1, .int 9]) (rest := []) S (xj_in l D c b L xs hL 1 (by omega) 9 (by omega) (by omega)) (va_cwS 3 hts gL_begun_L_in rfl rfl rfl (by decide +kernel) ⟨(Nat.le_of_ble_eq_true rfl), (Nat.le_of_ble_eq_true rfl)⟩) (Or.inr rfl) hG hK hW hA rfl hl.1 rfl (lv_room (Nat.le_of_ble_eq_true rfl)) dL_begun_107 ⟨(Nat.le_of_ble_eq_true rfl), (Nat.le_of_ble_eq_true rfl)⟩ (fun H locs hW => ?_)
                  have hv107 := xd_inlt (xs := xs) (L := L) (i := 1) (k := 9) (by omega)
                  have hW : ze_W D ((ze_wC c a n A B E) ++ [(q, .inl (c 0, 210, .inl N))]) F s.heap _ _ := hW
                  refine lv_istore (lv' := [(4, .int (nI (xd_in xs L 1 9))), (3, .int 1), (2, .ref (a 0)), (0, .ref b), (1, .ref q)]) hX_ hB_ dL_begun_110 hl (by decide) rfl (fun ls hl => ?_)
                  have L112 : ∀ (k112 : Nat) (a : Nat → Nat) (n : Nat → Nat) (A : Nat → Nat → Int32) (B : Nat → Int64) (E : Nat → Nat → Int32) (N : Nat → Int32) (k : Nat), (xd_I n A B E N 0) → (0 < n 0) → (k ≤ 8) → k < k112 → ∀ (H : Heap) (locs : List Loc) (ls : Array Slot), ze_W D ((ze_wC c a n A B E) ++ [(q, .inl (c 0, 210, .inl N))]) F s.heap H locs → lv_has ls 5 [(4, .int (nI k)), (3, .int 1), (2, .ref (a 0)), (0, .ref b), (1, .ref q)] → W p l e { frames := 9, cells := 200, slots := 2000, locals := 160 } s m_ ([.ref b, .ref q] : List Value).toArray below meth cd H locs (21 + (8 - k)) (133 + 6 * (8 - k)) (MQ below (xb_Qr (T := xd_T) D c ([(q, .inl (c 0, 210, .inl (fun _ => 0)))] : va_W) sz (fun (u : xd_T) => xd_I u.2.1 u.2.2.1 u.2.2.2.1 u.2.2.2.2.1 u.2.2.2.2.2 0 ∧ 0 < u.2.1 0 ∧ 1 ≤ u.2.1 2 ∧ 1 ≤ u.2.1 4) (fun (u : xd_T) => u.1 0) (fun u => xd_w c q u)) ([.ref b, .ref q] : List Value).toArray s 200 2000 F) (F0 m_ 112 ls []) := by
                    intro k112
                    induction k112 with
                    | zero =>
                      intro a n A B E N k hI h0 hk hk112
                      exact absurd hk112 (Nat.not_lt_zero _)
                    | succ k112 ih112 =>
                      intro a n A B E N k hI h0 hk hk112 H locs ls hW hl
                      have hKc := xd_K hI
                      have hH := xc_KH hKc
                      obtain ⟨hV, hR, hPh, hY, hWu⟩ := id hI
                      obtain ⟨hN, hS, hE, hz, h4, h4z, hT, hC, hKz, hZ, hp⟩ := id hV
                      obtain ⟨hn0, hn1, hn2, hn3, hn4⟩ := id hN
                      have hE1 := zv_hE hV
                      rcases k with _ | k
                      · have hl : lv_has ls 5 [(4, .int 0), (3, .int 1), (2, .ref (a 0)), (0, .ref b), (1, .ref q)] := hl
                        refine W.widen (k := 29) (n := 181) (by omega) (by omega) ?_
                        refine lv_iload hX_ hB_ dL_begun_112 (lv_at hl 0 rfl) ?_
                        refine lv_if_le (tgt := 155) hX_ hB_ dL_begun_114 (by decide) (fun c114 => ?_) (fun c114 => ?_)
                        · refine lv_iconst (v := 1) hX_ hB_ dL_begun_155 (by decide) ?_
                          refine lv_aload_n hX_ hB_ dL_begun_156 rfl (lv_at hl 3 rfl) ?_
                          refine lv_iconst (v := 2) hX_ hB_ dL_begun_157 (by decide) ?_
                          refine lv_bipush (v := 6) hX_ hB_ dL_begun_158 (by decide) ?_
                          have hW : ze_W D (([] : va_W) ++ ((ze_wC c a n A B E) ++ [(q, .inl (c 0, 210, .inl N))])) F s.heap _ _ := hW
                          refine xb_FSx (As := [.ref b, .int 2, .int 6]) (rest := [.int 1]) S (xj_in l D c b L xs hL 2 (by omega) 6 (by omega) (by omega)) (va_cwS 3 hts gL_begun_L_in rfl rfl rfl (by decide +kernel) ⟨(Nat.le_of_ble_eq_true rfl), (Nat.le_of_ble_eq_true rfl)⟩) (Or.inr rfl) hG hK hW hA rfl hl.1 rfl (lv_room (Nat.le_of_ble_eq_true rfl)) dL_begun_160 ⟨(Nat.le_of_ble_eq_true rfl), (Nat.le_of_ble_eq_true rfl)⟩ (fun H locs hW => ?_)
                          have hv160 := xd_inlt (xs := xs) (L := L) (i := 2) (k := 6) (by omega)
                          have hW : ze_W D ((ze_wC c a n A B E) ++ [(q, .inl (c 0, 210, .inl N))]) F s.heap _ _ := hW
                          refine lv_iadd hX_ hB_ dL_begun_163 ?_
                          refine ze_top (xb_add (a := 1) (b := xd_in xs L 2 6) (c := xd_in xs L 2 6 + 1) (by omega)) ?_
                          refine lv_istore (lv' := [(4, .int (nI (xd_in xs L 2 6 + 1))), (3, .int 1), (2, .ref (a 0)), (0, .ref b), (1, .ref q)]) hX_ hB_ dL_begun_164 hl (by decide) rfl (fun ls hl => ?_)
                          have L166 : ∀ (k166 : Nat) (a : Nat → Nat) (n : Nat → Nat) (A : Nat → Nat → Int32) (B : Nat → Int64) (E : Nat → Nat → Int32) (N : Nat → Int32) (k : Nat), (xd_I n A B E N 0) → (0 < n 0) → (k ≤ 6) → (0 < k ∨ 1 ≤ n 2) → k < k166 → ∀ (H : Heap) (locs : List Loc) (ls : Array Slot), ze_W D ((ze_wC c a n A B E) ++ [(q, .inl (c 0, 210, .inl N))]) F s.heap H locs → lv_has ls 5 [(4, .int (nI k)), (3, .int 1), (2, .ref (a 0)), (0, .ref b), (1, .ref q)] → W p l e { frames := 9, cells := 200, slots := 2000, locals := 160 } s m_ ([.ref b, .ref q] : List Value).toArray below meth cd H locs (29 + (6 - k)) (181 + 8 * (6 - k)) (MQ below (xb_Qr (T := xd_T) D c ([(q, .inl (c 0, 210, .inl (fun _ => 0)))] : va_W) sz (fun (u : xd_T) => xd_I u.2.1 u.2.2.1 u.2.2.2.1 u.2.2.2.2.1 u.2.2.2.2.2 0 ∧ 0 < u.2.1 0 ∧ 1 ≤ u.2.1 2 ∧ 1 ≤ u.2.1 4) (fun (u : xd_T) => u.1 0) (fun u => xd_w c q u)) ([.ref b, .ref q] : List Value).toArray s 200 2000 F) (F0 m_ 166 ls []) := by
                            intro k166
                            induction k166 with
                            | zero =>
                              intro a n A B E N k hI h0 hk hg hk166
                              exact absurd hk166 (Nat.not_lt_zero _)
                            | succ k166 ih166 =>
                              intro a n A B E N k hI h0 hk hg hk166 H locs ls hW hl
                              have hKc := xd_K hI
                              have hH := xc_KH hKc
                              obtain ⟨hV, hR, hPh, hY, hWu⟩ := id hI
                              obtain ⟨hN, hS, hE, hz, h4, h4z, hT, hC, hKz, hZ, hp⟩ := id hV
                              obtain ⟨hn0, hn1, hn2, hn3, hn4⟩ := id hN
                              have hE1 := zv_hE hV
                              rcases k with _ | k
                              · have hl : lv_has ls 5 [(4, .int 0), (3, .int 1), (2, .ref (a 0)), (0, .ref b), (1, .ref q)] := hl
                                refine W.widen (k := 35) (n := 229) (by omega) (by omega) ?_
                                refine lv_iload hX_ hB_ dL_begun_166 (lv_at hl 0 rfl) ?_
                                refine lv_if_le (tgt := 194) hX_ hB_ dL_begun_168 (by decide) (fun c168 => ?_) (fun c168 => ?_)
                                · refine lv_aload_n hX_ hB_ dL_begun_194 rfl (lv_at hl 3 rfl) ?_
                                  refine lv_iconst (v := 3) hX_ hB_ dL_begun_195 (by decide) ?_
                                  refine lv_iconst (v := 5) hX_ hB_ dL_begun_196 (by decide) ?_
                                  have hW : ze_W D (([] : va_W) ++ ((ze_wC c a n A B E) ++ [(q, .inl (c 0, 210, .inl N))])) F s.heap _ _ := hW
                                  refine xb_FSx (As := [.ref b, .int 3, .int 5]) (rest := []) S (xj_in l D c b L xs hL 3 (by omega) 5 (by omega) (by omega)) (va_cwS 3 hts gL_begun_L_in rfl rfl rfl (by decide +kernel) ⟨(Nat.le_of_ble_eq_true rfl), (Nat.le_of_ble_eq_true rfl)⟩) (Or.inr rfl) hG hK hW hA rfl hl.1 rfl (lv_room (Nat.le_of_ble_eq_true rfl)) dL_begun_197 ⟨(Nat.le_of_ble_eq_true rfl), (Nat.le_of_ble_eq_true rfl)⟩ (fun H locs hW => ?_)
                                  have hv197 := xd_inlt (xs := xs) (L := L) (i := 3) (k := 5) (by omega)
                                  have hW : ze_W D ((ze_wC c a n A B E) ++ [(q, .inl (c 0, 210, .inl N))]) F s.heap _ _ := hW
                                  refine lv_istore (lv' := [(4, .int (nI (xd_in xs L 3 5))), (3, .int 1), (2, .ref (a 0)), (0, .ref b), (1, .ref q)]) hX_ hB_ dL_begun_200 hl (by decide) rfl (fun ls hl => ?_)
                                  have L202 : ∀ (k202 : Nat) (a : Nat → Nat) (n : Nat → Nat) (A : Nat → Nat → Int32) (B : Nat → Int64) (E : Nat → Nat → Int32) (N : Nat → Int32) (k : Nat), (xd_I n A B E N 0) → (0 < n 0) → (k ≤ 4) → (1 ≤ n 2) → k < k202 → ∀ (H : Heap) (locs : List Loc) (ls : Array Slot), ze_W D ((ze_wC c a n A B E) ++ [(q, .inl (c 0, 210, .inl N))]) F s.heap H locs → lv_has ls 5 [(4, .int (nI k)), (3, .int 1), (2, .ref (a 0)), (0, .ref b), (1, .ref q)] → W p l e { frames := 9, cells := 200, slots := 2000, locals := 160 } s m_ ([.ref b, .ref q] : List Value).toArray below meth cd H locs (35 + (4 - k)) (229 + 6 * (4 - k)) (MQ below (xb_Qr (T := xd_T) D c ([(q, .inl (c 0, 210, .inl (fun _ => 0)))] : va_W) sz (fun (u : xd_T) => xd_I u.2.1 u.2.2.1 u.2.2.2.1 u.2.2.2.2.1 u.2.2.2.2.2 0 ∧ 0 < u.2.1 0 ∧ 1 ≤ u.2.1 2 ∧ 1 ≤ u.2.1 4) (fun (u : xd_T) => u.1 0) (fun u => xd_w c q u)) ([.ref b, .ref q] : List Value).toArray s 200 2000 F) (F0 m_ 202 ls []) := by
                                    intro k202
                                    induction k202 with
                                    | zero =>
                                      intro a n A B E N k hI h0 hk h2p hk202
                                      exact absurd hk202 (Nat.not_lt_zero _)
                                    | succ k202 ih202 =>
                                      intro a n A B E N k hI h0 hk h2p hk202 H locs ls hW hl
                                      have hKc := xd_K hI
                                      have hH := xc_KH hKc
                                      obtain ⟨hV, hR, hPh, hY, hWu⟩ := id hI
                                      obtain ⟨hN, hS, hE, hz, h4, h4z, hT, hC, hKz, hZ, hp⟩ := id hV
                                      obtain ⟨hn0, hn1, hn2, hn3, hn4⟩ := id hN
                                      have hE1 := zv_hE hV
                                      rcases k with _ | k
                                      · have hl : lv_has ls 5 [(4, .int 0), (3, .int 1), (2, .ref (a 0)), (0, .ref b), (1, .ref q)] := hl
                                        refine W.widen (k := 39) (n := 253) (by omega) (by omega) ?_
                                        refine lv_iload hX_ hB_ dL_begun_202 (lv_at hl 0 rfl) ?_
                                        refine lv_if_le (tgt := 229) hX_ hB_ dL_begun_204 (by decide) (fun c204 => ?_) (fun c204 => ?_)
                                        · refine lv_iconst (v := 1) hX_ hB_ dL_begun_229 (by decide) ?_
                                          refine lv_aload_n hX_ hB_ dL_begun_230 rfl (lv_at hl 3 rfl) ?_
                                          refine lv_iconst (v := 4) hX_ hB_ dL_begun_231 (by decide) ?_
                                          refine lv_bipush (v := 10) hX_ hB_ dL_begun_232 (by decide) ?_
                                          have hW : ze_W D (([] : va_W) ++ ((ze_wC c a n A B E) ++ [(q, .inl (c 0, 210, .inl N))])) F s.heap _ _ := hW
                                          refine xb_FSx (As := [.ref b, .int 4, .int 10]) (rest := [.int 1]) S (xj_in l D c b L xs hL 4 (by omega) 10 (by omega) (by omega)) (va_cwS 3 hts gL_begun_L_in rfl rfl rfl (by decide +kernel) ⟨(Nat.le_of_ble_eq_true rfl), (Nat.le_of_ble_eq_true rfl)⟩) (Or.inr rfl) hG hK hW hA rfl hl.1 rfl (lv_room (Nat.le_of_ble_eq_true rfl)) dL_begun_234 ⟨(Nat.le_of_ble_eq_true rfl), (Nat.le_of_ble_eq_true rfl)⟩ (fun H locs hW => ?_)
                                          have hv234 := xd_inlt (xs := xs) (L := L) (i := 4) (k := 10) (by omega)
                                          have hW : ze_W D ((ze_wC c a n A B E) ++ [(q, .inl (c 0, 210, .inl N))]) F s.heap _ _ := hW
                                          refine lv_iadd hX_ hB_ dL_begun_237 ?_
                                          refine ze_top (xb_add (a := 1) (b := xd_in xs L 4 10) (c := xd_in xs L 4 10 + 1) (by omega)) ?_
                                          refine lv_istore (lv' := [(4, .int (nI (xd_in xs L 4 10 + 1))), (3, .int 1), (2, .ref (a 0)), (0, .ref b), (1, .ref q)]) hX_ hB_ dL_begun_238 hl (by decide) rfl (fun ls hl => ?_)
                                          have L240 : ∀ (k240 : Nat) (a : Nat → Nat) (n : Nat → Nat) (A : Nat → Nat → Int32) (B : Nat → Int64) (E : Nat → Nat → Int32) (N : Nat → Int32) (k : Nat), (xd_I n A B E N 0) → (0 < n 0) → (k ≤ 10) → (1 ≤ n 2) → (0 < k ∨ 1 ≤ n 4) → k < k240 → ∀ (H : Heap) (locs : List Loc) (ls : Array Slot), ze_W D ((ze_wC c a n A B E) ++ [(q, .inl (c 0, 210, .inl N))]) F s.heap H locs → lv_has ls 5 [(4, .int (nI k)), (3, .int 1), (2, .ref (a 0)), (0, .ref b), (1, .ref q)] → W p l e { frames := 9, cells := 200, slots := 2000, locals := 160 } s m_ ([.ref b, .ref q] : List Value).toArray below meth cd H locs (39 + (10 - k)) (253 + 6 * (10 - k)) (MQ below (xb_Qr (T := xd_T) D c ([(q, .inl (c 0, 210, .inl (fun _ => 0)))] : va_W) sz (fun (u : xd_T) => xd_I u.2.1 u.2.2.1 u.2.2.2.1 u.2.2.2.2.1 u.2.2.2.2.2 0 ∧ 0 < u.2.1 0 ∧ 1 ≤ u.2.1 2 ∧ 1 ≤ u.2.1 4) (fun (u : xd_T) => u.1 0) (fun u => xd_w c q u)) ([.ref b, .ref q] : List Value).toArray s 200 2000 F) (F0 m_ 240 ls []) := by
                                            intro k240
                                            induction k240 with
                                            | zero =>
                                              intro a n A B E N k hI h0 hk h2p hg hk240
                                              exact absurd hk240 (Nat.not_lt_zero _)
                                            | succ k240 ih240 =>
                                              intro a n A B E N k hI h0 hk h2p hg hk240 H locs ls hW hl
                                              have hKc := xd_K hI
                                              have hH := xc_KH hKc
                                              obtain ⟨hV, hR, hPh, hY, hWu⟩ := id hI
                                              obtain ⟨hN, hS, hE, hz, h4, h4z, hT, hC, hKz, hZ, hp⟩ := id hV
                                              obtain ⟨hn0, hn1, hn2, hn3, hn4⟩ := id hN
                                              have hE1 := zv_hE hV
                                              rcases k with _ | k
                                              · have hl : lv_has ls 5 [(4, .int 0), (3, .int 1), (2, .ref (a 0)), (0, .ref b), (1, .ref q)] := hl
                                                refine W.widen (k := 49) (n := 313) (by omega) (by omega) ?_
                                                refine lv_iload hX_ hB_ dL_begun_240 (lv_at hl 0 rfl) ?_
                                                refine lv_if_le (tgt := 267) hX_ hB_ dL_begun_242 (by decide) (fun c242 => ?_) (fun c242 => ?_)
                                                · refine lv_iload_n hX_ hB_ dL_begun_267 rfl (lv_at hl 1 rfl) ?_
                                                  refine lv_if_eq (tgt := 275) hX_ hB_ dL_begun_268 (by decide) (fun c268 => ?_) (fun c268 => ?_)
                                                  · exact absurd c268 (by decide)
                                                  · refine lv_aload_n hX_ hB_ dL_begun_271 rfl (lv_at hl 2 rfl) ?_
                                                    refine lv_goto (tgt := 276) hX_ hB_ dL_begun_272 (by decide) ?_
                                                    exact xb_rret (T := xd_T) (a, n, A, B, E, N) S hr (Or.inl ⟨_, rfl⟩) hlocks hF hK hW dL_begun_276 (Nat.le_of_ble_eq_true rfl) (Nat.le_of_ble_eq_true rfl) ⟨hI, h0, h2p, (by show 1 ≤ n 4; omega)⟩ rfl rfl
                                                · exact absurd c242 (by decide)
                                              · have hl : lv_has ls 5 [(4, .int (nI (k + 1))), (3, .int 1), (2, .ref (a 0)), (0, .ref b), (1, .ref q)] := hl
                                                refine lv_iload hX_ hB_ dL_begun_240 (lv_at hl 0 rfl) ?_
                                                refine lv_if_le (tgt := 267) hX_ hB_ dL_begun_242 (by decide) (fun c242 => ?_) (fun c242 => ?_)
                                                · exact absurd c242 (nI_nle (by omega) (by omega))
                                                · have c242 : True := trivial
                                                  refine lv_iload_n hX_ hB_ dL_begun_245 rfl (lv_at hl 1 rfl) ?_
                                                  refine lv_aload_n hX_ hB_ dL_begun_246 rfl (lv_at hl 2 rfl) ?_
                                                  refine lv_aload_n hX_ hB_ dL_begun_247 rfl (lv_at hl 4 rfl) ?_
                                                  refine lv_aload_n hX_ hB_ dL_begun_248 rfl (lv_at hl 3 rfl) ?_
                                                  refine lv_bipush (v := 96) hX_ hB_ dL_begun_249 (by decide) ?_
                                                  refine lv_iconst (v := 3) hX_ hB_ dL_begun_251 (by decide) ?_
                                                  refine lv_iload hX_ hB_ dL_begun_252 (lv_at hl 0 rfl) ?_
                                                  refine lv_imul hX_ hB_ dL_begun_254 ?_
                                                  refine ze_top (xb_mul (a := 3) (b := k + 1) (c := 3 * k + 3) (by omega)) ?_
                                                  refine lv_iadd hX_ hB_ dL_begun_255 ?_
                                                  refine ze_top (xb_add (a := 96) (b := 3 * k + 3) (c := 3 * k + 99) (by omega)) ?_
                                                  have hW := ze_W0 hW
                                                  refine xb_FSm (As := [.ref (a 0), .ref q, .ref b, .int (nI (3 * k + 99))]) (rest := [.int 1]) S (xj_isLoad l D hst c q a n A B E N 0 hI b L xs hL (3 * k + 99) (by omega) h0) (va_cwS 4 hts gL_begun_L_isLoad rfl rfl rfl (by decide +kernel) ⟨(Nat.le_of_ble_eq_true rfl), (Nat.le_of_ble_eq_true rfl)⟩) (Or.inr rfl) hG hK hW hA rfl hl.1 rfl (lv_room (Nat.le_of_ble_eq_true rfl)) dL_begun_256 ⟨(by show 39 + (10 - (k + 1)) + 1 ≤ 200; omega), (by show 253 + 6 * (10 - (k + 1)) + 6 ≤ 2000; omega)⟩ (fun r_ u9 hu9 H locs hW => ?_)
                                                  obtain ⟨a9, n9, A9, B9, E9, N9⟩ := u9
                                                  obtain ⟨hr9, ⟨ha9, hI9, hn9, h29, h49⟩, hx9⟩ := hu9
                                                  have ha9 : a9 0 = a 0 := ha9
                                                  have hI9 : xd_I n9 A9 B9 E9 N9 (0) := hI9
                                                  have hn9 : n9 0 = n 0 := hn9
                                                  have h29 : n 2 ≤ n9 2 := h29
                                                  have h49 : n 4 ≤ n9 4 := h49
                                                  subst hr9
                                                  have hW := ze_W0' hW
                                                  have hW : ze_W D ((ze_wC c a9 n9 A9 B9 E9) ++ [(q, .inl (c 0, 210, .inl N9))]) F s.heap _ _ := hW
                                                  rw [← ha9] at hl
                                                  refine lv_iand hX_ hB_ dL_begun_259 ?_
                                                  refine ze_top (y := 1) (by decide) ?_
                                                  refine lv_istore_n (lv' := [(3, .int 1), (4, .int (nI (k + 1))), (2, .ref (a9 0)), (0, .ref b), (1, .ref q)]) hX_ hB_ dL_begun_260 rfl hl (by decide) rfl (fun ls hl => ?_)
                                                  refine lv_iinc (v := nI (k + 1) + (-1)) (lv' := [(4, .int (nI (k + 1) + (-1))), (3, .int 1), (2, .ref (a9 0)), (0, .ref b), (1, .ref q)]) hX_ hB_ dL_begun_261 hl (k := 1) rfl rfl (by decide) rfl (fun ls hl => ?_)
                                                  refine lv_goto (tgt := 240) hX_ hB_ dL_begun_264 (by decide) ?_
                                                  refine W.widen (k := 39 + (10 - k)) (n := 253 + 6 * (10 - k)) (by omega) (by omega) ?_
                                                  have hl : lv_has ls 5 [(4, .int (nI k)), (3, .int 1), (2, .ref (a9 0)), (0, .ref b), (1, .ref q)] := by
                                                    rw [xd_pr k (by omega)] at hl
                                                    exact hl
                                                  exact ih240 a9 n9 A9 B9 E9 N9 k hI9 (by omega) (by omega) (by omega) (Or.inr hx9) (by omega) _ _ ls hW (lv_sub hl [0, 1, 2, 3, 4] rfl)
                                          refine W.widen (k := 39 + (10 - (xd_in xs L 4 10 + 1))) (n := 253 + 6 * (10 - (xd_in xs L 4 10 + 1))) (by omega) (by omega) ?_
                                          exact L240 _ a n A B E N (xd_in xs L 4 10 + 1) hI h0 (by omega) h2p (Or.inl (by omega)) (Nat.lt_succ_self _) _ _ ls hW (lv_sub hl [0, 1, 2, 3, 4] rfl)
                                        · exact absurd c204 (by decide)
                                      · have hl : lv_has ls 5 [(4, .int (nI (k + 1))), (3, .int 1), (2, .ref (a 0)), (0, .ref b), (1, .ref q)] := hl
                                        refine lv_iload hX_ hB_ dL_begun_202 (lv_at hl 0 rfl) ?_
                                        refine lv_if_le (tgt := 229) hX_ hB_ dL_begun_204 (by decide) (fun c204 => ?_) (fun c204 => ?_)
                                        · exact absurd c204 (nI_nle (by omega) (by omega))
                                        · have c204 : True := trivial
                                          refine lv_iload_n hX_ hB_ dL_begun_207 rfl (lv_at hl 1 rfl) ?_
                                          refine lv_aload_n hX_ hB_ dL_begun_208 rfl (lv_at hl 2 rfl) ?_
                                          refine lv_aload_n hX_ hB_ dL_begun_209 rfl (lv_at hl 4 rfl) ?_
                                          refine lv_aload_n hX_ hB_ dL_begun_210 rfl (lv_at hl 3 rfl) ?_
                                          refine lv_bipush (v := 80) hX_ hB_ dL_begun_211 (by decide) ?_
                                          refine lv_iconst (v := 3) hX_ hB_ dL_begun_213 (by decide) ?_
                                          refine lv_iload hX_ hB_ dL_begun_214 (lv_at hl 0 rfl) ?_
                                          refine lv_imul hX_ hB_ dL_begun_216 ?_
                                          refine ze_top (xb_mul (a := 3) (b := k + 1) (c := 3 * k + 3) (by omega)) ?_
                                          refine lv_iadd hX_ hB_ dL_begun_217 ?_
                                          refine ze_top (xb_add (a := 80) (b := 3 * k + 3) (c := 3 * k + 83) (by omega)) ?_
                                          have hW := ze_W0 hW
                                          refine xb_FSm (As := [.ref (a 0), .ref q, .ref b, .int (nI (3 * k + 83))]) (rest := [.int 1]) S (xj_isStore l D hst c q a n A B E N 0 hI b L xs hL (3 * k + 83) (by omega) h0) (va_cwS 4 hts gL_begun_L_isStore rfl rfl rfl (by decide +kernel) ⟨(Nat.le_of_ble_eq_true rfl), (Nat.le_of_ble_eq_true rfl)⟩) (Or.inr rfl) hG hK hW hA rfl hl.1 rfl (lv_room (Nat.le_of_ble_eq_true rfl)) dL_begun_218 ⟨(by show 35 + (4 - (k + 1)) + 1 ≤ 200; omega), (by show 229 + 6 * (4 - (k + 1)) + 6 ≤ 2000; omega)⟩ (fun r_ u9 hu9 H locs hW => ?_)
                                          obtain ⟨a9, n9, A9, B9, E9, N9⟩ := u9
                                          obtain ⟨hr9, ha9, hI9, hn9, h29, h49⟩ := hu9
                                          have ha9 : a9 0 = a 0 := ha9
                                          have hI9 : xd_I n9 A9 B9 E9 N9 (0) := hI9
                                          have hn9 : n9 0 = n 0 := hn9
                                          have h29 : n 2 ≤ n9 2 := h29
                                          have h49 : n 4 ≤ n9 4 := h49
                                          subst hr9
                                          have hW := ze_W0' hW
                                          have hW : ze_W D ((ze_wC c a9 n9 A9 B9 E9) ++ [(q, .inl (c 0, 210, .inl N9))]) F s.heap _ _ := hW
                                          rw [← ha9] at hl
                                          refine lv_iand hX_ hB_ dL_begun_221 ?_
                                          refine ze_top (y := 1) (by decide) ?_
                                          refine lv_istore_n (lv' := [(3, .int 1), (4, .int (nI (k + 1))), (2, .ref (a9 0)), (0, .ref b), (1, .ref q)]) hX_ hB_ dL_begun_222 rfl hl (by decide) rfl (fun ls hl => ?_)
                                          refine lv_iinc (v := nI (k + 1) + (-1)) (lv' := [(4, .int (nI (k + 1) + (-1))), (3, .int 1), (2, .ref (a9 0)), (0, .ref b), (1, .ref q)]) hX_ hB_ dL_begun_223 hl (k := 1) rfl rfl (by decide) rfl (fun ls hl => ?_)
                                          refine lv_goto (tgt := 202) hX_ hB_ dL_begun_226 (by decide) ?_
                                          refine W.widen (k := 35 + (4 - k)) (n := 229 + 6 * (4 - k)) (by omega) (by omega) ?_
                                          have hl : lv_has ls 5 [(4, .int (nI k)), (3, .int 1), (2, .ref (a9 0)), (0, .ref b), (1, .ref q)] := by
                                            rw [xd_pr k (by omega)] at hl
                                            exact hl
                                          exact ih202 a9 n9 A9 B9 E9 N9 k hI9 (by omega) (by omega) (by omega) (by omega) _ _ ls hW (lv_sub hl [0, 1, 2, 3, 4] rfl)
                                  refine W.widen (k := 35 + (4 - (xd_in xs L 3 5))) (n := 229 + 6 * (4 - (xd_in xs L 3 5))) (by omega) (by omega) ?_
                                  exact L202 _ a n A B E N (xd_in xs L 3 5) hI h0 (by omega) (by omega) (Nat.lt_succ_self _) _ _ ls hW (lv_sub hl [0, 1, 2, 3, 4] rfl)
                                · exact absurd c168 (by decide)
                              · have hl : lv_has ls 5 [(4, .int (nI (k + 1))), (3, .int 1), (2, .ref (a 0)), (0, .ref b), (1, .ref q)] := hl
                                refine lv_iload hX_ hB_ dL_begun_166 (lv_at hl 0 rfl) ?_
                                refine lv_if_le (tgt := 194) hX_ hB_ dL_begun_168 (by decide) (fun c168 => ?_) (fun c168 => ?_)
                                · exact absurd c168 (nI_nle (by omega) (by omega))
                                · have c168 : True := trivial
                                  refine lv_iload_n hX_ hB_ dL_begun_171 rfl (lv_at hl 1 rfl) ?_
                                  refine lv_aload_n hX_ hB_ dL_begun_172 rfl (lv_at hl 2 rfl) ?_
                                  refine lv_aload_n hX_ hB_ dL_begun_173 rfl (lv_at hl 4 rfl) ?_
                                  refine lv_aload_n hX_ hB_ dL_begun_174 rfl (lv_at hl 3 rfl) ?_
                                  refine lv_bipush (v := 30) hX_ hB_ dL_begun_175 (by decide) ?_
                                  refine lv_bipush (v := 7) hX_ hB_ dL_begun_177 (by decide) ?_
                                  refine lv_iload hX_ hB_ dL_begun_179 (lv_at hl 0 rfl) ?_
                                  refine lv_imul hX_ hB_ dL_begun_181 ?_
                                  refine ze_top (xb_mul (a := 7) (b := k + 1) (c := 7 * k + 7) (by omega)) ?_
                                  refine lv_iadd hX_ hB_ dL_begun_182 ?_
                                  refine ze_top (xb_add (a := 30) (b := 7 * k + 7) (c := 7 * k + 37) (by omega)) ?_
                                  have hW := ze_W0 hW
                                  refine xb_FSm (As := [.ref (a 0), .ref q, .ref b, .int (nI (7 * k + 37))]) (rest := [.int 1]) S (xj_isGenerator l D hst c q a n A B E N 0 hI b L xs hL (7 * k + 37) (by omega) h0) (va_cwS 4 hts gL_begun_L_isGenerator rfl rfl rfl (by decide +kernel) ⟨(Nat.le_of_ble_eq_true rfl), (Nat.le_of_ble_eq_true rfl)⟩) (Or.inr rfl) hG hK hW hA rfl hl.1 rfl (lv_room (Nat.le_of_ble_eq_true rfl)) dL_begun_183 ⟨(by show 29 + (6 - (k + 1)) + 1 ≤ 200; omega), (by show 181 + 8 * (6 - (k + 1)) + 8 ≤ 2000; omega)⟩ (fun r_ u9 hu9 H locs hW => ?_)
                                  obtain ⟨a9, n9, A9, B9, E9, N9⟩ := u9
                                  obtain ⟨hr9, ⟨ha9, hI9, hn9, h29, h49⟩, hx9⟩ := hu9
                                  have ha9 : a9 0 = a 0 := ha9
                                  have hI9 : xd_I n9 A9 B9 E9 N9 (0) := hI9
                                  have hn9 : n9 0 = n 0 := hn9
                                  have h29 : n 2 ≤ n9 2 := h29
                                  have h49 : n 4 ≤ n9 4 := h49
                                  subst hr9
                                  have hW := ze_W0' hW
                                  have hW : ze_W D ((ze_wC c a9 n9 A9 B9 E9) ++ [(q, .inl (c 0, 210, .inl N9))]) F s.heap _ _ := hW
                                  rw [← ha9] at hl
                                  refine lv_iand hX_ hB_ dL_begun_186 ?_
                                  refine ze_top (y := 1) (by decide) ?_
                                  refine lv_istore_n (lv' := [(3, .int 1), (4, .int (nI (k + 1))), (2, .ref (a9 0)), (0, .ref b), (1, .ref q)]) hX_ hB_ dL_begun_187 rfl hl (by decide) rfl (fun ls hl => ?_)
                                  refine lv_iinc (v := nI (k + 1) + (-1)) (lv' := [(4, .int (nI (k + 1) + (-1))), (3, .int 1), (2, .ref (a9 0)), (0, .ref b), (1, .ref q)]) hX_ hB_ dL_begun_188 hl (k := 1) rfl rfl (by decide) rfl (fun ls hl => ?_)
                                  refine lv_goto (tgt := 166) hX_ hB_ dL_begun_191 (by decide) ?_
                                  refine W.widen (k := 29 + (6 - k)) (n := 181 + 8 * (6 - k)) (by omega) (by omega) ?_
                                  have hl : lv_has ls 5 [(4, .int (nI k)), (3, .int 1), (2, .ref (a9 0)), (0, .ref b), (1, .ref q)] := by
                                    rw [xd_pr k (by omega)] at hl
                                    exact hl
                                  exact ih166 a9 n9 A9 B9 E9 N9 k hI9 (by omega) (by omega) (Or.inr hx9) (by omega) _ _ ls hW (lv_sub hl [0, 1, 2, 3, 4] rfl)
                          refine W.widen (k := 29 + (6 - (xd_in xs L 2 6 + 1))) (n := 181 + 8 * (6 - (xd_in xs L 2 6 + 1))) (by omega) (by omega) ?_
                          exact L166 _ a n A B E N (xd_in xs L 2 6 + 1) hI h0 (by omega) (Or.inl (by omega)) (Nat.lt_succ_self _) _ _ ls hW (lv_sub hl [0, 1, 2, 3, 4] rfl)
                        · exact absurd c114 (by decide)
                      · have hl : lv_has ls 5 [(4, .int (nI (k + 1))), (3, .int 1), (2, .ref (a 0)), (0, .ref b), (1, .ref q)] := hl
                        refine lv_iload hX_ hB_ dL_begun_112 (lv_at hl 0 rfl) ?_
                        refine lv_if_le (tgt := 155) hX_ hB_ dL_begun_114 (by decide) (fun c114 => ?_) (fun c114 => ?_)
                        · exact absurd c114 (nI_nle (by omega) (by omega))
                        · have c114 : True := trivial
                          refine lv_iload_n hX_ hB_ dL_begun_117 rfl (lv_at hl 1 rfl) ?_
                          refine lv_aload_n hX_ hB_ dL_begun_118 rfl (lv_at hl 2 rfl) ?_
                          refine lv_aload_n hX_ hB_ dL_begun_119 rfl (lv_at hl 4 rfl) ?_
                          refine lv_aload_n hX_ hB_ dL_begun_120 rfl (lv_at hl 3 rfl) ?_
                          refine lv_bipush (v := 10) hX_ hB_ dL_begun_121 (by decide) ?_
                          refine lv_iload hX_ hB_ dL_begun_123 (lv_at hl 0 rfl) ?_
                          refine lv_iadd hX_ hB_ dL_begun_125 ?_
                          refine ze_top (xb_add (a := 10) (b := k + 1) (c := k + 11) (by omega)) ?_
                          refine lv_aload_n hX_ hB_ dL_begun_126 rfl (lv_at hl 4 rfl) ?_
                          refine lv_iconst (v := 0) hX_ hB_ dL_begun_127 (by decide) ?_
                          refine ze_ialdN hX_ hB_ hK hW ((ze_wC c a n A B E).length + 0) (f := N) (ze_appL (k := 0) rfl) (i := 0) (by omega) (by decide) dL_begun_128 ?_
                          refine ze_top (y := nI (n 0)) hR.1.1 ?_
                          have hW : ze_W D (([] : va_W) ++ ((ze_wC c a n A B E) ++ [(q, .inl (c 0, 210, .inl N))])) F s.heap _ _ := hW
                          refine xb_FSx (As := [.ref b, .int (nI (k + 11)), .int (nI (n 0))]) (rest := [.ref q, .ref (a 0), .int 1]) S (xj_in l D c b L xs hL (k + 11) (by omega) (n 0) (by omega) (by omega)) (va_cwS 3 hts gL_begun_L_in rfl rfl rfl (by decide +kernel) ⟨(Nat.le_of_ble_eq_true rfl), (Nat.le_of_ble_eq_true rfl)⟩) (Or.inr rfl) hG hK hW hA rfl hl.1 rfl (lv_room (Nat.le_of_ble_eq_true rfl)) dL_begun_129 ⟨(by show 21 + (8 - (k + 1)) + 0 ≤ 200; omega), (by show 133 + 6 * (8 - (k + 1)) + 0 ≤ 2000; omega)⟩ (fun H locs hW => ?_)
                          have hv129 := xd_inlt (xs := xs) (L := L) (i := k + 11) (k := n 0) (by omega)
                          have hW : ze_W D ((ze_wC c a n A B E) ++ [(q, .inl (c 0, 210, .inl N))]) F s.heap _ _ := hW
                          refine lv_aload_n hX_ hB_ dL_begun_132 rfl (lv_at hl 3 rfl) ?_
                          refine lv_bipush (v := 20) hX_ hB_ dL_begun_133 (by decide) ?_
                          refine lv_iload hX_ hB_ dL_begun_135 (lv_at hl 0 rfl) ?_
                          refine lv_iadd hX_ hB_ dL_begun_137 ?_
                          refine ze_top (xb_add (a := 20) (b := k + 1) (c := k + 21) (by omega)) ?_
                          refine lv_aload_n hX_ hB_ dL_begun_138 rfl (lv_at hl 4 rfl) ?_
                          refine lv_iconst (v := 0) hX_ hB_ dL_begun_139 (by decide) ?_
                          refine ze_ialdN hX_ hB_ hK hW ((ze_wC c a n A B E).length + 0) (f := N) (ze_appL (k := 0) rfl) (i := 0) (by omega) (by decide) dL_begun_140 ?_
                          refine ze_top (y := nI (n 0)) hR.1.1 ?_
                          have hW : ze_W D (([] : va_W) ++ ((ze_wC c a n A B E) ++ [(q, .inl (c 0, 210, .inl N))])) F s.heap _ _ := hW
                          refine xb_FSx (As := [.ref b, .int (nI (k + 21)), .int (nI (n 0))]) (rest := [.int (nI (xd_in xs L (k + 11) (n 0))), .ref q, .ref (a 0), .int 1]) S (xj_in l D c b L xs hL (k + 21) (by omega) (n 0) (by omega) (by omega)) (va_cwS 3 hts gL_begun_L_in rfl rfl rfl (by decide +kernel) ⟨(Nat.le_of_ble_eq_true rfl), (Nat.le_of_ble_eq_true rfl)⟩) (Or.inr rfl) hG hK hW hA rfl hl.1 rfl (lv_room (Nat.le_of_ble_eq_true rfl)) dL_begun_141 ⟨(by show 21 + (8 - (k + 1)) + 0 ≤ 200; omega), (by show 133 + 6 * (8 - (k + 1)) + 0 ≤ 2000; omega)⟩ (fun H locs hW => ?_)
                          have hv141 := xd_inlt (xs := xs) (L := L) (i := k + 21) (k := n 0) (by omega)
                          have hW : ze_W D ((ze_wC c a n A B E) ++ [(q, .inl (c 0, 210, .inl N))]) F s.heap _ _ := hW
                          have hW := ze_W0 hW
                          refine xb_FSm (As := [.ref (a 0), .ref q, .int (nI (xd_in xs L (k + 11) (n 0))), .int (nI (xd_in xs L (k + 21) (n 0)))]) (rest := [.int 1]) S (xj_isLine l D hst c q a n A B E N 0 hI (xd_in xs L (k + 11) (n 0)) (xd_in xs L (k + 21) (n 0)) (by omega) (by omega)) (va_cwS 4 hts gL_begun_L_isLine rfl rfl rfl (by decide +kernel) ⟨(Nat.le_of_ble_eq_true rfl), (Nat.le_of_ble_eq_true rfl)⟩) (Or.inl rfl) hG hK hW hA rfl hl.1 rfl (lv_room (Nat.le_of_ble_eq_true rfl)) dL_begun_144 ⟨(by show 21 + (8 - (k + 1)) + 1 ≤ 200; omega), (by show 133 + 6 * (8 - (k + 1)) + 6 ≤ 2000; omega)⟩ (fun r_ u9 hu9 H locs hW => ?_)
                          obtain ⟨a9, n9, A9, B9, E9, N9⟩ := u9
                          obtain ⟨hr9, ha9, hI9, hn9, h29, h49⟩ := hu9
                          have ha9 : a9 0 = a 0 := ha9
                          have hI9 : xd_I n9 A9 B9 E9 N9 (0) := hI9
                          have hn9 : n9 0 = n 0 := hn9
                          have h29 : n 2 ≤ n9 2 := h29
                          have h49 : n 4 ≤ n9 4 := h49
                          subst hr9
                          have hW := ze_W0' hW
                          have hW : ze_W D ((ze_wC c a9 n9 A9 B9 E9) ++ [(q, .inl (c 0, 210, .inl N9))]) F s.heap _ _ := hW
                          rw [← ha9] at hl
                          refine lv_iand hX_ hB_ dL_begun_147 ?_
                          refine ze_top (y := 1) (by decide) ?_
                          refine lv_istore_n (lv' := [(3, .int 1), (4, .int (nI (k + 1))), (2, .ref (a9 0)), (0, .ref b), (1, .ref q)]) hX_ hB_ dL_begun_148 rfl hl (by decide) rfl (fun ls hl => ?_)
                          refine lv_iinc (v := nI (k + 1) + (-1)) (lv' := [(4, .int (nI (k + 1) + (-1))), (3, .int 1), (2, .ref (a9 0)), (0, .ref b), (1, .ref q)]) hX_ hB_ dL_begun_149 hl (k := 1) rfl rfl (by decide) rfl (fun ls hl => ?_)
                          refine lv_goto (tgt := 112) hX_ hB_ dL_begun_152 (by decide) ?_
                          refine W.widen (k := 21 + (8 - k)) (n := 133 + 6 * (8 - k)) (by omega) (by omega) ?_
                          have hl : lv_has ls 5 [(4, .int (nI k)), (3, .int 1), (2, .ref (a9 0)), (0, .ref b), (1, .ref q)] := by
                            rw [xd_pr k (by omega)] at hl
                            exact hl
                          exact ih112 a9 n9 A9 B9 E9 N9 k hI9 (by omega) (by omega) (by omega) _ _ ls hW (lv_sub hl [0, 1, 2, 3, 4] rfl)
                  refine W.widen (k := 21 + (8 - (xd_in xs L 1 9))) (n := 133 + 6 * (8 - (xd_in xs L 1 9))) (by omega) (by omega) ?_
                  exact L112 _ a n A B E N (xd_in xs L 1 9) hI (by omega) (by omega) (Nat.lt_succ_self _) _ _ ls hW (lv_sub hl [0, 1, 2, 3, 4] rfl)
                · exact absurd c67 (by decide)
              · have hl : lv_has ls 5 [(4, .int (nI (k + 1))), (3, .int 1), (2, .ref (a 0)), (0, .ref b), (1, .ref q)] := hl
                refine lv_iload hX_ hB_ dL_begun_65 (lv_at hl 0 rfl) ?_
                refine lv_if_le (tgt := 103) hX_ hB_ dL_begun_67 (by decide) (fun c67 => ?_) (fun c67 => ?_)
                · exact absurd c67 (nI_nle (by omega) (by omega))
                · have c67 : True := trivial
                  refine lv_aload_n hX_ hB_ dL_begun_70 rfl (lv_at hl 4 rfl) ?_
                  refine lv_iconst (v := 0) hX_ hB_ dL_begun_71 (by decide) ?_
                  refine lv_dup2_11 hX_ hB_ dL_begun_72 rfl rfl ?_
                  refine ze_ialdN hX_ hB_ hK hW ((ze_wC c a n A B E).length + 0) (f := N) (ze_appL (k := 0) rfl) (i := 0) (by omega) (by decide) dL_begun_73 ?_
                  refine ze_top (y := nI (n 0)) hR.1.1 ?_
                  refine lv_iconst (v := 1) hX_ hB_ dL_begun_74 (by decide) ?_
                  refine lv_iadd hX_ hB_ dL_begun_75 ?_
                  refine ze_top (xb_add (a := n 0) (b := 1) (c := n 0 + 1) (by omega)) ?_
                  refine ze_iastN hX_ hB_ hK hW ((ze_wC c a n A B E).length + 0) (f := N) (ze_appL (k := 0) rfl) (i := 0) (by omega) (by decide) dL_begun_76 (ze_appset rfl) (fun H locs hW => ?_)
                  have hW : ze_W D ((ze_wC c a n A B E) ++ [(q, .inl (c 0, 210, .inl (upd N 0 (nI (n 0 + 1)))))]) F s.heap _ _ := hW
                  refine lv_iload_n hX_ hB_ dL_begun_77 rfl (lv_at hl 1 rfl) ?_
                  refine lv_aload_n hX_ hB_ dL_begun_78 rfl (lv_at hl 2 rfl) ?_
                  refine xb_FSq (As := [.ref (a 0)]) (rest := [.int 1]) S (xw_addSite_f l D c a n A B E hN hS (by omega)) (vx_cwSW 1 hts gL_begun_L_addSite rfl rfl rfl (by decide +kernel) ⟨(Nat.le_of_ble_eq_true rfl), (Nat.le_of_ble_eq_true rfl)⟩) hG hK hW hA rfl hl.1 rfl (lv_room (Nat.le_of_ble_eq_true rfl)) dL_begun_79 ⟨(Nat.le_of_ble_eq_true rfl), (Nat.le_of_ble_eq_true rfl)⟩ (fun H locs hW => ?_)
                  have hW : ze_W D ((ze_wC c a (ze_sn n 0 (n 0 + 1)) A B (ze_sA (ze_sA E 0 ((zf_fi (ze_sn n 0 (n 0 + 1)) A (E 0) (E 1) (n 0 + 1)).1)) 1 ((zf_fi (ze_sn n 0 (n 0 + 1)) A (E 0) (E 1) (n 0 + 1)).2))) ++ [(q, .inl (c 0, 210, .inl (upd N 0 (nI (n 0 + 1)))))]) F s.heap _ _ := hW
                  refine lv_aload_n hX_ hB_ dL_begun_82 rfl (lv_at hl 4 rfl) ?_
                  refine lv_iconst (v := 0) hX_ hB_ dL_begun_83 (by decide) ?_
                  refine ze_ialdN hX_ hB_ hK hW ((ze_wC c a (ze_sn n 0 (n 0 + 1)) A B (ze_sA (ze_sA E 0 ((zf_fi (ze_sn n 0 (n 0 + 1)) A (E 0) (E 1) (n 0 + 1)).1)) 1 ((zf_fi (ze_sn n 0 (n 0 + 1)) A (E 0) (E 1) (n 0 + 1)).2))).length + 0) (f := (upd N 0 (nI (n 0 + 1)))) (ze_appL (k := 0) rfl) (i := 0) (by omega) (by decide) dL_begun_84 ?_
                  refine ze_top (ze_updat _ _ _) ?_
                  refine lv_iconst (v := 1) hX_ hB_ dL_begun_85 (by decide) ?_
                  refine lv_isub hX_ hB_ dL_begun_86 ?_
                  refine ze_top (nI_pred (n 0)) ?_
                  refine lv_icmp_ne (tgt := 94) hX_ hB_ dL_begun_87 (by decide) (fun c87 => ?_) (fun c87 => ?_)
                  · exact absurd rfl c87
                  · have c87 : (n 0) = (n 0) := (nI_eq (a := (n 0)) (b := (n 0)) (by omega) (by omega)).mp c87
                    refine lv_iconst (v := 1) hX_ hB_ dL_begun_90 (by decide) ?_
                    refine lv_goto (tgt := 95) hX_ hB_ dL_begun_91 (by decide) ?_
                    refine lv_iand hX_ hB_ dL_begun_95 ?_
                    refine ze_top (y := 1) (by decide) ?_
                    refine lv_istore_n (lv' := [(3, .int 1), (4, .int (nI (k + 1))), (2, .ref (a 0)), (0, .ref b), (1, .ref q)]) hX_ hB_ dL_begun_96 rfl hl (by decide) rfl (fun ls hl => ?_)
                    refine lv_iinc (v := nI (k + 1) + (-1)) (lv' := [(4, .int (nI (k + 1) + (-1))), (3, .int 1), (2, .ref (a 0)), (0, .ref b), (1, .ref q)]) hX_ hB_ dL_begun_97 hl (k := 1) rfl rfl (by decide) rfl (fun ls hl => ?_)
                    refine lv_goto (tgt := 65) hX_ hB_ dL_begun_100 (by decide) ?_
                    have hl : lv_has ls 5 [(4, .int (nI k)), (3, .int 1), (2, .ref (a 0)), (0, .ref b), (1, .ref q)] := by
                      rw [xd_pr k (by omega)] at hl
                      exact hl
                    exact ih65 a (ze_sn n 0 (n 0 + 1)) A B (ze_sA (ze_sA E 0 ((zf_fi (ze_sn n 0 (n 0 + 1)) A (E 0) (E 1) (n 0 + 1)).1)) 1 ((zf_fi (ze_sn n 0 (n 0 + 1)) A (E 0) (E 1) (n 0 + 1)).2)) (upd N 0 (nI (n 0 + 1))) k (xd_site hI (by omega) (zf_fiE (zf_N1 hN (by omega)) (zf_S1 hS) (fun s9 h9 => by rw [hE]; exact zf_CIz hN hS s9 (by have : n 0 + 1 ≤ s9 := h9; omega)))) (by show k + (n 0 + 1) ≤ 6; omega) (Or.inr (Nat.succ_pos _)) (by omega) _ _ ls hW (lv_sub hl [0, 1, 2, 3, 4] rfl)
          exact L65 _ a (fun _ => 0) zs_A (fun _ => 0) (fun _ _ => 0) (upd (fun _ => 0) 6 2) (xd_in xs L 0 6 + 1) xd_I0 (by show _ + 0 ≤ 6; omega) (Or.inl (by omega)) (Nat.lt_succ_self _) _ _ ls hW (lv_sub hl [0, 1, 2, 3, 4] rfl)
