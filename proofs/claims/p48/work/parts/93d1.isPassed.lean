/-! ===== the law's longer methods over the object and the net ===== -/
set_option maxHeartbeats 8000000 in
set_option maxRecDepth 100000 in
theorem xj_isPassed (l : Launch) (D : va_G) (hst : l.stackTraces = false) (c : Nat → ClassId) (q : Nat) (a n : Nat → Nat) (A : Nat → Nat → Int32) (B : Nat → Int64) (E : Nat → Nat → Int32) (N : Nat → Int32) (t : Nat) (hI : xd_I n A B E N t) (ht : t ≤ 200) (k : Nat) (hk1 : 1 ≤ k) (hk3 : k ≤ 3) : xb_M (T := xd_T) l yL_isPassed wsL_isPassed 9 189 18 108 D c none ((ze_wC c a n A B E) ++ [(q, .inl (c 0, 210, .inl N))]) [.ref (a 0), .ref q, .int (nI k)] (fun r (u : xd_T) => r = 1 ∧ xd_P (a 0) n (t + 3) u) (fun u => xd_w c q u) := by
  intro sz
  refine xb_start (cc := cL_isPassed) (maxL := 5) (ret := (some .boolean)) (own := RL) (by decide) rfl rfl (Nat.le_of_ble_eq_true rfl) ?_
  have hKc := xd_K hI
  have hH := xc_KH hKc
  obtain ⟨hV, hR, hPh, hY, hWu⟩ := id hI
  obtain ⟨hN, hS, hE, hz, h4, h4z, hT, hC, hKz, hZ, hp⟩ := id hV
  obtain ⟨hn0, hn1, hn2, hn3, hn4⟩ := id hN
  have hE1 := zv_hE hV
  have hI2 := xd_pass hI ht hk3
  obtain ⟨hV2, hR2, -⟩ := id hI2
  intro p e s m_ below meth cd F ls hF hsz E0 hG
  obtain ⟨S, hr, hlocks, hK, hW, hA, hl⟩ := E0
  have hX_ := S.1
  have hB_ := S.2.1
  have hts := S.2.2.2.2
  have hl : lv_has ls 5 [(0, .ref (a 0)), (1, .ref q), (2, .int (nI k))] := hl
  refine lv_iconst (v := 0) hX_ hB_ dL_isPassed_0 (by decide) ?_
  refine lv_istore_n (lv' := [(3, .int 0), (0, .ref (a 0)), (1, .ref q), (2, .int (nI k))]) hX_ hB_ dL_isPassed_1 rfl hl (by decide) rfl (fun ls hl => ?_)
  have L2 : ∀ (k2 : Nat) (i2 : Nat), (i2 ≤ k) → (k - i2) < k2 → ∀ (H : Heap) (locs : List Loc) (ls : Array Slot), ze_W D ((ze_wC c a n A B E) ++ [(q, .inl (c 0, 210, .inl (xa_tks n N i2)))]) F s.heap H locs → lv_has ls 5 [(3, .int (nI i2)), (0, .ref (a 0)), (1, .ref q), (2, .int (nI k))] → W p l e { frames := 9, cells := 18, slots := 108, locals := 189 } s m_ ([.ref (a 0), .ref q, .int (nI k)] : List Value).toArray below meth cd H locs (6 * i2) (36 * i2) (MQ below (xb_Q (T := xd_T) D c ((ze_wC c a n A B E) ++ [(q, .inl (c 0, 210, .inl N))]) sz (fun r (u : xd_T) => r = 1 ∧ xd_P (a 0) n (t + 3) u) (fun u => xd_w c q u)) ([.ref (a 0), .ref q, .int (nI k)] : List Value).toArray s 18 108 F) (F0 m_ 2 ls []) := by
    intro k2
    induction k2 with
    | zero =>
      intro i2 h2 hk2
      exact absurd hk2 (Nat.not_lt_zero _)
    | succ k2 ih2 =>
      intro i2 h2 hk2 H locs ls hW hl
      refine lv_iload_n hX_ hB_ dL_isPassed_2 rfl (lv_at hl 0 rfl) ?_
      refine lv_iload_n hX_ hB_ dL_isPassed_3 rfl (lv_at hl 3 rfl) ?_
      refine lv_icmp_ge (tgt := 17) hX_ hB_ dL_isPassed_4 (by decide) (fun c4 => ?_) (fun c4 => ?_)
      · have c4 : ¬ i2 < k := Nat.not_lt.mpr ((nI_leI (a := k) (b := i2) (by omega) (by omega)).mp c4)
        have e2 : k = i2 := by omega
        subst e2
        refine lv_iconst (v := 0) hX_ hB_ dL_isPassed_17 (by decide) ?_
        refine lv_istore_n (lv' := [(3, .int 0), (0, .ref (a 0)), (1, .ref q), (2, .int (nI k))]) hX_ hB_ dL_isPassed_18 rfl hl (by decide) rfl (fun ls hl => ?_)
        refine lv_iconst (v := 0) hX_ hB_ dL_isPassed_19 (by decide) ?_
        refine lv_istore (lv' := [(4, .int 0), (3, .int 0), (0, .ref (a 0)), (1, .ref q), (2, .int (nI k))]) hX_ hB_ dL_isPassed_20 hl (by decide) rfl (fun ls hl => ?_)
        have L22 : ∀ (k22 : Nat) (i22 : Nat), (i22 ≤ n 4) → (n 4 - i22) < k22 → ∀ (H : Heap) (locs : List Loc) (ls : Array Slot), ze_W D ((ze_wC c a n A B E) ++ [(q, .inl (c 0, 210, .inl (xa_tks n N k)))]) F s.heap H locs → lv_has ls 5 [(4, .int (nI i22)), (3, .int (ze_sum 0 (fun k9 => 1 - xa_tks n N k (5 * k9 + 143)) i22)), (0, .ref (a 0)), (1, .ref q), (2, .int (nI k))] → W p l e { frames := 9, cells := 18, slots := 108, locals := 189 } s m_ ([.ref (a 0), .ref q, .int (nI k)] : List Value).toArray below meth cd H locs (6 * k) (36 * k) (MQ below (xb_Q (T := xd_T) D c ((ze_wC c a n A B E) ++ [(q, .inl (c 0, 210, .inl N))]) sz (fun r (u : xd_T) => r = 1 ∧ xd_P (a 0) n (t + 3) u) (fun u => xd_w c q u)) ([.ref (a 0), .ref q, .int (nI k)] : List Value).toArray s 18 108 F) (F0 m_ 22 ls []) := by
          intro k22
          induction k22 with
          | zero =>
            intro i22 h22 hk22
            exact absurd hk22 (Nat.not_lt_zero _)
          | succ k22 ih22 =>
            intro i22 h22 hk22 H locs ls hW hl
            refine lv_iload hX_ hB_ dL_isPassed_22 (lv_at hl 0 rfl) ?_
            refine lv_aload_n hX_ hB_ dL_isPassed_24 rfl (lv_at hl 3 rfl) ?_
            refine lv_iconst (v := 4) hX_ hB_ dL_isPassed_25 (by decide) ?_
            refine ze_ialdN hX_ hB_ hK hW ((ze_wC c a n A B E).length + 0) (f := (xa_tks n N k)) (ze_appL (k := 0) rfl) (i := 4) (by omega) (by decide) dL_isPassed_26 ?_
            refine ze_top (y := nI (n 4)) hR2.1.2.2.2.2 ?_
            refine lv_icmp_ge (tgt := 51) hX_ hB_ dL_isPassed_27 (by decide) (fun c27 => ?_) (fun c27 => ?_)
            · have c27 : ¬ i22 < (n 4) := Nat.not_lt.mpr ((nI_leI (a := (n 4)) (b := i22) (by omega) (by omega)).mp c27)
              have e22 : i22 = n 4 := by omega
              subst e22
              refine lv_aload_n hX_ hB_ dL_isPassed_51 rfl (lv_at hl 2 rfl) ?_
              refine lv_iload_n hX_ hB_ dL_isPassed_52 rfl (lv_at hl 4 rfl) ?_
              refine xb_FSq (As := [.ref (a 0), .int (nI k)]) (rest := []) S (xw_pass_f l D c a n A B E k hk1 (by omega) hN hS) (vx_cwSW 2 hts gL_isPassed_L_pass rfl rfl rfl (by decide +kernel) ⟨(Nat.le_of_ble_eq_true rfl), (Nat.le_of_ble_eq_true rfl)⟩) hG hK hW hA rfl hl.1 rfl (lv_room (Nat.le_of_ble_eq_true rfl)) dL_isPassed_53 ⟨(by show 6 * k + 0 ≤ 18; omega), (by show 36 * k + 0 ≤ 108; omega)⟩ (fun H locs hW => ?_)
              have hW : ze_W D ((ze_wC c a n ((zf_ctks n A B E k).1) ((zf_ctks n A B E k).2.1) ((zf_ctks n A B E k).2.2)) ++ [(q, .inl (c 0, 210, .inl (xa_tks n N k)))]) F s.heap _ _ := hW
              refine ze_top (y := ze_sum 0 (fun k9 => 1 - xa_tks n N k (5 * k9 + 143)) (n 4)) (xd_lits hI2).symm ?_
              refine lv_iload_n hX_ hB_ dL_isPassed_56 rfl (lv_at hl 1 rfl) ?_
              refine lv_icmp_ne (tgt := 75) hX_ hB_ dL_isPassed_57 (by decide) (fun c57 => ?_) (fun c57 => ?_)
              · exact absurd rfl c57
              · refine lv_aload_n hX_ hB_ dL_isPassed_60 rfl (lv_at hl 2 rfl) ?_
                refine ze_FVi (As := []) (rest := []) (ci := 8) (q0 := 0) (k := (RX8, TX8, 8)) S (zp_now_f l D c a n ((zf_ctks n A B E k).1) ((zf_ctks n A B E k).2.1) ((zf_ctks n A B E k).2.2)) (cwV 0 hts gL_isPassed_X8_now rfl rfl rfl (by decide +kernel) ⟨(Nat.le_of_ble_eq_true rfl), (Nat.le_of_ble_eq_true rfl)⟩) hK hW hA rfl (ze_at0 0 rfl) rfl hl.1 rfl (lv_room (Nat.le_of_ble_eq_true rfl)) dL_isPassed_61 ⟨(by show 6 * k + 0 ≤ 18; omega), (by show 36 * k + 0 ≤ 108; omega)⟩ (fun H locs hW => ?_)
                have hW : ze_W D ((ze_wC c a n ((zf_ctks n A B E k).1) ((zf_ctks n A B E k).2.1) ((zf_ctks n A B E k).2.2)) ++ [(q, .inl (c 0, 210, .inl (xa_tks n N k)))]) F s.heap _ _ := hW
                refine lv_aload_n hX_ hB_ dL_isPassed_64 rfl (lv_at hl 3 rfl) ?_
                refine lv_bipush (v := 7) hX_ hB_ dL_isPassed_65 (by decide) ?_
                refine ze_ialdN hX_ hB_ hK hW ((ze_wC c a n ((zf_ctks n A B E k).1) ((zf_ctks n A B E k).2.1) ((zf_ctks n A B E k).2.2)).length + 0) (f := (xa_tks n N k)) (ze_appL (k := 0) rfl) (i := 7) (by omega) (by decide) dL_isPassed_67 ?_
                refine ze_top (y := (zf_ctks n A B E k).1 30 0) hR2.2.1.1.2.2.1 ?_
                refine lv_icmp_ne (tgt := 75) hX_ hB_ dL_isPassed_68 (by decide) (fun c68 => ?_) (fun c68 => ?_)
                · exact absurd rfl c68
                · refine lv_iconst (v := 1) hX_ hB_ dL_isPassed_71 (by decide) ?_
                  refine lv_goto (tgt := 76) hX_ hB_ dL_isPassed_72 (by decide) ?_
                  exact xb_iret (T := xd_T) (a, n, ((zf_ctks n A B E k).1), ((zf_ctks n A B E k).2.1), ((zf_ctks n A B E k).2.2), (xa_tks n N k)) S hr hlocks hF hK hW rfl dL_isPassed_76 (by omega) (by omega) ⟨rfl, ⟨rfl, hI2, rfl, Nat.le_refl _, Nat.le_refl _⟩⟩ rfl
            · have c27 : i22 < (n 4) := Nat.lt_of_not_le (fun h9 => c27 ((nI_leI (a := (n 4)) (b := i22) (by omega) (by omega)).mpr h9))
              refine lv_iload_n hX_ hB_ dL_isPassed_30 rfl (lv_at hl 1 rfl) ?_
              refine lv_iconst (v := 1) hX_ hB_ dL_isPassed_31 (by decide) ?_
              refine lv_aload_n hX_ hB_ dL_isPassed_32 rfl (lv_at hl 3 rfl) ?_
              refine lv_sipush (v := 143) hX_ hB_ dL_isPassed_33 (by decide) ?_
              refine lv_iconst (v := 5) hX_ hB_ dL_isPassed_36 (by decide) ?_
              refine lv_iload hX_ hB_ dL_isPassed_37 (lv_at hl 0 rfl) ?_
              refine lv_imul hX_ hB_ dL_isPassed_39 ?_
              refine ze_top (xb_mul (a := 5) (b := i22) (c := 5 * i22) (by omega)) ?_
              refine lv_iadd hX_ hB_ dL_isPassed_40 ?_
              refine ze_top (xb_add (a := 143) (b := 5 * i22) (c := 5 * i22 + 143) (by omega)) ?_
              refine ze_ialdN hX_ hB_ hK hW ((ze_wC c a n A B E).length + 0) (f := (xa_tks n N k)) (ze_appL (k := 0) rfl) (i := 5 * i22 + 143) (by omega) (by decide) dL_isPassed_41 ?_
              refine lv_isub hX_ hB_ dL_isPassed_42 ?_
              refine lv_iadd hX_ hB_ dL_isPassed_43 ?_
              refine lv_istore_n (lv' := [(3, .int (ze_sum 0 (fun k9 => 1 - xa_tks n N k (5 * k9 + 143)) i22 + (1 - (xa_tks n N k) (5 * i22 + 143)))), (4, .int (nI i22)), (0, .ref (a 0)), (1, .ref q), (2, .int (nI k))]) hX_ hB_ dL_isPassed_44 rfl hl (by decide) rfl (fun ls hl => ?_)
              refine lv_iinc (v := nI (i22 + 1)) (lv' := [(4, .int (nI (i22 + 1))), (3, .int (ze_sum 0 (fun k9 => 1 - xa_tks n N k (5 * k9 + 143)) i22 + (1 - (xa_tks n N k) (5 * i22 + 143)))), (0, .ref (a 0)), (1, .ref q), (2, .int (nI k))]) hX_ hB_ dL_isPassed_45 hl (k := 1) rfl (ze_inc _) (by decide) rfl (fun ls hl => ?_)
              refine lv_goto (tgt := 22) hX_ hB_ dL_isPassed_48 (by decide) ?_
              have eL3 : ze_sum 0 (fun k9 => 1 - xa_tks n N k (5 * k9 + 143)) i22 + (1 - (xa_tks n N k) (5 * i22 + 143)) = ze_sum 0 (fun k9 => 1 - xa_tks n N k (5 * k9 + 143)) (i22 + 1) := rfl
              have hl : lv_has ls 5 [(4, .int (nI (i22 + 1))), (3, .int (ze_sum 0 (fun k9 => 1 - xa_tks n N k (5 * k9 + 143)) (i22 + 1))), (0, .ref (a 0)), (1, .ref q), (2, .int (nI k))] := by
                first | (rw [← eL3]; exact hl) | (simp only [← eL3]; exact hl)
              exact ih22 (i22 + 1) (by omega) (by omega) _ _ ls hW (lv_sub hl [0, 1, 2, 3, 4] rfl)
        have hl : lv_has ls 5 [(4, .int (nI 0)), (3, .int (ze_sum 0 (fun k9 => 1 - xa_tks n N k (5 * k9 + 143)) 0)), (0, .ref (a 0)), (1, .ref q), (2, .int (nI k))] := hl
        have hW : ze_W D ((ze_wC c a n A B E) ++ [(q, .inl (c 0, 210, .inl (xa_tks n N k)))]) F s.heap _ _ := hW
        exact L22 _ 0 (by omega) (Nat.lt_succ_self _) _ _ ls hW (lv_sub hl [0, 1, 2, 3, 4] rfl)
      · have c4 : i2 < k := Nat.lt_of_not_le (fun h9 => c4 ((nI_leI (a := k) (b := i2) (by omega) (by omega)).mpr h9))
        refine lv_aload_n hX_ hB_ dL_isPassed_7 rfl (lv_at hl 2 rfl) ?_
        have hW := ze_Wc hW
        refine xb_FSv (As := [.ref q]) (rest := []) S (xl_ticks l D c q n (xa_tks n N i2) (xa_tksH hH i2)) (va_cwS 1 hts gL_isPassed_L_ticks rfl rfl rfl (by decide +kernel) ⟨(Nat.le_of_ble_eq_true rfl), (Nat.le_of_ble_eq_true rfl)⟩) hK hW hA rfl hl.1 rfl (lv_room (Nat.le_of_ble_eq_true rfl)) dL_isPassed_8 ⟨(by show 6 * i2 + 6 ≤ 18; omega), (by show 36 * i2 + 36 ≤ 108; omega)⟩ (fun H locs hW => ?_)
        have hW := ze_Wc hW
        have hW : ze_W D ((ze_wC c a n A B E) ++ [(q, .inl (c 0, 210, .inl (xa_tick n (xa_tks n N i2))))]) F s.heap _ _ := hW
        refine lv_iinc (v := nI (i2 + 1)) (lv' := [(3, .int (nI (i2 + 1))), (0, .ref (a 0)), (1, .ref q), (2, .int (nI k))]) hX_ hB_ dL_isPassed_11 hl (k := 0) rfl (ze_inc _) (by decide) rfl (fun ls hl => ?_)
        refine lv_goto (tgt := 2) hX_ hB_ dL_isPassed_14 (by decide) ?_
        refine W.widen (k := 6 * (i2 + 1)) (n := 36 * (i2 + 1)) (by omega) (by omega) ?_
        have eW : ((ze_wC c a n A B E) ++ [(q, .inl (c 0, 210, .inl (xa_tick n (xa_tks n N i2))))]) = ((ze_wC c a n A B E) ++ [(q, .inl (c 0, 210, .inl (xa_tks n N (i2 + 1))))]) := rfl
        rw [eW] at hW
        exact ih2 (i2 + 1) (by omega) (by omega) _ _ ls hW (lv_sub hl [0, 1, 2, 3] rfl)
  have hl : lv_has ls 5 [(3, .int (nI 0)), (0, .ref (a 0)), (1, .ref q), (2, .int (nI k))] := hl
  have hW : ze_W D ((ze_wC c a n A B E) ++ [(q, .inl (c 0, 210, .inl (xa_tks n N 0)))]) F s.heap _ _ := hW
  exact L2 _ 0 (by omega) (Nat.lt_succ_self _) _ _ ls hW (lv_sub hl [0, 1, 2, 3] rfl)
