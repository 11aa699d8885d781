/-! ===== the law's longer methods over the object and the net ===== -/
set_option maxHeartbeats 8000000 in
set_option maxRecDepth 100000 in
theorem xj_isTold (l : Launch) (D : va_G) (hst : l.stackTraces = false) (c : Nat → ClassId) (q : Nat) (a n : Nat → Nat) (A : Nat → Nat → Int32) (B : Nat → Int64) (E : Nat → Nat → Int32) (N : Nat → Int32) (t : Nat) (hI : xd_I n A B E N t) (h4p : 1 ≤ n 4) : xb_M (T := xd_T) l yL_isTold wsL_isTold 8 126 16 96 D c none ((ze_wC c a n A B E) ++ [(q, .inl (c 0, 210, .inl N))]) [.ref (a 0), .ref q] (fun r (u : xd_T) => r = 1 ∧ xd_P (a 0) n (t) u) (fun u => xd_w c q u) := by
  intro sz
  refine xb_start (cc := cL_isTold) (maxL := 6) (ret := (some .boolean)) (own := RL) (by decide) rfl rfl (Nat.le_of_ble_eq_true rfl) ?_
  have hKc := xd_K hI
  have hH := xc_KH hKc
  obtain ⟨hV, hR, hPh, hY, hWu⟩ := id hI
  obtain ⟨hN, hS, hE, hz, h4, h4z, hT, hC, hKz, hZ, hp⟩ := id hV
  obtain ⟨hn0, hn1, hn2, hn3, hn4⟩ := id hN
  have hE1 := zv_hE hV
  have hn4z : ¬ n 4 = 0 := by omega
  intro p e s m_ below meth cd F ls hF hsz E0 hG
  obtain ⟨S, hr, hlocks, hK, hW, hA, hl⟩ := E0
  have hX_ := S.1
  have hB_ := S.2.1
  have hts := S.2.2.2.2
  have hl : lv_has ls 6 [(0, .ref (a 0)), (1, .ref q)] := hl
  have w0 := hts (.constant RL 205 (1000000)) (List.mem_cons_of_mem _ (List.mem_append_left _ (List.mem_append_left _ (List.mem_append_left _ (List.mem_append_left _ (List.mem_append_left _ (List.mem_append_left _ (List.mem_append_left _ (List.mem_append_left _ (List.mem_append_left _ (List.mem_append_left _ (List.mem_append_left _ (List.mem_append_left _ (List.mem_of_getElem? (i := 1) rfl))))))))))))))
  have w1 := hts (.constant RL 26 (-900002)) (List.mem_cons_of_mem _ (List.mem_append_left _ (List.mem_append_left _ (List.mem_append_left _ (List.mem_append_left _ (List.mem_append_left _ (List.mem_append_left _ (List.mem_append_left _ (List.mem_append_left _ (List.mem_append_left _ (List.mem_append_left _ (List.mem_append_left _ (List.mem_append_left _ (List.mem_of_getElem? (i := 0) rfl))))))))))))))
  refine lv_iconst (v := 0) hX_ hB_ dL_isTold_0 (by decide) ?_
  refine lv_istore_n (lv' := [(2, .int 0), (0, .ref (a 0)), (1, .ref q)]) hX_ hB_ dL_isTold_1 rfl hl (by decide) rfl (fun ls hl => ?_)
  refine lv_iconst (v := 0) hX_ hB_ dL_isTold_2 (by decide) ?_
  refine lv_istore_n (lv' := [(3, .int 0), (2, .int 0), (0, .ref (a 0)), (1, .ref q)]) hX_ hB_ dL_isTold_3 rfl hl (by decide) rfl (fun ls hl => ?_)
  have L4 : ∀ (k4 : Nat) (i4 : Nat), (i4 ≤ n 2) → (n 2 - i4) < k4 → ∀ (H : Heap) (locs : List Loc) (ls : Array Slot), ze_W D ((ze_wC c a n A B E) ++ [(q, .inl (c 0, 210, .inl N))]) F s.heap H locs → lv_has ls 6 [(3, .int (nI i4)), (2, .int 0), (0, .ref (a 0)), (1, .ref q)] → W p l e { frames := 8, cells := 16, slots := 96, locals := 126 } s m_ ([.ref (a 0), .ref q] : List Value).toArray below meth cd H locs i4 (6 * i4) (MQ below (xb_Q (T := xd_T) D c ((ze_wC c a n A B E) ++ [(q, .inl (c 0, 210, .inl N))]) sz (fun r (u : xd_T) => r = 1 ∧ xd_P (a 0) n (t) u) (fun u => xd_w c q u)) ([.ref (a 0), .ref q] : List Value).toArray s 16 96 F) (F0 m_ 4 ls []) := by
    intro k4
    induction k4 with
    | zero =>
      intro i4 h4 hk4
      exact absurd hk4 (Nat.not_lt_zero _)
    | succ k4 ih4 =>
      intro i4 h4 hk4 H locs ls hW hl
      refine lv_iload_n hX_ hB_ dL_isTold_4 rfl (lv_at hl 0 rfl) ?_
      refine lv_aload_n hX_ hB_ dL_isTold_5 rfl (lv_at hl 3 rfl) ?_
      refine lv_iconst (v := 2) hX_ hB_ dL_isTold_6 (by decide) ?_
      refine ze_ialdN hX_ hB_ hK hW ((ze_wC c a n A B E).length + 0) (f := N) (ze_appL (k := 0) rfl) (i := 2) (by omega) (by decide) dL_isTold_7 ?_
      refine ze_top (y := nI (n 2)) hR.1.2.2.1 ?_
      refine lv_icmp_ge (tgt := 127) hX_ hB_ dL_isTold_8 (by decide) (fun c8 => ?_) (fun c8 => ?_)
      · have c8 : ¬ i4 < (n 2) := Nat.not_lt.mpr ((nI_leI (a := (n 2)) (b := i4) (by omega) (by omega)).mp c8)
        have e4 : i4 = n 2 := by omega
        subst e4
        refine lv_iconst (v := 0) hX_ hB_ dL_isTold_127 (by decide) ?_
        refine lv_istore_n (lv' := [(3, .int 0), (2, .int 0), (0, .ref (a 0)), (1, .ref q)]) hX_ hB_ dL_isTold_128 rfl hl (by decide) rfl (fun ls hl => ?_)
        have L129 : ∀ (k129 : Nat) (i129 : Nat), (i129 ≤ n 3) → (n 3 - i129) < k129 → ∀ (H : Heap) (locs : List Loc) (ls : Array Slot), ze_W D ((ze_wC c a n A B E) ++ [(q, .inl (c 0, 210, .inl N))]) F s.heap H locs → lv_has ls 6 [(3, .int (nI i129)), (2, .int 0), (0, .ref (a 0)), (1, .ref q)] → W p l e { frames := 8, cells := 16, slots := 96, locals := 126 } s m_ ([.ref (a 0), .ref q] : List Value).toArray below meth cd H locs (n 2) (6 * (n 2)) (MQ below (xb_Q (T := xd_T) D c ((ze_wC c a n A B E) ++ [(q, .inl (c 0, 210, .inl N))]) sz (fun r (u : xd_T) => r = 1 ∧ xd_P (a 0) n (t) u) (fun u => xd_w c q u)) ([.ref (a 0), .ref q] : List Value).toArray s 16 96 F) (F0 m_ 129 ls []) := by
          intro k129
          induction k129 with
          | zero =>
            intro i129 h129 hk129
            exact absurd hk129 (Nat.not_lt_zero _)
          | succ k129 ih129 =>
            intro i129 h129 hk129 H locs ls hW hl
            refine lv_iload_n hX_ hB_ dL_isTold_129 rfl (lv_at hl 0 rfl) ?_
            refine lv_aload_n hX_ hB_ dL_isTold_130 rfl (lv_at hl 3 rfl) ?_
            refine lv_iconst (v := 3) hX_ hB_ dL_isTold_131 (by decide) ?_
            refine ze_ialdN hX_ hB_ hK hW ((ze_wC c a n A B E).length + 0) (f := N) (ze_appL (k := 0) rfl) (i := 3) (by omega) (by decide) dL_isTold_132 ?_
            refine ze_top (y := nI (n 3)) hR.1.2.2.2.1 ?_
            refine lv_icmp_ge (tgt := 178) hX_ hB_ dL_isTold_133 (by decide) (fun c133 => ?_) (fun c133 => ?_)
            · have c133 : ¬ i129 < (n 3) := Nat.not_lt.mpr ((nI_leI (a := (n 3)) (b := i129) (by omega) (by omega)).mp c133)
              have e129 : i129 = n 3 := by omega
              subst e129
              refine lv_iconst (v := 0) hX_ hB_ dL_isTold_178 (by decide) ?_
              refine lv_istore_n (lv' := [(3, .int 0), (2, .int 0), (0, .ref (a 0)), (1, .ref q)]) hX_ hB_ dL_isTold_179 rfl hl (by decide) rfl (fun ls hl => ?_)
              have L180 : ∀ (k180 : Nat) (i180 : Nat), (i180 ≤ n 4) → (n 4 - i180) < k180 → ∀ (H : Heap) (locs : List Loc) (ls : Array Slot), ze_W D ((ze_wC c a n A B E) ++ [(q, .inl (c 0, 210, .inl N))]) F s.heap H locs → lv_has ls 6 [(3, .int (nI i180)), (2, .int (zf_lits A i180)), (0, .ref (a 0)), (1, .ref q)] → W p l e { frames := 8, cells := 16, slots := 96, locals := 126 } s m_ ([.ref (a 0), .ref q] : List Value).toArray below meth cd H locs ((n 2) + i180) (6 * (n 2) + 6 * i180) (MQ below (xb_Q (T := xd_T) D c ((ze_wC c a n A B E) ++ [(q, .inl (c 0, 210, .inl N))]) sz (fun r (u : xd_T) => r = 1 ∧ xd_P (a 0) n (t) u) (fun u => xd_w c q u)) ([.ref (a 0), .ref q] : List Value).toArray s 16 96 F) (F0 m_ 180 ls []) := by
                intro k180
                induction k180 with
                | zero =>
                  intro i180 h180 hk180
                  exact absurd hk180 (Nat.not_lt_zero _)
                | succ k180 ih180 =>
                  intro i180 h180 hk180 H locs ls hW hl
                  refine lv_iload_n hX_ hB_ dL_isTold_180 rfl (lv_at hl 0 rfl) ?_
                  refine lv_aload_n hX_ hB_ dL_isTold_181 rfl (lv_at hl 3 rfl) ?_
                  refine lv_iconst (v := 4) hX_ hB_ dL_isTold_182 (by decide) ?_
                  refine ze_ialdN hX_ hB_ hK hW ((ze_wC c a n A B E).length + 0) (f := N) (ze_appL (k := 0) rfl) (i := 4) (by omega) (by decide) dL_isTold_183 ?_
                  refine ze_top (y := nI (n 4)) hR.1.2.2.2.2 ?_
                  refine lv_icmp_ge (tgt := 260) hX_ hB_ dL_isTold_184 (by decide) (fun c184 => ?_) (fun c184 => ?_)
                  · have c184 : ¬ i180 < (n 4) := Nat.not_lt.mpr ((nI_leI (a := (n 4)) (b := i180) (by omega) (by omega)).mp c184)
                    have e180 : i180 = n 4 := by omega
                    subst e180
                    refine lv_iconst (v := 0) hX_ hB_ dL_isTold_260 (by decide) ?_
                    refine lv_istore_n (lv' := [(3, .int 0), (2, .int (zf_lits A (n 4))), (0, .ref (a 0)), (1, .ref q)]) hX_ hB_ dL_isTold_261 rfl hl (by decide) rfl (fun ls hl => ?_)
                    have L262 : ∀ (k262 : Nat) (i262 : Nat), (i262 ≤ n 0) → (n 0 - i262) < k262 → ∀ (H : Heap) (locs : List Loc) (ls : Array Slot), ze_W D ((ze_wC c a n A B E) ++ [(q, .inl (c 0, 210, .inl N))]) F s.heap H locs → lv_has ls 6 [(3, .int (nI i262)), (2, .int (zf_lits A (n 4))), (0, .ref (a 0)), (1, .ref q)] → W p l e { frames := 8, cells := 16, slots := 96, locals := 126 } s m_ ([.ref (a 0), .ref q] : List Value).toArray below meth cd H locs ((n 2) + (n 4)) (6 * (n 2) + 6 * (n 4)) (MQ below (xb_Q (T := xd_T) D c ((ze_wC c a n A B E) ++ [(q, .inl (c 0, 210, .inl N))]) sz (fun r (u : xd_T) => r = 1 ∧ xd_P (a 0) n (t) u) (fun u => xd_w c q u)) ([.ref (a 0), .ref q] : List Value).toArray s 16 96 F) (F0 m_ 262 ls []) := by
                      intro k262
                      induction k262 with
                      | zero =>
                        intro i262 h262 hk262
                        exact absurd hk262 (Nat.not_lt_zero _)
                      | succ k262 ih262 =>
                        intro i262 h262 hk262 H locs ls hW hl
                        refine lv_iload_n hX_ hB_ dL_isTold_262 rfl (lv_at hl 0 rfl) ?_
                        refine lv_aload_n hX_ hB_ dL_isTold_263 rfl (lv_at hl 3 rfl) ?_
                        refine lv_iconst (v := 0) hX_ hB_ dL_isTold_264 (by decide) ?_
                        refine ze_ialdN hX_ hB_ hK hW ((ze_wC c a n A B E).length + 0) (f := N) (ze_appL (k := 0) rfl) (i := 0) (by omega) (by decide) dL_isTold_265 ?_
                        refine ze_top (y := nI (n 0)) hR.1.1 ?_
                        refine lv_icmp_ge (tgt := 327) hX_ hB_ dL_isTold_266 (by decide) (fun c266 => ?_) (fun c266 => ?_)
                        · have c266 : ¬ i262 < (n 0) := Nat.not_lt.mpr ((nI_leI (a := (n 0)) (b := i262) (by omega) (by omega)).mp c266)
                          have e262 : i262 = n 0 := by omega
                          subst e262
                          refine lv_aload_n hX_ hB_ dL_isTold_327 rfl (lv_at hl 2 rfl) ?_
                          refine ze_FVi (As := []) (rest := []) (ci := 8) (q0 := 0) (k := (RX8, TX8, 8)) S (zp_grid_f l D c a n A B E) (cwV 0 hts gL_isTold_X8_grid rfl rfl rfl (by decide +kernel) ⟨(Nat.le_of_ble_eq_true rfl), (Nat.le_of_ble_eq_true rfl)⟩) hK hW hA rfl (ze_at0 0 rfl) rfl hl.1 rfl (lv_room (Nat.le_of_ble_eq_true rfl)) dL_isTold_328 ⟨(by show (n 2) + (n 4) + 0 ≤ 16; omega), (by show 6 * (n 2) + 6 * (n 4) + 0 ≤ 96; omega)⟩ (fun H locs hW => ?_)
                          have hW : ze_W D ((ze_wC c a n A B E) ++ [(q, .inl (c 0, 210, .inl N))]) F s.heap _ _ := hW
                          refine lv_aload_n hX_ hB_ dL_isTold_331 rfl (lv_at hl 3 rfl) ?_
                          refine lv_bipush (v := 9) hX_ hB_ dL_isTold_332 (by decide) ?_
                          refine ze_ialdN hX_ hB_ hK hW ((ze_wC c a n A B E).length + 0) (f := N) (ze_appL (k := 0) rfl) (i := 9) (by omega) (by decide) dL_isTold_334 ?_
                          refine ze_top (y := A 31 0) hR.2.1.1.2.2.2.2 ?_
                          refine lv_icmp_ne (tgt := 399) hX_ hB_ dL_isTold_335 (by decide) (fun c335 => ?_) (fun c335 => ?_)
                          · exact absurd rfl c335
                          · refine lv_aload_n hX_ hB_ dL_isTold_338 rfl (lv_at hl 2 rfl) ?_
                            refine ze_FVl (As := []) (rest := []) (ci := 8) (q0 := 0) (k := (RX8, TX8, 8)) S (zp_burnt_f l D c a n A B E) (cwV 0 hts gL_isTold_X8_burnt rfl rfl rfl (by decide +kernel) ⟨(Nat.le_of_ble_eq_true rfl), (Nat.le_of_ble_eq_true rfl)⟩) hK hW hA rfl (ze_at0 0 rfl) rfl hl.1 rfl (lv_room (Nat.le_of_ble_eq_true rfl)) dL_isTold_339 ⟨(by show (n 2) + (n 4) + 0 ≤ 16; omega), (by show 6 * (n 2) + 6 * (n 4) + 0 ≤ 96; omega)⟩ (fun H locs hW => ?_)
                            have hW : ze_W D ((ze_wC c a n A B E) ++ [(q, .inl (c 0, 210, .inl N))]) F s.heap _ _ := hW
                            refine lv_aload_n hX_ hB_ dL_isTold_342 rfl (lv_at hl 3 rfl) ?_
                            refine lv_sipush (v := 200) hX_ hB_ dL_isTold_343 (by decide) ?_
                            refine ze_ialdN hX_ hB_ hK hW ((ze_wC c a n A B E).length + 0) (f := N) (ze_appL (k := 0) rfl) (i := 200) (by omega) (by decide) dL_isTold_346 ?_
                            refine lv_i2l (v := (N 200).toInt64) hX_ hB_ dL_isTold_347 rfl ?_
                            refine W.lcmp hX_ hB_ dL_isTold_348 ?_
                            refine ze_top (y := 0) (by rw [hR.2.2.2.2.2.2.1]; exact xd_cmp _) ?_
                            refine lv_if_ne (tgt := 399) hX_ hB_ dL_isTold_349 (by decide) (fun c349 => ?_) (fun c349 => ?_)
                            · exact absurd c349 (by decide)
                            · refine lv_aload_n hX_ hB_ dL_isTold_352 rfl (lv_at hl 2 rfl) ?_
                              refine ze_FVl (As := []) (rest := []) (ci := 8) (q0 := 0) (k := (RX8, TX8, 8)) S (zp_served_f l D c a n A B E) (cwV 0 hts gL_isTold_X8_served rfl rfl rfl (by decide +kernel) ⟨(Nat.le_of_ble_eq_true rfl), (Nat.le_of_ble_eq_true rfl)⟩) hK hW hA rfl (ze_at0 0 rfl) rfl hl.1 rfl (lv_room (Nat.le_of_ble_eq_true rfl)) dL_isTold_353 ⟨(by show (n 2) + (n 4) + 0 ≤ 16; omega), (by show 6 * (n 2) + 6 * (n 4) + 0 ≤ 96; omega)⟩ (fun H locs hW => ?_)
                              have hW : ze_W D ((ze_wC c a n A B E) ++ [(q, .inl (c 0, 210, .inl N))]) F s.heap _ _ := hW
                              refine lv_aload_n hX_ hB_ dL_isTold_356 rfl (lv_at hl 3 rfl) ?_
                              refine lv_sipush (v := 201) hX_ hB_ dL_isTold_357 (by decide) ?_
                              refine ze_ialdN hX_ hB_ hK hW ((ze_wC c a n A B E).length + 0) (f := N) (ze_appL (k := 0) rfl) (i := 201) (by omega) (by decide) dL_isTold_360 ?_
                              refine lv_i2l (v := (N 201).toInt64) hX_ hB_ dL_isTold_361 rfl ?_
                              refine W.lcmp hX_ hB_ dL_isTold_362 ?_
                              refine ze_top (y := 0) (by rw [hR.2.2.2.2.2.2.2.1]; exact xd_cmp _) ?_
                              refine lv_if_ne (tgt := 399) hX_ hB_ dL_isTold_363 (by decide) (fun c363 => ?_) (fun c363 => ?_)
                              · exact absurd c363 (by decide)
                              · refine lv_aload_n hX_ hB_ dL_isTold_366 rfl (lv_at hl 2 rfl) ?_
                                refine ze_FVl (As := []) (rest := []) (ci := 8) (q0 := 0) (k := (RX8, TX8, 8)) S (zp_lost_f l D c a n A B E) (cwV 0 hts gL_isTold_X8_lost rfl rfl rfl (by decide +kernel) ⟨(Nat.le_of_ble_eq_true rfl), (Nat.le_of_ble_eq_true rfl)⟩) hK hW hA rfl (ze_at0 0 rfl) rfl hl.1 rfl (lv_room (Nat.le_of_ble_eq_true rfl)) dL_isTold_367 ⟨(by show (n 2) + (n 4) + 0 ≤ 16; omega), (by show 6 * (n 2) + 6 * (n 4) + 0 ≤ 96; omega)⟩ (fun H locs hW => ?_)
                                have hW : ze_W D ((ze_wC c a n A B E) ++ [(q, .inl (c 0, 210, .inl N))]) F s.heap _ _ := hW
                                refine lv_aload_n hX_ hB_ dL_isTold_370 rfl (lv_at hl 3 rfl) ?_
                                refine lv_sipush (v := 202) hX_ hB_ dL_isTold_371 (by decide) ?_
                                refine ze_ialdN hX_ hB_ hK hW ((ze_wC c a n A B E).length + 0) (f := N) (ze_appL (k := 0) rfl) (i := 202) (by omega) (by decide) dL_isTold_374 ?_
                                refine lv_i2l (v := (N 202).toInt64) hX_ hB_ dL_isTold_375 rfl ?_
                                refine W.lcmp hX_ hB_ dL_isTold_376 ?_
                                refine ze_top (y := 0) (by rw [hR.2.2.2.2.2.2.2.2]; exact xd_cmp _) ?_
                                refine lv_if_ne (tgt := 399) hX_ hB_ dL_isTold_377 (by decide) (fun c377 => ?_) (fun c377 => ?_)
                                · exact absurd c377 (by decide)
                                · refine lv_aload_n hX_ hB_ dL_isTold_380 rfl (lv_at hl 2 rfl) ?_
                                  refine xb_FSf (As := [.ref (a 0)]) (rest := []) S (xw_litShare_f l D c a n A B E hN hn4z) (vx_cwSW 1 hts gL_isTold_L_litShare rfl rfl rfl (by decide +kernel) ⟨(Nat.le_of_ble_eq_true rfl), (Nat.le_of_ble_eq_true rfl)⟩) hG hK hW hA rfl hl.1 rfl (lv_room (Nat.le_of_ble_eq_true rfl)) dL_isTold_381 ⟨(by show (n 2) + (n 4) + 0 ≤ 16; omega), (by show 6 * (n 2) + 6 * (n 4) + 0 ≤ 96; omega)⟩ (fun H locs hW => ?_)
                                  have hW : ze_W D ((ze_wC c a n A B E) ++ [(q, .inl (c 0, 210, .inl N))]) F s.heap _ _ := hW
                                  refine lv_iload_n hX_ hB_ dL_isTold_384 rfl (lv_at hl 1 rfl) ?_
                                  refine lv_i2f hX_ hB_ dL_isTold_385 ?_
                                  refine lv_aload_n hX_ hB_ dL_isTold_386 rfl (lv_at hl 3 rfl) ?_
                                  refine lv_iconst (v := 4) hX_ hB_ dL_isTold_387 (by decide) ?_
                                  refine ze_ialdN hX_ hB_ hK hW ((ze_wC c a n A B E).length + 0) (f := N) (ze_appL (k := 0) rfl) (i := 4) (by omega) (by decide) dL_isTold_388 ?_
                                  refine ze_top (y := nI (n 4)) hR.1.2.2.2.2 ?_
                                  refine lv_i2f hX_ hB_ dL_isTold_389 ?_
                                  refine lv_fdiv hX_ hB_ dL_isTold_390 (zf_shN hn4z hn4) ?_
                                  refine lv_fcmp hX_ hB_ dL_isTold_391 ?_
                                  refine ze_top (y := 0) (xd_fc hn4z hn4) ?_
                                  refine lv_if_ne (tgt := 399) hX_ hB_ dL_isTold_392 (by decide) (fun c392 => ?_) (fun c392 => ?_)
                                  · exact absurd c392 (by decide)
                                  · refine lv_iconst (v := 1) hX_ hB_ dL_isTold_395 (by decide) ?_
                                    refine lv_goto (tgt := 400) hX_ hB_ dL_isTold_396 (by decide) ?_
                                    exact xb_iret (T := xd_T) (a, n, A, B, E, N) S hr hlocks hF hK hW rfl dL_isTold_400 (by omega) (by omega) ⟨rfl, ⟨rfl, hI, rfl, Nat.le_refl _, Nat.le_refl _⟩⟩ rfl
                        · have c266 : i262 < (n 0) := Nat.lt_of_not_le (fun h9 => c266 ((nI_leI (a := (n 0)) (b := i262) (by omega) (by omega)).mpr h9))
                          refine lv_aload_n hX_ hB_ dL_isTold_269 rfl (lv_at hl 3 rfl) ?_
                          refine lv_iload_n hX_ hB_ dL_isTold_270 rfl (lv_at hl 0 rfl) ?_
                          have hW := ze_Wc hW
                          refine ze_FSi (As := [.ref q, .int (nI i262)]) (rest := []) S (xl_island l D c q n N hH i262 (by omega)) (va_cwS 2 hts gL_isTold_L_island rfl rfl rfl (by decide +kernel) ⟨(Nat.le_of_ble_eq_true rfl), (Nat.le_of_ble_eq_true rfl)⟩) hK hW hA rfl hl.1 rfl (lv_room (Nat.le_of_ble_eq_true rfl)) dL_isTold_271 ⟨(by show (n 2) + (n 4) + 0 ≤ 16; omega), (by show 6 * (n 2) + 6 * (n 4) + 0 ≤ 96; omega)⟩ (fun H locs hW => ?_)
                          have hi271 := xa_islt hH (s := i262) (by omega)
                          have hW := ze_Wc hW
                          have hW : ze_W D ((ze_wC c a n A B E) ++ [(q, .inl (c 0, 210, .inl N))]) F s.heap _ _ := hW
                          refine lv_istore (lv' := [(4, .int (nI (xa_isl N (n 1) i262))), (3, .int (nI i262)), (2, .int (zf_lits A (n 4))), (0, .ref (a 0)), (1, .ref q)]) hX_ hB_ dL_isTold_274 hl (by decide) rfl (fun ls hl => ?_)
                          refine lv_aload_n hX_ hB_ dL_isTold_276 rfl (lv_at hl 4 rfl) ?_
                          refine lv_iload hX_ hB_ dL_isTold_277 (lv_at hl 0 rfl) ?_
                          have hW := ze_Wc hW
                          refine ze_FSi (As := [.ref q, .int (nI (xa_isl N (n 1) i262))]) (rest := []) S (xl_bound_ l D c q n N hH (xa_isl N (n 1) i262) (by omega)) (va_cwS 2 hts gL_isTold_L_bound_ rfl rfl rfl (by decide +kernel) ⟨(Nat.le_of_ble_eq_true rfl), (Nat.le_of_ble_eq_true rfl)⟩) hK hW hA rfl hl.1 rfl (lv_room (Nat.le_of_ble_eq_true rfl)) dL_isTold_279 ⟨(by show (n 2) + (n 4) + 0 ≤ 16; omega), (by show 6 * (n 2) + 6 * (n 4) + 0 ≤ 96; omega)⟩ (fun H locs hW => ?_)
                          have hW := ze_Wc hW
                          have hW : ze_W D ((ze_wC c a n A B E) ++ [(q, .inl (c 0, 210, .inl N))]) F s.heap _ _ := hW
                          refine lv_istore (lv' := [(5, .int (xa_bnd n N (xa_isl N (n 1) i262))), (4, .int (nI (xa_isl N (n 1) i262))), (3, .int (nI i262)), (2, .int (zf_lits A (n 4))), (0, .ref (a 0)), (1, .ref q)]) hX_ hB_ dL_isTold_282 hl (by decide) rfl (fun ls hl => ?_)
                          refine lv_aload_n hX_ hB_ dL_isTold_284 rfl (lv_at hl 4 rfl) ?_
                          refine lv_iload_n hX_ hB_ dL_isTold_285 rfl (lv_at hl 2 rfl) ?_
                          refine xb_FSq (As := [.ref (a 0), .int (nI i262)]) (rest := []) S (xw_demand_f l D c a n A B E i262 hN (by omega) hS) (vx_cwSW 2 hts gL_isTold_L_demand rfl rfl rfl (by decide +kernel) ⟨(Nat.le_of_ble_eq_true rfl), (Nat.le_of_ble_eq_true rfl)⟩) hG hK hW hA rfl hl.1 rfl (lv_room (Nat.le_of_ble_eq_true rfl)) dL_isTold_286 ⟨(by show (n 2) + (n 4) + 0 ≤ 16; omega), (by show 6 * (n 2) + 6 * (n 4) + 0 ≤ 96; omega)⟩ (fun H locs hW => ?_)
                          have hW : ze_W D ((ze_wC c a n A B E) ++ [(q, .inl (c 0, 210, .inl N))]) F s.heap _ _ := hW
                          refine lv_aload_n hX_ hB_ dL_isTold_289 rfl (lv_at hl 5 rfl) ?_
                          refine lv_iload hX_ hB_ dL_isTold_290 (lv_at hl 1 rfl) ?_
                          have hW := ze_Wc hW
                          refine ze_FSi (As := [.ref q, .int (nI (xa_isl N (n 1) i262))]) (rest := [.int (zf_demanded A (E 0) (E 0 i262) (n 4))]) S (xl_demand_ l D c q n N hH (xa_isl N (n 1) i262) (by omega)) (va_cwS 2 hts gL_isTold_L_demand_ rfl rfl rfl (by decide +kernel) ⟨(Nat.le_of_ble_eq_true rfl), (Nat.le_of_ble_eq_true rfl)⟩) hK hW hA rfl hl.1 rfl (lv_room (Nat.le_of_ble_eq_true rfl)) dL_isTold_292 ⟨(by show (n 2) + (n 4) + 0 ≤ 16; omega), (by show 6 * (n 2) + 6 * (n 4) + 0 ≤ 96; omega)⟩ (fun H locs hW => ?_)
                          have hW := ze_Wc hW
                          have hW : ze_W D ((ze_wC c a n A B E) ++ [(q, .inl (c 0, 210, .inl N))]) F s.heap _ _ := hW
                          refine ze_top (y := zf_demanded A (E 0) (E 0 i262) (n 4)) (xd_dmE hI (by omega)) ?_
                          refine lv_icmp_ne (tgt := 319) hX_ hB_ dL_isTold_295 (by decide) (fun c295 => ?_) (fun c295 => ?_)
                          · exact absurd rfl c295
                          · refine lv_aload_n hX_ hB_ dL_isTold_298 rfl (lv_at hl 4 rfl) ?_
                            refine lv_iload_n hX_ hB_ dL_isTold_299 rfl (lv_at hl 2 rfl) ?_
                            refine xb_FSq (As := [.ref (a 0), .int (nI i262)]) (rest := []) S (xw_bound_f l D c a n A B E i262 hN (by omega) hS) (vx_cwSW 2 hts gL_isTold_L_bound rfl rfl rfl (by decide +kernel) ⟨(Nat.le_of_ble_eq_true rfl), (Nat.le_of_ble_eq_true rfl)⟩) hG hK hW hA rfl hl.1 rfl (lv_room (Nat.le_of_ble_eq_true rfl)) dL_isTold_300 ⟨(by show (n 2) + (n 4) + 0 ≤ 16; omega), (by show 6 * (n 2) + 6 * (n 4) + 0 ≤ 96; omega)⟩ (fun H locs hW => ?_)
                            have hW : ze_W D ((ze_wC c a n A B E) ++ [(q, .inl (c 0, 210, .inl N))]) F s.heap _ _ := hW
                            refine ze_top (xd_bo hI (by omega)) ?_
                            refine lv_iload hX_ hB_ dL_isTold_303 (lv_at hl 0 rfl) ?_
                            refine lv_ldc (own := RL) (v := 1000000) hX_ hB_ S.2.2.2.1 w0 dL_isTold_305 ?_
                            refine lv_icmp_ne (tgt := 314) hX_ hB_ dL_isTold_307 (by decide) (fun c307 => ?_) (fun c307 => ?_)
                            · refine ze_top (y := xa_bnd n N (xa_isl N (n 1) i262)) (if_neg c307) ?_
                              refine lv_iload hX_ hB_ dL_isTold_314 (lv_at hl 0 rfl) ?_
                              refine lv_icmp_eq (tgt := 321) hX_ hB_ dL_isTold_316 (by decide) (fun c316 => ?_) (fun c316 => ?_)
                              · refine lv_iinc (v := nI (i262 + 1)) (lv' := [(3, .int (nI (i262 + 1))), (5, .int (xa_bnd n N (xa_isl N (n 1) i262))), (4, .int (nI (xa_isl N (n 1) i262))), (2, .int (zf_lits A (n 4))), (0, .ref (a 0)), (1, .ref q)]) hX_ hB_ dL_isTold_321 hl (k := 2) rfl (ze_inc _) (by decide) rfl (fun ls hl => ?_)
                                refine lv_goto (tgt := 262) hX_ hB_ dL_isTold_324 (by decide) ?_
                                exact ih262 (i262 + 1) (by omega) (by omega) _ _ ls hW (lv_sub hl [0, 3, 4, 5] rfl)
                              · exact absurd rfl c316
                            · refine ze_top (y := -1) (if_pos c307) ?_
                              refine lv_iconst (v := (-1)) hX_ hB_ dL_isTold_310 (by decide) ?_
                              refine lv_goto (tgt := 316) hX_ hB_ dL_isTold_311 (by decide) ?_
                              refine lv_icmp_eq (tgt := 321) hX_ hB_ dL_isTold_316 (by decide) (fun c316 => ?_) (fun c316 => ?_)
                              · refine lv_iinc (v := nI (i262 + 1)) (lv' := [(3, .int (nI (i262 + 1))), (5, .int (xa_bnd n N (xa_isl N (n 1) i262))), (4, .int (nI (xa_isl N (n 1) i262))), (2, .int (zf_lits A (n 4))), (0, .ref (a 0)), (1, .ref q)]) hX_ hB_ dL_isTold_321 hl (k := 2) rfl (ze_inc _) (by decide) rfl (fun ls hl => ?_)
                                refine lv_goto (tgt := 262) hX_ hB_ dL_isTold_324 (by decide) ?_
                                exact ih262 (i262 + 1) (by omega) (by omega) _ _ ls hW (lv_sub hl [0, 3, 4, 5] rfl)
                              · exact absurd c316 (by decide)
                    have hl : lv_has ls 6 [(3, .int (nI 0)), (2, .int (zf_lits A (n 4))), (0, .ref (a 0)), (1, .ref q)] := hl
                    have hW : ze_W D ((ze_wC c a n A B E) ++ [(q, .inl (c 0, 210, .inl N))]) F s.heap _ _ := hW
                    exact L262 _ 0 (by omega) (Nat.lt_succ_self _) _ _ ls hW (lv_sub hl [0, 1, 2, 3] rfl)
                  · have c184 : i180 < (n 4) := Nat.lt_of_not_le (fun h9 => c184 ((nI_leI (a := (n 4)) (b := i180) (by omega) (by omega)).mpr h9))
                    refine lv_sipush (v := 140) hX_ hB_ dL_isTold_187 (by decide) ?_
                    refine lv_iconst (v := 5) hX_ hB_ dL_isTold_190 (by decide) ?_
                    refine lv_iload_n hX_ hB_ dL_isTold_191 rfl (lv_at hl 0 rfl) ?_
                    refine lv_imul hX_ hB_ dL_isTold_192 ?_
                    refine ze_top (xb_mul (a := 5) (b := i180) (c := 5 * i180) (by omega)) ?_
                    refine lv_iadd hX_ hB_ dL_isTold_193 ?_
                    refine ze_top (xb_add (a := 140) (b := 5 * i180) (c := 5 * i180 + 140) (by omega)) ?_
                    refine lv_istore (lv' := [(4, .int (nI (5 * i180 + 140))), (3, .int (nI i180)), (2, .int (zf_lits A i180)), (0, .ref (a 0)), (1, .ref q)]) hX_ hB_ dL_isTold_194 hl (by decide) rfl (fun ls hl => ?_)
                    refine lv_iload_n hX_ hB_ dL_isTold_196 rfl (lv_at hl 2 rfl) ?_
                    refine lv_iconst (v := 1) hX_ hB_ dL_isTold_197 (by decide) ?_
                    refine lv_aload_n hX_ hB_ dL_isTold_198 rfl (lv_at hl 4 rfl) ?_
                    refine lv_iload hX_ hB_ dL_isTold_199 (lv_at hl 0 rfl) ?_
                    refine lv_iconst (v := 3) hX_ hB_ dL_isTold_201 (by decide) ?_
                    refine lv_iadd hX_ hB_ dL_isTold_202 ?_
                    refine ze_top (xb_add (a := 5 * i180 + 140) (b := 3) (c := 5 * i180 + 143) (by omega)) ?_
                    refine ze_ialdN hX_ hB_ hK hW ((ze_wC c a n A B E).length + 0) (f := N) (ze_appL (k := 0) rfl) (i := 5 * i180 + 143) (by omega) (by decide) dL_isTold_203 ?_
                    refine ze_top (y := A 5 i180) (hR.2.2.2.2.2.1.2 i180 (by omega)).1 ?_
                    refine lv_isub hX_ hB_ dL_isTold_204 ?_
                    refine ze_top (y := if A 5 i180 = 0 then 1 else 0) (xd_lit1 hI (by omega)) ?_
                    refine lv_iadd hX_ hB_ dL_isTold_205 ?_
                    refine lv_istore_n (lv' := [(2, .int (zf_lits A i180 + (if A 5 i180 = 0 then 1 else 0))), (4, .int (nI (5 * i180 + 140))), (3, .int (nI i180)), (0, .ref (a 0)), (1, .ref q)]) hX_ hB_ dL_isTold_206 rfl hl (by decide) rfl (fun ls hl => ?_)
                    refine lv_aload_n hX_ hB_ dL_isTold_207 rfl (lv_at hl 3 rfl) ?_
                    refine lv_iload_n hX_ hB_ dL_isTold_208 rfl (lv_at hl 2 rfl) ?_
                    refine xb_FSq (As := [.ref (a 0), .int (nI i180)]) (rest := []) S (xw_isLit_f l D c a n A B E i180 hN (by omega)) (vx_cwSW 2 hts gL_isTold_L_isLit rfl rfl rfl (by decide +kernel) ⟨(Nat.le_of_ble_eq_true rfl), (Nat.le_of_ble_eq_true rfl)⟩) hG hK hW hA rfl hl.1 rfl (lv_room (Nat.le_of_ble_eq_true rfl)) dL_isTold_209 ⟨(by show (n 2) + i180 + 0 ≤ 16; omega), (by show 6 * (n 2) + 6 * i180 + 0 ≤ 96; omega)⟩ (fun H locs hW => ?_)
                    have hW : ze_W D ((ze_wC c a n A B E) ++ [(q, .inl (c 0, 210, .inl N))]) F s.heap _ _ := hW
                    refine lv_iconst (v := 1) hX_ hB_ dL_isTold_212 (by decide) ?_
                    refine lv_aload_n hX_ hB_ dL_isTold_213 rfl (lv_at hl 4 rfl) ?_
                    refine lv_iload hX_ hB_ dL_isTold_214 (lv_at hl 1 rfl) ?_
                    refine lv_iconst (v := 3) hX_ hB_ dL_isTold_216 (by decide) ?_
                    refine lv_iadd hX_ hB_ dL_isTold_217 ?_
                    refine ze_top (xb_add (a := 5 * i180 + 140) (b := 3) (c := 5 * i180 + 143) (by omega)) ?_
                    refine ze_ialdN hX_ hB_ hK hW ((ze_wC c a n A B E).length + 0) (f := N) (ze_appL (k := 0) rfl) (i := 5 * i180 + 143) (by omega) (by decide) dL_isTold_218 ?_
                    refine ze_top (y := A 5 i180) (hR.2.2.2.2.2.1.2 i180 (by omega)).1 ?_
                    refine lv_isub hX_ hB_ dL_isTold_219 ?_
                    refine ze_top (y := if A 5 i180 = 0 then 1 else 0) (xd_lit1 hI (by omega)) ?_
                    refine lv_icmp_ne (tgt := 252) hX_ hB_ dL_isTold_220 (by decide) (fun c220 => ?_) (fun c220 => ?_)
                    · exact absurd rfl c220
                    · rcases xd_l01 hI (k := i180) (by omega) with h5 | h5
                      · have z9 : True := trivial
                        refine lv_aload_n hX_ hB_ dL_isTold_223 rfl (lv_at hl 3 rfl) ?_
                        refine lv_iload_n hX_ hB_ dL_isTold_224 rfl (lv_at hl 2 rfl) ?_
                        refine xb_FSq (As := [.ref (a 0), .int (nI i180)]) (rest := []) S (xw_waits_t2 l D hst c a n A B E i180 hN (by omega) h5) (vx_cwSW 2 hts gL_isTold_L_waits rfl rfl rfl (by decide +kernel) ⟨(Nat.le_of_ble_eq_true rfl), (Nat.le_of_ble_eq_true rfl)⟩) hG hK hW hA rfl hl.1 rfl (lv_room (Nat.le_of_ble_eq_true rfl)) dL_isTold_225 ⟨(by show (n 2) + i180 + 1 ≤ 16; omega), (by show 6 * (n 2) + 6 * i180 + 6 ≤ 96; omega)⟩ (fun H locs hW => ?_)
                        have hW : ze_W D ((ze_wC c a n A B E) ++ [(q, .inl (c 0, 210, .inl N))]) F s.heap _ _ := hW
                        refine lv_aload_n hX_ hB_ dL_isTold_228 rfl (lv_at hl 4 rfl) ?_
                        refine lv_iload hX_ hB_ dL_isTold_229 (lv_at hl 1 rfl) ?_
                        refine lv_iconst (v := 3) hX_ hB_ dL_isTold_231 (by decide) ?_
                        refine lv_iadd hX_ hB_ dL_isTold_232 ?_
                        refine ze_top (xb_add (a := 5 * i180 + 140) (b := 3) (c := 5 * i180 + 143) (by omega)) ?_
                        refine ze_ialdN hX_ hB_ hK hW ((ze_wC c a n A B E).length + 0) (f := N) (ze_appL (k := 0) rfl) (i := 5 * i180 + 143) (by omega) (by decide) dL_isTold_233 ?_
                        refine ze_top (y := A 5 i180) (hR.2.2.2.2.2.1.2 i180 (by omega)).1 ?_
                        refine ze_top (y := 0) h5 ?_
                        refine lv_iconst (v := 1) hX_ hB_ dL_isTold_234 (by decide) ?_
                        refine lv_icmp_ne (tgt := 247) hX_ hB_ dL_isTold_235 (by decide) (fun c235 => ?_) (fun c235 => ?_)
                        · refine lv_ldc (own := RL) (v := -900002) hX_ hB_ S.2.2.2.1 w1 dL_isTold_247 ?_
                          refine lv_icmp_eq (tgt := 254) hX_ hB_ dL_isTold_249 (by decide) (fun c249 => ?_) (fun c249 => ?_)
                          · refine lv_iinc (v := nI (i180 + 1)) (lv' := [(3, .int (nI (i180 + 1))), (2, .int (zf_lits A i180 + (if A 5 i180 = 0 then 1 else 0))), (4, .int (nI (5 * i180 + 140))), (0, .ref (a 0)), (1, .ref q)]) hX_ hB_ dL_isTold_254 hl (k := 2) rfl (ze_inc _) (by decide) rfl (fun ls hl => ?_)
                            refine lv_goto (tgt := 180) hX_ hB_ dL_isTold_257 (by decide) ?_
                            refine W.widen (k := (n 2) + (i180 + 1)) (n := 6 * (n 2) + 6 * (i180 + 1)) (by omega) (by omega) ?_
                            have eL2 : zf_lits A i180 + (if A 5 i180 = 0 then 1 else 0) = zf_lits A (i180 + 1) := rfl
                            have hl : lv_has ls 6 [(3, .int (nI (i180 + 1))), (2, .int (zf_lits A (i180 + 1))), (4, .int (nI (5 * i180 + 140))), (0, .ref (a 0)), (1, .ref q)] := by
                              first | (rw [← eL2]; exact hl) | (simp only [← eL2]; exact hl)
                            exact ih180 (i180 + 1) (by omega) (by omega) _ _ ls hW (lv_sub hl [0, 1, 3, 4] rfl)
                          · exact absurd c249 (by decide)
                        · exact absurd c235 (by decide)
                      · have z9 : True := trivial
                        refine lv_aload_n hX_ hB_ dL_isTold_223 rfl (lv_at hl 3 rfl) ?_
                        refine lv_iload_n hX_ hB_ dL_isTold_224 rfl (lv_at hl 2 rfl) ?_
                        refine xb_FSq (As := [.ref (a 0), .int (nI i180)]) (rest := []) S (xw_waits_f l D c a n A B E i180 hN (by omega) (by rw [h5]; decide)) (vx_cwSW 2 hts gL_isTold_L_waits rfl rfl rfl (by decide +kernel) ⟨(Nat.le_of_ble_eq_true rfl), (Nat.le_of_ble_eq_true rfl)⟩) hG hK hW hA rfl hl.1 rfl (lv_room (Nat.le_of_ble_eq_true rfl)) dL_isTold_225 ⟨(by show (n 2) + i180 + 0 ≤ 16; omega), (by show 6 * (n 2) + 6 * i180 + 0 ≤ 96; omega)⟩ (fun H locs hW => ?_)
                        have hW : ze_W D ((ze_wC c a n A B E) ++ [(q, .inl (c 0, 210, .inl N))]) F s.heap _ _ := hW
                        refine lv_aload_n hX_ hB_ dL_isTold_228 rfl (lv_at hl 4 rfl) ?_
                        refine lv_iload hX_ hB_ dL_isTold_229 (lv_at hl 1 rfl) ?_
                        refine lv_iconst (v := 3) hX_ hB_ dL_isTold_231 (by decide) ?_
                        refine lv_iadd hX_ hB_ dL_isTold_232 ?_
                        refine ze_top (xb_add (a := 5 * i180 + 140) (b := 3) (c := 5 * i180 + 143) (by omega)) ?_
                        refine ze_ialdN hX_ hB_ hK hW ((ze_wC c a n A B E).length + 0) (f := N) (ze_appL (k := 0) rfl) (i := 5 * i180 + 143) (by omega) (by decide) dL_isTold_233 ?_
                        refine ze_top (y := A 5 i180) (hR.2.2.2.2.2.1.2 i180 (by omega)).1 ?_
                        refine ze_top (y := 1) h5 ?_
                        refine lv_iconst (v := 1) hX_ hB_ dL_isTold_234 (by decide) ?_
                        refine lv_icmp_ne (tgt := 247) hX_ hB_ dL_isTold_235 (by decide) (fun c235 => ?_) (fun c235 => ?_)
                        · exact absurd c235 (by decide)
                        · refine lv_aload_n hX_ hB_ dL_isTold_238 rfl (lv_at hl 4 rfl) ?_
                          refine lv_iload hX_ hB_ dL_isTold_239 (lv_at hl 1 rfl) ?_
                          refine lv_iconst (v := 4) hX_ hB_ dL_isTold_241 (by decide) ?_
                          refine lv_iadd hX_ hB_ dL_isTold_242 ?_
                          refine ze_top (xb_add (a := 5 * i180 + 140) (b := 4) (c := 5 * i180 + 144) (by omega)) ?_
                          refine ze_ialdN hX_ hB_ hK hW ((ze_wC c a n A B E).length + 0) (f := N) (ze_appL (k := 0) rfl) (i := 5 * i180 + 144) (by omega) (by decide) dL_isTold_243 ?_
                          refine ze_top (y := A 22 i180) (hR.2.2.2.2.2.1.2 i180 (by omega)).2 ?_
                          refine lv_goto (tgt := 249) hX_ hB_ dL_isTold_244 (by decide) ?_
                          refine lv_icmp_eq (tgt := 254) hX_ hB_ dL_isTold_249 (by decide) (fun c249 => ?_) (fun c249 => ?_)
                          · refine lv_iinc (v := nI (i180 + 1)) (lv' := [(3, .int (nI (i180 + 1))), (2, .int (zf_lits A i180 + (if A 5 i180 = 0 then 1 else 0))), (4, .int (nI (5 * i180 + 140))), (0, .ref (a 0)), (1, .ref q)]) hX_ hB_ dL_isTold_254 hl (k := 2) rfl (ze_inc _) (by decide) rfl (fun ls hl => ?_)
                            refine lv_goto (tgt := 180) hX_ hB_ dL_isTold_257 (by decide) ?_
                            refine W.widen (k := (n 2) + (i180 + 1)) (n := 6 * (n 2) + 6 * (i180 + 1)) (by omega) (by omega) ?_
                            have eL2 : zf_lits A i180 + (if A 5 i180 = 0 then 1 else 0) = zf_lits A (i180 + 1) := rfl
                            have hl : lv_has ls 6 [(3, .int (nI (i180 + 1))), (2, .int (zf_lits A (i180 + 1))), (4, .int (nI (5 * i180 + 140))), (0, .ref (a 0)), (1, .ref q)] := by
                              first | (rw [← eL2]; exact hl) | (simp only [← eL2]; exact hl)
                            exact ih180 (i180 + 1) (by omega) (by omega) _ _ ls hW (lv_sub hl [0, 1, 3, 4] rfl)
                          · exact absurd rfl c249
              have hl : lv_has ls 6 [(3, .int (nI 0)), (2, .int (zf_lits A 0)), (0, .ref (a 0)), (1, .ref q)] := hl
              have hW : ze_W D ((ze_wC c a n A B E) ++ [(q, .inl (c 0, 210, .inl N))]) F s.heap _ _ := hW
              exact L180 _ 0 (by omega) (Nat.lt_succ_self _) _ _ ls hW (lv_sub hl [0, 1, 2, 3] rfl)
            · have c133 : i129 < (n 3) := Nat.lt_of_not_le (fun h9 => c133 ((nI_leI (a := (n 3)) (b := i129) (by omega) (by omega)).mpr h9))
              refine lv_aload_n hX_ hB_ dL_isTold_136 rfl (lv_at hl 2 rfl) ?_
              refine lv_iload_n hX_ hB_ dL_isTold_137 rfl (lv_at hl 0 rfl) ?_
              refine xb_FSq (As := [.ref (a 0), .int (nI i129)]) (rest := []) S (xw_charge_f l D c a n A B E i129 hN (by omega)) (vx_cwSW 2 hts gL_isTold_L_charge rfl rfl rfl (by decide +kernel) ⟨(Nat.le_of_ble_eq_true rfl), (Nat.le_of_ble_eq_true rfl)⟩) hG hK hW hA rfl hl.1 rfl (lv_room (Nat.le_of_ble_eq_true rfl)) dL_isTold_138 ⟨(by show (n 2) + 0 ≤ 16; omega), (by show 6 * (n 2) + 0 ≤ 96; omega)⟩ (fun H locs hW => ?_)
              have hW : ze_W D ((ze_wC c a n A B E) ++ [(q, .inl (c 0, 210, .inl N))]) F s.heap _ _ := hW
              refine lv_aload_n hX_ hB_ dL_isTold_141 rfl (lv_at hl 3 rfl) ?_
              refine lv_bipush (v := 113) hX_ hB_ dL_isTold_142 (by decide) ?_
              refine lv_bipush (v := 6) hX_ hB_ dL_isTold_144 (by decide) ?_
              refine lv_iload_n hX_ hB_ dL_isTold_146 rfl (lv_at hl 0 rfl) ?_
              refine lv_imul hX_ hB_ dL_isTold_147 ?_
              refine ze_top (xb_mul (a := 6) (b := i129) (c := 6 * i129) (by omega)) ?_
              refine lv_iadd hX_ hB_ dL_isTold_148 ?_
              refine ze_top (xb_add (a := 113) (b := 6 * i129) (c := 6 * i129 + 113) (by omega)) ?_
              refine ze_ialdN hX_ hB_ hK hW ((ze_wC c a n A B E).length + 0) (f := N) (ze_appL (k := 0) rfl) (i := 6 * i129 + 113) (by omega) (by decide) dL_isTold_149 ?_
              refine ze_top (y := A 17 i129) (hR.2.2.2.2.1.2 i129 (by omega)).1 ?_
              refine lv_icmp_ne (tgt := 170) hX_ hB_ dL_isTold_150 (by decide) (fun c150 => ?_) (fun c150 => ?_)
              · exact absurd rfl c150
              · refine lv_aload_n hX_ hB_ dL_isTold_153 rfl (lv_at hl 2 rfl) ?_
                refine lv_iload_n hX_ hB_ dL_isTold_154 rfl (lv_at hl 0 rfl) ?_
                refine xb_FSq (As := [.ref (a 0), .int (nI i129)]) (rest := []) S (xw_flow_f l D c a n A B E i129 hN (by omega)) (vx_cwSW 2 hts gL_isTold_L_flow rfl rfl rfl (by decide +kernel) ⟨(Nat.le_of_ble_eq_true rfl), (Nat.le_of_ble_eq_true rfl)⟩) hG hK hW hA rfl hl.1 rfl (lv_room (Nat.le_of_ble_eq_true rfl)) dL_isTold_155 ⟨(by show (n 2) + 0 ≤ 16; omega), (by show 6 * (n 2) + 0 ≤ 96; omega)⟩ (fun H locs hW => ?_)
                have hW : ze_W D ((ze_wC c a n A B E) ++ [(q, .inl (c 0, 210, .inl N))]) F s.heap _ _ := hW
                refine lv_aload_n hX_ hB_ dL_isTold_158 rfl (lv_at hl 3 rfl) ?_
                refine lv_bipush (v := 114) hX_ hB_ dL_isTold_159 (by decide) ?_
                refine lv_bipush (v := 6) hX_ hB_ dL_isTold_161 (by decide) ?_
                refine lv_iload_n hX_ hB_ dL_isTold_163 rfl (lv_at hl 0 rfl) ?_
                refine lv_imul hX_ hB_ dL_isTold_164 ?_
                refine ze_top (xb_mul (a := 6) (b := i129) (c := 6 * i129) (by omega)) ?_
                refine lv_iadd hX_ hB_ dL_isTold_165 ?_
                refine ze_top (xb_add (a := 114) (b := 6 * i129) (c := 6 * i129 + 114) (by omega)) ?_
                refine ze_ialdN hX_ hB_ hK hW ((ze_wC c a n A B E).length + 0) (f := N) (ze_appL (k := 0) rfl) (i := 6 * i129 + 114) (by omega) (by decide) dL_isTold_166 ?_
                refine ze_top (y := A 18 i129) (hR.2.2.2.2.1.2 i129 (by omega)).2 ?_
                refine lv_icmp_eq (tgt := 172) hX_ hB_ dL_isTold_167 (by decide) (fun c167 => ?_) (fun c167 => ?_)
                · refine lv_iinc (v := nI (i129 + 1)) (lv' := [(3, .int (nI (i129 + 1))), (2, .int 0), (0, .ref (a 0)), (1, .ref q)]) hX_ hB_ dL_isTold_172 hl (k := 0) rfl (ze_inc _) (by decide) rfl (fun ls hl => ?_)
                  refine lv_goto (tgt := 129) hX_ hB_ dL_isTold_175 (by decide) ?_
                  exact ih129 (i129 + 1) (by omega) (by omega) _ _ ls hW (lv_sub hl [0, 1, 2, 3] rfl)
                · exact absurd rfl c167
        have hl : lv_has ls 6 [(3, .int (nI 0)), (2, .int 0), (0, .ref (a 0)), (1, .ref q)] := hl
        have hW : ze_W D ((ze_wC c a n A B E) ++ [(q, .inl (c 0, 210, .inl N))]) F s.heap _ _ := hW
        exact L129 _ 0 (by omega) (Nat.lt_succ_self _) _ _ ls hW (lv_sub hl [0, 1, 2, 3] rfl)
      · have c8 : i4 < (n 2) := Nat.lt_of_not_le (fun h9 => c8 ((nI_leI (a := (n 2)) (b := i4) (by omega) (by omega)).mpr h9))
        refine lv_bipush (v := 50) hX_ hB_ dL_isTold_11 (by decide) ?_
        refine lv_bipush (v := 9) hX_ hB_ dL_isTold_13 (by decide) ?_
        refine lv_iload_n hX_ hB_ dL_isTold_15 rfl (lv_at hl 0 rfl) ?_
        refine lv_imul hX_ hB_ dL_isTold_16 ?_
        refine ze_top (xb_mul (a := 9) (b := i4) (c := 9 * i4) (by omega)) ?_
        refine lv_iadd hX_ hB_ dL_isTold_17 ?_
        refine ze_top (xb_add (a := 50) (b := 9 * i4) (c := 9 * i4 + 50) (by omega)) ?_
        refine lv_istore (lv' := [(4, .int (nI (9 * i4 + 50))), (3, .int (nI i4)), (2, .int 0), (0, .ref (a 0)), (1, .ref q)]) hX_ hB_ dL_isTold_18 hl (by decide) rfl (fun ls hl => ?_)
        refine lv_aload_n hX_ hB_ dL_isTold_20 rfl (lv_at hl 4 rfl) ?_
        refine lv_iload hX_ hB_ dL_isTold_21 (lv_at hl 0 rfl) ?_
        refine lv_iconst (v := 5) hX_ hB_ dL_isTold_23 (by decide) ?_
        refine lv_iadd hX_ hB_ dL_isTold_24 ?_
        refine ze_top (xb_add (a := 9 * i4 + 50) (b := 5) (c := 9 * i4 + 55) (by omega)) ?_
        refine ze_ialdN hX_ hB_ hK hW ((ze_wC c a n A B E).length + 0) (f := N) (ze_appL (k := 0) rfl) (i := 9 * i4 + 55) (by omega) (by decide) dL_isTold_25 ?_
        refine ze_top (y := xc_st (A 13 i4)) (hR.2.2.2.1.1 i4 (by omega)).2.2.2.2.2 ?_
        refine lv_if_ne (tgt := 34) hX_ hB_ dL_isTold_26 (by decide) (fun c26 => ?_) (fun c26 => ?_)
        · refine lv_aload_n hX_ hB_ dL_isTold_34 rfl (lv_at hl 4 rfl) ?_
          refine lv_iload hX_ hB_ dL_isTold_35 (lv_at hl 0 rfl) ?_
          refine lv_iconst (v := 5) hX_ hB_ dL_isTold_37 (by decide) ?_
          refine lv_iadd hX_ hB_ dL_isTold_38 ?_
          refine ze_top (xb_add (a := 9 * i4 + 50) (b := 5) (c := 9 * i4 + 55) (by omega)) ?_
          refine ze_ialdN hX_ hB_ hK hW ((ze_wC c a n A B E).length + 0) (f := N) (ze_appL (k := 0) rfl) (i := 9 * i4 + 55) (by omega) (by decide) dL_isTold_39 ?_
          refine ze_top (y := xc_st (A 13 i4)) (hR.2.2.2.1.1 i4 (by omega)).2.2.2.2.2 ?_
          refine lv_iconst (v := 1) hX_ hB_ dL_isTold_40 (by decide) ?_
          refine lv_icmp_ne (tgt := 49) hX_ hB_ dL_isTold_41 (by decide) (fun c41 => ?_) (fun c41 => ?_)
          · refine lv_bipush (v := 114) hX_ hB_ dL_isTold_49 (by decide) ?_
            refine lv_istore (lv' := [(5, .int 114), (4, .int (nI (9 * i4 + 50))), (3, .int (nI i4)), (2, .int 0), (0, .ref (a 0)), (1, .ref q)]) hX_ hB_ dL_isTold_51 hl (by decide) rfl (fun ls hl => ?_)
            refine lv_aload_n hX_ hB_ dL_isTold_53 rfl (lv_at hl 4 rfl) ?_
            refine lv_iload_n hX_ hB_ dL_isTold_54 rfl (lv_at hl 2 rfl) ?_
            refine xb_FSq (As := [.ref (a 0), .int (nI i4)]) (rest := []) S (xw_state_f l D c a n A B E i4 hN (by omega) (hC i4 (by omega))) (vx_cwSW 2 hts gL_isTold_L_state rfl rfl rfl (by decide +kernel) ⟨(Nat.le_of_ble_eq_true rfl), (Nat.le_of_ble_eq_true rfl)⟩) hG hK hW hA rfl hl.1 rfl (lv_room (Nat.le_of_ble_eq_true rfl)) dL_isTold_55 ⟨(by show i4 + 0 ≤ 16; omega), (by show 6 * i4 + 0 ≤ 96; omega)⟩ (fun H locs hW => ?_)
            have hW : ze_W D ((ze_wC c a n A B E) ++ [(q, .inl (c 0, 210, .inl N))]) F s.heap _ _ := hW
            refine ze_top (y := 114) (xd_st2 (hC i4 (by omega)) c26 c41) ?_
            refine lv_iload hX_ hB_ dL_isTold_58 (lv_at hl 0 rfl) ?_
            refine lv_icmp_ne (tgt := 119) hX_ hB_ dL_isTold_60 (by decide) (fun c60 => ?_) (fun c60 => ?_)
            · exact absurd c60 (by decide)
            · refine lv_aload_n hX_ hB_ dL_isTold_63 rfl (lv_at hl 4 rfl) ?_
              refine lv_iload_n hX_ hB_ dL_isTold_64 rfl (lv_at hl 2 rfl) ?_
              refine xb_FSq (As := [.ref (a 0), .int (nI i4)]) (rest := []) S (xw_fuel_f l D c a n A B E i4 hN (by omega)) (vx_cwSW 2 hts gL_isTold_L_fuel rfl rfl rfl (by decide +kernel) ⟨(Nat.le_of_ble_eq_true rfl), (Nat.le_of_ble_eq_true rfl)⟩) hG hK hW hA rfl hl.1 rfl (lv_room (Nat.le_of_ble_eq_true rfl)) dL_isTold_65 ⟨(by show i4 + 0 ≤ 16; omega), (by show 6 * i4 + 0 ≤ 96; omega)⟩ (fun H locs hW => ?_)
              have hW : ze_W D ((ze_wC c a n A B E) ++ [(q, .inl (c 0, 210, .inl N))]) F s.heap _ _ := hW
              refine lv_aload_n hX_ hB_ dL_isTold_68 rfl (lv_at hl 5 rfl) ?_
              refine lv_iload hX_ hB_ dL_isTold_69 (lv_at hl 1 rfl) ?_
              refine lv_iconst (v := 4) hX_ hB_ dL_isTold_71 (by decide) ?_
              refine lv_iadd hX_ hB_ dL_isTold_72 ?_
              refine ze_top (xb_add (a := 9 * i4 + 50) (b := 4) (c := 9 * i4 + 54) (by omega)) ?_
              refine ze_ialdN hX_ hB_ hK hW ((ze_wC c a n A B E).length + 0) (f := N) (ze_appL (k := 0) rfl) (i := 9 * i4 + 54) (by omega) (by decide) dL_isTold_73 ?_
              refine ze_top (y := A 10 i4) (hR.2.2.2.1.1 i4 (by omega)).2.2.2.2.1 ?_
              refine lv_icmp_ne (tgt := 119) hX_ hB_ dL_isTold_74 (by decide) (fun c74 => ?_) (fun c74 => ?_)
              · exact absurd rfl c74
              · refine lv_aload_n hX_ hB_ dL_isTold_77 rfl (lv_at hl 4 rfl) ?_
                refine lv_iload_n hX_ hB_ dL_isTold_78 rfl (lv_at hl 2 rfl) ?_
                refine xb_FSq (As := [.ref (a 0), .int (nI i4)]) (rest := []) S (xw_given_f l D c a n A B E i4 hN (by omega)) (vx_cwSW 2 hts gL_isTold_L_given rfl rfl rfl (by decide +kernel) ⟨(Nat.le_of_ble_eq_true rfl), (Nat.le_of_ble_eq_true rfl)⟩) hG hK hW hA rfl hl.1 rfl (lv_room (Nat.le_of_ble_eq_true rfl)) dL_isTold_79 ⟨(by show i4 + 0 ≤ 16; omega), (by show 6 * i4 + 0 ≤ 96; omega)⟩ (fun H locs hW => ?_)
                have hW : ze_W D ((ze_wC c a n A B E) ++ [(q, .inl (c 0, 210, .inl N))]) F s.heap _ _ := hW
                refine lv_aload_n hX_ hB_ dL_isTold_82 rfl (lv_at hl 5 rfl) ?_
                refine lv_iload hX_ hB_ dL_isTold_83 (lv_at hl 1 rfl) ?_
                refine lv_bipush (v := 7) hX_ hB_ dL_isTold_85 (by decide) ?_
                refine lv_iadd hX_ hB_ dL_isTold_87 ?_
                refine ze_top (xb_add (a := 9 * i4 + 50) (b := 7) (c := 9 * i4 + 57) (by omega)) ?_
                refine ze_ialdN hX_ hB_ hK hW ((ze_wC c a n A B E).length + 0) (f := N) (ze_appL (k := 0) rfl) (i := 9 * i4 + 57) (by omega) (by decide) dL_isTold_88 ?_
                refine ze_top (y := A 12 i4) (hR.2.2.2.1.2.1 i4 (by omega)).2 ?_
                refine lv_icmp_ne (tgt := 119) hX_ hB_ dL_isTold_89 (by decide) (fun c89 => ?_) (fun c89 => ?_)
                · exact absurd rfl c89
                · refine lv_aload_n hX_ hB_ dL_isTold_92 rfl (lv_at hl 4 rfl) ?_
                  refine lv_iload_n hX_ hB_ dL_isTold_93 rfl (lv_at hl 2 rfl) ?_
                  refine xb_FSq (As := [.ref (a 0), .int (nI i4)]) (rest := []) S (xw_toGo_t2 l D hst c a n A B E i4 hN (by omega) (by rw [xd_st2 (hC i4 (by omega)) c26 c41]; decide)) (vx_cwSW 2 hts gL_isTold_L_toGo rfl rfl rfl (by decide +kernel) ⟨(Nat.le_of_ble_eq_true rfl), (Nat.le_of_ble_eq_true rfl)⟩) hG hK hW hA rfl hl.1 rfl (lv_room (Nat.le_of_ble_eq_true rfl)) dL_isTold_94 ⟨(by show i4 + 1 ≤ 16; omega), (by show 6 * i4 + 6 ≤ 96; omega)⟩ (fun H locs hW => ?_)
                  have hW : ze_W D ((ze_wC c a n A B E) ++ [(q, .inl (c 0, 210, .inl N))]) F s.heap _ _ := hW
                  refine lv_iload hX_ hB_ dL_isTold_97 (lv_at hl 0 rfl) ?_
                  refine lv_bipush (v := 119) hX_ hB_ dL_isTold_99 (by decide) ?_
                  refine lv_icmp_ne (tgt := 114) hX_ hB_ dL_isTold_101 (by decide) (fun c101 => ?_) (fun c101 => ?_)
                  · refine lv_ldc (own := RL) (v := -900002) hX_ hB_ S.2.2.2.1 w1 dL_isTold_114 ?_
                    refine lv_icmp_eq (tgt := 121) hX_ hB_ dL_isTold_116 (by decide) (fun c116 => ?_) (fun c116 => ?_)
                    · refine lv_iinc (v := nI (i4 + 1)) (lv' := [(3, .int (nI (i4 + 1))), (5, .int 114), (4, .int (nI (9 * i4 + 50))), (2, .int 0), (0, .ref (a 0)), (1, .ref q)]) hX_ hB_ dL_isTold_121 hl (k := 2) rfl (ze_inc _) (by decide) rfl (fun ls hl => ?_)
                      refine lv_goto (tgt := 4) hX_ hB_ dL_isTold_124 (by decide) ?_
                      refine W.widen (k := (i4 + 1)) (n := 6 * (i4 + 1)) (by omega) (by omega) ?_
                      exact ih4 (i4 + 1) (by omega) (by omega) _ _ ls hW (lv_sub hl [0, 3, 4, 5] rfl)
                    · exact absurd c116 (by decide)
                  · exact absurd c101 (by decide)
          · refine lv_bipush (v := 119) hX_ hB_ dL_isTold_44 (by decide) ?_
            refine lv_goto (tgt := 51) hX_ hB_ dL_isTold_46 (by decide) ?_
            refine lv_istore (lv' := [(5, .int 119), (4, .int (nI (9 * i4 + 50))), (3, .int (nI i4)), (2, .int 0), (0, .ref (a 0)), (1, .ref q)]) hX_ hB_ dL_isTold_51 hl (by decide) rfl (fun ls hl => ?_)
            refine lv_aload_n hX_ hB_ dL_isTold_53 rfl (lv_at hl 4 rfl) ?_
            refine lv_iload_n hX_ hB_ dL_isTold_54 rfl (lv_at hl 2 rfl) ?_
            refine xb_FSq (As := [.ref (a 0), .int (nI i4)]) (rest := []) S (xw_state_f l D c a n A B E i4 hN (by omega) (hC i4 (by omega))) (vx_cwSW 2 hts gL_isTold_L_state rfl rfl rfl (by decide +kernel) ⟨(Nat.le_of_ble_eq_true rfl), (Nat.le_of_ble_eq_true rfl)⟩) hG hK hW hA rfl hl.1 rfl (lv_room (Nat.le_of_ble_eq_true rfl)) dL_isTold_55 ⟨(by show i4 + 0 ≤ 16; omega), (by show 6 * i4 + 0 ≤ 96; omega)⟩ (fun H locs hW => ?_)
            have hW : ze_W D ((ze_wC c a n A B E) ++ [(q, .inl (c 0, 210, .inl N))]) F s.heap _ _ := hW
            refine ze_top (y := 119) ((xd_st1 (hC i4 (by omega))).mp c41) ?_
            refine lv_iload hX_ hB_ dL_isTold_58 (lv_at hl 0 rfl) ?_
            refine lv_icmp_ne (tgt := 119) hX_ hB_ dL_isTold_60 (by decide) (fun c60 => ?_) (fun c60 => ?_)
            · exact absurd c60 (by decide)
            · refine lv_aload_n hX_ hB_ dL_isTold_63 rfl (lv_at hl 4 rfl) ?_
              refine lv_iload_n hX_ hB_ dL_isTold_64 rfl (lv_at hl 2 rfl) ?_
              refine xb_FSq (As := [.ref (a 0), .int (nI i4)]) (rest := []) S (xw_fuel_f l D c a n A B E i4 hN (by omega)) (vx_cwSW 2 hts gL_isTold_L_fuel rfl rfl rfl (by decide +kernel) ⟨(Nat.le_of_ble_eq_true rfl), (Nat.le_of_ble_eq_true rfl)⟩) hG hK hW hA rfl hl.1 rfl (lv_room (Nat.le_of_ble_eq_true rfl)) dL_isTold_65 ⟨(by show i4 + 0 ≤ 16; omega), (by show 6 * i4 + 0 ≤ 96; omega)⟩ (fun H locs hW => ?_)
              have hW : ze_W D ((ze_wC c a n A B E) ++ [(q, .inl (c 0, 210, .inl N))]) F s.heap _ _ := hW
              refine lv_aload_n hX_ hB_ dL_isTold_68 rfl (lv_at hl 5 rfl) ?_
              refine lv_iload hX_ hB_ dL_isTold_69 (lv_at hl 1 rfl) ?_
              refine lv_iconst (v := 4) hX_ hB_ dL_isTold_71 (by decide) ?_
              refine lv_iadd hX_ hB_ dL_isTold_72 ?_
              refine ze_top (xb_add (a := 9 * i4 + 50) (b := 4) (c := 9 * i4 + 54) (by omega)) ?_
              refine ze_ialdN hX_ hB_ hK hW ((ze_wC c a n A B E).length + 0) (f := N) (ze_appL (k := 0) rfl) (i := 9 * i4 + 54) (by omega) (by decide) dL_isTold_73 ?_
              refine ze_top (y := A 10 i4) (hR.2.2.2.1.1 i4 (by omega)).2.2.2.2.1 ?_
              refine lv_icmp_ne (tgt := 119) hX_ hB_ dL_isTold_74 (by decide) (fun c74 => ?_) (fun c74 => ?_)
              · exact absurd rfl c74
              · refine lv_aload_n hX_ hB_ dL_isTold_77 rfl (lv_at hl 4 rfl) ?_
                refine lv_iload_n hX_ hB_ dL_isTold_78 rfl (lv_at hl 2 rfl) ?_
                refine xb_FSq (As := [.ref (a 0), .int (nI i4)]) (rest := []) S (xw_given_f l D c a n A B E i4 hN (by omega)) (vx_cwSW 2 hts gL_isTold_L_given rfl rfl rfl (by decide +kernel) ⟨(Nat.le_of_ble_eq_true rfl), (Nat.le_of_ble_eq_true rfl)⟩) hG hK hW hA rfl hl.1 rfl (lv_room (Nat.le_of_ble_eq_true rfl)) dL_isTold_79 ⟨(by show i4 + 0 ≤ 16; omega), (by show 6 * i4 + 0 ≤ 96; omega)⟩ (fun H locs hW => ?_)
                have hW : ze_W D ((ze_wC c a n A B E) ++ [(q, .inl (c 0, 210, .inl N))]) F s.heap _ _ := hW
                refine lv_aload_n hX_ hB_ dL_isTold_82 rfl (lv_at hl 5 rfl) ?_
                refine lv_iload hX_ hB_ dL_isTold_83 (lv_at hl 1 rfl) ?_
                refine lv_bipush (v := 7) hX_ hB_ dL_isTold_85 (by decide) ?_
                refine lv_iadd hX_ hB_ dL_isTold_87 ?_
                refine ze_top (xb_add (a := 9 * i4 + 50) (b := 7) (c := 9 * i4 + 57) (by omega)) ?_
                refine ze_ialdN hX_ hB_ hK hW ((ze_wC c a n A B E).length + 0) (f := N) (ze_appL (k := 0) rfl) (i := 9 * i4 + 57) (by omega) (by decide) dL_isTold_88 ?_
                refine ze_top (y := A 12 i4) (hR.2.2.2.1.2.1 i4 (by omega)).2 ?_
                refine lv_icmp_ne (tgt := 119) hX_ hB_ dL_isTold_89 (by decide) (fun c89 => ?_) (fun c89 => ?_)
                · exact absurd rfl c89
                · refine lv_aload_n hX_ hB_ dL_isTold_92 rfl (lv_at hl 4 rfl) ?_
                  refine lv_iload_n hX_ hB_ dL_isTold_93 rfl (lv_at hl 2 rfl) ?_
                  refine xb_FSq (As := [.ref (a 0), .int (nI i4)]) (rest := []) S (xw_toGo_f l D c a n A B E i4 hN (by omega) ((xd_st1 (hC i4 (by omega))).mp c41)) (vx_cwSW 2 hts gL_isTold_L_toGo rfl rfl rfl (by decide +kernel) ⟨(Nat.le_of_ble_eq_true rfl), (Nat.le_of_ble_eq_true rfl)⟩) hG hK hW hA rfl hl.1 rfl (lv_room (Nat.le_of_ble_eq_true rfl)) dL_isTold_94 ⟨(by show i4 + 0 ≤ 16; omega), (by show 6 * i4 + 0 ≤ 96; omega)⟩ (fun H locs hW => ?_)
                  have hW : ze_W D ((ze_wC c a n A B E) ++ [(q, .inl (c 0, 210, .inl N))]) F s.heap _ _ := hW
                  refine lv_iload hX_ hB_ dL_isTold_97 (lv_at hl 0 rfl) ?_
                  refine lv_bipush (v := 119) hX_ hB_ dL_isTold_99 (by decide) ?_
                  refine lv_icmp_ne (tgt := 114) hX_ hB_ dL_isTold_101 (by decide) (fun c101 => ?_) (fun c101 => ?_)
                  · exact absurd c101 (by decide)
                  · refine lv_aload_n hX_ hB_ dL_isTold_104 rfl (lv_at hl 5 rfl) ?_
                    refine lv_iload hX_ hB_ dL_isTold_105 (lv_at hl 1 rfl) ?_
                    refine lv_bipush (v := 6) hX_ hB_ dL_isTold_107 (by decide) ?_
                    refine lv_iadd hX_ hB_ dL_isTold_109 ?_
                    refine ze_top (xb_add (a := 9 * i4 + 50) (b := 6) (c := 9 * i4 + 56) (by omega)) ?_
                    refine ze_ialdN hX_ hB_ hK hW ((ze_wC c a n A B E).length + 0) (f := N) (ze_appL (k := 0) rfl) (i := 9 * i4 + 56) (by omega) (by decide) dL_isTold_110 ?_
                    refine ze_top (y := A 11 i4) (hR.2.2.2.1.2.1 i4 (by omega)).1 ?_
                    refine lv_goto (tgt := 116) hX_ hB_ dL_isTold_111 (by decide) ?_
                    refine lv_icmp_eq (tgt := 121) hX_ hB_ dL_isTold_116 (by decide) (fun c116 => ?_) (fun c116 => ?_)
                    · refine lv_iinc (v := nI (i4 + 1)) (lv' := [(3, .int (nI (i4 + 1))), (5, .int 119), (4, .int (nI (9 * i4 + 50))), (2, .int 0), (0, .ref (a 0)), (1, .ref q)]) hX_ hB_ dL_isTold_121 hl (k := 2) rfl (ze_inc _) (by decide) rfl (fun ls hl => ?_)
                      refine lv_goto (tgt := 4) hX_ hB_ dL_isTold_124 (by decide) ?_
                      refine W.widen (k := (i4 + 1)) (n := 6 * (i4 + 1)) (by omega) (by omega) ?_
                      exact ih4 (i4 + 1) (by omega) (by omega) _ _ ls hW (lv_sub hl [0, 3, 4, 5] rfl)
                    · exact absurd rfl c116
        · refine lv_bipush (v := 111) hX_ hB_ dL_isTold_29 (by decide) ?_
          refine lv_goto (tgt := 51) hX_ hB_ dL_isTold_31 (by decide) ?_
          refine lv_istore (lv' := [(5, .int 111), (4, .int (nI (9 * i4 + 50))), (3, .int (nI i4)), (2, .int 0), (0, .ref (a 0)), (1, .ref q)]) hX_ hB_ dL_isTold_51 hl (by decide) rfl (fun ls hl => ?_)
          refine lv_aload_n hX_ hB_ dL_isTold_53 rfl (lv_at hl 4 rfl) ?_
          refine lv_iload_n hX_ hB_ dL_isTold_54 rfl (lv_at hl 2 rfl) ?_
          refine xb_FSq (As := [.ref (a 0), .int (nI i4)]) (rest := []) S (xw_state_f l D c a n A B E i4 hN (by omega) (hC i4 (by omega))) (vx_cwSW 2 hts gL_isTold_L_state rfl rfl rfl (by decide +kernel) ⟨(Nat.le_of_ble_eq_true rfl), (Nat.le_of_ble_eq_true rfl)⟩) hG hK hW hA rfl hl.1 rfl (lv_room (Nat.le_of_ble_eq_true rfl)) dL_isTold_55 ⟨(by show i4 + 0 ≤ 16; omega), (by show 6 * i4 + 0 ≤ 96; omega)⟩ (fun H locs hW => ?_)
          have hW : ze_W D ((ze_wC c a n A B E) ++ [(q, .inl (c 0, 210, .inl N))]) F s.heap _ _ := hW
          refine ze_top (y := 111) ((xc_st0 (hC i4 (by omega))).mp c26) ?_
          refine lv_iload hX_ hB_ dL_isTold_58 (lv_at hl 0 rfl) ?_
          refine lv_icmp_ne (tgt := 119) hX_ hB_ dL_isTold_60 (by decide) (fun c60 => ?_) (fun c60 => ?_)
          · exact absurd c60 (by decide)
          · refine lv_aload_n hX_ hB_ dL_isTold_63 rfl (lv_at hl 4 rfl) ?_
            refine lv_iload_n hX_ hB_ dL_isTold_64 rfl (lv_at hl 2 rfl) ?_
            refine xb_FSq (As := [.ref (a 0), .int (nI i4)]) (rest := []) S (xw_fuel_f l D c a n A B E i4 hN (by omega)) (vx_cwSW 2 hts gL_isTold_L_fuel rfl rfl rfl (by decide +kernel) ⟨(Nat.le_of_ble_eq_true rfl), (Nat.le_of_ble_eq_true rfl)⟩) hG hK hW hA rfl hl.1 rfl (lv_room (Nat.le_of_ble_eq_true rfl)) dL_isTold_65 ⟨(by show i4 + 0 ≤ 16; omega), (by show 6 * i4 + 0 ≤ 96; omega)⟩ (fun H locs hW => ?_)
            have hW : ze_W D ((ze_wC c a n A B E) ++ [(q, .inl (c 0, 210, .inl N))]) F s.heap _ _ := hW
            refine lv_aload_n hX_ hB_ dL_isTold_68 rfl (lv_at hl 5 rfl) ?_
            refine lv_iload hX_ hB_ dL_isTold_69 (lv_at hl 1 rfl) ?_
            refine lv_iconst (v := 4) hX_ hB_ dL_isTold_71 (by decide) ?_
            refine lv_iadd hX_ hB_ dL_isTold_72 ?_
            refine ze_top (xb_add (a := 9 * i4 + 50) (b := 4) (c := 9 * i4 + 54) (by omega)) ?_
            refine ze_ialdN hX_ hB_ hK hW ((ze_wC c a n A B E).length + 0) (f := N) (ze_appL (k := 0) rfl) (i := 9 * i4 + 54) (by omega) (by decide) dL_isTold_73 ?_
            refine ze_top (y := A 10 i4) (hR.2.2.2.1.1 i4 (by omega)).2.2.2.2.1 ?_
            refine lv_icmp_ne (tgt := 119) hX_ hB_ dL_isTold_74 (by decide) (fun c74 => ?_) (fun c74 => ?_)
            · exact absurd rfl c74
            · refine lv_aload_n hX_ hB_ dL_isTold_77 rfl (lv_at hl 4 rfl) ?_
              refine lv_iload_n hX_ hB_ dL_isTold_78 rfl (lv_at hl 2 rfl) ?_
              refine xb_FSq (As := [.ref (a 0), .int (nI i4)]) (rest := []) S (xw_given_f l D c a n A B E i4 hN (by omega)) (vx_cwSW 2 hts gL_isTold_L_given rfl rfl rfl (by decide +kernel) ⟨(Nat.le_of_ble_eq_true rfl), (Nat.le_of_ble_eq_true rfl)⟩) hG hK hW hA rfl hl.1 rfl (lv_room (Nat.le_of_ble_eq_true rfl)) dL_isTold_79 ⟨(by show i4 + 0 ≤ 16; omega), (by show 6 * i4 + 0 ≤ 96; omega)⟩ (fun H locs hW => ?_)
              have hW : ze_W D ((ze_wC c a n A B E) ++ [(q, .inl (c 0, 210, .inl N))]) F s.heap _ _ := hW
              refine lv_aload_n hX_ hB_ dL_isTold_82 rfl (lv_at hl 5 rfl) ?_
              refine lv_iload hX_ hB_ dL_isTold_83 (lv_at hl 1 rfl) ?_
              refine lv_bipush (v := 7) hX_ hB_ dL_isTold_85 (by decide) ?_
              refine lv_iadd hX_ hB_ dL_isTold_87 ?_
              refine ze_top (xb_add (a := 9 * i4 + 50) (b := 7) (c := 9 * i4 + 57) (by omega)) ?_
              refine ze_ialdN hX_ hB_ hK hW ((ze_wC c a n A B E).length + 0) (f := N) (ze_appL (k := 0) rfl) (i := 9 * i4 + 57) (by omega) (by decide) dL_isTold_88 ?_
              refine ze_top (y := A 12 i4) (hR.2.2.2.1.2.1 i4 (by omega)).2 ?_
              refine lv_icmp_ne (tgt := 119) hX_ hB_ dL_isTold_89 (by decide) (fun c89 => ?_) (fun c89 => ?_)
              · exact absurd rfl c89
              · refine lv_aload_n hX_ hB_ dL_isTold_92 rfl (lv_at hl 4 rfl) ?_
                refine lv_iload_n hX_ hB_ dL_isTold_93 rfl (lv_at hl 2 rfl) ?_
                refine xb_FSq (As := [.ref (a 0), .int (nI i4)]) (rest := []) S (xw_toGo_t2 l D hst c a n A B E i4 hN (by omega) (by rw [(xc_st0 (hC i4 (by omega))).mp c26]; decide)) (vx_cwSW 2 hts gL_isTold_L_toGo rfl rfl rfl (by decide +kernel) ⟨(Nat.le_of_ble_eq_true rfl), (Nat.le_of_ble_eq_true rfl)⟩) hG hK hW hA rfl hl.1 rfl (lv_room (Nat.le_of_ble_eq_true rfl)) dL_isTold_94 ⟨(by show i4 + 1 ≤ 16; omega), (by show 6 * i4 + 6 ≤ 96; omega)⟩ (fun H locs hW => ?_)
                have hW : ze_W D ((ze_wC c a n A B E) ++ [(q, .inl (c 0, 210, .inl N))]) F s.heap _ _ := hW
                refine lv_iload hX_ hB_ dL_isTold_97 (lv_at hl 0 rfl) ?_
                refine lv_bipush (v := 119) hX_ hB_ dL_isTold_99 (by decide) ?_
                refine lv_icmp_ne (tgt := 114) hX_ hB_ dL_isTold_101 (by decide) (fun c101 => ?_) (fun c101 => ?_)
                · refine lv_ldc (own := RL) (v := -900002) hX_ hB_ S.2.2.2.1 w1 dL_isTold_114 ?_
                  refine lv_icmp_eq (tgt := 121) hX_ hB_ dL_isTold_116 (by decide) (fun c116 => ?_) (fun c116 => ?_)
                  · refine lv_iinc (v := nI (i4 + 1)) (lv' := [(3, .int (nI (i4 + 1))), (5, .int 111), (4, .int (nI (9 * i4 + 50))), (2, .int 0), (0, .ref (a 0)), (1, .ref q)]) hX_ hB_ dL_isTold_121 hl (k := 2) rfl (ze_inc _) (by decide) rfl (fun ls hl => ?_)
                    refine lv_goto (tgt := 4) hX_ hB_ dL_isTold_124 (by decide) ?_
                    refine W.widen (k := (i4 + 1)) (n := 6 * (i4 + 1)) (by omega) (by omega) ?_
                    exact ih4 (i4 + 1) (by omega) (by omega) _ _ ls hW (lv_sub hl [0, 3, 4, 5] rfl)
                  · exact absurd c116 (by decide)
                · exact absurd c101 (by decide)
  have hl : lv_has ls 6 [(3, .int (nI 0)), (2, .int 0), (0, .ref (a 0)), (1, .ref q)] := hl
  have hW : ze_W D ((ze_wC c a n A B E) ++ [(q, .inl (c 0, 210, .inl N))]) F s.heap _ _ := hW
  exact L4 _ 0 (by omega) (Nat.lt_succ_self _) _ _ ls hW (lv_sub hl [0, 1, 2, 3] rfl)
