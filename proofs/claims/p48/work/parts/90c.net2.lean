/-! ===== the law's own methods over the net ===== -/
set_option maxHeartbeats 8000000 in
set_option maxRecDepth 100000 in
theorem xl_shares (l : Launch) (D : va_G) (c : Nat → ClassId) (q : Nat) (n : Nat → Nat) (N : Nat → Int32) (hH : xa_H n N) (m : Nat) (d : Int32) (hm : m < 6) : xb_Rn (T := Nat) l yL_shares wsL_shares 2 48 1 6 D c ([(q, .inl (c 0, 210, .inl N))] : va_W) [.ref q, .int (nI m), .int d] (fun _ => True) (fun r => r) (fun r => (([(q, .inl (c 0, 210, .inl N))] : va_W) ++ [(r, .inl (c 0, 6, .inl (xa_sh n N m d)))])) := by
  intro sz
  refine ze_start (cc := cL_shares) (maxL := 11) (ret := (some (.array .int))) (own := RL) (by decide) rfl rfl (Nat.le_of_ble_eq_true rfl) ?_
  obtain ⟨⟨hn0, hn1, hn2, hn3, hn4⟩, -⟩ := id hH
  intro p e s m_ below meth cd F ls hF hsz E0
  obtain ⟨S, hr, hlocks, hK, hW, hA, hl⟩ := E0
  have hX_ := S.1
  have hB_ := S.2.1
  have hts := S.2.2.2.2
  have hl : lv_has ls 11 [(0, .ref q), (1, .int (nI m)), (2, .int d)] := hl
  have w0 := hts (.arrayClass .int) (List.mem_cons_of_mem _ (List.mem_of_getElem? (i := 0) rfl))
  refine lv_bipush (v := 6) hX_ hB_ dL_shares_0 (by decide) ?_
  refine ze_newi (N := 6) S w0 hK hW hA (by decide) (Nat.le_of_ble_eq_true rfl) (Nat.le_of_ble_eq_true rfl) dL_shares_2 (fun qk H hW => ?_)
  refine lv_astore_n (lv' := [(3, .ref qk), (0, .ref q), (1, .int (nI m)), (2, .int d)]) hX_ hB_ dL_shares_4 rfl hl (by decide) rfl (fun ls hl => ?_)
  refine lv_iload_n hX_ hB_ dL_shares_5 rfl (lv_at hl 3 rfl) ?_
  refine lv_istore (lv' := [(4, .int d), (3, .ref qk), (0, .ref q), (1, .int (nI m)), (2, .int d)]) hX_ hB_ dL_shares_6 hl (by decide) rfl (fun ls hl => ?_)
  refine lv_iconst (v := 0) hX_ hB_ dL_shares_8 (by decide) ?_
  refine lv_istore (lv' := [(5, .int 0), (4, .int d), (3, .ref qk), (0, .ref q), (1, .int (nI m)), (2, .int d)]) hX_ hB_ dL_shares_9 hl (by decide) rfl (fun ls hl => ?_)
  have L11 : ∀ (k11 : Nat) (i11 : Nat), (i11 ≤ n 2) → (n 2 - i11) < k11 → ∀ (H : Heap) (locs : List Loc) (ls : Array Slot), ze_W D (([(q, .inl (c 0, 210, .inl N))] : va_W) ++ [(qk, .inl (c 0, 6, .inl (ze_up (xa_s0 N (n 1) m) (fun _ => 0) i11)))]) F s.heap H locs → lv_has ls 11 [(5, .int (nI i11)), (4, .int (xa_lf N (n 1) m d i11)), (3, .ref qk), (0, .ref q), (1, .int (nI m)), (2, .int d)] → W p l e { frames := 2, cells := 1, slots := 6, locals := 48 } s m_ ([.ref q, .int (nI m), .int d] : List Value).toArray below meth cd H locs 1 6 (MQ below (xb_Qr (T := Nat) D c ([(q, .inl (c 0, 210, .inl N))] : va_W) sz (fun _ => True) (fun r => r) (fun r => (([(q, .inl (c 0, 210, .inl N))] : va_W) ++ [(r, .inl (c 0, 6, .inl (xa_sh n N m d)))]))) ([.ref q, .int (nI m), .int d] : List Value).toArray s 1 6 F) (F0 m_ 11 ls []) := by
    intro k11
    induction k11 with
    | zero =>
      intro i11 h11 hk11
      exact absurd hk11 (Nat.not_lt_zero _)
    | succ k11 ih11 =>
      intro i11 h11 hk11 H locs ls hW hl
      refine lv_iload hX_ hB_ dL_shares_11 (lv_at hl 0 rfl) ?_
      refine lv_aload_n hX_ hB_ dL_shares_13 rfl (lv_at hl 3 rfl) ?_
      refine lv_iconst (v := 2) hX_ hB_ dL_shares_14 (by decide) ?_
      refine ze_ialdN hX_ hB_ hK hW 0 (f := N) (ze_appget0 rfl) (i := 2) (by omega) (by decide) dL_shares_15 ?_
      refine ze_top (y := nI (n 2)) hH.2.1.2.2.1 ?_
      refine lv_icmp_ge (tgt := 96) hX_ hB_ dL_shares_16 (by decide) (fun c16 => ?_) (fun c16 => ?_)
      · have c16 : ¬ i11 < (n 2) := Nat.not_lt.mpr ((nI_leI (a := (n 2)) (b := i11) (by omega) (by omega)).mp c16)
        have e11 : i11 = n 2 := by omega
        subst e11
        have L96 : ∀ (k96 : Nat) (sh : Nat → Int32) (lf : Int32), (xa_sl N (n 1) m (n 2) lf.toInt.toNat sh = xa_sh n N m d) → lf.toInt.toNat < k96 → ∀ (H : Heap) (locs : List Loc) (ls : Array Slot), ze_W D (([(q, .inl (c 0, 210, .inl N))] : va_W) ++ [(qk, .inl (c 0, 6, .inl sh))]) F s.heap H locs → lv_has ls 11 [(4, .int lf), (3, .ref qk), (0, .ref q), (1, .int (nI m)), (2, .int d)] → W p l e { frames := 2, cells := 1, slots := 6, locals := 48 } s m_ ([.ref q, .int (nI m), .int d] : List Value).toArray below meth cd H locs 1 6 (MQ below (xb_Qr (T := Nat) D c ([(q, .inl (c 0, 210, .inl N))] : va_W) sz (fun _ => True) (fun r => r) (fun r => (([(q, .inl (c 0, 210, .inl N))] : va_W) ++ [(r, .inl (c 0, 6, .inl (xa_sh n N m d)))]))) ([.ref q, .int (nI m), .int d] : List Value).toArray s 1 6 F) (F0 m_ 96 ls []) := by
          intro k96
          induction k96 with
          | zero =>
            intro sh lf hR hk96
            exact absurd hk96 (Nat.not_lt_zero _)
          | succ k96 ih96 =>
            intro sh lf hR hk96 H locs ls hW hl
            refine lv_iload hX_ hB_ dL_shares_96 (lv_at hl 0 rfl) ?_
            refine lv_if_le (tgt := 272) hX_ hB_ dL_shares_98 (by decide) (fun c98 => ?_) (fun c98 => ?_)
            · have hS9 := xa_sl0 hR c98
              refine lv_aload_n hX_ hB_ dL_shares_272 rfl (lv_at hl 1 rfl) ?_
              exact xb_rret (T := Nat) qk S hr (Or.inr ⟨_, rfl⟩) hlocks hF hK hW dL_shares_273 (Nat.le_of_ble_eq_true rfl) (Nat.le_of_ble_eq_true rfl) trivial rfl (by rw [hS9])
            · refine lv_iconst (v := (-1)) hX_ hB_ dL_shares_101 (by decide) ?_
              refine lv_istore (lv' := [(5, .int (-1)), (4, .int lf), (3, .ref qk), (0, .ref q), (1, .int (nI m)), (2, .int d)]) hX_ hB_ dL_shares_102 hl (by decide) rfl (fun ls hl => ?_)
              refine lv_iconst (v := 0) hX_ hB_ dL_shares_104 (by decide) ?_
              refine lv_istore (lv' := [(6, .int 0), (5, .int (-1)), (4, .int lf), (3, .ref qk), (0, .ref q), (1, .int (nI m)), (2, .int d)]) hX_ hB_ dL_shares_105 hl (by decide) rfl (fun ls hl => ?_)
              have L107 : ∀ (k107 : Nat) (i107 : Nat), (i107 ≤ n 2) → (n 2 - i107) < k107 → ∀ (H : Heap) (locs : List Loc) (ls : Array Slot), ze_W D (([(q, .inl (c 0, 210, .inl N))] : va_W) ++ [(qk, .inl (c 0, 6, .inl sh))]) F s.heap H locs → lv_has ls 11 [(6, .int (nI i107)), (5, .int (zf_on (xa_pk N (n 1) m sh i107))), (4, .int lf), (3, .ref qk), (0, .ref q), (1, .int (nI m)), (2, .int d)] → W p l e { frames := 2, cells := 1, slots := 6, locals := 48 } s m_ ([.ref q, .int (nI m), .int d] : List Value).toArray below meth cd H locs 1 6 (MQ below (xb_Qr (T := Nat) D c ([(q, .inl (c 0, 210, .inl N))] : va_W) sz (fun _ => True) (fun r => r) (fun r => (([(q, .inl (c 0, 210, .inl N))] : va_W) ++ [(r, .inl (c 0, 6, .inl (xa_sh n N m d)))]))) ([.ref q, .int (nI m), .int d] : List Value).toArray s 1 6 F) (F0 m_ 107 ls []) := by
                intro k107
                induction k107 with
                | zero =>
                  intro i107 h107 hk107
                  exact absurd hk107 (Nat.not_lt_zero _)
                | succ k107 ih107 =>
                  intro i107 h107 hk107 H locs ls hW hl
                  refine lv_iload hX_ hB_ dL_shares_107 (lv_at hl 0 rfl) ?_
                  refine lv_aload_n hX_ hB_ dL_shares_109 rfl (lv_at hl 4 rfl) ?_
                  refine lv_iconst (v := 2) hX_ hB_ dL_shares_110 (by decide) ?_
                  refine ze_ialdN hX_ hB_ hK hW 0 (f := N) (ze_appget0 rfl) (i := 2) (by omega) (by decide) dL_shares_111 ?_
                  refine ze_top (y := nI (n 2)) hH.2.1.2.2.1 ?_
                  refine lv_icmp_ge (tgt := 251) hX_ hB_ dL_shares_112 (by decide) (fun c112 => ?_) (fun c112 => ?_)
                  · have c112 : ¬ i107 < (n 2) := Nat.not_lt.mpr ((nI_leI (a := (n 2)) (b := i107) (by omega) (by omega)).mp c112)
                    have e107 : i107 = n 2 := by omega
                    subst e107
                    rcases hb : xa_pk N (n 1) m sh (n 2) with _ | b
                    · have hl : lv_has ls 11 [(6, .int (nI (n 2))), (5, .int (-1)), (4, .int lf), (3, .ref qk), (0, .ref q), (1, .int (nI m)), (2, .int d)] := by
                        rw [hb] at hl
                        exact hl
                      have hS9 := xa_sln hR c98 hb
                      refine lv_iload hX_ hB_ dL_shares_251 (lv_at hl 1 rfl) ?_
                      refine lv_if_ge (tgt := 258) hX_ hB_ dL_shares_253 (by decide) (fun c253 => ?_) (fun c253 => ?_)
                      · exact absurd c253 (by decide)
                      · refine lv_aload_n hX_ hB_ dL_shares_256 rfl (lv_at hl 3 rfl) ?_
                        exact xb_rret (T := Nat) qk S hr (Or.inr ⟨_, rfl⟩) hlocks hF hK hW dL_shares_257 (Nat.le_of_ble_eq_true rfl) (Nat.le_of_ble_eq_true rfl) trivial rfl (by rw [hS9])
                    · have hl : lv_has ls 11 [(6, .int (nI (n 2))), (5, .int (nI b)), (4, .int lf), (3, .ref qk), (0, .ref q), (1, .int (nI m)), (2, .int d)] := by
                        rw [hb] at hl
                        exact hl
                      have hb9 : b < n 2 := xa_pklt (Nat.le_refl _) hb
                      refine lv_iload hX_ hB_ dL_shares_251 (lv_at hl 1 rfl) ?_
                      refine lv_if_ge (tgt := 258) hX_ hB_ dL_shares_253 (by decide) (fun c253 => ?_) (fun c253 => ?_)
                      · have c253 : True := trivial
                        refine lv_aload_n hX_ hB_ dL_shares_258 rfl (lv_at hl 3 rfl) ?_
                        refine lv_iload hX_ hB_ dL_shares_259 (lv_at hl 1 rfl) ?_
                        refine lv_dup2_11 hX_ hB_ dL_shares_261 rfl rfl ?_
                        refine ze_ialdN hX_ hB_ hK hW (([(q, .inl (c 0, 210, .inl N))] : va_W).length + 0) (f := sh) (ze_appL (k := 0) rfl) (i := b) (by omega) (by decide) dL_shares_262 ?_
                        refine lv_iconst (v := 1) hX_ hB_ dL_shares_263 (by decide) ?_
                        refine lv_iadd hX_ hB_ dL_shares_264 ?_
                        refine ze_iastN hX_ hB_ hK hW (([(q, .inl (c 0, 210, .inl N))] : va_W).length + 0) (f := sh) (ze_appL (k := 0) rfl) (i := b) (by omega) (by decide) dL_shares_265 (ze_appset rfl) (fun H locs hW => ?_)
                        have hW : ze_W D (([(q, .inl (c 0, 210, .inl N))] : va_W) ++ [(qk, .inl (c 0, 6, .inl (upd sh b (sh b + 1))))]) F s.heap _ _ := hW
                        refine lv_iinc (v := lf + (-1)) (lv' := [(4, .int (lf + (-1))), (6, .int (nI (n 2))), (5, .int (nI b)), (3, .ref qk), (0, .ref q), (1, .int (nI m)), (2, .int d)]) hX_ hB_ dL_shares_266 hl (k := 2) rfl rfl (by decide) rfl (fun ls hl => ?_)
                        refine lv_goto (tgt := 96) hX_ hB_ dL_shares_269 (by decide) ?_
                        exact ih96 (upd sh b (sh b + 1)) (lf + (-1)) (xa_sls hR c98 hb) (xa_dlt c98 hk96) _ _ ls hW (lv_sub hl [0, 3, 4, 5, 6] rfl)
                      · exact absurd (nI_pos' (by omega)) c253
                  · have c112 : i107 < (n 2) := Nat.lt_of_not_le (fun h9 => c112 ((nI_leI (a := (n 2)) (b := i107) (by omega) (by omega)).mpr h9))
                    refine lv_aload_n hX_ hB_ dL_shares_115 rfl (lv_at hl 4 rfl) ?_
                    refine lv_iload hX_ hB_ dL_shares_116 (lv_at hl 0 rfl) ?_
                    refine lv_iload_n hX_ hB_ dL_shares_118 rfl (lv_at hl 5 rfl) ?_
                    refine ze_FSi (As := [.ref q, .int (nI i107), .int (nI m)]) (rest := []) S (xl_can l D c q n N hH i107 m (by omega) (by omega)) (va_cwS 3 hts gL_shares_L_can rfl rfl rfl (by decide +kernel) ⟨(Nat.le_of_ble_eq_true rfl), (Nat.le_of_ble_eq_true rfl)⟩) hK hW hA rfl hl.1 rfl (lv_room (Nat.le_of_ble_eq_true rfl)) dL_shares_119 ⟨(Nat.le_of_ble_eq_true rfl), (Nat.le_of_ble_eq_true rfl)⟩ (fun H locs hW => ?_)
                    have hW : ze_W D (([(q, .inl (c 0, 210, .inl N))] : va_W) ++ [(qk, .inl (c 0, 6, .inl sh))]) F s.heap _ _ := hW
                    refine lv_aload_n hX_ hB_ dL_shares_122 rfl (lv_at hl 4 rfl) ?_
                    refine lv_bipush (v := 51) hX_ hB_ dL_shares_123 (by decide) ?_
                    refine lv_bipush (v := 9) hX_ hB_ dL_shares_125 (by decide) ?_
                    refine lv_iload hX_ hB_ dL_shares_127 (lv_at hl 0 rfl) ?_
                    refine lv_imul hX_ hB_ dL_shares_129 ?_
                    refine ze_top (xb_mul (a := 9) (b := i107) (c := 9 * i107) (by omega)) ?_
                    refine lv_iadd hX_ hB_ dL_shares_130 ?_
                    refine ze_top (xb_add (a := 51) (b := 9 * i107) (c := 9 * i107 + 51) (by omega)) ?_
                    refine ze_ialdN hX_ hB_ hK hW 0 (f := N) (ze_appget0 rfl) (i := 9 * i107 + 51) (by omega) (by decide) dL_shares_131 ?_
                    refine lv_isub hX_ hB_ dL_shares_132 ?_
                    refine lv_istore (lv' := [(7, .int (xa_can N (n 1) m i107 - N (9 * i107 + 51))), (6, .int (nI i107)), (5, .int (zf_on (xa_pk N (n 1) m sh i107))), (4, .int lf), (3, .ref qk), (0, .ref q), (1, .int (nI m)), (2, .int d)]) hX_ hB_ dL_shares_133 hl (by decide) rfl (fun ls hl => ?_)
                    rcases hb : xa_pk N (n 1) m sh i107 with _ | b
                    · have hl : lv_has ls 11 [(7, .int (xa_can N (n 1) m i107 - N (9 * i107 + 51))), (6, .int (nI i107)), (5, .int (-1)), (4, .int lf), (3, .ref qk), (0, .ref q), (1, .int (nI m)), (2, .int d)] := by
                        rw [hb] at hl
                        exact hl
                      refine lv_iload hX_ hB_ dL_shares_135 (lv_at hl 2 rfl) ?_
                      refine lv_if_ge (tgt := 144) hX_ hB_ dL_shares_137 (by decide) (fun c137 => ?_) (fun c137 => ?_)
                      · exact absurd c137 (by decide)
                      · refine lv_iconst (v := 1) hX_ hB_ dL_shares_140 (by decide) ?_
                        refine lv_goto (tgt := 162) hX_ hB_ dL_shares_141 (by decide) ?_
                        refine lv_istore (lv' := [(8, .int 1), (7, .int (xa_can N (n 1) m i107 - N (9 * i107 + 51))), (6, .int (nI i107)), (5, .int (-1)), (4, .int lf), (3, .ref qk), (0, .ref q), (1, .int (nI m)), (2, .int d)]) hX_ hB_ dL_shares_162 hl (by decide) rfl (fun ls hl => ?_)
                        refine lv_aload_n hX_ hB_ dL_shares_164 rfl (lv_at hl 5 rfl) ?_
                        refine lv_iload hX_ hB_ dL_shares_165 (lv_at hl 2 rfl) ?_
                        refine ze_ialdN hX_ hB_ hK hW (([(q, .inl (c 0, 210, .inl N))] : va_W).length + 0) (f := sh) (ze_appL (k := 0) rfl) (i := i107) (by omega) (by decide) dL_shares_167 ?_
                        refine lv_aload_n hX_ hB_ dL_shares_168 rfl (lv_at hl 6 rfl) ?_
                        refine lv_bipush (v := 51) hX_ hB_ dL_shares_169 (by decide) ?_
                        refine lv_bipush (v := 9) hX_ hB_ dL_shares_171 (by decide) ?_
                        refine lv_iload hX_ hB_ dL_shares_173 (lv_at hl 2 rfl) ?_
                        refine lv_imul hX_ hB_ dL_shares_175 ?_
                        refine ze_top (xb_mul (a := 9) (b := i107) (c := 9 * i107) (by omega)) ?_
                        refine lv_iadd hX_ hB_ dL_shares_176 ?_
                        refine ze_top (xb_add (a := 51) (b := 9 * i107) (c := 9 * i107 + 51) (by omega)) ?_
                        refine ze_ialdN hX_ hB_ hK hW 0 (f := N) (ze_appget0 rfl) (i := 9 * i107 + 51) (by omega) (by decide) dL_shares_177 ?_
                        refine lv_isub hX_ hB_ dL_shares_178 ?_
                        refine lv_istore (lv' := [(9, .int (sh i107 - N (9 * i107 + 51))), (8, .int 1), (7, .int (xa_can N (n 1) m i107 - N (9 * i107 + 51))), (6, .int (nI i107)), (5, .int (-1)), (4, .int lf), (3, .ref qk), (0, .ref q), (1, .int (nI m)), (2, .int d)]) hX_ hB_ dL_shares_179 hl (by decide) rfl (fun ls hl => ?_)
                        refine lv_iload hX_ hB_ dL_shares_181 (lv_at hl 2 rfl) ?_
                        refine lv_if_le (tgt := 228) hX_ hB_ dL_shares_183 (by decide) (fun c183 => ?_) (fun c183 => ?_)
                        · refine lv_iconst (v := 0) hX_ hB_ dL_shares_228 (by decide) ?_
                          refine lv_istore (lv' := [(10, .int 0), (9, .int (sh i107 - N (9 * i107 + 51))), (8, .int 1), (7, .int (xa_can N (n 1) m i107 - N (9 * i107 + 51))), (6, .int (nI i107)), (5, .int (-1)), (4, .int lf), (3, .ref qk), (0, .ref q), (1, .int (nI m)), (2, .int d)]) hX_ hB_ dL_shares_229 hl (by decide) rfl (fun ls hl => ?_)
                          refine lv_iload hX_ hB_ dL_shares_231 (lv_at hl 0 rfl) ?_
                          refine lv_if_eq (tgt := 241) hX_ hB_ dL_shares_233 (by decide) (fun c233 => ?_) (fun c233 => ?_)
                          · refine lv_iload hX_ hB_ dL_shares_241 (lv_at hl 5 rfl) ?_
                            refine lv_istore (lv' := [(5, .int (-1)), (10, .int 0), (9, .int (sh i107 - N (9 * i107 + 51))), (8, .int 1), (7, .int (xa_can N (n 1) m i107 - N (9 * i107 + 51))), (6, .int (nI i107)), (4, .int lf), (3, .ref qk), (0, .ref q), (1, .int (nI m)), (2, .int d)]) hX_ hB_ dL_shares_243 hl (by decide) rfl (fun ls hl => ?_)
                            refine lv_iinc (v := nI (i107 + 1)) (lv' := [(6, .int (nI (i107 + 1))), (5, .int (-1)), (10, .int 0), (9, .int (sh i107 - N (9 * i107 + 51))), (8, .int 1), (7, .int (xa_can N (n 1) m i107 - N (9 * i107 + 51))), (4, .int lf), (3, .ref qk), (0, .ref q), (1, .int (nI m)), (2, .int d)]) hX_ hB_ dL_shares_245 hl (k := 5) rfl (ze_inc _) (by decide) rfl (fun ls hl => ?_)
                            refine lv_goto (tgt := 107) hX_ hB_ dL_shares_248 (by decide) ?_
                            have eL5 : (-1) = zf_on (xa_pk N (n 1) m sh (i107 + 1)) := (by simp only [xa_pk, xa_bt1, zf_on, eq_false c16, eq_false c98, eq_true c112, hb, eq_false c137, eq_true c183, eq_true c233, decide_eq_true_eq, decide_true, decide_false, Bool.false_eq_true, not_true_eq_false, not_false_eq_true, and_true, true_and, and_false, false_and, or_true, true_or, or_false, false_or, and_self, or_self, Decidable.not_not, if_true, if_false, reduceIte, reduceCtorEq, ne_eq, eq_self, Int32.lt_irrefl, Int32.le_refl, Nat.lt_irrefl])
                            have hl : lv_has ls 11 [(6, .int (nI (i107 + 1))), (5, .int (zf_on (xa_pk N (n 1) m sh (i107 + 1)))), (10, .int 0), (9, .int (sh i107 - N (9 * i107 + 51))), (8, .int 1), (7, .int (xa_can N (n 1) m i107 - N (9 * i107 + 51))), (4, .int lf), (3, .ref qk), (0, .ref q), (1, .int (nI m)), (2, .int d)] := by
                              first | (rw [← eL5]; exact hl) | (simp only [← eL5]; exact hl)
                            exact ih107 (i107 + 1) (by omega) (by omega) _ _ ls hW (lv_sub hl [0, 1, 6, 7, 8, 9, 10] rfl)
                          · exact absurd c233 (by decide)
                        · refine lv_iload hX_ hB_ dL_shares_186 (lv_at hl 0 rfl) ?_
                          refine lv_iload hX_ hB_ dL_shares_188 (lv_at hl 2 rfl) ?_
                          refine lv_icmp_ge (tgt := 228) hX_ hB_ dL_shares_190 (by decide) (fun c190 => ?_) (fun c190 => ?_)
                          · refine lv_iconst (v := 0) hX_ hB_ dL_shares_228 (by decide) ?_
                            refine lv_istore (lv' := [(10, .int 0), (9, .int (sh i107 - N (9 * i107 + 51))), (8, .int 1), (7, .int (xa_can N (n 1) m i107 - N (9 * i107 + 51))), (6, .int (nI i107)), (5, .int (-1)), (4, .int lf), (3, .ref qk), (0, .ref q), (1, .int (nI m)), (2, .int d)]) hX_ hB_ dL_shares_229 hl (by decide) rfl (fun ls hl => ?_)
                            refine lv_iload hX_ hB_ dL_shares_231 (lv_at hl 0 rfl) ?_
                            refine lv_if_eq (tgt := 241) hX_ hB_ dL_shares_233 (by decide) (fun c233 => ?_) (fun c233 => ?_)
                            · refine lv_iload hX_ hB_ dL_shares_241 (lv_at hl 5 rfl) ?_
                              refine lv_istore (lv' := [(5, .int (-1)), (10, .int 0), (9, .int (sh i107 - N (9 * i107 + 51))), (8, .int 1), (7, .int (xa_can N (n 1) m i107 - N (9 * i107 + 51))), (6, .int (nI i107)), (4, .int lf), (3, .ref qk), (0, .ref q), (1, .int (nI m)), (2, .int d)]) hX_ hB_ dL_shares_243 hl (by decide) rfl (fun ls hl => ?_)
                              refine lv_iinc (v := nI (i107 + 1)) (lv' := [(6, .int (nI (i107 + 1))), (5, .int (-1)), (10, .int 0), (9, .int (sh i107 - N (9 * i107 + 51))), (8, .int 1), (7, .int (xa_can N (n 1) m i107 - N (9 * i107 + 51))), (4, .int lf), (3, .ref qk), (0, .ref q), (1, .int (nI m)), (2, .int d)]) hX_ hB_ dL_shares_245 hl (k := 5) rfl (ze_inc _) (by decide) rfl (fun ls hl => ?_)
                              refine lv_goto (tgt := 107) hX_ hB_ dL_shares_248 (by decide) ?_
                              have eL5 : (-1) = zf_on (xa_pk N (n 1) m sh (i107 + 1)) := (by simp only [xa_pk, xa_bt1, zf_on, eq_false c16, eq_false c98, eq_true c112, hb, eq_false c137, eq_false c183, eq_true c190, eq_true c233, decide_eq_true_eq, decide_true, decide_false, Bool.false_eq_true, not_true_eq_false, not_false_eq_true, and_true, true_and, and_false, false_and, or_true, true_or, or_false, false_or, and_self, or_self, Decidable.not_not, if_true, if_false, reduceIte, reduceCtorEq, ne_eq, eq_self, Int32.lt_irrefl, Int32.le_refl, Nat.lt_irrefl])
                              have hl : lv_has ls 11 [(6, .int (nI (i107 + 1))), (5, .int (zf_on (xa_pk N (n 1) m sh (i107 + 1)))), (10, .int 0), (9, .int (sh i107 - N (9 * i107 + 51))), (8, .int 1), (7, .int (xa_can N (n 1) m i107 - N (9 * i107 + 51))), (4, .int lf), (3, .ref qk), (0, .ref q), (1, .int (nI m)), (2, .int d)] := by
                                first | (rw [← eL5]; exact hl) | (simp only [← eL5]; exact hl)
                              exact ih107 (i107 + 1) (by omega) (by omega) _ _ ls hW (lv_sub hl [0, 1, 6, 7, 8, 9, 10] rfl)
                            · exact absurd c233 (by decide)
                          · refine lv_iload hX_ hB_ dL_shares_193 (lv_at hl 4 rfl) ?_
                            refine lv_if_lt (tgt := 224) hX_ hB_ dL_shares_195 (by decide) (fun c195 => ?_) (fun c195 => ?_)
                            · refine lv_iconst (v := 1) hX_ hB_ dL_shares_224 (by decide) ?_
                              refine lv_goto (tgt := 229) hX_ hB_ dL_shares_225 (by decide) ?_
                              refine lv_istore (lv' := [(10, .int 1), (9, .int (sh i107 - N (9 * i107 + 51))), (8, .int 1), (7, .int (xa_can N (n 1) m i107 - N (9 * i107 + 51))), (6, .int (nI i107)), (5, .int (-1)), (4, .int lf), (3, .ref qk), (0, .ref q), (1, .int (nI m)), (2, .int d)]) hX_ hB_ dL_shares_229 hl (by decide) rfl (fun ls hl => ?_)
                              refine lv_iload hX_ hB_ dL_shares_231 (lv_at hl 0 rfl) ?_
                              refine lv_if_eq (tgt := 241) hX_ hB_ dL_shares_233 (by decide) (fun c233 => ?_) (fun c233 => ?_)
                              · exact absurd c233 (by decide)
                              · refine lv_iload hX_ hB_ dL_shares_236 (lv_at hl 4 rfl) ?_
                                refine lv_goto (tgt := 243) hX_ hB_ dL_shares_238 (by decide) ?_
                                refine lv_istore (lv' := [(5, .int (nI i107)), (10, .int 1), (9, .int (sh i107 - N (9 * i107 + 51))), (8, .int 1), (7, .int (xa_can N (n 1) m i107 - N (9 * i107 + 51))), (6, .int (nI i107)), (4, .int lf), (3, .ref qk), (0, .ref q), (1, .int (nI m)), (2, .int d)]) hX_ hB_ dL_shares_243 hl (by decide) rfl (fun ls hl => ?_)
                                refine lv_iinc (v := nI (i107 + 1)) (lv' := [(6, .int (nI (i107 + 1))), (5, .int (nI i107)), (10, .int 1), (9, .int (sh i107 - N (9 * i107 + 51))), (8, .int 1), (7, .int (xa_can N (n 1) m i107 - N (9 * i107 + 51))), (4, .int lf), (3, .ref qk), (0, .ref q), (1, .int (nI m)), (2, .int d)]) hX_ hB_ dL_shares_245 hl (k := 5) rfl (ze_inc _) (by decide) rfl (fun ls hl => ?_)
                                refine lv_goto (tgt := 107) hX_ hB_ dL_shares_248 (by decide) ?_
                                have eL5 : nI i107 = zf_on (xa_pk N (n 1) m sh (i107 + 1)) := (by simp only [xa_pk, xa_bt1, zf_on, eq_false c16, eq_false c98, eq_true c112, hb, eq_false c137, eq_false c183, eq_false c190, eq_true c195, eq_false c233, decide_eq_true_eq, decide_true, decide_false, Bool.false_eq_true, not_true_eq_false, not_false_eq_true, and_true, true_and, and_false, false_and, or_true, true_or, or_false, false_or, and_self, or_self, Decidable.not_not, if_true, if_false, reduceIte, reduceCtorEq, ne_eq, eq_self, Int32.lt_irrefl, Int32.le_refl, Nat.lt_irrefl])
                                have hl : lv_has ls 11 [(6, .int (nI (i107 + 1))), (5, .int (zf_on (xa_pk N (n 1) m sh (i107 + 1)))), (10, .int 1), (9, .int (sh i107 - N (9 * i107 + 51))), (8, .int 1), (7, .int (xa_can N (n 1) m i107 - N (9 * i107 + 51))), (4, .int lf), (3, .ref qk), (0, .ref q), (1, .int (nI m)), (2, .int d)] := by
                                  first | (rw [← eL5]; exact hl) | (simp only [← eL5]; exact hl)
                                exact ih107 (i107 + 1) (by omega) (by omega) _ _ ls hW (lv_sub hl [0, 1, 6, 7, 8, 9, 10] rfl)
                            · exact absurd c195 (by decide)
                    · have hl : lv_has ls 11 [(7, .int (xa_can N (n 1) m i107 - N (9 * i107 + 51))), (6, .int (nI i107)), (5, .int (nI b)), (4, .int lf), (3, .ref qk), (0, .ref q), (1, .int (nI m)), (2, .int d)] := by
                        rw [hb] at hl
                        exact hl
                      have hb9 : b < n 2 := xa_pklt h107 hb
                      refine lv_iload hX_ hB_ dL_shares_135 (lv_at hl 2 rfl) ?_
                      refine lv_if_ge (tgt := 144) hX_ hB_ dL_shares_137 (by decide) (fun c137 => ?_) (fun c137 => ?_)
                      · have c137 : True := trivial
                        refine lv_aload_n hX_ hB_ dL_shares_144 rfl (lv_at hl 5 rfl) ?_
                        refine lv_iload hX_ hB_ dL_shares_145 (lv_at hl 2 rfl) ?_
                        refine lv_iload_n hX_ hB_ dL_shares_147 rfl (lv_at hl 6 rfl) ?_
                        refine ze_FSi (As := [.ref q, .int (nI b), .int (nI m)]) (rest := []) S (xl_can l D c q n N hH b m (by omega) (by omega)) (va_cwS 3 hts gL_shares_L_can rfl rfl rfl (by decide +kernel) ⟨(Nat.le_of_ble_eq_true rfl), (Nat.le_of_ble_eq_true rfl)⟩) hK hW hA rfl hl.1 rfl (lv_room (Nat.le_of_ble_eq_true rfl)) dL_shares_148 ⟨(Nat.le_of_ble_eq_true rfl), (Nat.le_of_ble_eq_true rfl)⟩ (fun H locs hW => ?_)
                        have hW : ze_W D (([(q, .inl (c 0, 210, .inl N))] : va_W) ++ [(qk, .inl (c 0, 6, .inl sh))]) F s.heap _ _ := hW
                        refine lv_aload_n hX_ hB_ dL_shares_151 rfl (lv_at hl 5 rfl) ?_
                        refine lv_bipush (v := 51) hX_ hB_ dL_shares_152 (by decide) ?_
                        refine lv_bipush (v := 9) hX_ hB_ dL_shares_154 (by decide) ?_
                        refine lv_iload hX_ hB_ dL_shares_156 (lv_at hl 2 rfl) ?_
                        refine lv_imul hX_ hB_ dL_shares_158 ?_
                        refine ze_top (xb_mul (a := 9) (b := b) (c := 9 * b) (by omega)) ?_
                        refine lv_iadd hX_ hB_ dL_shares_159 ?_
                        refine ze_top (xb_add (a := 51) (b := 9 * b) (c := 9 * b + 51) (by omega)) ?_
                        refine ze_ialdN hX_ hB_ hK hW 0 (f := N) (ze_appget0 rfl) (i := 9 * b + 51) (by omega) (by decide) dL_shares_160 ?_
                        refine lv_isub hX_ hB_ dL_shares_161 ?_
                        refine lv_istore (lv' := [(8, .int (xa_can N (n 1) m b - N (9 * b + 51))), (7, .int (xa_can N (n 1) m i107 - N (9 * i107 + 51))), (6, .int (nI i107)), (5, .int (nI b)), (4, .int lf), (3, .ref qk), (0, .ref q), (1, .int (nI m)), (2, .int d)]) hX_ hB_ dL_shares_162 hl (by decide) rfl (fun ls hl => ?_)
                        refine lv_aload_n hX_ hB_ dL_shares_164 rfl (lv_at hl 5 rfl) ?_
                        refine lv_iload hX_ hB_ dL_shares_165 (lv_at hl 2 rfl) ?_
                        refine ze_ialdN hX_ hB_ hK hW (([(q, .inl (c 0, 210, .inl N))] : va_W).length + 0) (f := sh) (ze_appL (k := 0) rfl) (i := i107) (by omega) (by decide) dL_shares_167 ?_
                        refine lv_aload_n hX_ hB_ dL_shares_168 rfl (lv_at hl 6 rfl) ?_
                        refine lv_bipush (v := 51) hX_ hB_ dL_shares_169 (by decide) ?_
                        refine lv_bipush (v := 9) hX_ hB_ dL_shares_171 (by decide) ?_
                        refine lv_iload hX_ hB_ dL_shares_173 (lv_at hl 2 rfl) ?_
                        refine lv_imul hX_ hB_ dL_shares_175 ?_
                        refine ze_top (xb_mul (a := 9) (b := i107) (c := 9 * i107) (by omega)) ?_
                        refine lv_iadd hX_ hB_ dL_shares_176 ?_
                        refine ze_top (xb_add (a := 51) (b := 9 * i107) (c := 9 * i107 + 51) (by omega)) ?_
                        refine ze_ialdN hX_ hB_ hK hW 0 (f := N) (ze_appget0 rfl) (i := 9 * i107 + 51) (by omega) (by decide) dL_shares_177 ?_
                        refine lv_isub hX_ hB_ dL_shares_178 ?_
                        refine lv_istore (lv' := [(9, .int (sh i107 - N (9 * i107 + 51))), (8, .int (xa_can N (n 1) m b - N (9 * b + 51))), (7, .int (xa_can N (n 1) m i107 - N (9 * i107 + 51))), (6, .int (nI i107)), (5, .int (nI b)), (4, .int lf), (3, .ref qk), (0, .ref q), (1, .int (nI m)), (2, .int d)]) hX_ hB_ dL_shares_179 hl (by decide) rfl (fun ls hl => ?_)
                        refine lv_iload hX_ hB_ dL_shares_181 (lv_at hl 2 rfl) ?_
                        refine lv_if_le (tgt := 228) hX_ hB_ dL_shares_183 (by decide) (fun c183 => ?_) (fun c183 => ?_)
                        · refine lv_iconst (v := 0) hX_ hB_ dL_shares_228 (by decide) ?_
                          refine lv_istore (lv' := [(10, .int 0), (9, .int (sh i107 - N (9 * i107 + 51))), (8, .int (xa_can N (n 1) m b - N (9 * b + 51))), (7, .int (xa_can N (n 1) m i107 - N (9 * i107 + 51))), (6, .int (nI i107)), (5, .int (nI b)), (4, .int lf), (3, .ref qk), (0, .ref q), (1, .int (nI m)), (2, .int d)]) hX_ hB_ dL_shares_229 hl (by decide) rfl (fun ls hl => ?_)
                          refine lv_iload hX_ hB_ dL_shares_231 (lv_at hl 0 rfl) ?_
                          refine lv_if_eq (tgt := 241) hX_ hB_ dL_shares_233 (by decide) (fun c233 => ?_) (fun c233 => ?_)
                          · refine lv_iload hX_ hB_ dL_shares_241 (lv_at hl 5 rfl) ?_
                            refine lv_istore (lv' := [(5, .int (nI b)), (10, .int 0), (9, .int (sh i107 - N (9 * i107 + 51))), (8, .int (xa_can N (n 1) m b - N (9 * b + 51))), (7, .int (xa_can N (n 1) m i107 - N (9 * i107 + 51))), (6, .int (nI i107)), (4, .int lf), (3, .ref qk), (0, .ref q), (1, .int (nI m)), (2, .int d)]) hX_ hB_ dL_shares_243 hl (by decide) rfl (fun ls hl => ?_)
                            refine lv_iinc (v := nI (i107 + 1)) (lv' := [(6, .int (nI (i107 + 1))), (5, .int (nI b)), (10, .int 0), (9, .int (sh i107 - N (9 * i107 + 51))), (8, .int (xa_can N (n 1) m b - N (9 * b + 51))), (7, .int (xa_can N (n 1) m i107 - N (9 * i107 + 51))), (4, .int lf), (3, .ref qk), (0, .ref q), (1, .int (nI m)), (2, .int d)]) hX_ hB_ dL_shares_245 hl (k := 5) rfl (ze_inc _) (by decide) rfl (fun ls hl => ?_)
                            refine lv_goto (tgt := 107) hX_ hB_ dL_shares_248 (by decide) ?_
                            have eL5 : nI b = zf_on (xa_pk N (n 1) m sh (i107 + 1)) := (by simp only [xa_pk, xa_bt1, zf_on, eq_false c16, eq_false c98, eq_true c112, hb, eq_true c137, eq_true c183, eq_true c233, decide_eq_true_eq, decide_true, decide_false, Bool.false_eq_true, not_true_eq_false, not_false_eq_true, and_true, true_and, and_false, false_and, or_true, true_or, or_false, false_or, and_self, or_self, Decidable.not_not, if_true, if_false, reduceIte, reduceCtorEq, ne_eq, eq_self, Int32.lt_irrefl, Int32.le_refl, Nat.lt_irrefl])
                            have hl : lv_has ls 11 [(6, .int (nI (i107 + 1))), (5, .int (zf_on (xa_pk N (n 1) m sh (i107 + 1)))), (10, .int 0), (9, .int (sh i107 - N (9 * i107 + 51))), (8, .int (xa_can N (n 1) m b - N (9 * b + 51))), (7, .int (xa_can N (n 1) m i107 - N (9 * i107 + 51))), (4, .int lf), (3, .ref qk), (0, .ref q), (1, .int (nI m)), (2, .int d)] := by
                              first | (rw [← eL5]; exact hl) | (simp only [← eL5]; exact hl)
                            exact ih107 (i107 + 1) (by omega) (by omega) _ _ ls hW (lv_sub hl [0, 1, 6, 7, 8, 9, 10] rfl)
                          · exact absurd c233 (by decide)
                        · refine lv_iload hX_ hB_ dL_shares_186 (lv_at hl 0 rfl) ?_
                          refine lv_iload hX_ hB_ dL_shares_188 (lv_at hl 2 rfl) ?_
                          refine lv_icmp_ge (tgt := 228) hX_ hB_ dL_shares_190 (by decide) (fun c190 => ?_) (fun c190 => ?_)
                          · refine lv_iconst (v := 0) hX_ hB_ dL_shares_228 (by decide) ?_
                            refine lv_istore (lv' := [(10, .int 0), (9, .int (sh i107 - N (9 * i107 + 51))), (8, .int (xa_can N (n 1) m b - N (9 * b + 51))), (7, .int (xa_can N (n 1) m i107 - N (9 * i107 + 51))), (6, .int (nI i107)), (5, .int (nI b)), (4, .int lf), (3, .ref qk), (0, .ref q), (1, .int (nI m)), (2, .int d)]) hX_ hB_ dL_shares_229 hl (by decide) rfl (fun ls hl => ?_)
                            refine lv_iload hX_ hB_ dL_shares_231 (lv_at hl 0 rfl) ?_
                            refine lv_if_eq (tgt := 241) hX_ hB_ dL_shares_233 (by decide) (fun c233 => ?_) (fun c233 => ?_)
                            · refine lv_iload hX_ hB_ dL_shares_241 (lv_at hl 5 rfl) ?_
                              refine lv_istore (lv' := [(5, .int (nI b)), (10, .int 0), (9, .int (sh i107 - N (9 * i107 + 51))), (8, .int (xa_can N (n 1) m b - N (9 * b + 51))), (7, .int (xa_can N (n 1) m i107 - N (9 * i107 + 51))), (6, .int (nI i107)), (4, .int lf), (3, .ref qk), (0, .ref q), (1, .int (nI m)), (2, .int d)]) hX_ hB_ dL_shares_243 hl (by decide) rfl (fun ls hl => ?_)
                              refine lv_iinc (v := nI (i107 + 1)) (lv' := [(6, .int (nI (i107 + 1))), (5, .int (nI b)), (10, .int 0), (9, .int (sh i107 - N (9 * i107 + 51))), (8, .int (xa_can N (n 1) m b - N (9 * b + 51))), (7, .int (xa_can N (n 1) m i107 - N (9 * i107 + 51))), (4, .int lf), (3, .ref qk), (0, .ref q), (1, .int (nI m)), (2, .int d)]) hX_ hB_ dL_shares_245 hl (k := 5) rfl (ze_inc _) (by decide) rfl (fun ls hl => ?_)
                              refine lv_goto (tgt := 107) hX_ hB_ dL_shares_248 (by decide) ?_
                              have eL5 : nI b = zf_on (xa_pk N (n 1) m sh (i107 + 1)) := (by simp only [xa_pk, xa_bt1, zf_on, eq_false c16, eq_false c98, eq_true c112, hb, eq_true c137, eq_false c183, eq_true c190, eq_true c233, decide_eq_true_eq, decide_true, decide_false, Bool.false_eq_true, not_true_eq_false, not_false_eq_true, and_true, true_and, and_false, false_and, or_true, true_or, or_false, false_or, and_self, or_self, Decidable.not_not, if_true, if_false, reduceIte, reduceCtorEq, ne_eq, eq_self, Int32.lt_irrefl, Int32.le_refl, Nat.lt_irrefl])
                              have hl : lv_has ls 11 [(6, .int (nI (i107 + 1))), (5, .int (zf_on (xa_pk N (n 1) m sh (i107 + 1)))), (10, .int 0), (9, .int (sh i107 - N (9 * i107 + 51))), (8, .int (xa_can N (n 1) m b - N (9 * b + 51))), (7, .int (xa_can N (n 1) m i107 - N (9 * i107 + 51))), (4, .int lf), (3, .ref qk), (0, .ref q), (1, .int (nI m)), (2, .int d)] := by
                                first | (rw [← eL5]; exact hl) | (simp only [← eL5]; exact hl)
                              exact ih107 (i107 + 1) (by omega) (by omega) _ _ ls hW (lv_sub hl [0, 1, 6, 7, 8, 9, 10] rfl)
                            · exact absurd c233 (by decide)
                          · refine lv_iload hX_ hB_ dL_shares_193 (lv_at hl 4 rfl) ?_
                            refine lv_if_lt (tgt := 224) hX_ hB_ dL_shares_195 (by decide) (fun c195 => ?_) (fun c195 => ?_)
                            · exact absurd c195 (nI_pos (by omega))
                            · have c195 : True := trivial
                              refine lv_iload hX_ hB_ dL_shares_198 (lv_at hl 0 rfl) ?_
                              refine lv_iload hX_ hB_ dL_shares_200 (lv_at hl 1 rfl) ?_
                              refine lv_imul hX_ hB_ dL_shares_202 ?_
                              refine lv_aload_n hX_ hB_ dL_shares_203 rfl (lv_at hl 6 rfl) ?_
                              refine lv_iload hX_ hB_ dL_shares_204 (lv_at hl 4 rfl) ?_
                              refine ze_ialdN hX_ hB_ hK hW (([(q, .inl (c 0, 210, .inl N))] : va_W).length + 0) (f := sh) (ze_appL (k := 0) rfl) (i := b) (by omega) (by decide) dL_shares_206 ?_
                              refine lv_aload_n hX_ hB_ dL_shares_207 rfl (lv_at hl 7 rfl) ?_
                              refine lv_bipush (v := 51) hX_ hB_ dL_shares_208 (by decide) ?_
                              refine lv_bipush (v := 9) hX_ hB_ dL_shares_210 (by decide) ?_
                              refine lv_iload hX_ hB_ dL_shares_212 (lv_at hl 4 rfl) ?_
                              refine lv_imul hX_ hB_ dL_shares_214 ?_
                              refine ze_top (xb_mul (a := 9) (b := b) (c := 9 * b) (by omega)) ?_
                              refine lv_iadd hX_ hB_ dL_shares_215 ?_
                              refine ze_top (xb_add (a := 51) (b := 9 * b) (c := 9 * b + 51) (by omega)) ?_
                              refine ze_ialdN hX_ hB_ hK hW 0 (f := N) (ze_appget0 rfl) (i := 9 * b + 51) (by omega) (by decide) dL_shares_216 ?_
                              refine lv_isub hX_ hB_ dL_shares_217 ?_
                              refine lv_iload hX_ hB_ dL_shares_218 (lv_at hl 2 rfl) ?_
                              refine lv_imul hX_ hB_ dL_shares_220 ?_
                              refine lv_icmp_ge (tgt := 228) hX_ hB_ dL_shares_221 (by decide) (fun c221 => ?_) (fun c221 => ?_)
                              · refine lv_iconst (v := 0) hX_ hB_ dL_shares_228 (by decide) ?_
                                refine lv_istore (lv' := [(10, .int 0), (9, .int (sh i107 - N (9 * i107 + 51))), (8, .int (xa_can N (n 1) m b - N (9 * b + 51))), (7, .int (xa_can N (n 1) m i107 - N (9 * i107 + 51))), (6, .int (nI i107)), (5, .int (nI b)), (4, .int lf), (3, .ref qk), (0, .ref q), (1, .int (nI m)), (2, .int d)]) hX_ hB_ dL_shares_229 hl (by decide) rfl (fun ls hl => ?_)
                                refine lv_iload hX_ hB_ dL_shares_231 (lv_at hl 0 rfl) ?_
                                refine lv_if_eq (tgt := 241) hX_ hB_ dL_shares_233 (by decide) (fun c233 => ?_) (fun c233 => ?_)
                                · refine lv_iload hX_ hB_ dL_shares_241 (lv_at hl 5 rfl) ?_
                                  refine lv_istore (lv' := [(5, .int (nI b)), (10, .int 0), (9, .int (sh i107 - N (9 * i107 + 51))), (8, .int (xa_can N (n 1) m b - N (9 * b + 51))), (7, .int (xa_can N (n 1) m i107 - N (9 * i107 + 51))), (6, .int (nI i107)), (4, .int lf), (3, .ref qk), (0, .ref q), (1, .int (nI m)), (2, .int d)]) hX_ hB_ dL_shares_243 hl (by decide) rfl (fun ls hl => ?_)
                                  refine lv_iinc (v := nI (i107 + 1)) (lv' := [(6, .int (nI (i107 + 1))), (5, .int (nI b)), (10, .int 0), (9, .int (sh i107 - N (9 * i107 + 51))), (8, .int (xa_can N (n 1) m b - N (9 * b + 51))), (7, .int (xa_can N (n 1) m i107 - N (9 * i107 + 51))), (4, .int lf), (3, .ref qk), (0, .ref q), (1, .int (nI m)), (2, .int d)]) hX_ hB_ dL_shares_245 hl (k := 5) rfl (ze_inc _) (by decide) rfl (fun ls hl => ?_)
                                  refine lv_goto (tgt := 107) hX_ hB_ dL_shares_248 (by decide) ?_
                                  have eL5 : nI b = zf_on (xa_pk N (n 1) m sh (i107 + 1)) := (by simp only [xa_pk, xa_bt1, zf_on, eq_false c16, eq_false c98, eq_true c112, hb, eq_true c137, eq_false c183, eq_false c190, eq_true c195, eq_true c221, eq_true c233, decide_eq_true_eq, decide_true, decide_false, Bool.false_eq_true, not_true_eq_false, not_false_eq_true, and_true, true_and, and_false, false_and, or_true, true_or, or_false, false_or, and_self, or_self, Decidable.not_not, if_true, if_false, reduceIte, reduceCtorEq, ne_eq, eq_self, Int32.lt_irrefl, Int32.le_refl, Nat.lt_irrefl])
                                  have hl : lv_has ls 11 [(6, .int (nI (i107 + 1))), (5, .int (zf_on (xa_pk N (n 1) m sh (i107 + 1)))), (10, .int 0), (9, .int (sh i107 - N (9 * i107 + 51))), (8, .int (xa_can N (n 1) m b - N (9 * b + 51))), (7, .int (xa_can N (n 1) m i107 - N (9 * i107 + 51))), (4, .int lf), (3, .ref qk), (0, .ref q), (1, .int (nI m)), (2, .int d)] := by
                                    first | (rw [← eL5]; exact hl) | (simp only [← eL5]; exact hl)
                                  exact ih107 (i107 + 1) (by omega) (by omega) _ _ ls hW (lv_sub hl [0, 1, 6, 7, 8, 9, 10] rfl)
                                · exact absurd c233 (by decide)
                              · refine lv_iconst (v := 1) hX_ hB_ dL_shares_224 (by decide) ?_
                                refine lv_goto (tgt := 229) hX_ hB_ dL_shares_225 (by decide) ?_
                                refine lv_istore (lv' := [(10, .int 1), (9, .int (sh i107 - N (9 * i107 + 51))), (8, .int (xa_can N (n 1) m b - N (9 * b + 51))), (7, .int (xa_can N (n 1) m i107 - N (9 * i107 + 51))), (6, .int (nI i107)), (5, .int (nI b)), (4, .int lf), (3, .ref qk), (0, .ref q), (1, .int (nI m)), (2, .int d)]) hX_ hB_ dL_shares_229 hl (by decide) rfl (fun ls hl => ?_)
                                refine lv_iload hX_ hB_ dL_shares_231 (lv_at hl 0 rfl) ?_
                                refine lv_if_eq (tgt := 241) hX_ hB_ dL_shares_233 (by decide) (fun c233 => ?_) (fun c233 => ?_)
                                · exact absurd c233 (by decide)
                                · refine lv_iload hX_ hB_ dL_shares_236 (lv_at hl 4 rfl) ?_
                                  refine lv_goto (tgt := 243) hX_ hB_ dL_shares_238 (by decide) ?_
                                  refine lv_istore (lv' := [(5, .int (nI i107)), (10, .int 1), (9, .int (sh i107 - N (9 * i107 + 51))), (8, .int (xa_can N (n 1) m b - N (9 * b + 51))), (7, .int (xa_can N (n 1) m i107 - N (9 * i107 + 51))), (6, .int (nI i107)), (4, .int lf), (3, .ref qk), (0, .ref q), (1, .int (nI m)), (2, .int d)]) hX_ hB_ dL_shares_243 hl (by decide) rfl (fun ls hl => ?_)
                                  refine lv_iinc (v := nI (i107 + 1)) (lv' := [(6, .int (nI (i107 + 1))), (5, .int (nI i107)), (10, .int 1), (9, .int (sh i107 - N (9 * i107 + 51))), (8, .int (xa_can N (n 1) m b - N (9 * b + 51))), (7, .int (xa_can N (n 1) m i107 - N (9 * i107 + 51))), (4, .int lf), (3, .ref qk), (0, .ref q), (1, .int (nI m)), (2, .int d)]) hX_ hB_ dL_shares_245 hl (k := 5) rfl (ze_inc _) (by decide) rfl (fun ls hl => ?_)
                                  refine lv_goto (tgt := 107) hX_ hB_ dL_shares_248 (by decide) ?_
                                  have eL5 : nI i107 = zf_on (xa_pk N (n 1) m sh (i107 + 1)) := (by simp only [xa_pk, xa_bt1, zf_on, eq_false c16, eq_false c98, eq_true c112, hb, eq_true c137, eq_false c183, eq_false c190, eq_true c195, eq_false c221, eq_false c233, decide_eq_true_eq, decide_true, decide_false, Bool.false_eq_true, not_true_eq_false, not_false_eq_true, and_true, true_and, and_false, false_and, or_true, true_or, or_false, false_or, and_self, or_self, Decidable.not_not, if_true, if_false, reduceIte, reduceCtorEq, ne_eq, eq_self, Int32.lt_irrefl, Int32.le_refl, Nat.lt_irrefl])
                                  have hl : lv_has ls 11 [(6, .int (nI (i107 + 1))), (5, .int (zf_on (xa_pk N (n 1) m sh (i107 + 1)))), (10, .int 1), (9, .int (sh i107 - N (9 * i107 + 51))), (8, .int (xa_can N (n 1) m b - N (9 * b + 51))), (7, .int (xa_can N (n 1) m i107 - N (9 * i107 + 51))), (4, .int lf), (3, .ref qk), (0, .ref q), (1, .int (nI m)), (2, .int d)] := by
                                    first | (rw [← eL5]; exact hl) | (simp only [← eL5]; exact hl)
                                  exact ih107 (i107 + 1) (by omega) (by omega) _ _ ls hW (lv_sub hl [0, 1, 6, 7, 8, 9, 10] rfl)
                      · exact absurd (nI_pos' (by omega)) c137
              have hl : lv_has ls 11 [(6, .int (nI 0)), (5, .int (zf_on (xa_pk N (n 1) m sh 0))), (4, .int lf), (3, .ref qk), (0, .ref q), (1, .int (nI m)), (2, .int d)] := hl
              have hW : ze_W D (([(q, .inl (c 0, 210, .inl N))] : va_W) ++ [(qk, .inl (c 0, 6, .inl sh))]) F s.heap _ _ := hW
              exact L107 _ 0 (by omega) (Nat.lt_succ_self _) _ _ ls hW (lv_sub hl [0, 1, 2, 3, 4, 5, 6] rfl)
        exact L96 _ (ze_up (xa_s0 N (n 1) m) (fun _ => 0) (n 2)) (xa_lf N (n 1) m d (n 2)) rfl (Nat.lt_succ_self _) _ _ ls hW (lv_sub hl [1, 2, 3, 4, 5] rfl)
      · have c16 : i11 < (n 2) := Nat.lt_of_not_le (fun h9 => c16 ((nI_leI (a := (n 2)) (b := i11) (by omega) (by omega)).mpr h9))
        refine lv_aload_n hX_ hB_ dL_shares_19 rfl (lv_at hl 3 rfl) ?_
        refine lv_bipush (v := 55) hX_ hB_ dL_shares_20 (by decide) ?_
        refine lv_bipush (v := 9) hX_ hB_ dL_shares_22 (by decide) ?_
        refine lv_iload hX_ hB_ dL_shares_24 (lv_at hl 0 rfl) ?_
        refine lv_imul hX_ hB_ dL_shares_26 ?_
        refine ze_top (xb_mul (a := 9) (b := i11) (c := 9 * i11) (by omega)) ?_
        refine lv_iadd hX_ hB_ dL_shares_27 ?_
        refine ze_top (xb_add (a := 55) (b := 9 * i11) (c := 9 * i11 + 55) (by omega)) ?_
        refine ze_ialdN hX_ hB_ hK hW 0 (f := N) (ze_appget0 rfl) (i := 9 * i11 + 55) (by omega) (by decide) dL_shares_28 ?_
        refine lv_iconst (v := 2) hX_ hB_ dL_shares_29 (by decide) ?_
        refine lv_icmp_ne (tgt := 55) hX_ hB_ dL_shares_30 (by decide) (fun c30 => ?_) (fun c30 => ?_)
        · refine lv_iconst (v := 0) hX_ hB_ dL_shares_55 (by decide) ?_
          refine lv_istore (lv' := [(6, .int 0), (5, .int (nI i11)), (4, .int (xa_lf N (n 1) m d i11)), (3, .ref qk), (0, .ref q), (1, .int (nI m)), (2, .int d)]) hX_ hB_ dL_shares_56 hl (by decide) rfl (fun ls hl => ?_)
          refine lv_aload_n hX_ hB_ dL_shares_58 rfl (lv_at hl 3 rfl) ?_
          refine lv_iload hX_ hB_ dL_shares_59 (lv_at hl 1 rfl) ?_
          refine lv_iload hX_ hB_ dL_shares_61 (lv_at hl 0 rfl) ?_
          refine lv_if_eq (tgt := 79) hX_ hB_ dL_shares_63 (by decide) (fun c63 => ?_) (fun c63 => ?_)
          · refine lv_iconst (v := 0) hX_ hB_ dL_shares_79 (by decide) ?_
            refine ze_iastN hX_ hB_ hK hW (([(q, .inl (c 0, 210, .inl N))] : va_W).length + 0) (f := (ze_up (xa_s0 N (n 1) m) (fun _ => 0) i11)) (ze_appL (k := 0) rfl) (i := i11) (by omega) (by decide) dL_shares_80 (ze_appset rfl) (fun H locs hW => ?_)
            have hW : ze_W D (([(q, .inl (c 0, 210, .inl N))] : va_W) ++ [(qk, .inl (c 0, 6, .inl (upd (ze_up (xa_s0 N (n 1) m) (fun _ => 0) i11) i11 0)))]) F s.heap _ _ := hW
            refine lv_iload hX_ hB_ dL_shares_81 (lv_at hl 2 rfl) ?_
            refine lv_aload_n hX_ hB_ dL_shares_83 rfl (lv_at hl 3 rfl) ?_
            refine lv_iload hX_ hB_ dL_shares_84 (lv_at hl 1 rfl) ?_
            refine ze_ialdN hX_ hB_ hK hW (([(q, .inl (c 0, 210, .inl N))] : va_W).length + 0) (f := (upd (ze_up (xa_s0 N (n 1) m) (fun _ => 0) i11) i11 0)) (ze_appL (k := 0) rfl) (i := i11) (by omega) (by decide) dL_shares_86 ?_
            refine ze_top (ze_updat _ _ _) ?_
            refine lv_isub hX_ hB_ dL_shares_87 ?_
            refine lv_istore (lv' := [(4, .int (xa_lf N (n 1) m d i11 - 0)), (6, .int 0), (5, .int (nI i11)), (3, .ref qk), (0, .ref q), (1, .int (nI m)), (2, .int d)]) hX_ hB_ dL_shares_88 hl (by decide) rfl (fun ls hl => ?_)
            refine lv_iinc (v := nI (i11 + 1)) (lv' := [(5, .int (nI (i11 + 1))), (4, .int (xa_lf N (n 1) m d i11 - 0)), (6, .int 0), (3, .ref qk), (0, .ref q), (1, .int (nI m)), (2, .int d)]) hX_ hB_ dL_shares_90 hl (k := 2) rfl (ze_inc _) (by decide) rfl (fun ls hl => ?_)
            refine lv_goto (tgt := 11) hX_ hB_ dL_shares_93 (by decide) ?_
            have eL4 : xa_lf N (n 1) m d i11 - 0 = xa_lf N (n 1) m d (i11 + 1) := (by simp only [ze_b, xa_lf, xa_s0, xa_rn, eq_true c16, eq_false c30, eq_true c63, not_true_eq_false, not_false_eq_true, and_true, true_and, and_false, false_and, or_true, true_or, or_false, false_or, and_self, or_self, Decidable.not_not, if_true, if_false, reduceIte, reduceCtorEq, ne_eq, eq_self, Int32.lt_irrefl, Int32.le_refl, Nat.lt_irrefl])
            have hl : lv_has ls 11 [(5, .int (nI (i11 + 1))), (4, .int (xa_lf N (n 1) m d (i11 + 1))), (6, .int 0), (3, .ref qk), (0, .ref q), (1, .int (nI m)), (2, .int d)] := by
              first | (rw [← eL4]; exact hl) | (simp only [← eL4]; exact hl)
            have eW : (([(q, .inl (c 0, 210, .inl N))] : va_W) ++ [(qk, .inl (c 0, 6, .inl (upd (ze_up (xa_s0 N (n 1) m) (fun _ => 0) i11) i11 0)))]) = (([(q, .inl (c 0, 210, .inl N))] : va_W) ++ [(qk, .inl (c 0, 6, .inl (ze_up (xa_s0 N (n 1) m) (fun _ => 0) (i11 + 1))))]) := (by rw [ze_up_s (f := xa_s0 N (n 1) m) (by simp only [xa_s0, xa_rn, eq_true c16, eq_false c30, eq_true c63, not_true_eq_false, not_false_eq_true, and_true, true_and, and_false, false_and, or_true, true_or, or_false, false_or, and_self, or_self, Decidable.not_not, if_true, if_false, reduceIte, reduceCtorEq, ne_eq, eq_self, Int32.lt_irrefl, Int32.le_refl, Nat.lt_irrefl])])
            rw [eW] at hW
            exact ih11 (i11 + 1) (by omega) (by omega) _ _ ls hW (lv_sub hl [0, 1, 3, 4, 5, 6] rfl)
          · exact absurd c63 (by decide)
        · refine lv_aload_n hX_ hB_ dL_shares_33 rfl (lv_at hl 3 rfl) ?_
          refine lv_aload_n hX_ hB_ dL_shares_34 rfl (lv_at hl 3 rfl) ?_
          refine lv_bipush (v := 50) hX_ hB_ dL_shares_35 (by decide) ?_
          refine lv_bipush (v := 9) hX_ hB_ dL_shares_37 (by decide) ?_
          refine lv_iload hX_ hB_ dL_shares_39 (lv_at hl 0 rfl) ?_
          refine lv_imul hX_ hB_ dL_shares_41 ?_
          refine ze_top (xb_mul (a := 9) (b := i11) (c := 9 * i11) (by omega)) ?_
          refine lv_iadd hX_ hB_ dL_shares_42 ?_
          refine ze_top (xb_add (a := 50) (b := 9 * i11) (c := 9 * i11 + 50) (by omega)) ?_
          refine ze_ialdN hX_ hB_ hK hW 0 (f := N) (ze_appget0 rfl) (i := 9 * i11 + 50) (by omega) (by decide) dL_shares_43 ?_
          refine ze_top (y := nI (ze_ix (N (9 * i11 + 50)))) (hH.2.2.2.1 i11 (by omega)).1 ?_
          refine ze_FSi (As := [.ref q, .int (nI (ze_ix (N (9 * i11 + 50))))]) (rest := []) S (xl_island l D c q n N hH (ze_ix (N (9 * i11 + 50))) (hH.2.2.2.1 i11 (by omega)).2) (va_cwS 2 hts gL_shares_L_island rfl rfl rfl (by decide +kernel) ⟨(Nat.le_of_ble_eq_true rfl), (Nat.le_of_ble_eq_true rfl)⟩) hK hW hA rfl hl.1 rfl (lv_room (Nat.le_of_ble_eq_true rfl)) dL_shares_44 ⟨(Nat.le_of_ble_eq_true rfl), (Nat.le_of_ble_eq_true rfl)⟩ (fun H locs hW => ?_)
          have hi44 := xa_islt hH (s := (ze_ix (N (9 * i11 + 50)))) (hH.2.2.2.1 i11 (by omega)).2
          have hW : ze_W D (([(q, .inl (c 0, 210, .inl N))] : va_W) ++ [(qk, .inl (c 0, 6, .inl (ze_up (xa_s0 N (n 1) m) (fun _ => 0) i11)))]) F s.heap _ _ := hW
          refine lv_iload_n hX_ hB_ dL_shares_47 rfl (lv_at hl 4 rfl) ?_
          refine lv_icmp_ne (tgt := 55) hX_ hB_ dL_shares_48 (by decide) (fun c48 => ?_) (fun c48 => ?_)
          · have c48 : ¬ (xa_isl N (n 1) (ze_ix (N (9 * i11 + 50)))) = m := fun h9 => c48 ((nI_eq (a := (xa_isl N (n 1) (ze_ix (N (9 * i11 + 50))))) (b := m) (by omega) (by omega)).mpr h9)
            refine lv_iconst (v := 0) hX_ hB_ dL_shares_55 (by decide) ?_
            refine lv_istore (lv' := [(6, .int 0), (5, .int (nI i11)), (4, .int (xa_lf N (n 1) m d i11)), (3, .ref qk), (0, .ref q), (1, .int (nI m)), (2, .int d)]) hX_ hB_ dL_shares_56 hl (by decide) rfl (fun ls hl => ?_)
            refine lv_aload_n hX_ hB_ dL_shares_58 rfl (lv_at hl 3 rfl) ?_
            refine lv_iload hX_ hB_ dL_shares_59 (lv_at hl 1 rfl) ?_
            refine lv_iload hX_ hB_ dL_shares_61 (lv_at hl 0 rfl) ?_
            refine lv_if_eq (tgt := 79) hX_ hB_ dL_shares_63 (by decide) (fun c63 => ?_) (fun c63 => ?_)
            · refine lv_iconst (v := 0) hX_ hB_ dL_shares_79 (by decide) ?_
              refine ze_iastN hX_ hB_ hK hW (([(q, .inl (c 0, 210, .inl N))] : va_W).length + 0) (f := (ze_up (xa_s0 N (n 1) m) (fun _ => 0) i11)) (ze_appL (k := 0) rfl) (i := i11) (by omega) (by decide) dL_shares_80 (ze_appset rfl) (fun H locs hW => ?_)
              have hW : ze_W D (([(q, .inl (c 0, 210, .inl N))] : va_W) ++ [(qk, .inl (c 0, 6, .inl (upd (ze_up (xa_s0 N (n 1) m) (fun _ => 0) i11) i11 0)))]) F s.heap _ _ := hW
              refine lv_iload hX_ hB_ dL_shares_81 (lv_at hl 2 rfl) ?_
              refine lv_aload_n hX_ hB_ dL_shares_83 rfl (lv_at hl 3 rfl) ?_
              refine lv_iload hX_ hB_ dL_shares_84 (lv_at hl 1 rfl) ?_
              refine ze_ialdN hX_ hB_ hK hW (([(q, .inl (c 0, 210, .inl N))] : va_W).length + 0) (f := (upd (ze_up (xa_s0 N (n 1) m) (fun _ => 0) i11) i11 0)) (ze_appL (k := 0) rfl) (i := i11) (by omega) (by decide) dL_shares_86 ?_
              refine ze_top (ze_updat _ _ _) ?_
              refine lv_isub hX_ hB_ dL_shares_87 ?_
              refine lv_istore (lv' := [(4, .int (xa_lf N (n 1) m d i11 - 0)), (6, .int 0), (5, .int (nI i11)), (3, .ref qk), (0, .ref q), (1, .int (nI m)), (2, .int d)]) hX_ hB_ dL_shares_88 hl (by decide) rfl (fun ls hl => ?_)
              refine lv_iinc (v := nI (i11 + 1)) (lv' := [(5, .int (nI (i11 + 1))), (4, .int (xa_lf N (n 1) m d i11 - 0)), (6, .int 0), (3, .ref qk), (0, .ref q), (1, .int (nI m)), (2, .int d)]) hX_ hB_ dL_shares_90 hl (k := 2) rfl (ze_inc _) (by decide) rfl (fun ls hl => ?_)
              refine lv_goto (tgt := 11) hX_ hB_ dL_shares_93 (by decide) ?_
              have eL4 : xa_lf N (n 1) m d i11 - 0 = xa_lf N (n 1) m d (i11 + 1) := (by simp only [ze_b, xa_lf, xa_s0, xa_rn, eq_true c16, eq_true c30, eq_false c48, eq_true c63, not_true_eq_false, not_false_eq_true, and_true, true_and, and_false, false_and, or_true, true_or, or_false, false_or, and_self, or_self, Decidable.not_not, if_true, if_false, reduceIte, reduceCtorEq, ne_eq, eq_self, Int32.lt_irrefl, Int32.le_refl, Nat.lt_irrefl])
              have hl : lv_has ls 11 [(5, .int (nI (i11 + 1))), (4, .int (xa_lf N (n 1) m d (i11 + 1))), (6, .int 0), (3, .ref qk), (0, .ref q), (1, .int (nI m)), (2, .int d)] := by
                first | (rw [← eL4]; exact hl) | (simp only [← eL4]; exact hl)
              have eW : (([(q, .inl (c 0, 210, .inl N))] : va_W) ++ [(qk, .inl (c 0, 6, .inl (upd (ze_up (xa_s0 N (n 1) m) (fun _ => 0) i11) i11 0)))]) = (([(q, .inl (c 0, 210, .inl N))] : va_W) ++ [(qk, .inl (c 0, 6, .inl (ze_up (xa_s0 N (n 1) m) (fun _ => 0) (i11 + 1))))]) := (by rw [ze_up_s (f := xa_s0 N (n 1) m) (by simp only [xa_s0, xa_rn, eq_true c16, eq_true c30, eq_false c48, eq_true c63, not_true_eq_false, not_false_eq_true, and_true, true_and, and_false, false_and, or_true, true_or, or_false, false_or, and_self, or_self, Decidable.not_not, if_true, if_false, reduceIte, reduceCtorEq, ne_eq, eq_self, Int32.lt_irrefl, Int32.le_refl, Nat.lt_irrefl])])
              rw [eW] at hW
              exact ih11 (i11 + 1) (by omega) (by omega) _ _ ls hW (lv_sub hl [0, 1, 3, 4, 5, 6] rfl)
            · exact absurd c63 (by decide)
          · have c48 : (xa_isl N (n 1) (ze_ix (N (9 * i11 + 50)))) = m := (nI_eq (a := (xa_isl N (n 1) (ze_ix (N (9 * i11 + 50))))) (b := m) (by omega) (by omega)).mp c48
            refine lv_iconst (v := 1) hX_ hB_ dL_shares_51 (by decide) ?_
            refine lv_goto (tgt := 56) hX_ hB_ dL_shares_52 (by decide) ?_
            refine lv_istore (lv' := [(6, .int 1), (5, .int (nI i11)), (4, .int (xa_lf N (n 1) m d i11)), (3, .ref qk), (0, .ref q), (1, .int (nI m)), (2, .int d)]) hX_ hB_ dL_shares_56 hl (by decide) rfl (fun ls hl => ?_)
            refine lv_aload_n hX_ hB_ dL_shares_58 rfl (lv_at hl 3 rfl) ?_
            refine lv_iload hX_ hB_ dL_shares_59 (lv_at hl 1 rfl) ?_
            refine lv_iload hX_ hB_ dL_shares_61 (lv_at hl 0 rfl) ?_
            refine lv_if_eq (tgt := 79) hX_ hB_ dL_shares_63 (by decide) (fun c63 => ?_) (fun c63 => ?_)
            · exact absurd c63 (by decide)
            · refine lv_aload_n hX_ hB_ dL_shares_66 rfl (lv_at hl 4 rfl) ?_
              refine lv_bipush (v := 51) hX_ hB_ dL_shares_67 (by decide) ?_
              refine lv_bipush (v := 9) hX_ hB_ dL_shares_69 (by decide) ?_
              refine lv_iload hX_ hB_ dL_shares_71 (lv_at hl 1 rfl) ?_
              refine lv_imul hX_ hB_ dL_shares_73 ?_
              refine ze_top (xb_mul (a := 9) (b := i11) (c := 9 * i11) (by omega)) ?_
              refine lv_iadd hX_ hB_ dL_shares_74 ?_
              refine ze_top (xb_add (a := 51) (b := 9 * i11) (c := 9 * i11 + 51) (by omega)) ?_
              refine ze_ialdN hX_ hB_ hK hW 0 (f := N) (ze_appget0 rfl) (i := 9 * i11 + 51) (by omega) (by decide) dL_shares_75 ?_
              refine lv_goto (tgt := 80) hX_ hB_ dL_shares_76 (by decide) ?_
              refine ze_iastN hX_ hB_ hK hW (([(q, .inl (c 0, 210, .inl N))] : va_W).length + 0) (f := (ze_up (xa_s0 N (n 1) m) (fun _ => 0) i11)) (ze_appL (k := 0) rfl) (i := i11) (by omega) (by decide) dL_shares_80 (ze_appset rfl) (fun H locs hW => ?_)
              have hW : ze_W D (([(q, .inl (c 0, 210, .inl N))] : va_W) ++ [(qk, .inl (c 0, 6, .inl (upd (ze_up (xa_s0 N (n 1) m) (fun _ => 0) i11) i11 (N (9 * i11 + 51)))))]) F s.heap _ _ := hW
              refine lv_iload hX_ hB_ dL_shares_81 (lv_at hl 2 rfl) ?_
              refine lv_aload_n hX_ hB_ dL_shares_83 rfl (lv_at hl 3 rfl) ?_
              refine lv_iload hX_ hB_ dL_shares_84 (lv_at hl 1 rfl) ?_
              refine ze_ialdN hX_ hB_ hK hW (([(q, .inl (c 0, 210, .inl N))] : va_W).length + 0) (f := (upd (ze_up (xa_s0 N (n 1) m) (fun _ => 0) i11) i11 (N (9 * i11 + 51)))) (ze_appL (k := 0) rfl) (i := i11) (by omega) (by decide) dL_shares_86 ?_
              refine ze_top (ze_updat _ _ _) ?_
              refine lv_isub hX_ hB_ dL_shares_87 ?_
              refine lv_istore (lv' := [(4, .int (xa_lf N (n 1) m d i11 - N (9 * i11 + 51))), (6, .int 1), (5, .int (nI i11)), (3, .ref qk), (0, .ref q), (1, .int (nI m)), (2, .int d)]) hX_ hB_ dL_shares_88 hl (by decide) rfl (fun ls hl => ?_)
              refine lv_iinc (v := nI (i11 + 1)) (lv' := [(5, .int (nI (i11 + 1))), (4, .int (xa_lf N (n 1) m d i11 - N (9 * i11 + 51))), (6, .int 1), (3, .ref qk), (0, .ref q), (1, .int (nI m)), (2, .int d)]) hX_ hB_ dL_shares_90 hl (k := 2) rfl (ze_inc _) (by decide) rfl (fun ls hl => ?_)
              refine lv_goto (tgt := 11) hX_ hB_ dL_shares_93 (by decide) ?_
              have eL4 : xa_lf N (n 1) m d i11 - N (9 * i11 + 51) = xa_lf N (n 1) m d (i11 + 1) := (by simp only [ze_b, xa_lf, xa_s0, xa_rn, eq_true c16, eq_true c30, eq_true c48, eq_false c63, not_true_eq_false, not_false_eq_true, and_true, true_and, and_false, false_and, or_true, true_or, or_false, false_or, and_self, or_self, Decidable.not_not, if_true, if_false, reduceIte, reduceCtorEq, ne_eq, eq_self, Int32.lt_irrefl, Int32.le_refl, Nat.lt_irrefl])
              have hl : lv_has ls 11 [(5, .int (nI (i11 + 1))), (4, .int (xa_lf N (n 1) m d (i11 + 1))), (6, .int 1), (3, .ref qk), (0, .ref q), (1, .int (nI m)), (2, .int d)] := by
                first | (rw [← eL4]; exact hl) | (simp only [← eL4]; exact hl)
              have eW : (([(q, .inl (c 0, 210, .inl N))] : va_W) ++ [(qk, .inl (c 0, 6, .inl (upd (ze_up (xa_s0 N (n 1) m) (fun _ => 0) i11) i11 (N (9 * i11 + 51)))))]) = (([(q, .inl (c 0, 210, .inl N))] : va_W) ++ [(qk, .inl (c 0, 6, .inl (ze_up (xa_s0 N (n 1) m) (fun _ => 0) (i11 + 1))))]) := (by rw [ze_up_s (f := xa_s0 N (n 1) m) (by simp only [xa_s0, xa_rn, eq_true c16, eq_true c30, eq_true c48, eq_false c63, not_true_eq_false, not_false_eq_true, and_true, true_and, and_false, false_and, or_true, true_or, or_false, false_or, and_self, or_self, Decidable.not_not, if_true, if_false, reduceIte, reduceCtorEq, ne_eq, eq_self, Int32.lt_irrefl, Int32.le_refl, Nat.lt_irrefl])])
              rw [eW] at hW
              exact ih11 (i11 + 1) (by omega) (by omega) _ _ ls hW (lv_sub hl [0, 1, 3, 4, 5, 6] rfl)
  have hl : lv_has ls 11 [(5, .int (nI 0)), (4, .int (xa_lf N (n 1) m d 0)), (3, .ref qk), (0, .ref q), (1, .int (nI m)), (2, .int d)] := hl
  have hW : ze_W D (([(q, .inl (c 0, 210, .inl N))] : va_W) ++ [(qk, .inl (c 0, 6, .inl (ze_up (xa_s0 N (n 1) m) (fun _ => 0) 0)))]) F s.heap _ _ := (by rw [ze_up_0]; exact hW)
  exact L11 _ 0 (by omega) (Nat.lt_succ_self _) _ _ ls hW (lv_sub hl [0, 1, 2, 3, 4, 5] rfl)
set_option maxHeartbeats 8000000 in
set_option maxRecDepth 100000 in
theorem xl_sheds (l : Launch) (D : va_G) (c : Nat → ClassId) (q : Nat) (n : Nat → Nat) (N : Nat → Int32) (hH : xa_H n N) (m : Nat) (hm : m < 6) : ze_V l yL_sheds wsL_sheds 4 94 0 0 D c ([(q, .inl (c 0, 210, .inl N))] : va_W) [.ref q, .int (nI m)] ([(q, .inl (c 0, 210, .inl (xa_sd n N m (n 4))))] : va_W) := by
  intro sz
  refine ze_start (cc := cL_sheds) (maxL := 6) (ret := none) (own := RL) (by decide) rfl rfl (Nat.le_of_ble_eq_true rfl) ?_
  obtain ⟨⟨hn0, hn1, hn2, hn3, hn4⟩, -⟩ := id hH
  intro p e s m_ below meth cd F ls hF hsz E0
  obtain ⟨S, hr, hlocks, hK, hW, hA, hl⟩ := E0
  have hX_ := S.1
  have hB_ := S.2.1
  have hts := S.2.2.2.2
  have hl : lv_has ls 6 [(0, .ref q), (1, .int (nI m))] := hl
  have w0 := hts (.methodLink RL 140 Lib.Math.max.name) (List.mem_cons_of_mem _ (List.mem_of_getElem? (i := 0) rfl))
  have w1 := hts (.static Lib.Math.max.name) (List.mem_cons_of_mem _ (List.mem_of_getElem? (i := 1) rfl))
  have w2 := hts (.initialized "java/lang/Math") (List.mem_cons_of_mem _ (List.mem_of_getElem? (i := 2) rfl))
  have w3 := hts (.code Lib.Math.max.name Lib.Math.max.code 2 (some .int)) (List.mem_cons_of_mem _ (List.mem_of_getElem? (i := 3) rfl))
  refine lv_iconst (v := 0) hX_ hB_ dL_sheds_0 (by decide) ?_
  refine lv_istore_n (lv' := [(2, .int 0), (0, .ref q), (1, .int (nI m))]) hX_ hB_ dL_sheds_1 rfl hl (by decide) rfl (fun ls hl => ?_)
  have L2 : ∀ (k2 : Nat) (i2 : Nat), (i2 ≤ n 4) → (n 4 - i2) < k2 → ∀ (H : Heap) (locs : List Loc) (ls : Array Slot), ze_W D ([(q, .inl (c 0, 210, .inl (xa_sd n N m i2)))] : va_W) F s.heap H locs → lv_has ls 6 [(2, .int (nI i2)), (0, .ref q), (1, .int (nI m))] → W p l e { frames := 4, cells := 0, slots := 0, locals := 94 } s m_ ([.ref q, .int (nI m)] : List Value).toArray below meth cd H locs 0 0 (MQ below (ze_Qv D c ([(q, .inl (c 0, 210, .inl N))] : va_W) sz ([(q, .inl (c 0, 210, .inl (xa_sd n N m (n 4))))] : va_W)) ([.ref q, .int (nI m)] : List Value).toArray s 0 0 F) (F0 m_ 2 ls []) := by
    intro k2
    induction k2 with
    | zero =>
      intro i2 h2 hk2
      exact absurd hk2 (Nat.not_lt_zero _)
    | succ k2 ih2 =>
      intro i2 h2 hk2 H locs ls hW hl
      have hHi := xa_sdH hH m (i := i2) h2
      refine lv_iload_n hX_ hB_ dL_sheds_2 rfl (lv_at hl 0 rfl) ?_
      refine lv_aload_n hX_ hB_ dL_sheds_3 rfl (lv_at hl 1 rfl) ?_
      refine lv_iconst (v := 4) hX_ hB_ dL_sheds_4 (by decide) ?_
      refine ze_ialdN hX_ hB_ hK hW 0 (f := (xa_sd n N m i2)) rfl (i := 4) (by omega) (by decide) dL_sheds_5 ?_
      refine ze_top (y := nI (n 4)) hHi.2.1.2.2.2.2 ?_
      refine lv_icmp_ge (tgt := 122) hX_ hB_ dL_sheds_6 (by decide) (fun c6 => ?_) (fun c6 => ?_)
      · have c6 : ¬ i2 < (n 4) := Nat.not_lt.mpr ((nI_leI (a := (n 4)) (b := i2) (by omega) (by omega)).mp c6)
        have e2 : i2 = n 4 := by omega
        subst e2
        exact ze_vret S hr hlocks hF hK hW dL_sheds_122 (Nat.le_of_ble_eq_true rfl) (Nat.le_of_ble_eq_true rfl) rfl
      · have c6 : i2 < (n 4) := Nat.lt_of_not_le (fun h9 => c6 ((nI_leI (a := (n 4)) (b := i2) (by omega) (by omega)).mpr h9))
        refine lv_sipush (v := 140) hX_ hB_ dL_sheds_9 (by decide) ?_
        refine lv_iconst (v := 5) hX_ hB_ dL_sheds_12 (by decide) ?_
        refine lv_iload_n hX_ hB_ dL_sheds_13 rfl (lv_at hl 0 rfl) ?_
        refine lv_imul hX_ hB_ dL_sheds_14 ?_
        refine ze_top (xb_mul (a := 5) (b := i2) (c := 5 * i2) (by omega)) ?_
        refine lv_iadd hX_ hB_ dL_sheds_15 ?_
        refine ze_top (xb_add (a := 140) (b := 5 * i2) (c := 5 * i2 + 140) (by omega)) ?_
        refine lv_istore_n (lv' := [(3, .int (nI (5 * i2 + 140))), (2, .int (nI i2)), (0, .ref q), (1, .int (nI m))]) hX_ hB_ dL_sheds_16 rfl hl (by decide) rfl (fun ls hl => ?_)
        refine lv_aload_n hX_ hB_ dL_sheds_17 rfl (lv_at hl 2 rfl) ?_
        refine lv_aload_n hX_ hB_ dL_sheds_18 rfl (lv_at hl 2 rfl) ?_
        refine lv_iload_n hX_ hB_ dL_sheds_19 rfl (lv_at hl 0 rfl) ?_
        refine ze_ialdN hX_ hB_ hK hW 0 (f := (xa_sd n N m i2)) rfl (i := 5 * i2 + 140) (by omega) (by decide) dL_sheds_20 ?_
        refine ze_top (y := nI (ze_ix ((xa_sd n N m i2) (5 * i2 + 140)))) (hHi.2.2.2.2.2 i2 (by omega)).1 ?_
        have hW := ze_W0 hW
        refine ze_FSi (As := [.ref q, .int (nI (ze_ix ((xa_sd n N m i2) (5 * i2 + 140))))]) (rest := []) S (xl_island l D c q n (xa_sd n N m i2) hHi (ze_ix ((xa_sd n N m i2) (5 * i2 + 140))) (hHi.2.2.2.2.2 i2 (by omega)).2) (va_cwS 2 hts gL_sheds_L_island rfl rfl rfl (by decide +kernel) ⟨(Nat.le_of_ble_eq_true rfl), (Nat.le_of_ble_eq_true rfl)⟩) hK hW hA rfl hl.1 rfl (lv_room (Nat.le_of_ble_eq_true rfl)) dL_sheds_21 ⟨(Nat.le_of_ble_eq_true rfl), (Nat.le_of_ble_eq_true rfl)⟩ (fun H locs hW => ?_)
        have hi21 := xa_islt hHi (s := (ze_ix ((xa_sd n N m i2) (5 * i2 + 140)))) (hHi.2.2.2.2.2 i2 (by omega)).2
        have hW := ze_W0' hW
        have hW : ze_W D ([(q, .inl (c 0, 210, .inl (xa_sd n N m i2)))] : va_W) F s.heap _ _ := hW
        refine lv_iload_n hX_ hB_ dL_sheds_24 rfl (lv_at hl 3 rfl) ?_
        refine lv_icmp_ne (tgt := 116) hX_ hB_ dL_sheds_25 (by decide) (fun c25 => ?_) (fun c25 => ?_)
        · have c25 : ¬ (xa_isl (xa_sd n N m i2) (n 1) (ze_ix ((xa_sd n N m i2) (5 * i2 + 140)))) = m := fun h9 => c25 ((nI_eq (a := (xa_isl (xa_sd n N m i2) (n 1) (ze_ix ((xa_sd n N m i2) (5 * i2 + 140))))) (b := m) (by omega) (by omega)).mpr h9)
          refine lv_iinc (v := nI (i2 + 1)) (lv' := [(2, .int (nI (i2 + 1))), (3, .int (nI (5 * i2 + 140))), (0, .ref q), (1, .int (nI m))]) hX_ hB_ dL_sheds_116 hl (k := 1) rfl (ze_inc _) (by decide) rfl (fun ls hl => ?_)
          refine lv_goto (tgt := 2) hX_ hB_ dL_sheds_119 (by decide) ?_
          have eW : ([(q, .inl (c 0, 210, .inl (xa_sd n N m i2)))] : va_W) = ([(q, .inl (c 0, 210, .inl (xa_sd n N m (i2 + 1))))] : va_W) := (by simp only [xa_sd, xa_d1, xa_w1, ze_b, eq_true c6, eq_false c25, not_true_eq_false, not_false_eq_true, and_true, true_and, and_false, false_and, or_true, true_or, or_false, false_or, and_self, or_self, Decidable.not_not, if_true, if_false, reduceIte, reduceCtorEq, ne_eq, eq_self, Int32.lt_irrefl, Int32.le_refl, Nat.lt_irrefl])
          rw [eW] at hW
          exact ih2 (i2 + 1) (by omega) (by omega) _ _ ls hW (lv_sub hl [0, 2, 3] rfl)
        · have c25 : (xa_isl (xa_sd n N m i2) (n 1) (ze_ix ((xa_sd n N m i2) (5 * i2 + 140)))) = m := (nI_eq (a := (xa_isl (xa_sd n N m i2) (n 1) (ze_ix ((xa_sd n N m i2) (5 * i2 + 140))))) (b := m) (by omega) (by omega)).mp c25
          refine lv_aload_n hX_ hB_ dL_sheds_28 rfl (lv_at hl 2 rfl) ?_
          refine lv_iload_n hX_ hB_ dL_sheds_29 rfl (lv_at hl 1 rfl) ?_
          have hW := ze_W0 hW
          refine ze_FSi (As := [.ref q, .int (nI i2)]) (rest := []) S (xl_keeps l D c q n (xa_sd n N m i2) hHi i2 (by omega)) (va_cwS 2 hts gL_sheds_L_keeps rfl rfl rfl (by decide +kernel) ⟨(Nat.le_of_ble_eq_true rfl), (Nat.le_of_ble_eq_true rfl)⟩) hK hW hA rfl hl.1 rfl (lv_room (Nat.le_of_ble_eq_true rfl)) dL_sheds_30 ⟨(Nat.le_of_ble_eq_true rfl), (Nat.le_of_ble_eq_true rfl)⟩ (fun H locs hW => ?_)
          have hW := ze_W0' hW
          have hW : ze_W D ([(q, .inl (c 0, 210, .inl (xa_sd n N m i2)))] : va_W) F s.heap _ _ := hW
          refine lv_istore (lv' := [(4, .int (ze_b (xa_kp n (xa_sd n N m i2) i2))), (3, .int (nI (5 * i2 + 140))), (2, .int (nI i2)), (0, .ref q), (1, .int (nI m))]) hX_ hB_ dL_sheds_33 hl (by decide) rfl (fun ls hl => ?_)
          refine lv_aload_n hX_ hB_ dL_sheds_35 rfl (lv_at hl 3 rfl) ?_
          refine lv_iload_n hX_ hB_ dL_sheds_36 rfl (lv_at hl 1 rfl) ?_
          refine lv_iconst (v := 3) hX_ hB_ dL_sheds_37 (by decide) ?_
          refine lv_iadd hX_ hB_ dL_sheds_38 ?_
          refine ze_top (xb_add (a := 5 * i2 + 140) (b := 3) (c := 5 * i2 + 143) (by omega)) ?_
          refine ze_ialdN hX_ hB_ hK hW 0 (f := (xa_sd n N m i2)) rfl (i := 5 * i2 + 143) (by omega) (by decide) dL_sheds_39 ?_
          refine lv_iconst (v := 1) hX_ hB_ dL_sheds_40 (by decide) ?_
          refine lv_icmp_ne (tgt := 48) hX_ hB_ dL_sheds_41 (by decide) (fun c41 => ?_) (fun c41 => ?_)
          · refine lv_iconst (v := 0) hX_ hB_ dL_sheds_48 (by decide) ?_
            refine lv_istore (lv' := [(5, .int 0), (4, .int (ze_b (xa_kp n (xa_sd n N m i2) i2))), (3, .int (nI (5 * i2 + 140))), (2, .int (nI i2)), (0, .ref q), (1, .int (nI m))]) hX_ hB_ dL_sheds_49 hl (by decide) rfl (fun ls hl => ?_)
            refine lv_aload_n hX_ hB_ dL_sheds_51 rfl (lv_at hl 4 rfl) ?_
            refine lv_iload_n hX_ hB_ dL_sheds_52 rfl (lv_at hl 2 rfl) ?_
            refine lv_iconst (v := 3) hX_ hB_ dL_sheds_53 (by decide) ?_
            refine lv_iadd hX_ hB_ dL_sheds_54 ?_
            refine ze_top (xb_add (a := 5 * i2 + 140) (b := 3) (c := 5 * i2 + 143) (by omega)) ?_
            refine lv_iload hX_ hB_ dL_sheds_55 (lv_at hl 1 rfl) ?_
            refine lv_if_eq (tgt := 73) hX_ hB_ dL_sheds_57 (by decide) (fun c57 => ?_) (fun c57 => ?_)
            · have c57 : ¬ (xa_kp n (xa_sd n N m i2) i2) := ze_bf c57
              refine lv_iconst (v := 1) hX_ hB_ dL_sheds_73 (by decide) ?_
              refine lv_goto (tgt := 78) hX_ hB_ dL_sheds_74 (by decide) ?_
              refine ze_iastN hX_ hB_ hK hW 0 (f := (xa_sd n N m i2)) rfl (i := 5 * i2 + 143) (by omega) (by decide) dL_sheds_78 rfl (fun H locs hW => ?_)
              have hW : ze_W D ([(q, .inl (c 0, 210, .inl (upd (xa_sd n N m i2) (5 * i2 + 143) 1)))] : va_W) F s.heap _ _ := hW
              refine lv_aload_n hX_ hB_ dL_sheds_79 rfl (lv_at hl 4 rfl) ?_
              refine lv_iload_n hX_ hB_ dL_sheds_80 rfl (lv_at hl 2 rfl) ?_
              refine lv_iconst (v := 4) hX_ hB_ dL_sheds_81 (by decide) ?_
              refine lv_iadd hX_ hB_ dL_sheds_82 ?_
              refine ze_top (xb_add (a := 5 * i2 + 140) (b := 4) (c := 5 * i2 + 144) (by omega)) ?_
              refine lv_iload hX_ hB_ dL_sheds_83 (lv_at hl 1 rfl) ?_
              refine lv_if_ne (tgt := 95) hX_ hB_ dL_sheds_85 (by decide) (fun c85 => ?_) (fun c85 => ?_)
              · have c85 : xa_kp n (xa_sd n N m i2) i2 := ze_bt c85
                exact absurd c85 c57
              · have c85 : ¬ (xa_kp n (xa_sd n N m i2) i2) := ze_bf c85
                refine lv_aload_n hX_ hB_ dL_sheds_88 rfl (lv_at hl 4 rfl) ?_
                refine lv_bipush (v := 6) hX_ hB_ dL_sheds_89 (by decide) ?_
                refine ze_ialdN hX_ hB_ hK hW 0 (f := (upd (xa_sd n N m i2) (5 * i2 + 143) 1)) rfl (i := 6) (by omega) (by decide) dL_sheds_91 ?_
                refine ze_top (xb_un (by omega)) ?_
                refine lv_goto (tgt := 115) hX_ hB_ dL_sheds_92 (by decide) ?_
                refine ze_iastN hX_ hB_ hK hW 0 (f := (upd (xa_sd n N m i2) (5 * i2 + 143) 1)) rfl (i := 5 * i2 + 144) (by omega) (by decide) dL_sheds_115 rfl (fun H locs hW => ?_)
                have hW : ze_W D ([(q, .inl (c 0, 210, .inl (upd (upd (xa_sd n N m i2) (5 * i2 + 143) 1) (5 * i2 + 144) ((xa_sd n N m i2) 6))))] : va_W) F s.heap _ _ := hW
                refine lv_iinc (v := nI (i2 + 1)) (lv' := [(2, .int (nI (i2 + 1))), (5, .int 0), (4, .int (ze_b (xa_kp n (xa_sd n N m i2) i2))), (3, .int (nI (5 * i2 + 140))), (0, .ref q), (1, .int (nI m))]) hX_ hB_ dL_sheds_116 hl (k := 3) rfl (ze_inc _) (by decide) rfl (fun ls hl => ?_)
                refine lv_goto (tgt := 2) hX_ hB_ dL_sheds_119 (by decide) ?_
                have eW : ([(q, .inl (c 0, 210, .inl (upd (upd (xa_sd n N m i2) (5 * i2 + 143) 1) (5 * i2 + 144) ((xa_sd n N m i2) 6))))] : va_W) = ([(q, .inl (c 0, 210, .inl (xa_sd n N m (i2 + 1))))] : va_W) := (by simp only [xa_sd, xa_d1, xa_w1, ze_b, eq_true c6, eq_true c25, eq_false c41, eq_false c57, eq_false c85, not_true_eq_false, not_false_eq_true, and_true, true_and, and_false, false_and, or_true, true_or, or_false, false_or, and_self, or_self, Decidable.not_not, if_true, if_false, reduceIte, reduceCtorEq, ne_eq, eq_self, Int32.lt_irrefl, Int32.le_refl, Nat.lt_irrefl])
                rw [eW] at hW
                exact ih2 (i2 + 1) (by omega) (by omega) _ _ ls hW (lv_sub hl [0, 4, 5] rfl)
            · have c57 : xa_kp n (xa_sd n N m i2) i2 := ze_bt c57
              refine lv_iload hX_ hB_ dL_sheds_60 (lv_at hl 0 rfl) ?_
              refine lv_if_eq (tgt := 77) hX_ hB_ dL_sheds_62 (by decide) (fun c62 => ?_) (fun c62 => ?_)
              · refine lv_iconst (v := 0) hX_ hB_ dL_sheds_77 (by decide) ?_
                refine ze_iastN hX_ hB_ hK hW 0 (f := (xa_sd n N m i2)) rfl (i := 5 * i2 + 143) (by omega) (by decide) dL_sheds_78 rfl (fun H locs hW => ?_)
                have hW : ze_W D ([(q, .inl (c 0, 210, .inl (upd (xa_sd n N m i2) (5 * i2 + 143) 0)))] : va_W) F s.heap _ _ := hW
                refine lv_aload_n hX_ hB_ dL_sheds_79 rfl (lv_at hl 4 rfl) ?_
                refine lv_iload_n hX_ hB_ dL_sheds_80 rfl (lv_at hl 2 rfl) ?_
                refine lv_iconst (v := 4) hX_ hB_ dL_sheds_81 (by decide) ?_
                refine lv_iadd hX_ hB_ dL_sheds_82 ?_
                refine ze_top (xb_add (a := 5 * i2 + 140) (b := 4) (c := 5 * i2 + 144) (by omega)) ?_
                refine lv_iload hX_ hB_ dL_sheds_83 (lv_at hl 1 rfl) ?_
                refine lv_if_ne (tgt := 95) hX_ hB_ dL_sheds_85 (by decide) (fun c85 => ?_) (fun c85 => ?_)
                · have c85 : xa_kp n (xa_sd n N m i2) i2 := ze_bt c85
                  refine lv_iconst (v := 0) hX_ hB_ dL_sheds_95 (by decide) ?_
                  refine lv_aload_n hX_ hB_ dL_sheds_96 rfl (lv_at hl 4 rfl) ?_
                  refine lv_iload_n hX_ hB_ dL_sheds_97 rfl (lv_at hl 2 rfl) ?_
                  refine lv_iconst (v := 4) hX_ hB_ dL_sheds_98 (by decide) ?_
                  refine lv_iadd hX_ hB_ dL_sheds_99 ?_
                  refine ze_top (xb_add (a := 5 * i2 + 140) (b := 4) (c := 5 * i2 + 144) (by omega)) ?_
                  refine ze_ialdN hX_ hB_ hK hW 0 (f := (upd (xa_sd n N m i2) (5 * i2 + 143) 0)) rfl (i := 5 * i2 + 144) (by omega) (by decide) dL_sheds_100 ?_
                  refine ze_top (xb_un (by omega)) ?_
                  refine lv_iload hX_ hB_ dL_sheds_101 (lv_at hl 0 rfl) ?_
                  refine lv_if_eq (tgt := 110) hX_ hB_ dL_sheds_103 (by decide) (fun c103 => ?_) (fun c103 => ?_)
                  · refine lv_iconst (v := 0) hX_ hB_ dL_sheds_110 (by decide) ?_
                    refine lv_isub hX_ hB_ dL_sheds_111 ?_
                    refine ze_max S hl.1 w0 w1 w2 w3 ⟨Nat.le_of_ble_eq_true rfl, Nat.le_of_ble_eq_true rfl, Nat.le_of_ble_eq_true rfl, Nat.le_of_ble_eq_true rfl⟩ dL_sheds_112 ?_
                    refine ze_iastN hX_ hB_ hK hW 0 (f := (upd (xa_sd n N m i2) (5 * i2 + 143) 0)) rfl (i := 5 * i2 + 144) (by omega) (by decide) dL_sheds_115 rfl (fun H locs hW => ?_)
                    have hW : ze_W D ([(q, .inl (c 0, 210, .inl (upd (upd (xa_sd n N m i2) (5 * i2 + 143) 0) (5 * i2 + 144) (ze_mx 0 ((xa_sd n N m i2) (5 * i2 + 144) - 0)))))] : va_W) F s.heap _ _ := hW
                    refine lv_iinc (v := nI (i2 + 1)) (lv' := [(2, .int (nI (i2 + 1))), (5, .int 0), (4, .int (ze_b (xa_kp n (xa_sd n N m i2) i2))), (3, .int (nI (5 * i2 + 140))), (0, .ref q), (1, .int (nI m))]) hX_ hB_ dL_sheds_116 hl (k := 3) rfl (ze_inc _) (by decide) rfl (fun ls hl => ?_)
                    refine lv_goto (tgt := 2) hX_ hB_ dL_sheds_119 (by decide) ?_
                    have eW : ([(q, .inl (c 0, 210, .inl (upd (upd (xa_sd n N m i2) (5 * i2 + 143) 0) (5 * i2 + 144) (ze_mx 0 ((xa_sd n N m i2) (5 * i2 + 144) - 0)))))] : va_W) = ([(q, .inl (c 0, 210, .inl (xa_sd n N m (i2 + 1))))] : va_W) := (by simp only [xa_sd, xa_d1, xa_w1, ze_b, eq_true c6, eq_true c25, eq_false c41, eq_true c57, eq_true c62, eq_true c85, eq_true c103, not_true_eq_false, not_false_eq_true, and_true, true_and, and_false, false_and, or_true, true_or, or_false, false_or, and_self, or_self, Decidable.not_not, if_true, if_false, reduceIte, reduceCtorEq, ne_eq, eq_self, Int32.lt_irrefl, Int32.le_refl, Nat.lt_irrefl])
                    rw [eW] at hW
                    exact ih2 (i2 + 1) (by omega) (by omega) _ _ ls hW (lv_sub hl [0, 4, 5] rfl)
                  · exact absurd c103 (by decide)
                · have c85 : ¬ (xa_kp n (xa_sd n N m i2) i2) := ze_bf c85
                  exact absurd c57 c85
              · exact absurd c62 (by decide)
          · refine lv_iconst (v := 1) hX_ hB_ dL_sheds_44 (by decide) ?_
            refine lv_goto (tgt := 49) hX_ hB_ dL_sheds_45 (by decide) ?_
            refine lv_istore (lv' := [(5, .int 1), (4, .int (ze_b (xa_kp n (xa_sd n N m i2) i2))), (3, .int (nI (5 * i2 + 140))), (2, .int (nI i2)), (0, .ref q), (1, .int (nI m))]) hX_ hB_ dL_sheds_49 hl (by decide) rfl (fun ls hl => ?_)
            refine lv_aload_n hX_ hB_ dL_sheds_51 rfl (lv_at hl 4 rfl) ?_
            refine lv_iload_n hX_ hB_ dL_sheds_52 rfl (lv_at hl 2 rfl) ?_
            refine lv_iconst (v := 3) hX_ hB_ dL_sheds_53 (by decide) ?_
            refine lv_iadd hX_ hB_ dL_sheds_54 ?_
            refine ze_top (xb_add (a := 5 * i2 + 140) (b := 3) (c := 5 * i2 + 143) (by omega)) ?_
            refine lv_iload hX_ hB_ dL_sheds_55 (lv_at hl 1 rfl) ?_
            refine lv_if_eq (tgt := 73) hX_ hB_ dL_sheds_57 (by decide) (fun c57 => ?_) (fun c57 => ?_)
            · have c57 : ¬ (xa_kp n (xa_sd n N m i2) i2) := ze_bf c57
              refine lv_iconst (v := 1) hX_ hB_ dL_sheds_73 (by decide) ?_
              refine lv_goto (tgt := 78) hX_ hB_ dL_sheds_74 (by decide) ?_
              refine ze_iastN hX_ hB_ hK hW 0 (f := (xa_sd n N m i2)) rfl (i := 5 * i2 + 143) (by omega) (by decide) dL_sheds_78 rfl (fun H locs hW => ?_)
              have hW : ze_W D ([(q, .inl (c 0, 210, .inl (upd (xa_sd n N m i2) (5 * i2 + 143) 1)))] : va_W) F s.heap _ _ := hW
              refine lv_aload_n hX_ hB_ dL_sheds_79 rfl (lv_at hl 4 rfl) ?_
              refine lv_iload_n hX_ hB_ dL_sheds_80 rfl (lv_at hl 2 rfl) ?_
              refine lv_iconst (v := 4) hX_ hB_ dL_sheds_81 (by decide) ?_
              refine lv_iadd hX_ hB_ dL_sheds_82 ?_
              refine ze_top (xb_add (a := 5 * i2 + 140) (b := 4) (c := 5 * i2 + 144) (by omega)) ?_
              refine lv_iload hX_ hB_ dL_sheds_83 (lv_at hl 1 rfl) ?_
              refine lv_if_ne (tgt := 95) hX_ hB_ dL_sheds_85 (by decide) (fun c85 => ?_) (fun c85 => ?_)
              · have c85 : xa_kp n (xa_sd n N m i2) i2 := ze_bt c85
                exact absurd c85 c57
              · have c85 : ¬ (xa_kp n (xa_sd n N m i2) i2) := ze_bf c85
                refine lv_aload_n hX_ hB_ dL_sheds_88 rfl (lv_at hl 4 rfl) ?_
                refine lv_bipush (v := 6) hX_ hB_ dL_sheds_89 (by decide) ?_
                refine ze_ialdN hX_ hB_ hK hW 0 (f := (upd (xa_sd n N m i2) (5 * i2 + 143) 1)) rfl (i := 6) (by omega) (by decide) dL_sheds_91 ?_
                refine ze_top (xb_un (by omega)) ?_
                refine lv_goto (tgt := 115) hX_ hB_ dL_sheds_92 (by decide) ?_
                refine ze_iastN hX_ hB_ hK hW 0 (f := (upd (xa_sd n N m i2) (5 * i2 + 143) 1)) rfl (i := 5 * i2 + 144) (by omega) (by decide) dL_sheds_115 rfl (fun H locs hW => ?_)
                have hW : ze_W D ([(q, .inl (c 0, 210, .inl (upd (upd (xa_sd n N m i2) (5 * i2 + 143) 1) (5 * i2 + 144) ((xa_sd n N m i2) 6))))] : va_W) F s.heap _ _ := hW
                refine lv_iinc (v := nI (i2 + 1)) (lv' := [(2, .int (nI (i2 + 1))), (5, .int 1), (4, .int (ze_b (xa_kp n (xa_sd n N m i2) i2))), (3, .int (nI (5 * i2 + 140))), (0, .ref q), (1, .int (nI m))]) hX_ hB_ dL_sheds_116 hl (k := 3) rfl (ze_inc _) (by decide) rfl (fun ls hl => ?_)
                refine lv_goto (tgt := 2) hX_ hB_ dL_sheds_119 (by decide) ?_
                have eW : ([(q, .inl (c 0, 210, .inl (upd (upd (xa_sd n N m i2) (5 * i2 + 143) 1) (5 * i2 + 144) ((xa_sd n N m i2) 6))))] : va_W) = ([(q, .inl (c 0, 210, .inl (xa_sd n N m (i2 + 1))))] : va_W) := (by simp only [xa_sd, xa_d1, xa_w1, ze_b, eq_true c6, eq_true c25, eq_true c41, eq_false c57, eq_false c85, not_true_eq_false, not_false_eq_true, and_true, true_and, and_false, false_and, or_true, true_or, or_false, false_or, and_self, or_self, Decidable.not_not, if_true, if_false, reduceIte, reduceCtorEq, ne_eq, eq_self, Int32.lt_irrefl, Int32.le_refl, Nat.lt_irrefl])
                rw [eW] at hW
                exact ih2 (i2 + 1) (by omega) (by omega) _ _ ls hW (lv_sub hl [0, 4, 5] rfl)
            · have c57 : xa_kp n (xa_sd n N m i2) i2 := ze_bt c57
              refine lv_iload hX_ hB_ dL_sheds_60 (lv_at hl 0 rfl) ?_
              refine lv_if_eq (tgt := 77) hX_ hB_ dL_sheds_62 (by decide) (fun c62 => ?_) (fun c62 => ?_)
              · exact absurd c62 (by decide)
              · refine lv_aload_n hX_ hB_ dL_sheds_65 rfl (lv_at hl 4 rfl) ?_
                refine lv_iload_n hX_ hB_ dL_sheds_66 rfl (lv_at hl 2 rfl) ?_
                refine lv_iconst (v := 4) hX_ hB_ dL_sheds_67 (by decide) ?_
                refine lv_iadd hX_ hB_ dL_sheds_68 ?_
                refine ze_top (xb_add (a := 5 * i2 + 140) (b := 4) (c := 5 * i2 + 144) (by omega)) ?_
                refine ze_ialdN hX_ hB_ hK hW 0 (f := (xa_sd n N m i2)) rfl (i := 5 * i2 + 144) (by omega) (by decide) dL_sheds_69 ?_
                refine lv_if_le (tgt := 77) hX_ hB_ dL_sheds_70 (by decide) (fun c70 => ?_) (fun c70 => ?_)
                · refine lv_iconst (v := 0) hX_ hB_ dL_sheds_77 (by decide) ?_
                  refine ze_iastN hX_ hB_ hK hW 0 (f := (xa_sd n N m i2)) rfl (i := 5 * i2 + 143) (by omega) (by decide) dL_sheds_78 rfl (fun H locs hW => ?_)
                  have hW : ze_W D ([(q, .inl (c 0, 210, .inl (upd (xa_sd n N m i2) (5 * i2 + 143) 0)))] : va_W) F s.heap _ _ := hW
                  refine lv_aload_n hX_ hB_ dL_sheds_79 rfl (lv_at hl 4 rfl) ?_
                  refine lv_iload_n hX_ hB_ dL_sheds_80 rfl (lv_at hl 2 rfl) ?_
                  refine lv_iconst (v := 4) hX_ hB_ dL_sheds_81 (by decide) ?_
                  refine lv_iadd hX_ hB_ dL_sheds_82 ?_
                  refine ze_top (xb_add (a := 5 * i2 + 140) (b := 4) (c := 5 * i2 + 144) (by omega)) ?_
                  refine lv_iload hX_ hB_ dL_sheds_83 (lv_at hl 1 rfl) ?_
                  refine lv_if_ne (tgt := 95) hX_ hB_ dL_sheds_85 (by decide) (fun c85 => ?_) (fun c85 => ?_)
                  · have c85 : xa_kp n (xa_sd n N m i2) i2 := ze_bt c85
                    refine lv_iconst (v := 0) hX_ hB_ dL_sheds_95 (by decide) ?_
                    refine lv_aload_n hX_ hB_ dL_sheds_96 rfl (lv_at hl 4 rfl) ?_
                    refine lv_iload_n hX_ hB_ dL_sheds_97 rfl (lv_at hl 2 rfl) ?_
                    refine lv_iconst (v := 4) hX_ hB_ dL_sheds_98 (by decide) ?_
                    refine lv_iadd hX_ hB_ dL_sheds_99 ?_
                    refine ze_top (xb_add (a := 5 * i2 + 140) (b := 4) (c := 5 * i2 + 144) (by omega)) ?_
                    refine ze_ialdN hX_ hB_ hK hW 0 (f := (upd (xa_sd n N m i2) (5 * i2 + 143) 0)) rfl (i := 5 * i2 + 144) (by omega) (by decide) dL_sheds_100 ?_
                    refine ze_top (xb_un (by omega)) ?_
                    refine lv_iload hX_ hB_ dL_sheds_101 (lv_at hl 0 rfl) ?_
                    refine lv_if_eq (tgt := 110) hX_ hB_ dL_sheds_103 (by decide) (fun c103 => ?_) (fun c103 => ?_)
                    · exact absurd c103 (by decide)
                    · refine lv_iconst (v := 1) hX_ hB_ dL_sheds_106 (by decide) ?_
                      refine lv_goto (tgt := 111) hX_ hB_ dL_sheds_107 (by decide) ?_
                      refine lv_isub hX_ hB_ dL_sheds_111 ?_
                      refine ze_max S hl.1 w0 w1 w2 w3 ⟨Nat.le_of_ble_eq_true rfl, Nat.le_of_ble_eq_true rfl, Nat.le_of_ble_eq_true rfl, Nat.le_of_ble_eq_true rfl⟩ dL_sheds_112 ?_
                      refine ze_iastN hX_ hB_ hK hW 0 (f := (upd (xa_sd n N m i2) (5 * i2 + 143) 0)) rfl (i := 5 * i2 + 144) (by omega) (by decide) dL_sheds_115 rfl (fun H locs hW => ?_)
                      have hW : ze_W D ([(q, .inl (c 0, 210, .inl (upd (upd (xa_sd n N m i2) (5 * i2 + 143) 0) (5 * i2 + 144) (ze_mx 0 ((xa_sd n N m i2) (5 * i2 + 144) - 1)))))] : va_W) F s.heap _ _ := hW
                      refine lv_iinc (v := nI (i2 + 1)) (lv' := [(2, .int (nI (i2 + 1))), (5, .int 1), (4, .int (ze_b (xa_kp n (xa_sd n N m i2) i2))), (3, .int (nI (5 * i2 + 140))), (0, .ref q), (1, .int (nI m))]) hX_ hB_ dL_sheds_116 hl (k := 3) rfl (ze_inc _) (by decide) rfl (fun ls hl => ?_)
                      refine lv_goto (tgt := 2) hX_ hB_ dL_sheds_119 (by decide) ?_
                      have eW : ([(q, .inl (c 0, 210, .inl (upd (upd (xa_sd n N m i2) (5 * i2 + 143) 0) (5 * i2 + 144) (ze_mx 0 ((xa_sd n N m i2) (5 * i2 + 144) - 1)))))] : va_W) = ([(q, .inl (c 0, 210, .inl (xa_sd n N m (i2 + 1))))] : va_W) := (by simp only [xa_sd, xa_d1, xa_w1, ze_b, eq_true c6, eq_true c25, eq_true c41, eq_true c57, eq_false c62, eq_true c70, eq_true c85, eq_false c103, not_true_eq_false, not_false_eq_true, and_true, true_and, and_false, false_and, or_true, true_or, or_false, false_or, and_self, or_self, Decidable.not_not, if_true, if_false, reduceIte, reduceCtorEq, ne_eq, eq_self, Int32.lt_irrefl, Int32.le_refl, Nat.lt_irrefl])
                      rw [eW] at hW
                      exact ih2 (i2 + 1) (by omega) (by omega) _ _ ls hW (lv_sub hl [0, 4, 5] rfl)
                  · have c85 : ¬ (xa_kp n (xa_sd n N m i2) i2) := ze_bf c85
                    exact absurd c57 c85
                · refine lv_iconst (v := 1) hX_ hB_ dL_sheds_73 (by decide) ?_
                  refine lv_goto (tgt := 78) hX_ hB_ dL_sheds_74 (by decide) ?_
                  refine ze_iastN hX_ hB_ hK hW 0 (f := (xa_sd n N m i2)) rfl (i := 5 * i2 + 143) (by omega) (by decide) dL_sheds_78 rfl (fun H locs hW => ?_)
                  have hW : ze_W D ([(q, .inl (c 0, 210, .inl (upd (xa_sd n N m i2) (5 * i2 + 143) 1)))] : va_W) F s.heap _ _ := hW
                  refine lv_aload_n hX_ hB_ dL_sheds_79 rfl (lv_at hl 4 rfl) ?_
                  refine lv_iload_n hX_ hB_ dL_sheds_80 rfl (lv_at hl 2 rfl) ?_
                  refine lv_iconst (v := 4) hX_ hB_ dL_sheds_81 (by decide) ?_
                  refine lv_iadd hX_ hB_ dL_sheds_82 ?_
                  refine ze_top (xb_add (a := 5 * i2 + 140) (b := 4) (c := 5 * i2 + 144) (by omega)) ?_
                  refine lv_iload hX_ hB_ dL_sheds_83 (lv_at hl 1 rfl) ?_
                  refine lv_if_ne (tgt := 95) hX_ hB_ dL_sheds_85 (by decide) (fun c85 => ?_) (fun c85 => ?_)
                  · have c85 : xa_kp n (xa_sd n N m i2) i2 := ze_bt c85
                    refine lv_iconst (v := 0) hX_ hB_ dL_sheds_95 (by decide) ?_
                    refine lv_aload_n hX_ hB_ dL_sheds_96 rfl (lv_at hl 4 rfl) ?_
                    refine lv_iload_n hX_ hB_ dL_sheds_97 rfl (lv_at hl 2 rfl) ?_
                    refine lv_iconst (v := 4) hX_ hB_ dL_sheds_98 (by decide) ?_
                    refine lv_iadd hX_ hB_ dL_sheds_99 ?_
                    refine ze_top (xb_add (a := 5 * i2 + 140) (b := 4) (c := 5 * i2 + 144) (by omega)) ?_
                    refine ze_ialdN hX_ hB_ hK hW 0 (f := (upd (xa_sd n N m i2) (5 * i2 + 143) 1)) rfl (i := 5 * i2 + 144) (by omega) (by decide) dL_sheds_100 ?_
                    refine ze_top (xb_un (by omega)) ?_
                    refine lv_iload hX_ hB_ dL_sheds_101 (lv_at hl 0 rfl) ?_
                    refine lv_if_eq (tgt := 110) hX_ hB_ dL_sheds_103 (by decide) (fun c103 => ?_) (fun c103 => ?_)
                    · exact absurd c103 (by decide)
                    · refine lv_iconst (v := 1) hX_ hB_ dL_sheds_106 (by decide) ?_
                      refine lv_goto (tgt := 111) hX_ hB_ dL_sheds_107 (by decide) ?_
                      refine lv_isub hX_ hB_ dL_sheds_111 ?_
                      refine ze_max S hl.1 w0 w1 w2 w3 ⟨Nat.le_of_ble_eq_true rfl, Nat.le_of_ble_eq_true rfl, Nat.le_of_ble_eq_true rfl, Nat.le_of_ble_eq_true rfl⟩ dL_sheds_112 ?_
                      refine ze_iastN hX_ hB_ hK hW 0 (f := (upd (xa_sd n N m i2) (5 * i2 + 143) 1)) rfl (i := 5 * i2 + 144) (by omega) (by decide) dL_sheds_115 rfl (fun H locs hW => ?_)
                      have hW : ze_W D ([(q, .inl (c 0, 210, .inl (upd (upd (xa_sd n N m i2) (5 * i2 + 143) 1) (5 * i2 + 144) (ze_mx 0 ((xa_sd n N m i2) (5 * i2 + 144) - 1)))))] : va_W) F s.heap _ _ := hW
                      refine lv_iinc (v := nI (i2 + 1)) (lv' := [(2, .int (nI (i2 + 1))), (5, .int 1), (4, .int (ze_b (xa_kp n (xa_sd n N m i2) i2))), (3, .int (nI (5 * i2 + 140))), (0, .ref q), (1, .int (nI m))]) hX_ hB_ dL_sheds_116 hl (k := 3) rfl (ze_inc _) (by decide) rfl (fun ls hl => ?_)
                      refine lv_goto (tgt := 2) hX_ hB_ dL_sheds_119 (by decide) ?_
                      have eW : ([(q, .inl (c 0, 210, .inl (upd (upd (xa_sd n N m i2) (5 * i2 + 143) 1) (5 * i2 + 144) (ze_mx 0 ((xa_sd n N m i2) (5 * i2 + 144) - 1)))))] : va_W) = ([(q, .inl (c 0, 210, .inl (xa_sd n N m (i2 + 1))))] : va_W) := (by simp only [xa_sd, xa_d1, xa_w1, ze_b, eq_true c6, eq_true c25, eq_true c41, eq_true c57, eq_false c62, eq_false c70, eq_true c85, eq_false c103, not_true_eq_false, not_false_eq_true, and_true, true_and, and_false, false_and, or_true, true_or, or_false, false_or, and_self, or_self, Decidable.not_not, if_true, if_false, reduceIte, reduceCtorEq, ne_eq, eq_self, Int32.lt_irrefl, Int32.le_refl, Nat.lt_irrefl])
                      rw [eW] at hW
                      exact ih2 (i2 + 1) (by omega) (by omega) _ _ ls hW (lv_sub hl [0, 4, 5] rfl)
                  · have c85 : ¬ (xa_kp n (xa_sd n N m i2) i2) := ze_bf c85
                    exact absurd c57 c85
  have hl : lv_has ls 6 [(2, .int (nI 0)), (0, .ref q), (1, .int (nI m))] := hl
  have hW : ze_W D ([(q, .inl (c 0, 210, .inl (xa_sd n N m 0)))] : va_W) F s.heap _ _ := hW
  exact L2 _ 0 (by omega) (Nat.lt_succ_self _) _ _ ls hW (lv_sub hl [0, 1, 2] rfl)
set_option maxHeartbeats 8000000 in
set_option maxRecDepth 100000 in
theorem xl_balances (l : Launch) (D : va_G) (c : Nat → ClassId) (q : Nat) (n : Nat → Nat) (N : Nat → Int32) (hH : xa_H n N) (m : Nat) (hm : m < 6) : ze_V l yL_balances wsL_balances 5 119 1 6 D c ([(q, .inl (c 0, 210, .inl N))] : va_W) [.ref q, .int (nI m)] ([(q, .inl (c 0, 210, .inl (xa_bal n N m)))] : va_W) := by
  intro sz
  refine ze_start (cc := cL_balances) (maxL := 8) (ret := none) (own := RL) (by decide) rfl rfl (Nat.le_of_ble_eq_true rfl) ?_
  obtain ⟨⟨hn0, hn1, hn2, hn3, hn4⟩, -⟩ := id hH
  have hHs := xa_sdH hH m (Nat.le_refl (n 4))
  have hHt : xa_H n (upd (xa_bN n N m) 201 (xa_bN n N m 201 + xa_bD n N m)) := xa_Hu (xa_gNH hHs (n 1) m (xa_bS n N m) (Nat.le_refl (n 2))) (by unfold xa_st; omega)
  intro p e s m_ below meth cd F ls hF hsz E0
  obtain ⟨S, hr, hlocks, hK, hW, hA, hl⟩ := E0
  have hX_ := S.1
  have hB_ := S.2.1
  have hts := S.2.2.2.2
  have hl : lv_has ls 8 [(0, .ref q), (1, .int (nI m))] := hl
  have w0 := hts (.methodLink RL 199 Lib.Math.min.name) (List.mem_cons_of_mem _ (List.mem_append_left _ (List.mem_of_getElem? (i := 0) rfl)))
  have w1 := hts (.static Lib.Math.min.name) (List.mem_cons_of_mem _ (List.mem_append_left _ (List.mem_of_getElem? (i := 1) rfl)))
  have w2 := hts (.initialized "java/lang/Math") (List.mem_cons_of_mem _ (List.mem_append_left _ (List.mem_of_getElem? (i := 2) rfl)))
  have w3 := hts (.code Lib.Math.min.name Lib.Math.min.code 2 (some .int)) (List.mem_cons_of_mem _ (List.mem_append_left _ (List.mem_of_getElem? (i := 3) rfl)))
  refine lv_aload_n hX_ hB_ dL_balances_0 rfl (lv_at hl 0 rfl) ?_
  refine lv_iload_n hX_ hB_ dL_balances_1 rfl (lv_at hl 1 rfl) ?_
  have hW := ze_W0 hW
  refine xb_FSv (As := [.ref q, .int (nI m)]) (rest := []) S (xl_sheds l D c q n N hH m (by omega)) (va_cwS 2 hts gL_balances_L_sheds rfl rfl rfl (by decide +kernel) ⟨(Nat.le_of_ble_eq_true rfl), (Nat.le_of_ble_eq_true rfl)⟩) hK hW hA rfl hl.1 rfl (lv_room (Nat.le_of_ble_eq_true rfl)) dL_balances_2 ⟨(Nat.le_of_ble_eq_true rfl), (Nat.le_of_ble_eq_true rfl)⟩ (fun H locs hW => ?_)
  have hW := ze_W0' hW
  have hW : ze_W D ([(q, .inl (c 0, 210, .inl (xa_sd n N m (n 4))))] : va_W) F s.heap _ _ := hW
  refine lv_aload_n hX_ hB_ dL_balances_5 rfl (lv_at hl 0 rfl) ?_
  refine lv_iload_n hX_ hB_ dL_balances_6 rfl (lv_at hl 1 rfl) ?_
  have hW := ze_W0 hW
  refine ze_FSi (As := [.ref q, .int (nI m)]) (rest := []) S (xl_demand_ l D c q n (xa_sd n N m (n 4)) hHs m (by omega)) (va_cwS 2 hts gL_balances_L_demand_ rfl rfl rfl (by decide +kernel) ⟨(Nat.le_of_ble_eq_true rfl), (Nat.le_of_ble_eq_true rfl)⟩) hK hW hA rfl hl.1 rfl (lv_room (Nat.le_of_ble_eq_true rfl)) dL_balances_7 ⟨(Nat.le_of_ble_eq_true rfl), (Nat.le_of_ble_eq_true rfl)⟩ (fun H locs hW => ?_)
  have hW := ze_W0' hW
  have hW : ze_W D ([(q, .inl (c 0, 210, .inl (xa_sd n N m (n 4))))] : va_W) F s.heap _ _ := hW
  refine ze_top (y := xa_bD n N m) rfl ?_
  refine lv_istore_n (lv' := [(2, .int (xa_bD n N m)), (0, .ref q), (1, .int (nI m))]) hX_ hB_ dL_balances_10 rfl hl (by decide) rfl (fun ls hl => ?_)
  refine lv_aload_n hX_ hB_ dL_balances_11 rfl (lv_at hl 1 rfl) ?_
  refine lv_iload_n hX_ hB_ dL_balances_12 rfl (lv_at hl 2 rfl) ?_
  refine lv_iload_n hX_ hB_ dL_balances_13 rfl (lv_at hl 0 rfl) ?_
  have hW := ze_W0 hW
  refine xb_FSrn (T := Nat) (As := [.ref q, .int (nI m), .int (xa_bD n N m)]) (rest := []) S (xl_shares l D c q n (xa_sd n N m (n 4)) hHs m (xa_bD n N m) (by omega)) (va_cwS 3 hts gL_balances_L_shares rfl rfl rfl (by decide +kernel) ⟨(Nat.le_of_ble_eq_true rfl), (Nat.le_of_ble_eq_true rfl)⟩) hK hW hA rfl hl.1 rfl (lv_room (Nat.le_of_ble_eq_true rfl)) dL_balances_14 ⟨(Nat.le_of_ble_eq_true rfl), (Nat.le_of_ble_eq_true rfl)⟩ (fun qr _ H locs hW => ?_)
  have hW := ze_W0' hW
  have hW : ze_W D (([(q, .inl (c 0, 210, .inl (xa_sd n N m (n 4))))] : va_W) ++ [(qr, .inl (c 0, 6, .inl (xa_sh n (xa_sd n N m (n 4)) m (xa_bD n N m))))]) F s.heap _ _ := hW
  have hW : ze_W D (([(q, .inl (c 0, 210, .inl (xa_sd n N m (n 4))))] : va_W) ++ [(qr, .inl (c 0, 6, .inl (xa_bS n N m)))]) F s.heap _ _ := hW
  refine lv_astore_n (lv' := [(3, .ref qr), (2, .int (xa_bD n N m)), (0, .ref q), (1, .int (nI m))]) hX_ hB_ dL_balances_17 rfl hl (by decide) rfl (fun ls hl => ?_)
  refine lv_iload_n hX_ hB_ dL_balances_18 rfl (lv_at hl 1 rfl) ?_
  refine lv_istore (lv' := [(4, .int (xa_bD n N m)), (3, .ref qr), (2, .int (xa_bD n N m)), (0, .ref q), (1, .int (nI m))]) hX_ hB_ dL_balances_19 hl (by decide) rfl (fun ls hl => ?_)
  refine lv_iconst (v := 0) hX_ hB_ dL_balances_21 (by decide) ?_
  refine lv_istore (lv' := [(5, .int 0), (4, .int (xa_bD n N m)), (3, .ref qr), (2, .int (xa_bD n N m)), (0, .ref q), (1, .int (nI m))]) hX_ hB_ dL_balances_22 hl (by decide) rfl (fun ls hl => ?_)
  have L24 : ∀ (k24 : Nat) (i24 : Nat), (i24 ≤ n 2) → (n 2 - i24) < k24 → ∀ (H : Heap) (locs : List Loc) (ls : Array Slot), ze_W D (([(q, .inl (c 0, 210, .inl (xa_gN (n 1) m (xa_bS n N m) (xa_sd n N m (n 4)) i24)))] : va_W) ++ [(qr, .inl (c 0, 6, .inl (xa_bS n N m)))]) F s.heap H locs → lv_has ls 8 [(5, .int (nI i24)), (4, .int (xa_gL (n 1) m (xa_bS n N m) (xa_sd n N m (n 4)) (xa_bD n N m) i24)), (3, .ref qr), (2, .int (xa_bD n N m)), (0, .ref q), (1, .int (nI m))] → W p l e { frames := 5, cells := 1, slots := 6, locals := 119 } s m_ ([.ref q, .int (nI m)] : List Value).toArray below meth cd H locs 1 6 (MQ below (ze_Qv D c ([(q, .inl (c 0, 210, .inl N))] : va_W) sz ([(q, .inl (c 0, 210, .inl (xa_bal n N m)))] : va_W)) ([.ref q, .int (nI m)] : List Value).toArray s 1 6 F) (F0 m_ 24 ls []) := by
    intro k24
    induction k24 with
    | zero =>
      intro i24 h24 hk24
      exact absurd hk24 (Nat.not_lt_zero _)
    | succ k24 ih24 =>
      intro i24 h24 hk24 H locs ls hW hl
      have hHg := xa_gNH hHs (n 1) m (xa_bS n N m) (i := i24) h24
      refine lv_iload hX_ hB_ dL_balances_24 (lv_at hl 0 rfl) ?_
      refine lv_aload_n hX_ hB_ dL_balances_26 rfl (lv_at hl 4 rfl) ?_
      refine lv_iconst (v := 2) hX_ hB_ dL_balances_27 (by decide) ?_
      refine ze_ialdN hX_ hB_ hK hW 0 (f := (xa_gN (n 1) m (xa_bS n N m) (xa_sd n N m (n 4)) i24)) (ze_appget0 rfl) (i := 2) (by omega) (by decide) dL_balances_28 ?_
      refine ze_top (y := nI (n 2)) hHg.2.1.2.2.1 ?_
      refine lv_icmp_ge (tgt := 174) hX_ hB_ dL_balances_29 (by decide) (fun c29 => ?_) (fun c29 => ?_)
      · have c29 : ¬ i24 < (n 2) := Nat.not_lt.mpr ((nI_leI (a := (n 2)) (b := i24) (by omega) (by omega)).mp c29)
        have e24 : i24 = n 2 := by omega
        subst e24
        refine lv_aload_n hX_ hB_ dL_balances_174 rfl (lv_at hl 4 rfl) ?_
        refine lv_sipush (v := 201) hX_ hB_ dL_balances_175 (by decide) ?_
        refine lv_dup2_11 hX_ hB_ dL_balances_178 rfl rfl ?_
        refine ze_ialdN hX_ hB_ hK hW 0 (f := (xa_gN (n 1) m (xa_bS n N m) (xa_sd n N m (n 4)) (n 2))) (ze_appget0 rfl) (i := 201) (by omega) (by decide) dL_balances_179 ?_
        refine lv_iload_n hX_ hB_ dL_balances_180 rfl (lv_at hl 3 rfl) ?_
        refine lv_iadd hX_ hB_ dL_balances_181 ?_
        refine ze_iastN hX_ hB_ hK hW 0 (f := (xa_gN (n 1) m (xa_bS n N m) (xa_sd n N m (n 4)) (n 2))) (ze_appget0 rfl) (i := 201) (by omega) (by decide) dL_balances_182 (ze_appsetL rfl rfl) (fun H locs hW => ?_)
        have hW : ze_W D (([(q, .inl (c 0, 210, .inl (upd (xa_gN (n 1) m (xa_bS n N m) (xa_sd n N m (n 4)) (n 2)) 201 ((xa_gN (n 1) m (xa_bS n N m) (xa_sd n N m (n 4)) (n 2)) 201 + xa_bD n N m))))] : va_W) ++ [(qr, .inl (c 0, 6, .inl (xa_bS n N m)))]) F s.heap _ _ := hW
        refine lv_iconst (v := 0) hX_ hB_ dL_balances_183 (by decide) ?_
        refine lv_istore (lv' := [(5, .int 0), (4, .int (xa_gL (n 1) m (xa_bS n N m) (xa_sd n N m (n 4)) (xa_bD n N m) (n 2))), (3, .ref qr), (2, .int (xa_bD n N m)), (0, .ref q), (1, .int (nI m))]) hX_ hB_ dL_balances_184 hl (by decide) rfl (fun ls hl => ?_)
        have L186 : ∀ (k186 : Nat) (i186 : Nat), (i186 ≤ n 3) → (n 3 - i186) < k186 → ∀ (H : Heap) (locs : List Loc) (ls : Array Slot), ze_W D (([(q, .inl (c 0, 210, .inl ((xa_tS (n 1) m (upd (xa_bN n N m) 201 (xa_bN n N m 201 + xa_bD n N m)) (xa_bL n N m) i186).1)))] : va_W) ++ [(qr, .inl (c 0, 6, .inl (xa_bS n N m)))]) F s.heap H locs → lv_has ls 8 [(5, .int (nI i186)), (4, .int ((xa_tS (n 1) m (upd (xa_bN n N m) 201 (xa_bN n N m 201 + xa_bD n N m)) (xa_bL n N m) i186).2)), (3, .ref qr), (2, .int (xa_bD n N m)), (0, .ref q), (1, .int (nI m))] → W p l e { frames := 5, cells := 1, slots := 6, locals := 119 } s m_ ([.ref q, .int (nI m)] : List Value).toArray below meth cd H locs 1 6 (MQ below (ze_Qv D c ([(q, .inl (c 0, 210, .inl N))] : va_W) sz ([(q, .inl (c 0, 210, .inl (xa_bal n N m)))] : va_W)) ([.ref q, .int (nI m)] : List Value).toArray s 1 6 F) (F0 m_ 186 ls []) := by
          intro k186
          induction k186 with
          | zero =>
            intro i186 h186 hk186
            exact absurd hk186 (Nat.not_lt_zero _)
          | succ k186 ih186 =>
            intro i186 h186 hk186 H locs ls hW hl
            have hHk := xa_tSH hHt (n 1) m (xa_bL n N m) (i := i186) h186
            refine lv_iload hX_ hB_ dL_balances_186 (lv_at hl 0 rfl) ?_
            refine lv_aload_n hX_ hB_ dL_balances_188 rfl (lv_at hl 4 rfl) ?_
            refine lv_iconst (v := 3) hX_ hB_ dL_balances_189 (by decide) ?_
            refine ze_ialdN hX_ hB_ hK hW 0 (f := ((xa_tS (n 1) m (upd (xa_bN n N m) 201 (xa_bN n N m 201 + xa_bD n N m)) (xa_bL n N m) i186).1)) (ze_appget0 rfl) (i := 3) (by omega) (by decide) dL_balances_190 ?_
            refine ze_top (y := nI (n 3)) hHk.2.1.2.2.2.1 ?_
            refine lv_icmp_ge (tgt := 307) hX_ hB_ dL_balances_191 (by decide) (fun c191 => ?_) (fun c191 => ?_)
            · have c191 : ¬ i186 < (n 3) := Nat.not_lt.mpr ((nI_leI (a := (n 3)) (b := i186) (by omega) (by omega)).mp c191)
              have e186 : i186 = n 3 := by omega
              subst e186
              refine lv_iload_n hX_ hB_ dL_balances_307 rfl (lv_at hl 5 rfl) ?_
              refine lv_if_ne (tgt := 323) hX_ hB_ dL_balances_308 (by decide) (fun c308 => ?_) (fun c308 => ?_)
              · have c308 : ¬ m = 0 := fun h9 => c308 ((nI_eq (a := m) (b := 0) (by omega) (by omega)).mpr h9)
                refine lv_iconst (v := 0) hX_ hB_ dL_balances_323 (by decide) ?_
                refine lv_istore (lv' := [(5, .int 0), (4, .int ((xa_tS (n 1) m (upd (xa_bN n N m) 201 (xa_bN n N m 201 + xa_bD n N m)) (xa_bL n N m) (n 3)).2)), (3, .ref qr), (2, .int (xa_bD n N m)), (0, .ref q), (1, .int (nI m))]) hX_ hB_ dL_balances_324 hl (by decide) rfl (fun ls hl => ?_)
                refine lv_aload_n hX_ hB_ dL_balances_326 rfl (lv_at hl 4 rfl) ?_
                refine lv_bipush (v := 9) hX_ hB_ dL_balances_327 (by decide) ?_
                refine lv_dup2_11 hX_ hB_ dL_balances_329 rfl rfl ?_
                refine ze_ialdN hX_ hB_ hK hW 0 (f := ((xa_tS (n 1) m (upd (xa_bN n N m) 201 (xa_bN n N m 201 + xa_bD n N m)) (xa_bL n N m) (n 3)).1)) (ze_appget0 rfl) (i := 9) (by omega) (by decide) dL_balances_330 ?_
                refine lv_iload hX_ hB_ dL_balances_331 (lv_at hl 0 rfl) ?_
                refine lv_if_eq (tgt := 341) hX_ hB_ dL_balances_333 (by decide) (fun c333 => ?_) (fun c333 => ?_)
                · refine lv_iconst (v := 0) hX_ hB_ dL_balances_341 (by decide) ?_
                  refine lv_iadd hX_ hB_ dL_balances_342 ?_
                  refine ze_iastN hX_ hB_ hK hW 0 (f := ((xa_tS (n 1) m (upd (xa_bN n N m) 201 (xa_bN n N m 201 + xa_bD n N m)) (xa_bL n N m) (n 3)).1)) (ze_appget0 rfl) (i := 9) (by omega) (by decide) dL_balances_343 (ze_appsetL rfl rfl) (fun H locs hW => ?_)
                  have hW : ze_W D (([(q, .inl (c 0, 210, .inl (upd ((xa_tS (n 1) m (upd (xa_bN n N m) 201 (xa_bN n N m 201 + xa_bD n N m)) (xa_bL n N m) (n 3)).1) 9 (((xa_tS (n 1) m (upd (xa_bN n N m) 201 (xa_bN n N m 201 + xa_bD n N m)) (xa_bL n N m) (n 3)).1) 9 + 0))))] : va_W) ++ [(qr, .inl (c 0, 6, .inl (xa_bS n N m)))]) F s.heap _ _ := hW
                  refine lv_aload_n hX_ hB_ dL_balances_344 rfl (lv_at hl 4 rfl) ?_
                  refine lv_sipush (v := 202) hX_ hB_ dL_balances_345 (by decide) ?_
                  refine lv_dup2_11 hX_ hB_ dL_balances_348 rfl rfl ?_
                  refine ze_ialdN hX_ hB_ hK hW 0 (f := (upd ((xa_tS (n 1) m (upd (xa_bN n N m) 201 (xa_bN n N m 201 + xa_bD n N m)) (xa_bL n N m) (n 3)).1) 9 (((xa_tS (n 1) m (upd (xa_bN n N m) 201 (xa_bN n N m 201 + xa_bD n N m)) (xa_bL n N m) (n 3)).1) 9 + 0))) (ze_appget0 rfl) (i := 202) (by omega) (by decide) dL_balances_349 ?_
                  refine ze_top (xb_un (by omega)) ?_
                  refine lv_iload hX_ hB_ dL_balances_350 (lv_at hl 0 rfl) ?_
                  refine lv_if_eq (tgt := 359) hX_ hB_ dL_balances_352 (by decide) (fun c352 => ?_) (fun c352 => ?_)
                  · refine lv_iload hX_ hB_ dL_balances_359 (lv_at hl 1 rfl) ?_
                    refine lv_ineg hX_ hB_ dL_balances_361 ?_
                    refine lv_iadd hX_ hB_ dL_balances_362 ?_
                    refine ze_iastN hX_ hB_ hK hW 0 (f := (upd ((xa_tS (n 1) m (upd (xa_bN n N m) 201 (xa_bN n N m 201 + xa_bD n N m)) (xa_bL n N m) (n 3)).1) 9 (((xa_tS (n 1) m (upd (xa_bN n N m) 201 (xa_bN n N m 201 + xa_bD n N m)) (xa_bL n N m) (n 3)).1) 9 + 0))) (ze_appget0 rfl) (i := 202) (by omega) (by decide) dL_balances_363 (ze_appsetL rfl rfl) (fun H locs hW => ?_)
                    have hW : ze_W D (([(q, .inl (c 0, 210, .inl (upd (upd ((xa_tS (n 1) m (upd (xa_bN n N m) 201 (xa_bN n N m 201 + xa_bD n N m)) (xa_bL n N m) (n 3)).1) 9 (((xa_tS (n 1) m (upd (xa_bN n N m) 201 (xa_bN n N m 201 + xa_bD n N m)) (xa_bL n N m) (n 3)).1) 9 + 0)) 202 (((xa_tS (n 1) m (upd (xa_bN n N m) 201 (xa_bN n N m 201 + xa_bD n N m)) (xa_bL n N m) (n 3)).1) 202 + (-((xa_tS (n 1) m (upd (xa_bN n N m) 201 (xa_bN n N m 201 + xa_bD n N m)) (xa_bL n N m) (n 3)).2))))))] : va_W) ++ [(qr, .inl (c 0, 6, .inl (xa_bS n N m)))]) F s.heap _ _ := hW
                    have hW := ze_Wl hW
                    exact ze_vret S hr hlocks hF hK hW dL_balances_364 (Nat.le_of_ble_eq_true rfl) (Nat.le_of_ble_eq_true rfl) (by simp only [xa_bal, xa_fin, eq_false c29, eq_false c191, eq_false c308, eq_true c333, eq_true c352, not_true_eq_false, not_false_eq_true, and_true, true_and, and_false, false_and, or_true, true_or, or_false, false_or, and_self, or_self, Decidable.not_not, if_true, if_false, reduceIte, reduceCtorEq, ne_eq, eq_self, Int32.lt_irrefl, Int32.le_refl, Nat.lt_irrefl])
                  · exact absurd c352 (by decide)
                · exact absurd c333 (by decide)
              · have c308 : m = 0 := (nI_eq (a := m) (b := 0) (by omega) (by omega)).mp c308
                refine lv_aload_n hX_ hB_ dL_balances_311 rfl (lv_at hl 4 rfl) ?_
                refine lv_bipush (v := 8) hX_ hB_ dL_balances_312 (by decide) ?_
                refine ze_ialdN hX_ hB_ hK hW 0 (f := ((xa_tS (n 1) m (upd (xa_bN n N m) 201 (xa_bN n N m 201 + xa_bD n N m)) (xa_bL n N m) (n 3)).1)) (ze_appget0 rfl) (i := 8) (by omega) (by decide) dL_balances_314 ?_
                refine lv_iconst (v := 1) hX_ hB_ dL_balances_315 (by decide) ?_
                refine lv_icmp_ne (tgt := 323) hX_ hB_ dL_balances_316 (by decide) (fun c316 => ?_) (fun c316 => ?_)
                · refine lv_iconst (v := 0) hX_ hB_ dL_balances_323 (by decide) ?_
                  refine lv_istore (lv' := [(5, .int 0), (4, .int ((xa_tS (n 1) m (upd (xa_bN n N m) 201 (xa_bN n N m 201 + xa_bD n N m)) (xa_bL n N m) (n 3)).2)), (3, .ref qr), (2, .int (xa_bD n N m)), (0, .ref q), (1, .int (nI m))]) hX_ hB_ dL_balances_324 hl (by decide) rfl (fun ls hl => ?_)
                  refine lv_aload_n hX_ hB_ dL_balances_326 rfl (lv_at hl 4 rfl) ?_
                  refine lv_bipush (v := 9) hX_ hB_ dL_balances_327 (by decide) ?_
                  refine lv_dup2_11 hX_ hB_ dL_balances_329 rfl rfl ?_
                  refine ze_ialdN hX_ hB_ hK hW 0 (f := ((xa_tS (n 1) m (upd (xa_bN n N m) 201 (xa_bN n N m 201 + xa_bD n N m)) (xa_bL n N m) (n 3)).1)) (ze_appget0 rfl) (i := 9) (by omega) (by decide) dL_balances_330 ?_
                  refine lv_iload hX_ hB_ dL_balances_331 (lv_at hl 0 rfl) ?_
                  refine lv_if_eq (tgt := 341) hX_ hB_ dL_balances_333 (by decide) (fun c333 => ?_) (fun c333 => ?_)
                  · refine lv_iconst (v := 0) hX_ hB_ dL_balances_341 (by decide) ?_
                    refine lv_iadd hX_ hB_ dL_balances_342 ?_
                    refine ze_iastN hX_ hB_ hK hW 0 (f := ((xa_tS (n 1) m (upd (xa_bN n N m) 201 (xa_bN n N m 201 + xa_bD n N m)) (xa_bL n N m) (n 3)).1)) (ze_appget0 rfl) (i := 9) (by omega) (by decide) dL_balances_343 (ze_appsetL rfl rfl) (fun H locs hW => ?_)
                    have hW : ze_W D (([(q, .inl (c 0, 210, .inl (upd ((xa_tS (n 1) m (upd (xa_bN n N m) 201 (xa_bN n N m 201 + xa_bD n N m)) (xa_bL n N m) (n 3)).1) 9 (((xa_tS (n 1) m (upd (xa_bN n N m) 201 (xa_bN n N m 201 + xa_bD n N m)) (xa_bL n N m) (n 3)).1) 9 + 0))))] : va_W) ++ [(qr, .inl (c 0, 6, .inl (xa_bS n N m)))]) F s.heap _ _ := hW
                    refine lv_aload_n hX_ hB_ dL_balances_344 rfl (lv_at hl 4 rfl) ?_
                    refine lv_sipush (v := 202) hX_ hB_ dL_balances_345 (by decide) ?_
                    refine lv_dup2_11 hX_ hB_ dL_balances_348 rfl rfl ?_
                    refine ze_ialdN hX_ hB_ hK hW 0 (f := (upd ((xa_tS (n 1) m (upd (xa_bN n N m) 201 (xa_bN n N m 201 + xa_bD n N m)) (xa_bL n N m) (n 3)).1) 9 (((xa_tS (n 1) m (upd (xa_bN n N m) 201 (xa_bN n N m 201 + xa_bD n N m)) (xa_bL n N m) (n 3)).1) 9 + 0))) (ze_appget0 rfl) (i := 202) (by omega) (by decide) dL_balances_349 ?_
                    refine ze_top (xb_un (by omega)) ?_
                    refine lv_iload hX_ hB_ dL_balances_350 (lv_at hl 0 rfl) ?_
                    refine lv_if_eq (tgt := 359) hX_ hB_ dL_balances_352 (by decide) (fun c352 => ?_) (fun c352 => ?_)
                    · refine lv_iload hX_ hB_ dL_balances_359 (lv_at hl 1 rfl) ?_
                      refine lv_ineg hX_ hB_ dL_balances_361 ?_
                      refine lv_iadd hX_ hB_ dL_balances_362 ?_
                      refine ze_iastN hX_ hB_ hK hW 0 (f := (upd ((xa_tS (n 1) m (upd (xa_bN n N m) 201 (xa_bN n N m 201 + xa_bD n N m)) (xa_bL n N m) (n 3)).1) 9 (((xa_tS (n 1) m (upd (xa_bN n N m) 201 (xa_bN n N m 201 + xa_bD n N m)) (xa_bL n N m) (n 3)).1) 9 + 0))) (ze_appget0 rfl) (i := 202) (by omega) (by decide) dL_balances_363 (ze_appsetL rfl rfl) (fun H locs hW => ?_)
                      have hW : ze_W D (([(q, .inl (c 0, 210, .inl (upd (upd ((xa_tS (n 1) m (upd (xa_bN n N m) 201 (xa_bN n N m 201 + xa_bD n N m)) (xa_bL n N m) (n 3)).1) 9 (((xa_tS (n 1) m (upd (xa_bN n N m) 201 (xa_bN n N m 201 + xa_bD n N m)) (xa_bL n N m) (n 3)).1) 9 + 0)) 202 (((xa_tS (n 1) m (upd (xa_bN n N m) 201 (xa_bN n N m 201 + xa_bD n N m)) (xa_bL n N m) (n 3)).1) 202 + (-((xa_tS (n 1) m (upd (xa_bN n N m) 201 (xa_bN n N m 201 + xa_bD n N m)) (xa_bL n N m) (n 3)).2))))))] : va_W) ++ [(qr, .inl (c 0, 6, .inl (xa_bS n N m)))]) F s.heap _ _ := hW
                      have hW := ze_Wl hW
                      exact ze_vret S hr hlocks hF hK hW dL_balances_364 (Nat.le_of_ble_eq_true rfl) (Nat.le_of_ble_eq_true rfl) (by simp only [xa_bal, xa_fin, eq_false c29, eq_false c191, eq_true c308, eq_false c316, eq_true c333, eq_true c352, not_true_eq_false, not_false_eq_true, and_true, true_and, and_false, false_and, or_true, true_or, or_false, false_or, and_self, or_self, Decidable.not_not, if_true, if_false, reduceIte, reduceCtorEq, ne_eq, eq_self, Int32.lt_irrefl, Int32.le_refl, Nat.lt_irrefl])
                    · exact absurd c352 (by decide)
                  · exact absurd c333 (by decide)
                · refine lv_iconst (v := 1) hX_ hB_ dL_balances_319 (by decide) ?_
                  refine lv_goto (tgt := 324) hX_ hB_ dL_balances_320 (by decide) ?_
                  refine lv_istore (lv' := [(5, .int 1), (4, .int ((xa_tS (n 1) m (upd (xa_bN n N m) 201 (xa_bN n N m 201 + xa_bD n N m)) (xa_bL n N m) (n 3)).2)), (3, .ref qr), (2, .int (xa_bD n N m)), (0, .ref q), (1, .int (nI m))]) hX_ hB_ dL_balances_324 hl (by decide) rfl (fun ls hl => ?_)
                  refine lv_aload_n hX_ hB_ dL_balances_326 rfl (lv_at hl 4 rfl) ?_
                  refine lv_bipush (v := 9) hX_ hB_ dL_balances_327 (by decide) ?_
                  refine lv_dup2_11 hX_ hB_ dL_balances_329 rfl rfl ?_
                  refine ze_ialdN hX_ hB_ hK hW 0 (f := ((xa_tS (n 1) m (upd (xa_bN n N m) 201 (xa_bN n N m 201 + xa_bD n N m)) (xa_bL n N m) (n 3)).1)) (ze_appget0 rfl) (i := 9) (by omega) (by decide) dL_balances_330 ?_
                  refine lv_iload hX_ hB_ dL_balances_331 (lv_at hl 0 rfl) ?_
                  refine lv_if_eq (tgt := 341) hX_ hB_ dL_balances_333 (by decide) (fun c333 => ?_) (fun c333 => ?_)
                  · exact absurd c333 (by decide)
                  · refine lv_iload hX_ hB_ dL_balances_336 (lv_at hl 1 rfl) ?_
                    refine lv_goto (tgt := 342) hX_ hB_ dL_balances_338 (by decide) ?_
                    refine lv_iadd hX_ hB_ dL_balances_342 ?_
                    refine ze_iastN hX_ hB_ hK hW 0 (f := ((xa_tS (n 1) m (upd (xa_bN n N m) 201 (xa_bN n N m 201 + xa_bD n N m)) (xa_bL n N m) (n 3)).1)) (ze_appget0 rfl) (i := 9) (by omega) (by decide) dL_balances_343 (ze_appsetL rfl rfl) (fun H locs hW => ?_)
                    have hW : ze_W D (([(q, .inl (c 0, 210, .inl (upd ((xa_tS (n 1) m (upd (xa_bN n N m) 201 (xa_bN n N m 201 + xa_bD n N m)) (xa_bL n N m) (n 3)).1) 9 (((xa_tS (n 1) m (upd (xa_bN n N m) 201 (xa_bN n N m 201 + xa_bD n N m)) (xa_bL n N m) (n 3)).1) 9 + (xa_tS (n 1) m (upd (xa_bN n N m) 201 (xa_bN n N m 201 + xa_bD n N m)) (xa_bL n N m) (n 3)).2))))] : va_W) ++ [(qr, .inl (c 0, 6, .inl (xa_bS n N m)))]) F s.heap _ _ := hW
                    refine lv_aload_n hX_ hB_ dL_balances_344 rfl (lv_at hl 4 rfl) ?_
                    refine lv_sipush (v := 202) hX_ hB_ dL_balances_345 (by decide) ?_
                    refine lv_dup2_11 hX_ hB_ dL_balances_348 rfl rfl ?_
                    refine ze_ialdN hX_ hB_ hK hW 0 (f := (upd ((xa_tS (n 1) m (upd (xa_bN n N m) 201 (xa_bN n N m 201 + xa_bD n N m)) (xa_bL n N m) (n 3)).1) 9 (((xa_tS (n 1) m (upd (xa_bN n N m) 201 (xa_bN n N m 201 + xa_bD n N m)) (xa_bL n N m) (n 3)).1) 9 + (xa_tS (n 1) m (upd (xa_bN n N m) 201 (xa_bN n N m 201 + xa_bD n N m)) (xa_bL n N m) (n 3)).2))) (ze_appget0 rfl) (i := 202) (by omega) (by decide) dL_balances_349 ?_
                    refine ze_top (xb_un (by omega)) ?_
                    refine lv_iload hX_ hB_ dL_balances_350 (lv_at hl 0 rfl) ?_
                    refine lv_if_eq (tgt := 359) hX_ hB_ dL_balances_352 (by decide) (fun c352 => ?_) (fun c352 => ?_)
                    · exact absurd c352 (by decide)
                    · refine lv_iconst (v := 0) hX_ hB_ dL_balances_355 (by decide) ?_
                      refine lv_goto (tgt := 362) hX_ hB_ dL_balances_356 (by decide) ?_
                      refine lv_iadd hX_ hB_ dL_balances_362 ?_
                      refine ze_iastN hX_ hB_ hK hW 0 (f := (upd ((xa_tS (n 1) m (upd (xa_bN n N m) 201 (xa_bN n N m 201 + xa_bD n N m)) (xa_bL n N m) (n 3)).1) 9 (((xa_tS (n 1) m (upd (xa_bN n N m) 201 (xa_bN n N m 201 + xa_bD n N m)) (xa_bL n N m) (n 3)).1) 9 + (xa_tS (n 1) m (upd (xa_bN n N m) 201 (xa_bN n N m 201 + xa_bD n N m)) (xa_bL n N m) (n 3)).2))) (ze_appget0 rfl) (i := 202) (by omega) (by decide) dL_balances_363 (ze_appsetL rfl rfl) (fun H locs hW => ?_)
                      have hW : ze_W D (([(q, .inl (c 0, 210, .inl (upd (upd ((xa_tS (n 1) m (upd (xa_bN n N m) 201 (xa_bN n N m 201 + xa_bD n N m)) (xa_bL n N m) (n 3)).1) 9 (((xa_tS (n 1) m (upd (xa_bN n N m) 201 (xa_bN n N m 201 + xa_bD n N m)) (xa_bL n N m) (n 3)).1) 9 + (xa_tS (n 1) m (upd (xa_bN n N m) 201 (xa_bN n N m 201 + xa_bD n N m)) (xa_bL n N m) (n 3)).2)) 202 (((xa_tS (n 1) m (upd (xa_bN n N m) 201 (xa_bN n N m 201 + xa_bD n N m)) (xa_bL n N m) (n 3)).1) 202 + 0))))] : va_W) ++ [(qr, .inl (c 0, 6, .inl (xa_bS n N m)))]) F s.heap _ _ := hW
                      have hW := ze_Wl hW
                      exact ze_vret S hr hlocks hF hK hW dL_balances_364 (Nat.le_of_ble_eq_true rfl) (Nat.le_of_ble_eq_true rfl) (by simp only [xa_bal, xa_fin, eq_false c29, eq_false c191, eq_true c308, eq_true c316, eq_false c333, eq_false c352, not_true_eq_false, not_false_eq_true, and_true, true_and, and_false, false_and, or_true, true_or, or_false, false_or, and_self, or_self, Decidable.not_not, if_true, if_false, reduceIte, reduceCtorEq, ne_eq, eq_self, Int32.lt_irrefl, Int32.le_refl, Nat.lt_irrefl])
            · have c191 : i186 < (n 3) := Nat.lt_of_not_le (fun h9 => c191 ((nI_leI (a := (n 3)) (b := i186) (by omega) (by omega)).mpr h9))
              refine lv_bipush (v := 110) hX_ hB_ dL_balances_194 (by decide) ?_
              refine lv_bipush (v := 6) hX_ hB_ dL_balances_196 (by decide) ?_
              refine lv_iload hX_ hB_ dL_balances_198 (lv_at hl 0 rfl) ?_
              refine lv_imul hX_ hB_ dL_balances_200 ?_
              refine ze_top (xb_mul (a := 6) (b := i186) (c := 6 * i186) (by omega)) ?_
              refine lv_iadd hX_ hB_ dL_balances_201 ?_
              refine ze_top (xb_add (a := 110) (b := 6 * i186) (c := 6 * i186 + 110) (by omega)) ?_
              refine lv_istore (lv' := [(6, .int (nI (6 * i186 + 110))), (5, .int (nI i186)), (4, .int ((xa_tS (n 1) m (upd (xa_bN n N m) 201 (xa_bN n N m 201 + xa_bD n N m)) (xa_bL n N m) i186).2)), (3, .ref qr), (2, .int (xa_bD n N m)), (0, .ref q), (1, .int (nI m))]) hX_ hB_ dL_balances_202 hl (by decide) rfl (fun ls hl => ?_)
              refine lv_aload_n hX_ hB_ dL_balances_204 rfl (lv_at hl 5 rfl) ?_
              refine lv_aload_n hX_ hB_ dL_balances_205 rfl (lv_at hl 5 rfl) ?_
              refine lv_iload hX_ hB_ dL_balances_206 (lv_at hl 0 rfl) ?_
              refine ze_ialdN hX_ hB_ hK hW 0 (f := ((xa_tS (n 1) m (upd (xa_bN n N m) 201 (xa_bN n N m 201 + xa_bD n N m)) (xa_bL n N m) i186).1)) (ze_appget0 rfl) (i := 6 * i186 + 110) (by omega) (by decide) dL_balances_208 ?_
              refine ze_top (y := nI (ze_ix (((xa_tS (n 1) m (upd (xa_bN n N m) 201 (xa_bN n N m 201 + xa_bD n N m)) (xa_bL n N m) i186).1) (6 * i186 + 110)))) (hHk.2.2.2.2.1 i186 (by omega)).1 ?_
              refine ze_FSi (As := [.ref q, .int (nI (ze_ix (((xa_tS (n 1) m (upd (xa_bN n N m) 201 (xa_bN n N m 201 + xa_bD n N m)) (xa_bL n N m) i186).1) (6 * i186 + 110))))]) (rest := []) S (xl_island l D c q n ((xa_tS (n 1) m (upd (xa_bN n N m) 201 (xa_bN n N m 201 + xa_bD n N m)) (xa_bL n N m) i186).1) hHk (ze_ix (((xa_tS (n 1) m (upd (xa_bN n N m) 201 (xa_bN n N m 201 + xa_bD n N m)) (xa_bL n N m) i186).1) (6 * i186 + 110))) (hHk.2.2.2.2.1 i186 (by omega)).2) (va_cwS 2 hts gL_balances_L_island rfl rfl rfl (by decide +kernel) ⟨(Nat.le_of_ble_eq_true rfl), (Nat.le_of_ble_eq_true rfl)⟩) hK hW hA rfl hl.1 rfl (lv_room (Nat.le_of_ble_eq_true rfl)) dL_balances_209 ⟨(Nat.le_of_ble_eq_true rfl), (Nat.le_of_ble_eq_true rfl)⟩ (fun H locs hW => ?_)
              have hi209 := xa_islt hHk (s := (ze_ix (((xa_tS (n 1) m (upd (xa_bN n N m) 201 (xa_bN n N m 201 + xa_bD n N m)) (xa_bL n N m) i186).1) (6 * i186 + 110)))) (hHk.2.2.2.2.1 i186 (by omega)).2
              have hW : ze_W D (([(q, .inl (c 0, 210, .inl ((xa_tS (n 1) m (upd (xa_bN n N m) 201 (xa_bN n N m 201 + xa_bD n N m)) (xa_bL n N m) i186).1)))] : va_W) ++ [(qr, .inl (c 0, 6, .inl (xa_bS n N m)))]) F s.heap _ _ := hW
              refine lv_iload_n hX_ hB_ dL_balances_212 rfl (lv_at hl 6 rfl) ?_
              refine lv_icmp_ne (tgt := 301) hX_ hB_ dL_balances_213 (by decide) (fun c213 => ?_) (fun c213 => ?_)
              · have c213 : ¬ (xa_isl ((xa_tS (n 1) m (upd (xa_bN n N m) 201 (xa_bN n N m 201 + xa_bD n N m)) (xa_bL n N m) i186).1) (n 1) (ze_ix (((xa_tS (n 1) m (upd (xa_bN n N m) 201 (xa_bN n N m 201 + xa_bD n N m)) (xa_bL n N m) i186).1) (6 * i186 + 110)))) = m := fun h9 => c213 ((nI_eq (a := (xa_isl ((xa_tS (n 1) m (upd (xa_bN n N m) 201 (xa_bN n N m 201 + xa_bD n N m)) (xa_bL n N m) i186).1) (n 1) (ze_ix (((xa_tS (n 1) m (upd (xa_bN n N m) 201 (xa_bN n N m 201 + xa_bD n N m)) (xa_bL n N m) i186).1) (6 * i186 + 110))))) (b := m) (by omega) (by omega)).mpr h9)
                refine lv_iinc (v := nI (i186 + 1)) (lv' := [(5, .int (nI (i186 + 1))), (6, .int (nI (6 * i186 + 110))), (4, .int ((xa_tS (n 1) m (upd (xa_bN n N m) 201 (xa_bN n N m 201 + xa_bD n N m)) (xa_bL n N m) i186).2)), (3, .ref qr), (2, .int (xa_bD n N m)), (0, .ref q), (1, .int (nI m))]) hX_ hB_ dL_balances_301 hl (k := 1) rfl (ze_inc _) (by decide) rfl (fun ls hl => ?_)
                refine lv_goto (tgt := 186) hX_ hB_ dL_balances_304 (by decide) ?_
                have eL4 : (xa_tS (n 1) m (upd (xa_bN n N m) 201 (xa_bN n N m 201 + xa_bD n N m)) (xa_bL n N m) i186).2 = (xa_tS (n 1) m (upd (xa_bN n N m) 201 (xa_bN n N m 201 + xa_bD n N m)) (xa_bL n N m) (i186 + 1)).2 := (by simp only [ze_b, xa_tS, xa_out, eq_false c29, eq_true c191, eq_false c213, not_true_eq_false, not_false_eq_true, and_true, true_and, and_false, false_and, or_true, true_or, or_false, false_or, and_self, or_self, Decidable.not_not, if_true, if_false, reduceIte, reduceCtorEq, ne_eq, eq_self, Int32.lt_irrefl, Int32.le_refl, Nat.lt_irrefl])
                have hl : lv_has ls 8 [(5, .int (nI (i186 + 1))), (6, .int (nI (6 * i186 + 110))), (4, .int ((xa_tS (n 1) m (upd (xa_bN n N m) 201 (xa_bN n N m 201 + xa_bD n N m)) (xa_bL n N m) (i186 + 1)).2)), (3, .ref qr), (2, .int (xa_bD n N m)), (0, .ref q), (1, .int (nI m))] := by
                  first | (rw [← eL4]; exact hl) | (simp only [← eL4]; exact hl)
                have eW : (([(q, .inl (c 0, 210, .inl ((xa_tS (n 1) m (upd (xa_bN n N m) 201 (xa_bN n N m 201 + xa_bD n N m)) (xa_bL n N m) i186).1)))] : va_W) ++ [(qr, .inl (c 0, 6, .inl (xa_bS n N m)))]) = (([(q, .inl (c 0, 210, .inl ((xa_tS (n 1) m (upd (xa_bN n N m) 201 (xa_bN n N m 201 + xa_bD n N m)) (xa_bL n N m) (i186 + 1)).1)))] : va_W) ++ [(qr, .inl (c 0, 6, .inl (xa_bS n N m)))]) := (by simp only [xa_tS, xa_out, eq_false c29, eq_true c191, eq_false c213, not_true_eq_false, not_false_eq_true, and_true, true_and, and_false, false_and, or_true, true_or, or_false, false_or, and_self, or_self, Decidable.not_not, if_true, if_false, reduceIte, reduceCtorEq, ne_eq, eq_self, Int32.lt_irrefl, Int32.le_refl, Nat.lt_irrefl])
                rw [eW] at hW
                exact ih186 (i186 + 1) (by omega) (by omega) _ _ ls hW (lv_sub hl [0, 2, 3, 4, 5, 6] rfl)
              · have c213 : (xa_isl ((xa_tS (n 1) m (upd (xa_bN n N m) 201 (xa_bN n N m 201 + xa_bD n N m)) (xa_bL n N m) i186).1) (n 1) (ze_ix (((xa_tS (n 1) m (upd (xa_bN n N m) 201 (xa_bN n N m 201 + xa_bD n N m)) (xa_bL n N m) i186).1) (6 * i186 + 110)))) = m := (nI_eq (a := (xa_isl ((xa_tS (n 1) m (upd (xa_bN n N m) 201 (xa_bN n N m 201 + xa_bD n N m)) (xa_bL n N m) i186).1) (n 1) (ze_ix (((xa_tS (n 1) m (upd (xa_bN n N m) 201 (xa_bN n N m 201 + xa_bD n N m)) (xa_bL n N m) i186).1) (6 * i186 + 110))))) (b := m) (by omega) (by omega)).mp c213
                refine lv_iload hX_ hB_ dL_balances_216 (lv_at hl 2 rfl) ?_
                refine lv_if_le (tgt := 244) hX_ hB_ dL_balances_218 (by decide) (fun c218 => ?_) (fun c218 => ?_)
                · refine lv_iload hX_ hB_ dL_balances_244 (lv_at hl 2 rfl) ?_
                  refine lv_ineg hX_ hB_ dL_balances_246 ?_
                  refine lv_aload_n hX_ hB_ dL_balances_247 rfl (lv_at hl 5 rfl) ?_
                  refine lv_iload hX_ hB_ dL_balances_248 (lv_at hl 0 rfl) ?_
                  refine lv_iconst (v := 2) hX_ hB_ dL_balances_250 (by decide) ?_
                  refine lv_iadd hX_ hB_ dL_balances_251 ?_
                  refine ze_top (xb_add (a := 6 * i186 + 110) (b := 2) (c := 6 * i186 + 112) (by omega)) ?_
                  refine ze_ialdN hX_ hB_ hK hW 0 (f := ((xa_tS (n 1) m (upd (xa_bN n N m) 201 (xa_bN n N m 201 + xa_bD n N m)) (xa_bL n N m) i186).1)) (ze_appget0 rfl) (i := 6 * i186 + 112) (by omega) (by decide) dL_balances_252 ?_
                  refine lv_aload_n hX_ hB_ dL_balances_253 rfl (lv_at hl 5 rfl) ?_
                  refine lv_iload hX_ hB_ dL_balances_254 (lv_at hl 0 rfl) ?_
                  refine lv_iconst (v := 1) hX_ hB_ dL_balances_256 (by decide) ?_
                  refine lv_iadd hX_ hB_ dL_balances_257 ?_
                  refine ze_top (xb_add (a := 6 * i186 + 110) (b := 1) (c := 6 * i186 + 111) (by omega)) ?_
                  refine ze_ialdN hX_ hB_ hK hW 0 (f := ((xa_tS (n 1) m (upd (xa_bN n N m) 201 (xa_bN n N m 201 + xa_bD n N m)) (xa_bL n N m) i186).1)) (ze_appget0 rfl) (i := 6 * i186 + 111) (by omega) (by decide) dL_balances_258 ?_
                  refine lv_aload_n hX_ hB_ dL_balances_259 rfl (lv_at hl 5 rfl) ?_
                  refine lv_iload hX_ hB_ dL_balances_260 (lv_at hl 0 rfl) ?_
                  refine lv_iconst (v := 3) hX_ hB_ dL_balances_262 (by decide) ?_
                  refine lv_iadd hX_ hB_ dL_balances_263 ?_
                  refine ze_top (xb_add (a := 6 * i186 + 110) (b := 3) (c := 6 * i186 + 113) (by omega)) ?_
                  refine ze_ialdN hX_ hB_ hK hW 0 (f := ((xa_tS (n 1) m (upd (xa_bN n N m) 201 (xa_bN n N m 201 + xa_bD n N m)) (xa_bL n N m) i186).1)) (ze_appget0 rfl) (i := 6 * i186 + 113) (by omega) (by decide) dL_balances_264 ?_
                  refine lv_isub hX_ hB_ dL_balances_265 ?_
                  refine ze_min S hl.1 w0 w1 w2 w3 ⟨Nat.le_of_ble_eq_true rfl, Nat.le_of_ble_eq_true rfl, Nat.le_of_ble_eq_true rfl, Nat.le_of_ble_eq_true rfl⟩ dL_balances_266 ?_
                  refine ze_min S hl.1 w0 w1 w2 w3 ⟨Nat.le_of_ble_eq_true rfl, Nat.le_of_ble_eq_true rfl, Nat.le_of_ble_eq_true rfl, Nat.le_of_ble_eq_true rfl⟩ dL_balances_269 ?_
                  refine lv_ineg hX_ hB_ dL_balances_272 ?_
                  refine lv_istore (lv' := [(7, .int (-(ze_mn (-((xa_tS (n 1) m (upd (xa_bN n N m) 201 (xa_bN n N m 201 + xa_bD n N m)) (xa_bL n N m) i186).2)) (ze_mn (((xa_tS (n 1) m (upd (xa_bN n N m) 201 (xa_bN n N m 201 + xa_bD n N m)) (xa_bL n N m) i186).1) (6 * i186 + 112)) (((xa_tS (n 1) m (upd (xa_bN n N m) 201 (xa_bN n N m 201 + xa_bD n N m)) (xa_bL n N m) i186).1) (6 * i186 + 111) - ((xa_tS (n 1) m (upd (xa_bN n N m) 201 (xa_bN n N m 201 + xa_bD n N m)) (xa_bL n N m) i186).1) (6 * i186 + 113)))))), (6, .int (nI (6 * i186 + 110))), (5, .int (nI i186)), (4, .int ((xa_tS (n 1) m (upd (xa_bN n N m) 201 (xa_bN n N m 201 + xa_bD n N m)) (xa_bL n N m) i186).2)), (3, .ref qr), (2, .int (xa_bD n N m)), (0, .ref q), (1, .int (nI m))]) hX_ hB_ dL_balances_273 hl (by decide) rfl (fun ls hl => ?_)
                  refine lv_aload_n hX_ hB_ dL_balances_275 rfl (lv_at hl 6 rfl) ?_
                  refine lv_iload hX_ hB_ dL_balances_276 (lv_at hl 1 rfl) ?_
                  refine lv_iconst (v := 3) hX_ hB_ dL_balances_278 (by decide) ?_
                  refine lv_iadd hX_ hB_ dL_balances_279 ?_
                  refine ze_top (xb_add (a := 6 * i186 + 110) (b := 3) (c := 6 * i186 + 113) (by omega)) ?_
                  refine lv_dup2_11 hX_ hB_ dL_balances_280 rfl rfl ?_
                  refine ze_ialdN hX_ hB_ hK hW 0 (f := ((xa_tS (n 1) m (upd (xa_bN n N m) 201 (xa_bN n N m 201 + xa_bD n N m)) (xa_bL n N m) i186).1)) (ze_appget0 rfl) (i := 6 * i186 + 113) (by omega) (by decide) dL_balances_281 ?_
                  refine lv_iload hX_ hB_ dL_balances_282 (lv_at hl 0 rfl) ?_
                  refine lv_isub hX_ hB_ dL_balances_284 ?_
                  refine ze_iastN hX_ hB_ hK hW 0 (f := ((xa_tS (n 1) m (upd (xa_bN n N m) 201 (xa_bN n N m 201 + xa_bD n N m)) (xa_bL n N m) i186).1)) (ze_appget0 rfl) (i := 6 * i186 + 113) (by omega) (by decide) dL_balances_285 (ze_appsetL rfl rfl) (fun H locs hW => ?_)
                  have hW : ze_W D (([(q, .inl (c 0, 210, .inl (upd ((xa_tS (n 1) m (upd (xa_bN n N m) 201 (xa_bN n N m 201 + xa_bD n N m)) (xa_bL n N m) i186).1) (6 * i186 + 113) (((xa_tS (n 1) m (upd (xa_bN n N m) 201 (xa_bN n N m 201 + xa_bD n N m)) (xa_bL n N m) i186).1) (6 * i186 + 113) - (-(ze_mn (-((xa_tS (n 1) m (upd (xa_bN n N m) 201 (xa_bN n N m 201 + xa_bD n N m)) (xa_bL n N m) i186).2)) (ze_mn (((xa_tS (n 1) m (upd (xa_bN n N m) 201 (xa_bN n N m 201 + xa_bD n N m)) (xa_bL n N m) i186).1) (6 * i186 + 112)) (((xa_tS (n 1) m (upd (xa_bN n N m) 201 (xa_bN n N m 201 + xa_bD n N m)) (xa_bL n N m) i186).1) (6 * i186 + 111) - ((xa_tS (n 1) m (upd (xa_bN n N m) 201 (xa_bN n N m 201 + xa_bD n N m)) (xa_bL n N m) i186).1) (6 * i186 + 113)))))))))] : va_W) ++ [(qr, .inl (c 0, 6, .inl (xa_bS n N m)))]) F s.heap _ _ := hW
                  refine lv_aload_n hX_ hB_ dL_balances_286 rfl (lv_at hl 6 rfl) ?_
                  refine lv_iload hX_ hB_ dL_balances_287 (lv_at hl 1 rfl) ?_
                  refine lv_iconst (v := 4) hX_ hB_ dL_balances_289 (by decide) ?_
                  refine lv_iadd hX_ hB_ dL_balances_290 ?_
                  refine ze_top (xb_add (a := 6 * i186 + 110) (b := 4) (c := 6 * i186 + 114) (by omega)) ?_
                  refine lv_iload hX_ hB_ dL_balances_291 (lv_at hl 0 rfl) ?_
                  refine ze_iastN hX_ hB_ hK hW 0 (f := (upd ((xa_tS (n 1) m (upd (xa_bN n N m) 201 (xa_bN n N m 201 + xa_bD n N m)) (xa_bL n N m) i186).1) (6 * i186 + 113) (((xa_tS (n 1) m (upd (xa_bN n N m) 201 (xa_bN n N m 201 + xa_bD n N m)) (xa_bL n N m) i186).1) (6 * i186 + 113) - (-(ze_mn (-((xa_tS (n 1) m (upd (xa_bN n N m) 201 (xa_bN n N m 201 + xa_bD n N m)) (xa_bL n N m) i186).2)) (ze_mn (((xa_tS (n 1) m (upd (xa_bN n N m) 201 (xa_bN n N m 201 + xa_bD n N m)) (xa_bL n N m) i186).1) (6 * i186 + 112)) (((xa_tS (n 1) m (upd (xa_bN n N m) 201 (xa_bN n N m 201 + xa_bD n N m)) (xa_bL n N m) i186).1) (6 * i186 + 111) - ((xa_tS (n 1) m (upd (xa_bN n N m) 201 (xa_bN n N m 201 + xa_bD n N m)) (xa_bL n N m) i186).1) (6 * i186 + 113)))))))) (ze_appget0 rfl) (i := 6 * i186 + 114) (by omega) (by decide) dL_balances_293 (ze_appsetL rfl rfl) (fun H locs hW => ?_)
                  have hW : ze_W D (([(q, .inl (c 0, 210, .inl (upd (upd ((xa_tS (n 1) m (upd (xa_bN n N m) 201 (xa_bN n N m 201 + xa_bD n N m)) (xa_bL n N m) i186).1) (6 * i186 + 113) (((xa_tS (n 1) m (upd (xa_bN n N m) 201 (xa_bN n N m 201 + xa_bD n N m)) (xa_bL n N m) i186).1) (6 * i186 + 113) - (-(ze_mn (-((xa_tS (n 1) m (upd (xa_bN n N m) 201 (xa_bN n N m 201 + xa_bD n N m)) (xa_bL n N m) i186).2)) (ze_mn (((xa_tS (n 1) m (upd (xa_bN n N m) 201 (xa_bN n N m 201 + xa_bD n N m)) (xa_bL n N m) i186).1) (6 * i186 + 112)) (((xa_tS (n 1) m (upd (xa_bN n N m) 201 (xa_bN n N m 201 + xa_bD n N m)) (xa_bL n N m) i186).1) (6 * i186 + 111) - ((xa_tS (n 1) m (upd (xa_bN n N m) 201 (xa_bN n N m 201 + xa_bD n N m)) (xa_bL n N m) i186).1) (6 * i186 + 113))))))) (6 * i186 + 114) (-(ze_mn (-((xa_tS (n 1) m (upd (xa_bN n N m) 201 (xa_bN n N m 201 + xa_bD n N m)) (xa_bL n N m) i186).2)) (ze_mn (((xa_tS (n 1) m (upd (xa_bN n N m) 201 (xa_bN n N m 201 + xa_bD n N m)) (xa_bL n N m) i186).1) (6 * i186 + 112)) (((xa_tS (n 1) m (upd (xa_bN n N m) 201 (xa_bN n N m 201 + xa_bD n N m)) (xa_bL n N m) i186).1) (6 * i186 + 111) - ((xa_tS (n 1) m (upd (xa_bN n N m) 201 (xa_bN n N m 201 + xa_bD n N m)) (xa_bL n N m) i186).1) (6 * i186 + 113))))))))] : va_W) ++ [(qr, .inl (c 0, 6, .inl (xa_bS n N m)))]) F s.heap _ _ := hW
                  refine lv_iload hX_ hB_ dL_balances_294 (lv_at hl 3 rfl) ?_
                  refine lv_iload hX_ hB_ dL_balances_296 (lv_at hl 0 rfl) ?_
                  refine lv_isub hX_ hB_ dL_balances_298 ?_
                  refine lv_istore (lv' := [(4, .int ((xa_tS (n 1) m (upd (xa_bN n N m) 201 (xa_bN n N m 201 + xa_bD n N m)) (xa_bL n N m) i186).2 - (-(ze_mn (-((xa_tS (n 1) m (upd (xa_bN n N m) 201 (xa_bN n N m 201 + xa_bD n N m)) (xa_bL n N m) i186).2)) (ze_mn (((xa_tS (n 1) m (upd (xa_bN n N m) 201 (xa_bN n N m 201 + xa_bD n N m)) (xa_bL n N m) i186).1) (6 * i186 + 112)) (((xa_tS (n 1) m (upd (xa_bN n N m) 201 (xa_bN n N m 201 + xa_bD n N m)) (xa_bL n N m) i186).1) (6 * i186 + 111) - ((xa_tS (n 1) m (upd (xa_bN n N m) 201 (xa_bN n N m 201 + xa_bD n N m)) (xa_bL n N m) i186).1) (6 * i186 + 113))))))), (7, .int (-(ze_mn (-((xa_tS (n 1) m (upd (xa_bN n N m) 201 (xa_bN n N m 201 + xa_bD n N m)) (xa_bL n N m) i186).2)) (ze_mn (((xa_tS (n 1) m (upd (xa_bN n N m) 201 (xa_bN n N m 201 + xa_bD n N m)) (xa_bL n N m) i186).1) (6 * i186 + 112)) (((xa_tS (n 1) m (upd (xa_bN n N m) 201 (xa_bN n N m 201 + xa_bD n N m)) (xa_bL n N m) i186).1) (6 * i186 + 111) - ((xa_tS (n 1) m (upd (xa_bN n N m) 201 (xa_bN n N m 201 + xa_bD n N m)) (xa_bL n N m) i186).1) (6 * i186 + 113)))))), (6, .int (nI (6 * i186 + 110))), (5, .int (nI i186)), (3, .ref qr), (2, .int (xa_bD n N m)), (0, .ref q), (1, .int (nI m))]) hX_ hB_ dL_balances_299 hl (by decide) rfl (fun ls hl => ?_)
                  refine lv_iinc (v := nI (i186 + 1)) (lv' := [(5, .int (nI (i186 + 1))), (4, .int ((xa_tS (n 1) m (upd (xa_bN n N m) 201 (xa_bN n N m 201 + xa_bD n N m)) (xa_bL n N m) i186).2 - (-(ze_mn (-((xa_tS (n 1) m (upd (xa_bN n N m) 201 (xa_bN n N m 201 + xa_bD n N m)) (xa_bL n N m) i186).2)) (ze_mn (((xa_tS (n 1) m (upd (xa_bN n N m) 201 (xa_bN n N m 201 + xa_bD n N m)) (xa_bL n N m) i186).1) (6 * i186 + 112)) (((xa_tS (n 1) m (upd (xa_bN n N m) 201 (xa_bN n N m 201 + xa_bD n N m)) (xa_bL n N m) i186).1) (6 * i186 + 111) - ((xa_tS (n 1) m (upd (xa_bN n N m) 201 (xa_bN n N m 201 + xa_bD n N m)) (xa_bL n N m) i186).1) (6 * i186 + 113))))))), (7, .int (-(ze_mn (-((xa_tS (n 1) m (upd (xa_bN n N m) 201 (xa_bN n N m 201 + xa_bD n N m)) (xa_bL n N m) i186).2)) (ze_mn (((xa_tS (n 1) m (upd (xa_bN n N m) 201 (xa_bN n N m 201 + xa_bD n N m)) (xa_bL n N m) i186).1) (6 * i186 + 112)) (((xa_tS (n 1) m (upd (xa_bN n N m) 201 (xa_bN n N m 201 + xa_bD n N m)) (xa_bL n N m) i186).1) (6 * i186 + 111) - ((xa_tS (n 1) m (upd (xa_bN n N m) 201 (xa_bN n N m 201 + xa_bD n N m)) (xa_bL n N m) i186).1) (6 * i186 + 113)))))), (6, .int (nI (6 * i186 + 110))), (3, .ref qr), (2, .int (xa_bD n N m)), (0, .ref q), (1, .int (nI m))]) hX_ hB_ dL_balances_301 hl (k := 3) rfl (ze_inc _) (by decide) rfl (fun ls hl => ?_)
                  refine lv_goto (tgt := 186) hX_ hB_ dL_balances_304 (by decide) ?_
                  have eL4 : (xa_tS (n 1) m (upd (xa_bN n N m) 201 (xa_bN n N m 201 + xa_bD n N m)) (xa_bL n N m) i186).2 - (-(ze_mn (-((xa_tS (n 1) m (upd (xa_bN n N m) 201 (xa_bN n N m 201 + xa_bD n N m)) (xa_bL n N m) i186).2)) (ze_mn (((xa_tS (n 1) m (upd (xa_bN n N m) 201 (xa_bN n N m 201 + xa_bD n N m)) (xa_bL n N m) i186).1) (6 * i186 + 112)) (((xa_tS (n 1) m (upd (xa_bN n N m) 201 (xa_bN n N m 201 + xa_bD n N m)) (xa_bL n N m) i186).1) (6 * i186 + 111) - ((xa_tS (n 1) m (upd (xa_bN n N m) 201 (xa_bN n N m 201 + xa_bD n N m)) (xa_bL n N m) i186).1) (6 * i186 + 113))))) = (xa_tS (n 1) m (upd (xa_bN n N m) 201 (xa_bN n N m 201 + xa_bD n N m)) (xa_bL n N m) (i186 + 1)).2 := (by simp only [ze_b, xa_tS, xa_out, eq_false c29, eq_true c191, eq_true c213, eq_true c218, not_true_eq_false, not_false_eq_true, and_true, true_and, and_false, false_and, or_true, true_or, or_false, false_or, and_self, or_self, Decidable.not_not, if_true, if_false, reduceIte, reduceCtorEq, ne_eq, eq_self, Int32.lt_irrefl, Int32.le_refl, Nat.lt_irrefl])
                  have hl : lv_has ls 8 [(5, .int (nI (i186 + 1))), (4, .int ((xa_tS (n 1) m (upd (xa_bN n N m) 201 (xa_bN n N m 201 + xa_bD n N m)) (xa_bL n N m) (i186 + 1)).2)), (7, .int (-(ze_mn (-((xa_tS (n 1) m (upd (xa_bN n N m) 201 (xa_bN n N m 201 + xa_bD n N m)) (xa_bL n N m) i186).2)) (ze_mn (((xa_tS (n 1) m (upd (xa_bN n N m) 201 (xa_bN n N m 201 + xa_bD n N m)) (xa_bL n N m) i186).1) (6 * i186 + 112)) (((xa_tS (n 1) m (upd (xa_bN n N m) 201 (xa_bN n N m 201 + xa_bD n N m)) (xa_bL n N m) i186).1) (6 * i186 + 111) - ((xa_tS (n 1) m (upd (xa_bN n N m) 201 (xa_bN n N m 201 + xa_bD n N m)) (xa_bL n N m) i186).1) (6 * i186 + 113)))))), (6, .int (nI (6 * i186 + 110))), (3, .ref qr), (2, .int (xa_bD n N m)), (0, .ref q), (1, .int (nI m))] := by
                    first | (rw [← eL4]; exact hl) | (simp only [← eL4]; exact hl)
                  have eW : (([(q, .inl (c 0, 210, .inl (upd (upd ((xa_tS (n 1) m (upd (xa_bN n N m) 201 (xa_bN n N m 201 + xa_bD n N m)) (xa_bL n N m) i186).1) (6 * i186 + 113) (((xa_tS (n 1) m (upd (xa_bN n N m) 201 (xa_bN n N m 201 + xa_bD n N m)) (xa_bL n N m) i186).1) (6 * i186 + 113) - (-(ze_mn (-((xa_tS (n 1) m (upd (xa_bN n N m) 201 (xa_bN n N m 201 + xa_bD n N m)) (xa_bL n N m) i186).2)) (ze_mn (((xa_tS (n 1) m (upd (xa_bN n N m) 201 (xa_bN n N m 201 + xa_bD n N m)) (xa_bL n N m) i186).1) (6 * i186 + 112)) (((xa_tS (n 1) m (upd (xa_bN n N m) 201 (xa_bN n N m 201 + xa_bD n N m)) (xa_bL n N m) i186).1) (6 * i186 + 111) - ((xa_tS (n 1) m (upd (xa_bN n N m) 201 (xa_bN n N m 201 + xa_bD n N m)) (xa_bL n N m) i186).1) (6 * i186 + 113))))))) (6 * i186 + 114) (-(ze_mn (-((xa_tS (n 1) m (upd (xa_bN n N m) 201 (xa_bN n N m 201 + xa_bD n N m)) (xa_bL n N m) i186).2)) (ze_mn (((xa_tS (n 1) m (upd (xa_bN n N m) 201 (xa_bN n N m 201 + xa_bD n N m)) (xa_bL n N m) i186).1) (6 * i186 + 112)) (((xa_tS (n 1) m (upd (xa_bN n N m) 201 (xa_bN n N m 201 + xa_bD n N m)) (xa_bL n N m) i186).1) (6 * i186 + 111) - ((xa_tS (n 1) m (upd (xa_bN n N m) 201 (xa_bN n N m 201 + xa_bD n N m)) (xa_bL n N m) i186).1) (6 * i186 + 113))))))))] : va_W) ++ [(qr, .inl (c 0, 6, .inl (xa_bS n N m)))]) = (([(q, .inl (c 0, 210, .inl ((xa_tS (n 1) m (upd (xa_bN n N m) 201 (xa_bN n N m 201 + xa_bD n N m)) (xa_bL n N m) (i186 + 1)).1)))] : va_W) ++ [(qr, .inl (c 0, 6, .inl (xa_bS n N m)))]) := (by simp only [xa_tS, xa_out, eq_false c29, eq_true c191, eq_true c213, eq_true c218, not_true_eq_false, not_false_eq_true, and_true, true_and, and_false, false_and, or_true, true_or, or_false, false_or, and_self, or_self, Decidable.not_not, if_true, if_false, reduceIte, reduceCtorEq, ne_eq, eq_self, Int32.lt_irrefl, Int32.le_refl, Nat.lt_irrefl])
                  rw [eW] at hW
                  exact ih186 (i186 + 1) (by omega) (by omega) _ _ ls hW (lv_sub hl [0, 1, 4, 5, 6, 7] rfl)
                · refine lv_iload hX_ hB_ dL_balances_221 (lv_at hl 2 rfl) ?_
                  refine lv_aload_n hX_ hB_ dL_balances_223 rfl (lv_at hl 5 rfl) ?_
                  refine lv_iload hX_ hB_ dL_balances_224 (lv_at hl 0 rfl) ?_
                  refine lv_iconst (v := 2) hX_ hB_ dL_balances_226 (by decide) ?_
                  refine lv_iadd hX_ hB_ dL_balances_227 ?_
                  refine ze_top (xb_add (a := 6 * i186 + 110) (b := 2) (c := 6 * i186 + 112) (by omega)) ?_
                  refine ze_ialdN hX_ hB_ hK hW 0 (f := ((xa_tS (n 1) m (upd (xa_bN n N m) 201 (xa_bN n N m 201 + xa_bD n N m)) (xa_bL n N m) i186).1)) (ze_appget0 rfl) (i := 6 * i186 + 112) (by omega) (by decide) dL_balances_228 ?_
                  refine lv_aload_n hX_ hB_ dL_balances_229 rfl (lv_at hl 5 rfl) ?_
                  refine lv_iload hX_ hB_ dL_balances_230 (lv_at hl 0 rfl) ?_
                  refine lv_iconst (v := 3) hX_ hB_ dL_balances_232 (by decide) ?_
                  refine lv_iadd hX_ hB_ dL_balances_233 ?_
                  refine ze_top (xb_add (a := 6 * i186 + 110) (b := 3) (c := 6 * i186 + 113) (by omega)) ?_
                  refine ze_ialdN hX_ hB_ hK hW 0 (f := ((xa_tS (n 1) m (upd (xa_bN n N m) 201 (xa_bN n N m 201 + xa_bD n N m)) (xa_bL n N m) i186).1)) (ze_appget0 rfl) (i := 6 * i186 + 113) (by omega) (by decide) dL_balances_234 ?_
                  refine ze_min S hl.1 w0 w1 w2 w3 ⟨Nat.le_of_ble_eq_true rfl, Nat.le_of_ble_eq_true rfl, Nat.le_of_ble_eq_true rfl, Nat.le_of_ble_eq_true rfl⟩ dL_balances_235 ?_
                  refine ze_min S hl.1 w0 w1 w2 w3 ⟨Nat.le_of_ble_eq_true rfl, Nat.le_of_ble_eq_true rfl, Nat.le_of_ble_eq_true rfl, Nat.le_of_ble_eq_true rfl⟩ dL_balances_238 ?_
                  refine lv_goto (tgt := 273) hX_ hB_ dL_balances_241 (by decide) ?_
                  refine lv_istore (lv' := [(7, .int (ze_mn ((xa_tS (n 1) m (upd (xa_bN n N m) 201 (xa_bN n N m 201 + xa_bD n N m)) (xa_bL n N m) i186).2) (ze_mn (((xa_tS (n 1) m (upd (xa_bN n N m) 201 (xa_bN n N m 201 + xa_bD n N m)) (xa_bL n N m) i186).1) (6 * i186 + 112)) (((xa_tS (n 1) m (upd (xa_bN n N m) 201 (xa_bN n N m 201 + xa_bD n N m)) (xa_bL n N m) i186).1) (6 * i186 + 113))))), (6, .int (nI (6 * i186 + 110))), (5, .int (nI i186)), (4, .int ((xa_tS (n 1) m (upd (xa_bN n N m) 201 (xa_bN n N m 201 + xa_bD n N m)) (xa_bL n N m) i186).2)), (3, .ref qr), (2, .int (xa_bD n N m)), (0, .ref q), (1, .int (nI m))]) hX_ hB_ dL_balances_273 hl (by decide) rfl (fun ls hl => ?_)
                  refine lv_aload_n hX_ hB_ dL_balances_275 rfl (lv_at hl 6 rfl) ?_
                  refine lv_iload hX_ hB_ dL_balances_276 (lv_at hl 1 rfl) ?_
                  refine lv_iconst (v := 3) hX_ hB_ dL_balances_278 (by decide) ?_
                  refine lv_iadd hX_ hB_ dL_balances_279 ?_
                  refine ze_top (xb_add (a := 6 * i186 + 110) (b := 3) (c := 6 * i186 + 113) (by omega)) ?_
                  refine lv_dup2_11 hX_ hB_ dL_balances_280 rfl rfl ?_
                  refine ze_ialdN hX_ hB_ hK hW 0 (f := ((xa_tS (n 1) m (upd (xa_bN n N m) 201 (xa_bN n N m 201 + xa_bD n N m)) (xa_bL n N m) i186).1)) (ze_appget0 rfl) (i := 6 * i186 + 113) (by omega) (by decide) dL_balances_281 ?_
                  refine lv_iload hX_ hB_ dL_balances_282 (lv_at hl 0 rfl) ?_
                  refine lv_isub hX_ hB_ dL_balances_284 ?_
                  refine ze_iastN hX_ hB_ hK hW 0 (f := ((xa_tS (n 1) m (upd (xa_bN n N m) 201 (xa_bN n N m 201 + xa_bD n N m)) (xa_bL n N m) i186).1)) (ze_appget0 rfl) (i := 6 * i186 + 113) (by omega) (by decide) dL_balances_285 (ze_appsetL rfl rfl) (fun H locs hW => ?_)
                  have hW : ze_W D (([(q, .inl (c 0, 210, .inl (upd ((xa_tS (n 1) m (upd (xa_bN n N m) 201 (xa_bN n N m 201 + xa_bD n N m)) (xa_bL n N m) i186).1) (6 * i186 + 113) (((xa_tS (n 1) m (upd (xa_bN n N m) 201 (xa_bN n N m 201 + xa_bD n N m)) (xa_bL n N m) i186).1) (6 * i186 + 113) - ze_mn ((xa_tS (n 1) m (upd (xa_bN n N m) 201 (xa_bN n N m 201 + xa_bD n N m)) (xa_bL n N m) i186).2) (ze_mn (((xa_tS (n 1) m (upd (xa_bN n N m) 201 (xa_bN n N m 201 + xa_bD n N m)) (xa_bL n N m) i186).1) (6 * i186 + 112)) (((xa_tS (n 1) m (upd (xa_bN n N m) 201 (xa_bN n N m 201 + xa_bD n N m)) (xa_bL n N m) i186).1) (6 * i186 + 113)))))))] : va_W) ++ [(qr, .inl (c 0, 6, .inl (xa_bS n N m)))]) F s.heap _ _ := hW
                  refine lv_aload_n hX_ hB_ dL_balances_286 rfl (lv_at hl 6 rfl) ?_
                  refine lv_iload hX_ hB_ dL_balances_287 (lv_at hl 1 rfl) ?_
                  refine lv_iconst (v := 4) hX_ hB_ dL_balances_289 (by decide) ?_
                  refine lv_iadd hX_ hB_ dL_balances_290 ?_
                  refine ze_top (xb_add (a := 6 * i186 + 110) (b := 4) (c := 6 * i186 + 114) (by omega)) ?_
                  refine lv_iload hX_ hB_ dL_balances_291 (lv_at hl 0 rfl) ?_
                  refine ze_iastN hX_ hB_ hK hW 0 (f := (upd ((xa_tS (n 1) m (upd (xa_bN n N m) 201 (xa_bN n N m 201 + xa_bD n N m)) (xa_bL n N m) i186).1) (6 * i186 + 113) (((xa_tS (n 1) m (upd (xa_bN n N m) 201 (xa_bN n N m 201 + xa_bD n N m)) (xa_bL n N m) i186).1) (6 * i186 + 113) - ze_mn ((xa_tS (n 1) m (upd (xa_bN n N m) 201 (xa_bN n N m 201 + xa_bD n N m)) (xa_bL n N m) i186).2) (ze_mn (((xa_tS (n 1) m (upd (xa_bN n N m) 201 (xa_bN n N m 201 + xa_bD n N m)) (xa_bL n N m) i186).1) (6 * i186 + 112)) (((xa_tS (n 1) m (upd (xa_bN n N m) 201 (xa_bN n N m 201 + xa_bD n N m)) (xa_bL n N m) i186).1) (6 * i186 + 113)))))) (ze_appget0 rfl) (i := 6 * i186 + 114) (by omega) (by decide) dL_balances_293 (ze_appsetL rfl rfl) (fun H locs hW => ?_)
                  have hW : ze_W D (([(q, .inl (c 0, 210, .inl (upd (upd ((xa_tS (n 1) m (upd (xa_bN n N m) 201 (xa_bN n N m 201 + xa_bD n N m)) (xa_bL n N m) i186).1) (6 * i186 + 113) (((xa_tS (n 1) m (upd (xa_bN n N m) 201 (xa_bN n N m 201 + xa_bD n N m)) (xa_bL n N m) i186).1) (6 * i186 + 113) - ze_mn ((xa_tS (n 1) m (upd (xa_bN n N m) 201 (xa_bN n N m 201 + xa_bD n N m)) (xa_bL n N m) i186).2) (ze_mn (((xa_tS (n 1) m (upd (xa_bN n N m) 201 (xa_bN n N m 201 + xa_bD n N m)) (xa_bL n N m) i186).1) (6 * i186 + 112)) (((xa_tS (n 1) m (upd (xa_bN n N m) 201 (xa_bN n N m 201 + xa_bD n N m)) (xa_bL n N m) i186).1) (6 * i186 + 113))))) (6 * i186 + 114) (ze_mn ((xa_tS (n 1) m (upd (xa_bN n N m) 201 (xa_bN n N m 201 + xa_bD n N m)) (xa_bL n N m) i186).2) (ze_mn (((xa_tS (n 1) m (upd (xa_bN n N m) 201 (xa_bN n N m 201 + xa_bD n N m)) (xa_bL n N m) i186).1) (6 * i186 + 112)) (((xa_tS (n 1) m (upd (xa_bN n N m) 201 (xa_bN n N m 201 + xa_bD n N m)) (xa_bL n N m) i186).1) (6 * i186 + 113)))))))] : va_W) ++ [(qr, .inl (c 0, 6, .inl (xa_bS n N m)))]) F s.heap _ _ := hW
                  refine lv_iload hX_ hB_ dL_balances_294 (lv_at hl 3 rfl) ?_
                  refine lv_iload hX_ hB_ dL_balances_296 (lv_at hl 0 rfl) ?_
                  refine lv_isub hX_ hB_ dL_balances_298 ?_
                  refine lv_istore (lv' := [(4, .int ((xa_tS (n 1) m (upd (xa_bN n N m) 201 (xa_bN n N m 201 + xa_bD n N m)) (xa_bL n N m) i186).2 - ze_mn ((xa_tS (n 1) m (upd (xa_bN n N m) 201 (xa_bN n N m 201 + xa_bD n N m)) (xa_bL n N m) i186).2) (ze_mn (((xa_tS (n 1) m (upd (xa_bN n N m) 201 (xa_bN n N m 201 + xa_bD n N m)) (xa_bL n N m) i186).1) (6 * i186 + 112)) (((xa_tS (n 1) m (upd (xa_bN n N m) 201 (xa_bN n N m 201 + xa_bD n N m)) (xa_bL n N m) i186).1) (6 * i186 + 113))))), (7, .int (ze_mn ((xa_tS (n 1) m (upd (xa_bN n N m) 201 (xa_bN n N m 201 + xa_bD n N m)) (xa_bL n N m) i186).2) (ze_mn (((xa_tS (n 1) m (upd (xa_bN n N m) 201 (xa_bN n N m 201 + xa_bD n N m)) (xa_bL n N m) i186).1) (6 * i186 + 112)) (((xa_tS (n 1) m (upd (xa_bN n N m) 201 (xa_bN n N m 201 + xa_bD n N m)) (xa_bL n N m) i186).1) (6 * i186 + 113))))), (6, .int (nI (6 * i186 + 110))), (5, .int (nI i186)), (3, .ref qr), (2, .int (xa_bD n N m)), (0, .ref q), (1, .int (nI m))]) hX_ hB_ dL_balances_299 hl (by decide) rfl (fun ls hl => ?_)
                  refine lv_iinc (v := nI (i186 + 1)) (lv' := [(5, .int (nI (i186 + 1))), (4, .int ((xa_tS (n 1) m (upd (xa_bN n N m) 201 (xa_bN n N m 201 + xa_bD n N m)) (xa_bL n N m) i186).2 - ze_mn ((xa_tS (n 1) m (upd (xa_bN n N m) 201 (xa_bN n N m 201 + xa_bD n N m)) (xa_bL n N m) i186).2) (ze_mn (((xa_tS (n 1) m (upd (xa_bN n N m) 201 (xa_bN n N m 201 + xa_bD n N m)) (xa_bL n N m) i186).1) (6 * i186 + 112)) (((xa_tS (n 1) m (upd (xa_bN n N m) 201 (xa_bN n N m 201 + xa_bD n N m)) (xa_bL n N m) i186).1) (6 * i186 + 113))))), (7, .int (ze_mn ((xa_tS (n 1) m (upd (xa_bN n N m) 201 (xa_bN n N m 201 + xa_bD n N m)) (xa_bL n N m) i186).2) (ze_mn (((xa_tS (n 1) m (upd (xa_bN n N m) 201 (xa_bN n N m 201 + xa_bD n N m)) (xa_bL n N m) i186).1) (6 * i186 + 112)) (((xa_tS (n 1) m (upd (xa_bN n N m) 201 (xa_bN n N m 201 + xa_bD n N m)) (xa_bL n N m) i186).1) (6 * i186 + 113))))), (6, .int (nI (6 * i186 + 110))), (3, .ref qr), (2, .int (xa_bD n N m)), (0, .ref q), (1, .int (nI m))]) hX_ hB_ dL_balances_301 hl (k := 3) rfl (ze_inc _) (by decide) rfl (fun ls hl => ?_)
                  refine lv_goto (tgt := 186) hX_ hB_ dL_balances_304 (by decide) ?_
                  have eL4 : (xa_tS (n 1) m (upd (xa_bN n N m) 201 (xa_bN n N m 201 + xa_bD n N m)) (xa_bL n N m) i186).2 - ze_mn ((xa_tS (n 1) m (upd (xa_bN n N m) 201 (xa_bN n N m 201 + xa_bD n N m)) (xa_bL n N m) i186).2) (ze_mn (((xa_tS (n 1) m (upd (xa_bN n N m) 201 (xa_bN n N m 201 + xa_bD n N m)) (xa_bL n N m) i186).1) (6 * i186 + 112)) (((xa_tS (n 1) m (upd (xa_bN n N m) 201 (xa_bN n N m 201 + xa_bD n N m)) (xa_bL n N m) i186).1) (6 * i186 + 113))) = (xa_tS (n 1) m (upd (xa_bN n N m) 201 (xa_bN n N m 201 + xa_bD n N m)) (xa_bL n N m) (i186 + 1)).2 := (by simp only [ze_b, xa_tS, xa_out, eq_false c29, eq_true c191, eq_true c213, eq_false c218, not_true_eq_false, not_false_eq_true, and_true, true_and, and_false, false_and, or_true, true_or, or_false, false_or, and_self, or_self, Decidable.not_not, if_true, if_false, reduceIte, reduceCtorEq, ne_eq, eq_self, Int32.lt_irrefl, Int32.le_refl, Nat.lt_irrefl])
                  have hl : lv_has ls 8 [(5, .int (nI (i186 + 1))), (4, .int ((xa_tS (n 1) m (upd (xa_bN n N m) 201 (xa_bN n N m 201 + xa_bD n N m)) (xa_bL n N m) (i186 + 1)).2)), (7, .int (ze_mn ((xa_tS (n 1) m (upd (xa_bN n N m) 201 (xa_bN n N m 201 + xa_bD n N m)) (xa_bL n N m) i186).2) (ze_mn (((xa_tS (n 1) m (upd (xa_bN n N m) 201 (xa_bN n N m 201 + xa_bD n N m)) (xa_bL n N m) i186).1) (6 * i186 + 112)) (((xa_tS (n 1) m (upd (xa_bN n N m) 201 (xa_bN n N m 201 + xa_bD n N m)) (xa_bL n N m) i186).1) (6 * i186 + 113))))), (6, .int (nI (6 * i186 + 110))), (3, .ref qr), (2, .int (xa_bD n N m)), (0, .ref q), (1, .int (nI m))] := by
                    first | (rw [← eL4]; exact hl) | (simp only [← eL4]; exact hl)
                  have eW : (([(q, .inl (c 0, 210, .inl (upd (upd ((xa_tS (n 1) m (upd (xa_bN n N m) 201 (xa_bN n N m 201 + xa_bD n N m)) (xa_bL n N m) i186).1) (6 * i186 + 113) (((xa_tS (n 1) m (upd (xa_bN n N m) 201 (xa_bN n N m 201 + xa_bD n N m)) (xa_bL n N m) i186).1) (6 * i186 + 113) - ze_mn ((xa_tS (n 1) m (upd (xa_bN n N m) 201 (xa_bN n N m 201 + xa_bD n N m)) (xa_bL n N m) i186).2) (ze_mn (((xa_tS (n 1) m (upd (xa_bN n N m) 201 (xa_bN n N m 201 + xa_bD n N m)) (xa_bL n N m) i186).1) (6 * i186 + 112)) (((xa_tS (n 1) m (upd (xa_bN n N m) 201 (xa_bN n N m 201 + xa_bD n N m)) (xa_bL n N m) i186).1) (6 * i186 + 113))))) (6 * i186 + 114) (ze_mn ((xa_tS (n 1) m (upd (xa_bN n N m) 201 (xa_bN n N m 201 + xa_bD n N m)) (xa_bL n N m) i186).2) (ze_mn (((xa_tS (n 1) m (upd (xa_bN n N m) 201 (xa_bN n N m 201 + xa_bD n N m)) (xa_bL n N m) i186).1) (6 * i186 + 112)) (((xa_tS (n 1) m (upd (xa_bN n N m) 201 (xa_bN n N m 201 + xa_bD n N m)) (xa_bL n N m) i186).1) (6 * i186 + 113)))))))] : va_W) ++ [(qr, .inl (c 0, 6, .inl (xa_bS n N m)))]) = (([(q, .inl (c 0, 210, .inl ((xa_tS (n 1) m (upd (xa_bN n N m) 201 (xa_bN n N m 201 + xa_bD n N m)) (xa_bL n N m) (i186 + 1)).1)))] : va_W) ++ [(qr, .inl (c 0, 6, .inl (xa_bS n N m)))]) := (by simp only [xa_tS, xa_out, eq_false c29, eq_true c191, eq_true c213, eq_false c218, not_true_eq_false, not_false_eq_true, and_true, true_and, and_false, false_and, or_true, true_or, or_false, false_or, and_self, or_self, Decidable.not_not, if_true, if_false, reduceIte, reduceCtorEq, ne_eq, eq_self, Int32.lt_irrefl, Int32.le_refl, Nat.lt_irrefl])
                  rw [eW] at hW
                  exact ih186 (i186 + 1) (by omega) (by omega) _ _ ls hW (lv_sub hl [0, 1, 4, 5, 6, 7] rfl)
        have hl : lv_has ls 8 [(5, .int (nI 0)), (4, .int ((xa_tS (n 1) m (upd (xa_bN n N m) 201 (xa_bN n N m 201 + xa_bD n N m)) (xa_bL n N m) 0).2)), (3, .ref qr), (2, .int (xa_bD n N m)), (0, .ref q), (1, .int (nI m))] := hl
        have hW : ze_W D (([(q, .inl (c 0, 210, .inl ((xa_tS (n 1) m (upd (xa_bN n N m) 201 (xa_bN n N m 201 + xa_bD n N m)) (xa_bL n N m) 0).1)))] : va_W) ++ [(qr, .inl (c 0, 6, .inl (xa_bS n N m)))]) F s.heap _ _ := hW
        exact L186 _ 0 (by omega) (Nat.lt_succ_self _) _ _ ls hW (lv_sub hl [0, 1, 2, 3, 4, 5] rfl)
      · have c29 : i24 < (n 2) := Nat.lt_of_not_le (fun h9 => c29 ((nI_leI (a := (n 2)) (b := i24) (by omega) (by omega)).mpr h9))
        refine lv_aload_n hX_ hB_ dL_balances_32 rfl (lv_at hl 4 rfl) ?_
        refine lv_bipush (v := 55) hX_ hB_ dL_balances_33 (by decide) ?_
        refine lv_bipush (v := 9) hX_ hB_ dL_balances_35 (by decide) ?_
        refine lv_iload hX_ hB_ dL_balances_37 (lv_at hl 0 rfl) ?_
        refine lv_imul hX_ hB_ dL_balances_39 ?_
        refine ze_top (xb_mul (a := 9) (b := i24) (c := 9 * i24) (by omega)) ?_
        refine lv_iadd hX_ hB_ dL_balances_40 ?_
        refine ze_top (xb_add (a := 55) (b := 9 * i24) (c := 9 * i24 + 55) (by omega)) ?_
        refine ze_ialdN hX_ hB_ hK hW 0 (f := (xa_gN (n 1) m (xa_bS n N m) (xa_sd n N m (n 4)) i24)) (ze_appget0 rfl) (i := 9 * i24 + 55) (by omega) (by decide) dL_balances_41 ?_
        refine lv_iconst (v := 2) hX_ hB_ dL_balances_42 (by decide) ?_
        refine lv_icmp_ne (tgt := 68) hX_ hB_ dL_balances_43 (by decide) (fun c43 => ?_) (fun c43 => ?_)
        · refine lv_iconst (v := 0) hX_ hB_ dL_balances_68 (by decide) ?_
          refine lv_istore (lv' := [(6, .int 0), (5, .int (nI i24)), (4, .int (xa_gL (n 1) m (xa_bS n N m) (xa_sd n N m (n 4)) (xa_bD n N m) i24)), (3, .ref qr), (2, .int (xa_bD n N m)), (0, .ref q), (1, .int (nI m))]) hX_ hB_ dL_balances_69 hl (by decide) rfl (fun ls hl => ?_)
          refine lv_aload_n hX_ hB_ dL_balances_71 rfl (lv_at hl 5 rfl) ?_
          refine lv_bipush (v := 57) hX_ hB_ dL_balances_72 (by decide) ?_
          refine lv_bipush (v := 9) hX_ hB_ dL_balances_74 (by decide) ?_
          refine lv_iload hX_ hB_ dL_balances_76 (lv_at hl 1 rfl) ?_
          refine lv_imul hX_ hB_ dL_balances_78 ?_
          refine ze_top (xb_mul (a := 9) (b := i24) (c := 9 * i24) (by omega)) ?_
          refine lv_iadd hX_ hB_ dL_balances_79 ?_
          refine ze_top (xb_add (a := 57) (b := 9 * i24) (c := 9 * i24 + 57) (by omega)) ?_
          refine lv_iload hX_ hB_ dL_balances_80 (lv_at hl 0 rfl) ?_
          refine lv_if_eq (tgt := 92) hX_ hB_ dL_balances_82 (by decide) (fun c82 => ?_) (fun c82 => ?_)
          · refine lv_aload_n hX_ hB_ dL_balances_92 rfl (lv_at hl 5 rfl) ?_
            refine lv_bipush (v := 57) hX_ hB_ dL_balances_93 (by decide) ?_
            refine lv_bipush (v := 9) hX_ hB_ dL_balances_95 (by decide) ?_
            refine lv_iload hX_ hB_ dL_balances_97 (lv_at hl 1 rfl) ?_
            refine lv_imul hX_ hB_ dL_balances_99 ?_
            refine ze_top (xb_mul (a := 9) (b := i24) (c := 9 * i24) (by omega)) ?_
            refine lv_iadd hX_ hB_ dL_balances_100 ?_
            refine ze_top (xb_add (a := 57) (b := 9 * i24) (c := 9 * i24 + 57) (by omega)) ?_
            refine ze_ialdN hX_ hB_ hK hW 0 (f := (xa_gN (n 1) m (xa_bS n N m) (xa_sd n N m (n 4)) i24)) (ze_appget0 rfl) (i := 9 * i24 + 57) (by omega) (by decide) dL_balances_101 ?_
            refine ze_iastN hX_ hB_ hK hW 0 (f := (xa_gN (n 1) m (xa_bS n N m) (xa_sd n N m (n 4)) i24)) (ze_appget0 rfl) (i := 9 * i24 + 57) (by omega) (by decide) dL_balances_102 (ze_appsetL rfl rfl) (fun H locs hW => ?_)
            have hW : ze_W D (([(q, .inl (c 0, 210, .inl (upd (xa_gN (n 1) m (xa_bS n N m) (xa_sd n N m (n 4)) i24) (9 * i24 + 57) ((xa_gN (n 1) m (xa_bS n N m) (xa_sd n N m (n 4)) i24) (9 * i24 + 57)))))] : va_W) ++ [(qr, .inl (c 0, 6, .inl (xa_bS n N m)))]) F s.heap _ _ := hW
            refine lv_aload_n hX_ hB_ dL_balances_103 rfl (lv_at hl 5 rfl) ?_
            refine lv_bipush (v := 54) hX_ hB_ dL_balances_104 (by decide) ?_
            refine lv_bipush (v := 9) hX_ hB_ dL_balances_106 (by decide) ?_
            refine lv_iload hX_ hB_ dL_balances_108 (lv_at hl 1 rfl) ?_
            refine lv_imul hX_ hB_ dL_balances_110 ?_
            refine ze_top (xb_mul (a := 9) (b := i24) (c := 9 * i24) (by omega)) ?_
            refine lv_iadd hX_ hB_ dL_balances_111 ?_
            refine ze_top (xb_add (a := 54) (b := 9 * i24) (c := 9 * i24 + 54) (by omega)) ?_
            refine lv_dup2_11 hX_ hB_ dL_balances_112 rfl rfl ?_
            refine ze_ialdN hX_ hB_ hK hW 0 (f := (upd (xa_gN (n 1) m (xa_bS n N m) (xa_sd n N m (n 4)) i24) (9 * i24 + 57) ((xa_gN (n 1) m (xa_bS n N m) (xa_sd n N m (n 4)) i24) (9 * i24 + 57)))) (ze_appget0 rfl) (i := 9 * i24 + 54) (by omega) (by decide) dL_balances_113 ?_
            refine ze_top (xb_un (by omega)) ?_
            refine lv_iload hX_ hB_ dL_balances_114 (lv_at hl 0 rfl) ?_
            refine lv_if_eq (tgt := 126) hX_ hB_ dL_balances_116 (by decide) (fun c116 => ?_) (fun c116 => ?_)
            · refine lv_iconst (v := 0) hX_ hB_ dL_balances_126 (by decide) ?_
              refine lv_isub hX_ hB_ dL_balances_127 ?_
              refine ze_iastN hX_ hB_ hK hW 0 (f := (upd (xa_gN (n 1) m (xa_bS n N m) (xa_sd n N m (n 4)) i24) (9 * i24 + 57) ((xa_gN (n 1) m (xa_bS n N m) (xa_sd n N m (n 4)) i24) (9 * i24 + 57)))) (ze_appget0 rfl) (i := 9 * i24 + 54) (by omega) (by decide) dL_balances_128 (ze_appsetL rfl rfl) (fun H locs hW => ?_)
              have hW : ze_W D (([(q, .inl (c 0, 210, .inl (upd (upd (xa_gN (n 1) m (xa_bS n N m) (xa_sd n N m (n 4)) i24) (9 * i24 + 57) ((xa_gN (n 1) m (xa_bS n N m) (xa_sd n N m (n 4)) i24) (9 * i24 + 57))) (9 * i24 + 54) ((xa_gN (n 1) m (xa_bS n N m) (xa_sd n N m (n 4)) i24) (9 * i24 + 54) - 0))))] : va_W) ++ [(qr, .inl (c 0, 6, .inl (xa_bS n N m)))]) F s.heap _ _ := hW
              refine lv_aload_n hX_ hB_ dL_balances_129 rfl (lv_at hl 5 rfl) ?_
              refine lv_sipush (v := 200) hX_ hB_ dL_balances_130 (by decide) ?_
              refine lv_dup2_11 hX_ hB_ dL_balances_133 rfl rfl ?_
              refine ze_ialdN hX_ hB_ hK hW 0 (f := (upd (upd (xa_gN (n 1) m (xa_bS n N m) (xa_sd n N m (n 4)) i24) (9 * i24 + 57) ((xa_gN (n 1) m (xa_bS n N m) (xa_sd n N m (n 4)) i24) (9 * i24 + 57))) (9 * i24 + 54) ((xa_gN (n 1) m (xa_bS n N m) (xa_sd n N m (n 4)) i24) (9 * i24 + 54) - 0))) (ze_appget0 rfl) (i := 200) (by omega) (by decide) dL_balances_134 ?_
              refine ze_top (xb_un (by omega)) ?_
              refine ze_top (xb_un (by omega)) ?_
              refine lv_iload hX_ hB_ dL_balances_135 (lv_at hl 0 rfl) ?_
              refine lv_if_eq (tgt := 147) hX_ hB_ dL_balances_137 (by decide) (fun c137 => ?_) (fun c137 => ?_)
              · refine lv_iconst (v := 0) hX_ hB_ dL_balances_147 (by decide) ?_
                refine lv_iadd hX_ hB_ dL_balances_148 ?_
                refine ze_iastN hX_ hB_ hK hW 0 (f := (upd (upd (xa_gN (n 1) m (xa_bS n N m) (xa_sd n N m (n 4)) i24) (9 * i24 + 57) ((xa_gN (n 1) m (xa_bS n N m) (xa_sd n N m (n 4)) i24) (9 * i24 + 57))) (9 * i24 + 54) ((xa_gN (n 1) m (xa_bS n N m) (xa_sd n N m (n 4)) i24) (9 * i24 + 54) - 0))) (ze_appget0 rfl) (i := 200) (by omega) (by decide) dL_balances_149 (ze_appsetL rfl rfl) (fun H locs hW => ?_)
                have hW : ze_W D (([(q, .inl (c 0, 210, .inl (upd (upd (upd (xa_gN (n 1) m (xa_bS n N m) (xa_sd n N m (n 4)) i24) (9 * i24 + 57) ((xa_gN (n 1) m (xa_bS n N m) (xa_sd n N m (n 4)) i24) (9 * i24 + 57))) (9 * i24 + 54) ((xa_gN (n 1) m (xa_bS n N m) (xa_sd n N m (n 4)) i24) (9 * i24 + 54) - 0)) 200 ((xa_gN (n 1) m (xa_bS n N m) (xa_sd n N m (n 4)) i24) 200 + 0))))] : va_W) ++ [(qr, .inl (c 0, 6, .inl (xa_bS n N m)))]) F s.heap _ _ := hW
                refine lv_iload hX_ hB_ dL_balances_150 (lv_at hl 2 rfl) ?_
                refine lv_iload hX_ hB_ dL_balances_152 (lv_at hl 0 rfl) ?_
                refine lv_if_eq (tgt := 164) hX_ hB_ dL_balances_154 (by decide) (fun c154 => ?_) (fun c154 => ?_)
                · refine lv_iconst (v := 0) hX_ hB_ dL_balances_164 (by decide) ?_
                  refine lv_isub hX_ hB_ dL_balances_165 ?_
                  refine lv_istore (lv' := [(4, .int (xa_gL (n 1) m (xa_bS n N m) (xa_sd n N m (n 4)) (xa_bD n N m) i24 - 0)), (6, .int 0), (5, .int (nI i24)), (3, .ref qr), (2, .int (xa_bD n N m)), (0, .ref q), (1, .int (nI m))]) hX_ hB_ dL_balances_166 hl (by decide) rfl (fun ls hl => ?_)
                  refine lv_iinc (v := nI (i24 + 1)) (lv' := [(5, .int (nI (i24 + 1))), (4, .int (xa_gL (n 1) m (xa_bS n N m) (xa_sd n N m (n 4)) (xa_bD n N m) i24 - 0)), (6, .int 0), (3, .ref qr), (2, .int (xa_bD n N m)), (0, .ref q), (1, .int (nI m))]) hX_ hB_ dL_balances_168 hl (k := 2) rfl (ze_inc _) (by decide) rfl (fun ls hl => ?_)
                  refine lv_goto (tgt := 24) hX_ hB_ dL_balances_171 (by decide) ?_
                  have eL4 : xa_gL (n 1) m (xa_bS n N m) (xa_sd n N m (n 4)) (xa_bD n N m) i24 - 0 = xa_gL (n 1) m (xa_bS n N m) (xa_sd n N m (n 4)) (xa_bD n N m) (i24 + 1) := (by simp only [ze_b, xa_gL, xa_rn, eq_true c29, eq_false c43, eq_true c82, eq_true c116, eq_true c137, eq_true c154, not_true_eq_false, not_false_eq_true, and_true, true_and, and_false, false_and, or_true, true_or, or_false, false_or, and_self, or_self, Decidable.not_not, if_true, if_false, reduceIte, reduceCtorEq, ne_eq, eq_self, Int32.lt_irrefl, Int32.le_refl, Nat.lt_irrefl])
                  have hl : lv_has ls 8 [(5, .int (nI (i24 + 1))), (4, .int (xa_gL (n 1) m (xa_bS n N m) (xa_sd n N m (n 4)) (xa_bD n N m) (i24 + 1))), (6, .int 0), (3, .ref qr), (2, .int (xa_bD n N m)), (0, .ref q), (1, .int (nI m))] := by
                    first | (rw [← eL4]; exact hl) | (simp only [← eL4]; exact hl)
                  have eW : (([(q, .inl (c 0, 210, .inl (upd (upd (upd (xa_gN (n 1) m (xa_bS n N m) (xa_sd n N m (n 4)) i24) (9 * i24 + 57) ((xa_gN (n 1) m (xa_bS n N m) (xa_sd n N m (n 4)) i24) (9 * i24 + 57))) (9 * i24 + 54) ((xa_gN (n 1) m (xa_bS n N m) (xa_sd n N m (n 4)) i24) (9 * i24 + 54) - 0)) 200 ((xa_gN (n 1) m (xa_bS n N m) (xa_sd n N m (n 4)) i24) 200 + 0))))] : va_W) ++ [(qr, .inl (c 0, 6, .inl (xa_bS n N m)))]) = (([(q, .inl (c 0, 210, .inl (xa_gN (n 1) m (xa_bS n N m) (xa_sd n N m (n 4)) (i24 + 1))))] : va_W) ++ [(qr, .inl (c 0, 6, .inl (xa_bS n N m)))]) := (by simp only [xa_gN, xa_gv, xa_rn, eq_true c29, eq_false c43, eq_true c82, eq_true c116, eq_true c137, eq_true c154, not_true_eq_false, not_false_eq_true, and_true, true_and, and_false, false_and, or_true, true_or, or_false, false_or, and_self, or_self, Decidable.not_not, if_true, if_false, reduceIte, reduceCtorEq, ne_eq, eq_self, Int32.lt_irrefl, Int32.le_refl, Nat.lt_irrefl])
                  rw [eW] at hW
                  exact ih24 (i24 + 1) (by omega) (by omega) _ _ ls hW (lv_sub hl [0, 1, 3, 4, 5, 6] rfl)
                · exact absurd c154 (by decide)
              · exact absurd c137 (by decide)
            · exact absurd c116 (by decide)
          · exact absurd c82 (by decide)
        · refine lv_aload_n hX_ hB_ dL_balances_46 rfl (lv_at hl 4 rfl) ?_
          refine lv_aload_n hX_ hB_ dL_balances_47 rfl (lv_at hl 4 rfl) ?_
          refine lv_bipush (v := 50) hX_ hB_ dL_balances_48 (by decide) ?_
          refine lv_bipush (v := 9) hX_ hB_ dL_balances_50 (by decide) ?_
          refine lv_iload hX_ hB_ dL_balances_52 (lv_at hl 0 rfl) ?_
          refine lv_imul hX_ hB_ dL_balances_54 ?_
          refine ze_top (xb_mul (a := 9) (b := i24) (c := 9 * i24) (by omega)) ?_
          refine lv_iadd hX_ hB_ dL_balances_55 ?_
          refine ze_top (xb_add (a := 50) (b := 9 * i24) (c := 9 * i24 + 50) (by omega)) ?_
          refine ze_ialdN hX_ hB_ hK hW 0 (f := (xa_gN (n 1) m (xa_bS n N m) (xa_sd n N m (n 4)) i24)) (ze_appget0 rfl) (i := 9 * i24 + 50) (by omega) (by decide) dL_balances_56 ?_
          refine ze_top (y := nI (ze_ix ((xa_gN (n 1) m (xa_bS n N m) (xa_sd n N m (n 4)) i24) (9 * i24 + 50)))) (hHg.2.2.2.1 i24 (by omega)).1 ?_
          refine ze_FSi (As := [.ref q, .int (nI (ze_ix ((xa_gN (n 1) m (xa_bS n N m) (xa_sd n N m (n 4)) i24) (9 * i24 + 50))))]) (rest := []) S (xl_island l D c q n (xa_gN (n 1) m (xa_bS n N m) (xa_sd n N m (n 4)) i24) hHg (ze_ix ((xa_gN (n 1) m (xa_bS n N m) (xa_sd n N m (n 4)) i24) (9 * i24 + 50))) (hHg.2.2.2.1 i24 (by omega)).2) (va_cwS 2 hts gL_balances_L_island rfl rfl rfl (by decide +kernel) ⟨(Nat.le_of_ble_eq_true rfl), (Nat.le_of_ble_eq_true rfl)⟩) hK hW hA rfl hl.1 rfl (lv_room (Nat.le_of_ble_eq_true rfl)) dL_balances_57 ⟨(Nat.le_of_ble_eq_true rfl), (Nat.le_of_ble_eq_true rfl)⟩ (fun H locs hW => ?_)
          have hi57 := xa_islt hHg (s := (ze_ix ((xa_gN (n 1) m (xa_bS n N m) (xa_sd n N m (n 4)) i24) (9 * i24 + 50)))) (hHg.2.2.2.1 i24 (by omega)).2
          have hW : ze_W D (([(q, .inl (c 0, 210, .inl (xa_gN (n 1) m (xa_bS n N m) (xa_sd n N m (n 4)) i24)))] : va_W) ++ [(qr, .inl (c 0, 6, .inl (xa_bS n N m)))]) F s.heap _ _ := hW
          refine lv_iload_n hX_ hB_ dL_balances_60 rfl (lv_at hl 5 rfl) ?_
          refine lv_icmp_ne (tgt := 68) hX_ hB_ dL_balances_61 (by decide) (fun c61 => ?_) (fun c61 => ?_)
          · have c61 : ¬ (xa_isl (xa_gN (n 1) m (xa_bS n N m) (xa_sd n N m (n 4)) i24) (n 1) (ze_ix ((xa_gN (n 1) m (xa_bS n N m) (xa_sd n N m (n 4)) i24) (9 * i24 + 50)))) = m := fun h9 => c61 ((nI_eq (a := (xa_isl (xa_gN (n 1) m (xa_bS n N m) (xa_sd n N m (n 4)) i24) (n 1) (ze_ix ((xa_gN (n 1) m (xa_bS n N m) (xa_sd n N m (n 4)) i24) (9 * i24 + 50))))) (b := m) (by omega) (by omega)).mpr h9)
            refine lv_iconst (v := 0) hX_ hB_ dL_balances_68 (by decide) ?_
            refine lv_istore (lv' := [(6, .int 0), (5, .int (nI i24)), (4, .int (xa_gL (n 1) m (xa_bS n N m) (xa_sd n N m (n 4)) (xa_bD n N m) i24)), (3, .ref qr), (2, .int (xa_bD n N m)), (0, .ref q), (1, .int (nI m))]) hX_ hB_ dL_balances_69 hl (by decide) rfl (fun ls hl => ?_)
            refine lv_aload_n hX_ hB_ dL_balances_71 rfl (lv_at hl 5 rfl) ?_
            refine lv_bipush (v := 57) hX_ hB_ dL_balances_72 (by decide) ?_
            refine lv_bipush (v := 9) hX_ hB_ dL_balances_74 (by decide) ?_
            refine lv_iload hX_ hB_ dL_balances_76 (lv_at hl 1 rfl) ?_
            refine lv_imul hX_ hB_ dL_balances_78 ?_
            refine ze_top (xb_mul (a := 9) (b := i24) (c := 9 * i24) (by omega)) ?_
            refine lv_iadd hX_ hB_ dL_balances_79 ?_
            refine ze_top (xb_add (a := 57) (b := 9 * i24) (c := 9 * i24 + 57) (by omega)) ?_
            refine lv_iload hX_ hB_ dL_balances_80 (lv_at hl 0 rfl) ?_
            refine lv_if_eq (tgt := 92) hX_ hB_ dL_balances_82 (by decide) (fun c82 => ?_) (fun c82 => ?_)
            · refine lv_aload_n hX_ hB_ dL_balances_92 rfl (lv_at hl 5 rfl) ?_
              refine lv_bipush (v := 57) hX_ hB_ dL_balances_93 (by decide) ?_
              refine lv_bipush (v := 9) hX_ hB_ dL_balances_95 (by decide) ?_
              refine lv_iload hX_ hB_ dL_balances_97 (lv_at hl 1 rfl) ?_
              refine lv_imul hX_ hB_ dL_balances_99 ?_
              refine ze_top (xb_mul (a := 9) (b := i24) (c := 9 * i24) (by omega)) ?_
              refine lv_iadd hX_ hB_ dL_balances_100 ?_
              refine ze_top (xb_add (a := 57) (b := 9 * i24) (c := 9 * i24 + 57) (by omega)) ?_
              refine ze_ialdN hX_ hB_ hK hW 0 (f := (xa_gN (n 1) m (xa_bS n N m) (xa_sd n N m (n 4)) i24)) (ze_appget0 rfl) (i := 9 * i24 + 57) (by omega) (by decide) dL_balances_101 ?_
              refine ze_iastN hX_ hB_ hK hW 0 (f := (xa_gN (n 1) m (xa_bS n N m) (xa_sd n N m (n 4)) i24)) (ze_appget0 rfl) (i := 9 * i24 + 57) (by omega) (by decide) dL_balances_102 (ze_appsetL rfl rfl) (fun H locs hW => ?_)
              have hW : ze_W D (([(q, .inl (c 0, 210, .inl (upd (xa_gN (n 1) m (xa_bS n N m) (xa_sd n N m (n 4)) i24) (9 * i24 + 57) ((xa_gN (n 1) m (xa_bS n N m) (xa_sd n N m (n 4)) i24) (9 * i24 + 57)))))] : va_W) ++ [(qr, .inl (c 0, 6, .inl (xa_bS n N m)))]) F s.heap _ _ := hW
              refine lv_aload_n hX_ hB_ dL_balances_103 rfl (lv_at hl 5 rfl) ?_
              refine lv_bipush (v := 54) hX_ hB_ dL_balances_104 (by decide) ?_
              refine lv_bipush (v := 9) hX_ hB_ dL_balances_106 (by decide) ?_
              refine lv_iload hX_ hB_ dL_balances_108 (lv_at hl 1 rfl) ?_
              refine lv_imul hX_ hB_ dL_balances_110 ?_
              refine ze_top (xb_mul (a := 9) (b := i24) (c := 9 * i24) (by omega)) ?_
              refine lv_iadd hX_ hB_ dL_balances_111 ?_
              refine ze_top (xb_add (a := 54) (b := 9 * i24) (c := 9 * i24 + 54) (by omega)) ?_
              refine lv_dup2_11 hX_ hB_ dL_balances_112 rfl rfl ?_
              refine ze_ialdN hX_ hB_ hK hW 0 (f := (upd (xa_gN (n 1) m (xa_bS n N m) (xa_sd n N m (n 4)) i24) (9 * i24 + 57) ((xa_gN (n 1) m (xa_bS n N m) (xa_sd n N m (n 4)) i24) (9 * i24 + 57)))) (ze_appget0 rfl) (i := 9 * i24 + 54) (by omega) (by decide) dL_balances_113 ?_
              refine ze_top (xb_un (by omega)) ?_
              refine lv_iload hX_ hB_ dL_balances_114 (lv_at hl 0 rfl) ?_
              refine lv_if_eq (tgt := 126) hX_ hB_ dL_balances_116 (by decide) (fun c116 => ?_) (fun c116 => ?_)
              · refine lv_iconst (v := 0) hX_ hB_ dL_balances_126 (by decide) ?_
                refine lv_isub hX_ hB_ dL_balances_127 ?_
                refine ze_iastN hX_ hB_ hK hW 0 (f := (upd (xa_gN (n 1) m (xa_bS n N m) (xa_sd n N m (n 4)) i24) (9 * i24 + 57) ((xa_gN (n 1) m (xa_bS n N m) (xa_sd n N m (n 4)) i24) (9 * i24 + 57)))) (ze_appget0 rfl) (i := 9 * i24 + 54) (by omega) (by decide) dL_balances_128 (ze_appsetL rfl rfl) (fun H locs hW => ?_)
                have hW : ze_W D (([(q, .inl (c 0, 210, .inl (upd (upd (xa_gN (n 1) m (xa_bS n N m) (xa_sd n N m (n 4)) i24) (9 * i24 + 57) ((xa_gN (n 1) m (xa_bS n N m) (xa_sd n N m (n 4)) i24) (9 * i24 + 57))) (9 * i24 + 54) ((xa_gN (n 1) m (xa_bS n N m) (xa_sd n N m (n 4)) i24) (9 * i24 + 54) - 0))))] : va_W) ++ [(qr, .inl (c 0, 6, .inl (xa_bS n N m)))]) F s.heap _ _ := hW
                refine lv_aload_n hX_ hB_ dL_balances_129 rfl (lv_at hl 5 rfl) ?_
                refine lv_sipush (v := 200) hX_ hB_ dL_balances_130 (by decide) ?_
                refine lv_dup2_11 hX_ hB_ dL_balances_133 rfl rfl ?_
                refine ze_ialdN hX_ hB_ hK hW 0 (f := (upd (upd (xa_gN (n 1) m (xa_bS n N m) (xa_sd n N m (n 4)) i24) (9 * i24 + 57) ((xa_gN (n 1) m (xa_bS n N m) (xa_sd n N m (n 4)) i24) (9 * i24 + 57))) (9 * i24 + 54) ((xa_gN (n 1) m (xa_bS n N m) (xa_sd n N m (n 4)) i24) (9 * i24 + 54) - 0))) (ze_appget0 rfl) (i := 200) (by omega) (by decide) dL_balances_134 ?_
                refine ze_top (xb_un (by omega)) ?_
                refine ze_top (xb_un (by omega)) ?_
                refine lv_iload hX_ hB_ dL_balances_135 (lv_at hl 0 rfl) ?_
                refine lv_if_eq (tgt := 147) hX_ hB_ dL_balances_137 (by decide) (fun c137 => ?_) (fun c137 => ?_)
                · refine lv_iconst (v := 0) hX_ hB_ dL_balances_147 (by decide) ?_
                  refine lv_iadd hX_ hB_ dL_balances_148 ?_
                  refine ze_iastN hX_ hB_ hK hW 0 (f := (upd (upd (xa_gN (n 1) m (xa_bS n N m) (xa_sd n N m (n 4)) i24) (9 * i24 + 57) ((xa_gN (n 1) m (xa_bS n N m) (xa_sd n N m (n 4)) i24) (9 * i24 + 57))) (9 * i24 + 54) ((xa_gN (n 1) m (xa_bS n N m) (xa_sd n N m (n 4)) i24) (9 * i24 + 54) - 0))) (ze_appget0 rfl) (i := 200) (by omega) (by decide) dL_balances_149 (ze_appsetL rfl rfl) (fun H locs hW => ?_)
                  have hW : ze_W D (([(q, .inl (c 0, 210, .inl (upd (upd (upd (xa_gN (n 1) m (xa_bS n N m) (xa_sd n N m (n 4)) i24) (9 * i24 + 57) ((xa_gN (n 1) m (xa_bS n N m) (xa_sd n N m (n 4)) i24) (9 * i24 + 57))) (9 * i24 + 54) ((xa_gN (n 1) m (xa_bS n N m) (xa_sd n N m (n 4)) i24) (9 * i24 + 54) - 0)) 200 ((xa_gN (n 1) m (xa_bS n N m) (xa_sd n N m (n 4)) i24) 200 + 0))))] : va_W) ++ [(qr, .inl (c 0, 6, .inl (xa_bS n N m)))]) F s.heap _ _ := hW
                  refine lv_iload hX_ hB_ dL_balances_150 (lv_at hl 2 rfl) ?_
                  refine lv_iload hX_ hB_ dL_balances_152 (lv_at hl 0 rfl) ?_
                  refine lv_if_eq (tgt := 164) hX_ hB_ dL_balances_154 (by decide) (fun c154 => ?_) (fun c154 => ?_)
                  · refine lv_iconst (v := 0) hX_ hB_ dL_balances_164 (by decide) ?_
                    refine lv_isub hX_ hB_ dL_balances_165 ?_
                    refine lv_istore (lv' := [(4, .int (xa_gL (n 1) m (xa_bS n N m) (xa_sd n N m (n 4)) (xa_bD n N m) i24 - 0)), (6, .int 0), (5, .int (nI i24)), (3, .ref qr), (2, .int (xa_bD n N m)), (0, .ref q), (1, .int (nI m))]) hX_ hB_ dL_balances_166 hl (by decide) rfl (fun ls hl => ?_)
                    refine lv_iinc (v := nI (i24 + 1)) (lv' := [(5, .int (nI (i24 + 1))), (4, .int (xa_gL (n 1) m (xa_bS n N m) (xa_sd n N m (n 4)) (xa_bD n N m) i24 - 0)), (6, .int 0), (3, .ref qr), (2, .int (xa_bD n N m)), (0, .ref q), (1, .int (nI m))]) hX_ hB_ dL_balances_168 hl (k := 2) rfl (ze_inc _) (by decide) rfl (fun ls hl => ?_)
                    refine lv_goto (tgt := 24) hX_ hB_ dL_balances_171 (by decide) ?_
                    have eL4 : xa_gL (n 1) m (xa_bS n N m) (xa_sd n N m (n 4)) (xa_bD n N m) i24 - 0 = xa_gL (n 1) m (xa_bS n N m) (xa_sd n N m (n 4)) (xa_bD n N m) (i24 + 1) := (by simp only [ze_b, xa_gL, xa_rn, eq_true c29, eq_true c43, eq_false c61, eq_true c82, eq_true c116, eq_true c137, eq_true c154, not_true_eq_false, not_false_eq_true, and_true, true_and, and_false, false_and, or_true, true_or, or_false, false_or, and_self, or_self, Decidable.not_not, if_true, if_false, reduceIte, reduceCtorEq, ne_eq, eq_self, Int32.lt_irrefl, Int32.le_refl, Nat.lt_irrefl])
                    have hl : lv_has ls 8 [(5, .int (nI (i24 + 1))), (4, .int (xa_gL (n 1) m (xa_bS n N m) (xa_sd n N m (n 4)) (xa_bD n N m) (i24 + 1))), (6, .int 0), (3, .ref qr), (2, .int (xa_bD n N m)), (0, .ref q), (1, .int (nI m))] := by
                      first | (rw [← eL4]; exact hl) | (simp only [← eL4]; exact hl)
                    have eW : (([(q, .inl (c 0, 210, .inl (upd (upd (upd (xa_gN (n 1) m (xa_bS n N m) (xa_sd n N m (n 4)) i24) (9 * i24 + 57) ((xa_gN (n 1) m (xa_bS n N m) (xa_sd n N m (n 4)) i24) (9 * i24 + 57))) (9 * i24 + 54) ((xa_gN (n 1) m (xa_bS n N m) (xa_sd n N m (n 4)) i24) (9 * i24 + 54) - 0)) 200 ((xa_gN (n 1) m (xa_bS n N m) (xa_sd n N m (n 4)) i24) 200 + 0))))] : va_W) ++ [(qr, .inl (c 0, 6, .inl (xa_bS n N m)))]) = (([(q, .inl (c 0, 210, .inl (xa_gN (n 1) m (xa_bS n N m) (xa_sd n N m (n 4)) (i24 + 1))))] : va_W) ++ [(qr, .inl (c 0, 6, .inl (xa_bS n N m)))]) := (by simp only [xa_gN, xa_gv, xa_rn, eq_true c29, eq_true c43, eq_false c61, eq_true c82, eq_true c116, eq_true c137, eq_true c154, not_true_eq_false, not_false_eq_true, and_true, true_and, and_false, false_and, or_true, true_or, or_false, false_or, and_self, or_self, Decidable.not_not, if_true, if_false, reduceIte, reduceCtorEq, ne_eq, eq_self, Int32.lt_irrefl, Int32.le_refl, Nat.lt_irrefl])
                    rw [eW] at hW
                    exact ih24 (i24 + 1) (by omega) (by omega) _ _ ls hW (lv_sub hl [0, 1, 3, 4, 5, 6] rfl)
                  · exact absurd c154 (by decide)
                · exact absurd c137 (by decide)
              · exact absurd c116 (by decide)
            · exact absurd c82 (by decide)
          · have c61 : (xa_isl (xa_gN (n 1) m (xa_bS n N m) (xa_sd n N m (n 4)) i24) (n 1) (ze_ix ((xa_gN (n 1) m (xa_bS n N m) (xa_sd n N m (n 4)) i24) (9 * i24 + 50)))) = m := (nI_eq (a := (xa_isl (xa_gN (n 1) m (xa_bS n N m) (xa_sd n N m (n 4)) i24) (n 1) (ze_ix ((xa_gN (n 1) m (xa_bS n N m) (xa_sd n N m (n 4)) i24) (9 * i24 + 50))))) (b := m) (by omega) (by omega)).mp c61
            refine lv_iconst (v := 1) hX_ hB_ dL_balances_64 (by decide) ?_
            refine lv_goto (tgt := 69) hX_ hB_ dL_balances_65 (by decide) ?_
            refine lv_istore (lv' := [(6, .int 1), (5, .int (nI i24)), (4, .int (xa_gL (n 1) m (xa_bS n N m) (xa_sd n N m (n 4)) (xa_bD n N m) i24)), (3, .ref qr), (2, .int (xa_bD n N m)), (0, .ref q), (1, .int (nI m))]) hX_ hB_ dL_balances_69 hl (by decide) rfl (fun ls hl => ?_)
            refine lv_aload_n hX_ hB_ dL_balances_71 rfl (lv_at hl 5 rfl) ?_
            refine lv_bipush (v := 57) hX_ hB_ dL_balances_72 (by decide) ?_
            refine lv_bipush (v := 9) hX_ hB_ dL_balances_74 (by decide) ?_
            refine lv_iload hX_ hB_ dL_balances_76 (lv_at hl 1 rfl) ?_
            refine lv_imul hX_ hB_ dL_balances_78 ?_
            refine ze_top (xb_mul (a := 9) (b := i24) (c := 9 * i24) (by omega)) ?_
            refine lv_iadd hX_ hB_ dL_balances_79 ?_
            refine ze_top (xb_add (a := 57) (b := 9 * i24) (c := 9 * i24 + 57) (by omega)) ?_
            refine lv_iload hX_ hB_ dL_balances_80 (lv_at hl 0 rfl) ?_
            refine lv_if_eq (tgt := 92) hX_ hB_ dL_balances_82 (by decide) (fun c82 => ?_) (fun c82 => ?_)
            · exact absurd c82 (by decide)
            · refine lv_aload_n hX_ hB_ dL_balances_85 rfl (lv_at hl 3 rfl) ?_
              refine lv_iload hX_ hB_ dL_balances_86 (lv_at hl 1 rfl) ?_
              refine ze_ialdN hX_ hB_ hK hW (([(q, .inl (c 0, 210, .inl (xa_gN (n 1) m (xa_bS n N m) (xa_sd n N m (n 4)) i24)))] : va_W).length + 0) (f := (xa_bS n N m)) (ze_appL (k := 0) rfl) (i := i24) (by omega) (by decide) dL_balances_88 ?_
              refine lv_goto (tgt := 102) hX_ hB_ dL_balances_89 (by decide) ?_
              refine ze_iastN hX_ hB_ hK hW 0 (f := (xa_gN (n 1) m (xa_bS n N m) (xa_sd n N m (n 4)) i24)) (ze_appget0 rfl) (i := 9 * i24 + 57) (by omega) (by decide) dL_balances_102 (ze_appsetL rfl rfl) (fun H locs hW => ?_)
              have hW : ze_W D (([(q, .inl (c 0, 210, .inl (upd (xa_gN (n 1) m (xa_bS n N m) (xa_sd n N m (n 4)) i24) (9 * i24 + 57) ((xa_bS n N m) i24))))] : va_W) ++ [(qr, .inl (c 0, 6, .inl (xa_bS n N m)))]) F s.heap _ _ := hW
              refine lv_aload_n hX_ hB_ dL_balances_103 rfl (lv_at hl 5 rfl) ?_
              refine lv_bipush (v := 54) hX_ hB_ dL_balances_104 (by decide) ?_
              refine lv_bipush (v := 9) hX_ hB_ dL_balances_106 (by decide) ?_
              refine lv_iload hX_ hB_ dL_balances_108 (lv_at hl 1 rfl) ?_
              refine lv_imul hX_ hB_ dL_balances_110 ?_
              refine ze_top (xb_mul (a := 9) (b := i24) (c := 9 * i24) (by omega)) ?_
              refine lv_iadd hX_ hB_ dL_balances_111 ?_
              refine ze_top (xb_add (a := 54) (b := 9 * i24) (c := 9 * i24 + 54) (by omega)) ?_
              refine lv_dup2_11 hX_ hB_ dL_balances_112 rfl rfl ?_
              refine ze_ialdN hX_ hB_ hK hW 0 (f := (upd (xa_gN (n 1) m (xa_bS n N m) (xa_sd n N m (n 4)) i24) (9 * i24 + 57) ((xa_bS n N m) i24))) (ze_appget0 rfl) (i := 9 * i24 + 54) (by omega) (by decide) dL_balances_113 ?_
              refine ze_top (xb_un (by omega)) ?_
              refine lv_iload hX_ hB_ dL_balances_114 (lv_at hl 0 rfl) ?_
              refine lv_if_eq (tgt := 126) hX_ hB_ dL_balances_116 (by decide) (fun c116 => ?_) (fun c116 => ?_)
              · exact absurd c116 (by decide)
              · refine lv_aload_n hX_ hB_ dL_balances_119 rfl (lv_at hl 3 rfl) ?_
                refine lv_iload hX_ hB_ dL_balances_120 (lv_at hl 1 rfl) ?_
                refine ze_ialdN hX_ hB_ hK hW (([(q, .inl (c 0, 210, .inl (upd (xa_gN (n 1) m (xa_bS n N m) (xa_sd n N m (n 4)) i24) (9 * i24 + 57) ((xa_bS n N m) i24))))] : va_W).length + 0) (f := (xa_bS n N m)) (ze_appL (k := 0) rfl) (i := i24) (by omega) (by decide) dL_balances_122 ?_
                refine lv_goto (tgt := 127) hX_ hB_ dL_balances_123 (by decide) ?_
                refine lv_isub hX_ hB_ dL_balances_127 ?_
                refine ze_iastN hX_ hB_ hK hW 0 (f := (upd (xa_gN (n 1) m (xa_bS n N m) (xa_sd n N m (n 4)) i24) (9 * i24 + 57) ((xa_bS n N m) i24))) (ze_appget0 rfl) (i := 9 * i24 + 54) (by omega) (by decide) dL_balances_128 (ze_appsetL rfl rfl) (fun H locs hW => ?_)
                have hW : ze_W D (([(q, .inl (c 0, 210, .inl (upd (upd (xa_gN (n 1) m (xa_bS n N m) (xa_sd n N m (n 4)) i24) (9 * i24 + 57) ((xa_bS n N m) i24)) (9 * i24 + 54) ((xa_gN (n 1) m (xa_bS n N m) (xa_sd n N m (n 4)) i24) (9 * i24 + 54) - (xa_bS n N m) i24))))] : va_W) ++ [(qr, .inl (c 0, 6, .inl (xa_bS n N m)))]) F s.heap _ _ := hW
                refine lv_aload_n hX_ hB_ dL_balances_129 rfl (lv_at hl 5 rfl) ?_
                refine lv_sipush (v := 200) hX_ hB_ dL_balances_130 (by decide) ?_
                refine lv_dup2_11 hX_ hB_ dL_balances_133 rfl rfl ?_
                refine ze_ialdN hX_ hB_ hK hW 0 (f := (upd (upd (xa_gN (n 1) m (xa_bS n N m) (xa_sd n N m (n 4)) i24) (9 * i24 + 57) ((xa_bS n N m) i24)) (9 * i24 + 54) ((xa_gN (n 1) m (xa_bS n N m) (xa_sd n N m (n 4)) i24) (9 * i24 + 54) - (xa_bS n N m) i24))) (ze_appget0 rfl) (i := 200) (by omega) (by decide) dL_balances_134 ?_
                refine ze_top (xb_un (by omega)) ?_
                refine ze_top (xb_un (by omega)) ?_
                refine lv_iload hX_ hB_ dL_balances_135 (lv_at hl 0 rfl) ?_
                refine lv_if_eq (tgt := 147) hX_ hB_ dL_balances_137 (by decide) (fun c137 => ?_) (fun c137 => ?_)
                · exact absurd c137 (by decide)
                · refine lv_aload_n hX_ hB_ dL_balances_140 rfl (lv_at hl 3 rfl) ?_
                  refine lv_iload hX_ hB_ dL_balances_141 (lv_at hl 1 rfl) ?_
                  refine ze_ialdN hX_ hB_ hK hW (([(q, .inl (c 0, 210, .inl (upd (upd (xa_gN (n 1) m (xa_bS n N m) (xa_sd n N m (n 4)) i24) (9 * i24 + 57) ((xa_bS n N m) i24)) (9 * i24 + 54) ((xa_gN (n 1) m (xa_bS n N m) (xa_sd n N m (n 4)) i24) (9 * i24 + 54) - (xa_bS n N m) i24))))] : va_W).length + 0) (f := (xa_bS n N m)) (ze_appL (k := 0) rfl) (i := i24) (by omega) (by decide) dL_balances_143 ?_
                  refine lv_goto (tgt := 148) hX_ hB_ dL_balances_144 (by decide) ?_
                  refine lv_iadd hX_ hB_ dL_balances_148 ?_
                  refine ze_iastN hX_ hB_ hK hW 0 (f := (upd (upd (xa_gN (n 1) m (xa_bS n N m) (xa_sd n N m (n 4)) i24) (9 * i24 + 57) ((xa_bS n N m) i24)) (9 * i24 + 54) ((xa_gN (n 1) m (xa_bS n N m) (xa_sd n N m (n 4)) i24) (9 * i24 + 54) - (xa_bS n N m) i24))) (ze_appget0 rfl) (i := 200) (by omega) (by decide) dL_balances_149 (ze_appsetL rfl rfl) (fun H locs hW => ?_)
                  have hW : ze_W D (([(q, .inl (c 0, 210, .inl (upd (upd (upd (xa_gN (n 1) m (xa_bS n N m) (xa_sd n N m (n 4)) i24) (9 * i24 + 57) ((xa_bS n N m) i24)) (9 * i24 + 54) ((xa_gN (n 1) m (xa_bS n N m) (xa_sd n N m (n 4)) i24) (9 * i24 + 54) - (xa_bS n N m) i24)) 200 ((xa_gN (n 1) m (xa_bS n N m) (xa_sd n N m (n 4)) i24) 200 + (xa_bS n N m) i24))))] : va_W) ++ [(qr, .inl (c 0, 6, .inl (xa_bS n N m)))]) F s.heap _ _ := hW
                  refine lv_iload hX_ hB_ dL_balances_150 (lv_at hl 2 rfl) ?_
                  refine lv_iload hX_ hB_ dL_balances_152 (lv_at hl 0 rfl) ?_
                  refine lv_if_eq (tgt := 164) hX_ hB_ dL_balances_154 (by decide) (fun c154 => ?_) (fun c154 => ?_)
                  · exact absurd c154 (by decide)
                  · refine lv_aload_n hX_ hB_ dL_balances_157 rfl (lv_at hl 3 rfl) ?_
                    refine lv_iload hX_ hB_ dL_balances_158 (lv_at hl 1 rfl) ?_
                    refine ze_ialdN hX_ hB_ hK hW (([(q, .inl (c 0, 210, .inl (upd (upd (upd (xa_gN (n 1) m (xa_bS n N m) (xa_sd n N m (n 4)) i24) (9 * i24 + 57) ((xa_bS n N m) i24)) (9 * i24 + 54) ((xa_gN (n 1) m (xa_bS n N m) (xa_sd n N m (n 4)) i24) (9 * i24 + 54) - (xa_bS n N m) i24)) 200 ((xa_gN (n 1) m (xa_bS n N m) (xa_sd n N m (n 4)) i24) 200 + (xa_bS n N m) i24))))] : va_W).length + 0) (f := (xa_bS n N m)) (ze_appL (k := 0) rfl) (i := i24) (by omega) (by decide) dL_balances_160 ?_
                    refine lv_goto (tgt := 165) hX_ hB_ dL_balances_161 (by decide) ?_
                    refine lv_isub hX_ hB_ dL_balances_165 ?_
                    refine lv_istore (lv' := [(4, .int (xa_gL (n 1) m (xa_bS n N m) (xa_sd n N m (n 4)) (xa_bD n N m) i24 - (xa_bS n N m) i24)), (6, .int 1), (5, .int (nI i24)), (3, .ref qr), (2, .int (xa_bD n N m)), (0, .ref q), (1, .int (nI m))]) hX_ hB_ dL_balances_166 hl (by decide) rfl (fun ls hl => ?_)
                    refine lv_iinc (v := nI (i24 + 1)) (lv' := [(5, .int (nI (i24 + 1))), (4, .int (xa_gL (n 1) m (xa_bS n N m) (xa_sd n N m (n 4)) (xa_bD n N m) i24 - (xa_bS n N m) i24)), (6, .int 1), (3, .ref qr), (2, .int (xa_bD n N m)), (0, .ref q), (1, .int (nI m))]) hX_ hB_ dL_balances_168 hl (k := 2) rfl (ze_inc _) (by decide) rfl (fun ls hl => ?_)
                    refine lv_goto (tgt := 24) hX_ hB_ dL_balances_171 (by decide) ?_
                    have eL4 : xa_gL (n 1) m (xa_bS n N m) (xa_sd n N m (n 4)) (xa_bD n N m) i24 - (xa_bS n N m) i24 = xa_gL (n 1) m (xa_bS n N m) (xa_sd n N m (n 4)) (xa_bD n N m) (i24 + 1) := (by simp only [ze_b, xa_gL, xa_rn, eq_true c29, eq_true c43, eq_true c61, eq_false c82, eq_false c116, eq_false c137, eq_false c154, not_true_eq_false, not_false_eq_true, and_true, true_and, and_false, false_and, or_true, true_or, or_false, false_or, and_self, or_self, Decidable.not_not, if_true, if_false, reduceIte, reduceCtorEq, ne_eq, eq_self, Int32.lt_irrefl, Int32.le_refl, Nat.lt_irrefl])
                    have hl : lv_has ls 8 [(5, .int (nI (i24 + 1))), (4, .int (xa_gL (n 1) m (xa_bS n N m) (xa_sd n N m (n 4)) (xa_bD n N m) (i24 + 1))), (6, .int 1), (3, .ref qr), (2, .int (xa_bD n N m)), (0, .ref q), (1, .int (nI m))] := by
                      first | (rw [← eL4]; exact hl) | (simp only [← eL4]; exact hl)
                    have eW : (([(q, .inl (c 0, 210, .inl (upd (upd (upd (xa_gN (n 1) m (xa_bS n N m) (xa_sd n N m (n 4)) i24) (9 * i24 + 57) ((xa_bS n N m) i24)) (9 * i24 + 54) ((xa_gN (n 1) m (xa_bS n N m) (xa_sd n N m (n 4)) i24) (9 * i24 + 54) - (xa_bS n N m) i24)) 200 ((xa_gN (n 1) m (xa_bS n N m) (xa_sd n N m (n 4)) i24) 200 + (xa_bS n N m) i24))))] : va_W) ++ [(qr, .inl (c 0, 6, .inl (xa_bS n N m)))]) = (([(q, .inl (c 0, 210, .inl (xa_gN (n 1) m (xa_bS n N m) (xa_sd n N m (n 4)) (i24 + 1))))] : va_W) ++ [(qr, .inl (c 0, 6, .inl (xa_bS n N m)))]) := (by simp only [xa_gN, xa_gv, xa_rn, eq_true c29, eq_true c43, eq_true c61, eq_false c82, eq_false c116, eq_false c137, eq_false c154, not_true_eq_false, not_false_eq_true, and_true, true_and, and_false, false_and, or_true, true_or, or_false, false_or, and_self, or_self, Decidable.not_not, if_true, if_false, reduceIte, reduceCtorEq, ne_eq, eq_self, Int32.lt_irrefl, Int32.le_refl, Nat.lt_irrefl])
                    rw [eW] at hW
                    exact ih24 (i24 + 1) (by omega) (by omega) _ _ ls hW (lv_sub hl [0, 1, 3, 4, 5, 6] rfl)
  have hl : lv_has ls 8 [(5, .int (nI 0)), (4, .int (xa_gL (n 1) m (xa_bS n N m) (xa_sd n N m (n 4)) (xa_bD n N m) 0)), (3, .ref qr), (2, .int (xa_bD n N m)), (0, .ref q), (1, .int (nI m))] := hl
  have hW : ze_W D (([(q, .inl (c 0, 210, .inl (xa_gN (n 1) m (xa_bS n N m) (xa_sd n N m (n 4)) 0)))] : va_W) ++ [(qr, .inl (c 0, 6, .inl (xa_bS n N m)))]) F s.heap _ _ := hW
  exact L24 _ 0 (by omega) (Nat.lt_succ_self _) _ _ ls hW (lv_sub hl [0, 1, 2, 3, 4, 5] rfl)
set_option maxHeartbeats 8000000 in
set_option maxRecDepth 100000 in
theorem xl_ticks (l : Launch) (D : va_G) (c : Nat → ClassId) (q : Nat) (n : Nat → Nat) (N : Nat → Int32) (hH : xa_H n N)  : ze_V l yL_ticks wsL_ticks 6 146 6 36 D c ([(q, .inl (c 0, 210, .inl N))] : va_W) [.ref q] ([(q, .inl (c 0, 210, .inl (xa_tick n N)))] : va_W) := by
  intro sz
  refine ze_start (cc := cL_ticks) (maxL := 3) (ret := none) (own := RL) (by decide) rfl rfl (Nat.le_of_ble_eq_true rfl) ?_
  obtain ⟨⟨hn0, hn1, hn2, hn3, hn4⟩, -⟩ := id hH
  intro p e s m_ below meth cd F ls hF hsz E0
  obtain ⟨S, hr, hlocks, hK, hW, hA, hl⟩ := E0
  have hX_ := S.1
  have hB_ := S.2.1
  have hts := S.2.2.2.2
  have hl : lv_has ls 3 [(0, .ref q)] := hl
  refine lv_aload_n hX_ hB_ dL_ticks_0 rfl (lv_at hl 0 rfl) ?_
  refine lv_bipush (v := 7) hX_ hB_ dL_ticks_1 (by decide) ?_
  refine lv_dup2_11 hX_ hB_ dL_ticks_3 rfl rfl ?_
  refine ze_ialdN hX_ hB_ hK hW 0 (f := N) rfl (i := 7) (by omega) (by decide) dL_ticks_4 ?_
  refine lv_iconst (v := 1) hX_ hB_ dL_ticks_5 (by decide) ?_
  refine lv_iadd hX_ hB_ dL_ticks_6 ?_
  refine ze_iastN hX_ hB_ hK hW 0 (f := N) rfl (i := 7) (by omega) (by decide) dL_ticks_7 rfl (fun H locs hW => ?_)
  have hW : ze_W D ([(q, .inl (c 0, 210, .inl (upd N 7 (N 7 + 1))))] : va_W) F s.heap _ _ := hW
  refine lv_aload_n hX_ hB_ dL_ticks_8 rfl (lv_at hl 0 rfl) ?_
  refine lv_bipush (v := 9) hX_ hB_ dL_ticks_9 (by decide) ?_
  refine lv_iconst (v := 0) hX_ hB_ dL_ticks_11 (by decide) ?_
  refine ze_iastN hX_ hB_ hK hW 0 (f := (upd N 7 (N 7 + 1))) rfl (i := 9) (by omega) (by decide) dL_ticks_12 rfl (fun H locs hW => ?_)
  have hW : ze_W D ([(q, .inl (c 0, 210, .inl (upd (upd N 7 (N 7 + 1)) 9 0)))] : va_W) F s.heap _ _ := hW
  refine lv_iconst (v := 0) hX_ hB_ dL_ticks_13 (by decide) ?_
  refine lv_istore_n (lv' := [(1, .int 0), (0, .ref q)]) hX_ hB_ dL_ticks_14 rfl hl (by decide) rfl (fun ls hl => ?_)
  have L15 : ∀ (k15 : Nat) (i15 : Nat), (i15 ≤ n 2) → (n 2 - i15) < k15 → ∀ (H : Heap) (locs : List Loc) (ls : Array Slot), ze_W D ([(q, .inl (c 0, 210, .inl (xa_tN N i15)))] : va_W) F s.heap H locs → lv_has ls 3 [(1, .int (nI i15)), (0, .ref q)] → W p l e { frames := 6, cells := 6, slots := 36, locals := 146 } s m_ ([.ref q] : List Value).toArray below meth cd H locs 0 0 (MQ below (ze_Qv D c ([(q, .inl (c 0, 210, .inl N))] : va_W) sz ([(q, .inl (c 0, 210, .inl (xa_tick n N)))] : va_W)) ([.ref q] : List Value).toArray s 6 36 F) (F0 m_ 15 ls []) := by
    intro k15
    induction k15 with
    | zero =>
      intro i15 h15 hk15
      exact absurd hk15 (Nat.not_lt_zero _)
    | succ k15 ih15 =>
      intro i15 h15 hk15 H locs ls hW hl
      have hHi := xa_tNH hH (i := i15) h15
      refine lv_iload_n hX_ hB_ dL_ticks_15 rfl (lv_at hl 0 rfl) ?_
      refine lv_aload_n hX_ hB_ dL_ticks_16 rfl (lv_at hl 1 rfl) ?_
      refine lv_iconst (v := 2) hX_ hB_ dL_ticks_17 (by decide) ?_
      refine ze_ialdN hX_ hB_ hK hW 0 (f := (xa_tN N i15)) rfl (i := 2) (by omega) (by decide) dL_ticks_18 ?_
      refine ze_top (y := nI (n 2)) hHi.2.1.2.2.1 ?_
      refine lv_icmp_ge (tgt := 134) hX_ hB_ dL_ticks_19 (by decide) (fun c19 => ?_) (fun c19 => ?_)
      · have c19 : ¬ i15 < (n 2) := Nat.not_lt.mpr ((nI_leI (a := (n 2)) (b := i15) (by omega) (by omega)).mp c19)
        have e15 : i15 = n 2 := by omega
        subst e15
        refine lv_iconst (v := 0) hX_ hB_ dL_ticks_134 (by decide) ?_
        refine lv_istore_n (lv' := [(1, .int 0), (0, .ref q)]) hX_ hB_ dL_ticks_135 rfl hl (by decide) rfl (fun ls hl => ?_)
        have L136 : ∀ (k136 : Nat) (i136 : Nat), (i136 ≤ n 0) → (n 0 - i136) < k136 → ∀ (H : Heap) (locs : List Loc) (ls : Array Slot), ze_W D ([(q, .inl (c 0, 210, .inl (xa_tI n N i136)))] : va_W) F s.heap H locs → lv_has ls 3 [(1, .int (nI i136)), (0, .ref q)] → W p l e { frames := 6, cells := 6, slots := 36, locals := 146 } s m_ ([.ref q] : List Value).toArray below meth cd H locs i136 (6 * i136) (MQ below (ze_Qv D c ([(q, .inl (c 0, 210, .inl N))] : va_W) sz ([(q, .inl (c 0, 210, .inl (xa_tick n N)))] : va_W)) ([.ref q] : List Value).toArray s 6 36 F) (F0 m_ 136 ls []) := by
          intro k136
          induction k136 with
          | zero =>
            intro i136 h136 hk136
            exact absurd hk136 (Nat.not_lt_zero _)
          | succ k136 ih136 =>
            intro i136 h136 hk136 H locs ls hW hl
            have hHk := xa_tIH hH i136
            refine lv_iload_n hX_ hB_ dL_ticks_136 rfl (lv_at hl 0 rfl) ?_
            refine lv_aload_n hX_ hB_ dL_ticks_137 rfl (lv_at hl 1 rfl) ?_
            refine lv_iconst (v := 0) hX_ hB_ dL_ticks_138 (by decide) ?_
            refine ze_ialdN hX_ hB_ hK hW 0 (f := (xa_tI n N i136)) rfl (i := 0) (by omega) (by decide) dL_ticks_139 ?_
            refine ze_top (y := nI (n 0)) hHk.2.1.1 ?_
            refine lv_icmp_ge (tgt := 163) hX_ hB_ dL_ticks_140 (by decide) (fun c140 => ?_) (fun c140 => ?_)
            · have c140 : ¬ i136 < (n 0) := Nat.not_lt.mpr ((nI_leI (a := (n 0)) (b := i136) (by omega) (by omega)).mp c140)
              have e136 : i136 = n 0 := by omega
              subst e136
              exact ze_vret S hr hlocks hF hK hW dL_ticks_163 (by omega) (by omega) rfl
            · have c140 : i136 < (n 0) := Nat.lt_of_not_le (fun h9 => c140 ((nI_leI (a := (n 0)) (b := i136) (by omega) (by omega)).mpr h9))
              refine lv_aload_n hX_ hB_ dL_ticks_143 rfl (lv_at hl 1 rfl) ?_
              refine lv_iload_n hX_ hB_ dL_ticks_144 rfl (lv_at hl 0 rfl) ?_
              have hW := ze_W0 hW
              refine ze_FSi (As := [.ref q, .int (nI i136)]) (rest := []) S (xl_island l D c q n (xa_tI n N i136) hHk i136 (by omega)) (va_cwS 2 hts gL_ticks_L_island rfl rfl rfl (by decide +kernel) ⟨(Nat.le_of_ble_eq_true rfl), (Nat.le_of_ble_eq_true rfl)⟩) hK hW hA rfl hl.1 rfl (lv_room (Nat.le_of_ble_eq_true rfl)) dL_ticks_145 ⟨(by show i136 + 0 ≤ 6; omega), (by show 6 * i136 + 0 ≤ 36; omega)⟩ (fun H locs hW => ?_)
              have hi145 := xa_islt hHk (s := i136) (by omega)
              have hW := ze_W0' hW
              have hW : ze_W D ([(q, .inl (c 0, 210, .inl (xa_tI n N i136)))] : va_W) F s.heap _ _ := hW
              refine lv_iload_n hX_ hB_ dL_ticks_148 rfl (lv_at hl 0 rfl) ?_
              refine lv_icmp_ne (tgt := 157) hX_ hB_ dL_ticks_149 (by decide) (fun c149 => ?_) (fun c149 => ?_)
              · have c149 : ¬ (xa_isl (xa_tI n N i136) (n 1) i136) = i136 := fun h9 => c149 ((nI_eq (a := (xa_isl (xa_tI n N i136) (n 1) i136)) (b := i136) (by omega) (by omega)).mpr h9)
                refine lv_iinc (v := nI (i136 + 1)) (lv' := [(1, .int (nI (i136 + 1))), (0, .ref q)]) hX_ hB_ dL_ticks_157 hl (k := 0) rfl (ze_inc _) (by decide) rfl (fun ls hl => ?_)
                refine lv_goto (tgt := 136) hX_ hB_ dL_ticks_160 (by decide) ?_
                refine W.widen (k := (i136 + 1)) (n := 6 * (i136 + 1)) (by omega) (by omega) ?_
                have eW : ([(q, .inl (c 0, 210, .inl (xa_tI n N i136)))] : va_W) = ([(q, .inl (c 0, 210, .inl (xa_tI n N (i136 + 1))))] : va_W) := (by simp only [xa_tI, eq_false c19, eq_true c140, eq_false c149, not_true_eq_false, not_false_eq_true, and_true, true_and, and_false, false_and, or_true, true_or, or_false, false_or, and_self, or_self, Decidable.not_not, if_true, if_false, reduceIte, reduceCtorEq, ne_eq, eq_self, Int32.lt_irrefl, Int32.le_refl, Nat.lt_irrefl])
                rw [eW] at hW
                exact ih136 (i136 + 1) (by omega) (by omega) _ _ ls hW (lv_sub hl [0, 1] rfl)
              · have c149 : (xa_isl (xa_tI n N i136) (n 1) i136) = i136 := (nI_eq (a := (xa_isl (xa_tI n N i136) (n 1) i136)) (b := i136) (by omega) (by omega)).mp c149
                refine lv_aload_n hX_ hB_ dL_ticks_152 rfl (lv_at hl 1 rfl) ?_
                refine lv_iload_n hX_ hB_ dL_ticks_153 rfl (lv_at hl 0 rfl) ?_
                have hW := ze_W0 hW
                refine xb_FSv (As := [.ref q, .int (nI i136)]) (rest := []) S (xl_balances l D c q n (xa_tI n N i136) hHk i136 (by omega)) (va_cwS 2 hts gL_ticks_L_balances rfl rfl rfl (by decide +kernel) ⟨(Nat.le_of_ble_eq_true rfl), (Nat.le_of_ble_eq_true rfl)⟩) hK hW hA rfl hl.1 rfl (lv_room (Nat.le_of_ble_eq_true rfl)) dL_ticks_154 ⟨(by show i136 + 1 ≤ 6; omega), (by show 6 * i136 + 6 ≤ 36; omega)⟩ (fun H locs hW => ?_)
                have hW := ze_W0' hW
                have hW : ze_W D ([(q, .inl (c 0, 210, .inl (xa_bal n (xa_tI n N i136) i136)))] : va_W) F s.heap _ _ := hW
                refine lv_iinc (v := nI (i136 + 1)) (lv' := [(1, .int (nI (i136 + 1))), (0, .ref q)]) hX_ hB_ dL_ticks_157 hl (k := 0) rfl (ze_inc _) (by decide) rfl (fun ls hl => ?_)
                refine lv_goto (tgt := 136) hX_ hB_ dL_ticks_160 (by decide) ?_
                refine W.widen (k := (i136 + 1)) (n := 6 * (i136 + 1)) (by omega) (by omega) ?_
                have eW : ([(q, .inl (c 0, 210, .inl (xa_bal n (xa_tI n N i136) i136)))] : va_W) = ([(q, .inl (c 0, 210, .inl (xa_tI n N (i136 + 1))))] : va_W) := (by simp only [xa_tI, eq_false c19, eq_true c140, eq_true c149, not_true_eq_false, not_false_eq_true, and_true, true_and, and_false, false_and, or_true, true_or, or_false, false_or, and_self, or_self, Decidable.not_not, if_true, if_false, reduceIte, reduceCtorEq, ne_eq, eq_self, Int32.lt_irrefl, Int32.le_refl, Nat.lt_irrefl])
                rw [eW] at hW
                exact ih136 (i136 + 1) (by omega) (by omega) _ _ ls hW (lv_sub hl [0, 1] rfl)
        have hl : lv_has ls 3 [(1, .int (nI 0)), (0, .ref q)] := hl
        have hW : ze_W D ([(q, .inl (c 0, 210, .inl (xa_tI n N 0)))] : va_W) F s.heap _ _ := hW
        exact L136 _ 0 (by omega) (Nat.lt_succ_self _) _ _ ls hW (lv_sub hl [0, 1] rfl)
      · have c19 : i15 < (n 2) := Nat.lt_of_not_le (fun h9 => c19 ((nI_leI (a := (n 2)) (b := i15) (by omega) (by omega)).mpr h9))
        refine lv_bipush (v := 50) hX_ hB_ dL_ticks_22 (by decide) ?_
        refine lv_bipush (v := 9) hX_ hB_ dL_ticks_24 (by decide) ?_
        refine lv_iload_n hX_ hB_ dL_ticks_26 rfl (lv_at hl 0 rfl) ?_
        refine lv_imul hX_ hB_ dL_ticks_27 ?_
        refine ze_top (xb_mul (a := 9) (b := i15) (c := 9 * i15) (by omega)) ?_
        refine lv_iadd hX_ hB_ dL_ticks_28 ?_
        refine ze_top (xb_add (a := 50) (b := 9 * i15) (c := 9 * i15 + 50) (by omega)) ?_
        refine lv_istore_n (lv' := [(2, .int (nI (9 * i15 + 50))), (1, .int (nI i15)), (0, .ref q)]) hX_ hB_ dL_ticks_29 rfl hl (by decide) rfl (fun ls hl => ?_)
        refine lv_aload_n hX_ hB_ dL_ticks_30 rfl (lv_at hl 2 rfl) ?_
        refine lv_iload_n hX_ hB_ dL_ticks_31 rfl (lv_at hl 0 rfl) ?_
        refine lv_bipush (v := 7) hX_ hB_ dL_ticks_32 (by decide) ?_
        refine lv_iadd hX_ hB_ dL_ticks_34 ?_
        refine ze_top (xb_add (a := 9 * i15 + 50) (b := 7) (c := 9 * i15 + 57) (by omega)) ?_
        refine lv_iconst (v := 0) hX_ hB_ dL_ticks_35 (by decide) ?_
        refine ze_iastN hX_ hB_ hK hW 0 (f := (xa_tN N i15)) rfl (i := 9 * i15 + 57) (by omega) (by decide) dL_ticks_36 rfl (fun H locs hW => ?_)
        have hW : ze_W D ([(q, .inl (c 0, 210, .inl (upd (xa_tN N i15) (9 * i15 + 57) 0)))] : va_W) F s.heap _ _ := hW
        refine lv_aload_n hX_ hB_ dL_ticks_37 rfl (lv_at hl 2 rfl) ?_
        refine lv_iload_n hX_ hB_ dL_ticks_38 rfl (lv_at hl 0 rfl) ?_
        refine lv_bipush (v := 6) hX_ hB_ dL_ticks_39 (by decide) ?_
        refine lv_iadd hX_ hB_ dL_ticks_41 ?_
        refine ze_top (xb_add (a := 9 * i15 + 50) (b := 6) (c := 9 * i15 + 56) (by omega)) ?_
        refine lv_dup2_11 hX_ hB_ dL_ticks_42 rfl rfl ?_
        refine ze_ialdN hX_ hB_ hK hW 0 (f := (upd (xa_tN N i15) (9 * i15 + 57) 0)) rfl (i := 9 * i15 + 56) (by omega) (by decide) dL_ticks_43 ?_
        refine ze_top (xb_un (by omega)) ?_
        refine lv_aload_n hX_ hB_ dL_ticks_44 rfl (lv_at hl 2 rfl) ?_
        refine lv_iload_n hX_ hB_ dL_ticks_45 rfl (lv_at hl 0 rfl) ?_
        refine lv_iconst (v := 5) hX_ hB_ dL_ticks_46 (by decide) ?_
        refine lv_iadd hX_ hB_ dL_ticks_47 ?_
        refine ze_top (xb_add (a := 9 * i15 + 50) (b := 5) (c := 9 * i15 + 55) (by omega)) ?_
        refine ze_ialdN hX_ hB_ hK hW 0 (f := (upd (xa_tN N i15) (9 * i15 + 57) 0)) rfl (i := 9 * i15 + 55) (by omega) (by decide) dL_ticks_48 ?_
        refine ze_top (xb_un (by omega)) ?_
        refine lv_iconst (v := 1) hX_ hB_ dL_ticks_49 (by decide) ?_
        refine lv_icmp_ne (tgt := 57) hX_ hB_ dL_ticks_50 (by decide) (fun c50 => ?_) (fun c50 => ?_)
        · refine lv_iconst (v := 0) hX_ hB_ dL_ticks_57 (by decide) ?_
          refine lv_isub hX_ hB_ dL_ticks_58 ?_
          refine ze_iastN hX_ hB_ hK hW 0 (f := (upd (xa_tN N i15) (9 * i15 + 57) 0)) rfl (i := 9 * i15 + 56) (by omega) (by decide) dL_ticks_59 rfl (fun H locs hW => ?_)
          have hW : ze_W D ([(q, .inl (c 0, 210, .inl (upd (upd (xa_tN N i15) (9 * i15 + 57) 0) (9 * i15 + 56) ((xa_tN N i15) (9 * i15 + 56) - 0))))] : va_W) F s.heap _ _ := hW
          refine lv_aload_n hX_ hB_ dL_ticks_60 rfl (lv_at hl 2 rfl) ?_
          refine lv_iload_n hX_ hB_ dL_ticks_61 rfl (lv_at hl 0 rfl) ?_
          refine lv_iconst (v := 5) hX_ hB_ dL_ticks_62 (by decide) ?_
          refine lv_iadd hX_ hB_ dL_ticks_63 ?_
          refine ze_top (xb_add (a := 9 * i15 + 50) (b := 5) (c := 9 * i15 + 55) (by omega)) ?_
          refine lv_aload_n hX_ hB_ dL_ticks_64 rfl (lv_at hl 2 rfl) ?_
          refine lv_iload_n hX_ hB_ dL_ticks_65 rfl (lv_at hl 0 rfl) ?_
          refine lv_iconst (v := 5) hX_ hB_ dL_ticks_66 (by decide) ?_
          refine lv_iadd hX_ hB_ dL_ticks_67 ?_
          refine ze_top (xb_add (a := 9 * i15 + 50) (b := 5) (c := 9 * i15 + 55) (by omega)) ?_
          refine ze_ialdN hX_ hB_ hK hW 0 (f := (upd (upd (xa_tN N i15) (9 * i15 + 57) 0) (9 * i15 + 56) ((xa_tN N i15) (9 * i15 + 56) - 0))) rfl (i := 9 * i15 + 55) (by omega) (by decide) dL_ticks_68 ?_
          refine ze_top (xb_un (by omega)) ?_
          refine ze_top (xb_un (by omega)) ?_
          refine lv_iconst (v := 1) hX_ hB_ dL_ticks_69 (by decide) ?_
          refine lv_icmp_ne (tgt := 86) hX_ hB_ dL_ticks_70 (by decide) (fun c70 => ?_) (fun c70 => ?_)
          · refine lv_aload_n hX_ hB_ dL_ticks_86 rfl (lv_at hl 2 rfl) ?_
            refine lv_iload_n hX_ hB_ dL_ticks_87 rfl (lv_at hl 0 rfl) ?_
            refine lv_iconst (v := 5) hX_ hB_ dL_ticks_88 (by decide) ?_
            refine lv_iadd hX_ hB_ dL_ticks_89 ?_
            refine ze_top (xb_add (a := 9 * i15 + 50) (b := 5) (c := 9 * i15 + 55) (by omega)) ?_
            refine ze_ialdN hX_ hB_ hK hW 0 (f := (upd (upd (xa_tN N i15) (9 * i15 + 57) 0) (9 * i15 + 56) ((xa_tN N i15) (9 * i15 + 56) - 0))) rfl (i := 9 * i15 + 55) (by omega) (by decide) dL_ticks_90 ?_
            refine ze_top (xb_un (by omega)) ?_
            refine ze_top (xb_un (by omega)) ?_
            refine ze_iastN hX_ hB_ hK hW 0 (f := (upd (upd (xa_tN N i15) (9 * i15 + 57) 0) (9 * i15 + 56) ((xa_tN N i15) (9 * i15 + 56) - 0))) rfl (i := 9 * i15 + 55) (by omega) (by decide) dL_ticks_91 rfl (fun H locs hW => ?_)
            have hW : ze_W D ([(q, .inl (c 0, 210, .inl (upd (upd (upd (xa_tN N i15) (9 * i15 + 57) 0) (9 * i15 + 56) ((xa_tN N i15) (9 * i15 + 56) - 0)) (9 * i15 + 55) ((xa_tN N i15) (9 * i15 + 55)))))] : va_W) F s.heap _ _ := hW
            refine lv_aload_n hX_ hB_ dL_ticks_92 rfl (lv_at hl 2 rfl) ?_
            refine lv_iload_n hX_ hB_ dL_ticks_93 rfl (lv_at hl 0 rfl) ?_
            refine lv_iconst (v := 5) hX_ hB_ dL_ticks_94 (by decide) ?_
            refine lv_iadd hX_ hB_ dL_ticks_95 ?_
            refine ze_top (xb_add (a := 9 * i15 + 50) (b := 5) (c := 9 * i15 + 55) (by omega)) ?_
            refine lv_aload_n hX_ hB_ dL_ticks_96 rfl (lv_at hl 2 rfl) ?_
            refine lv_iload_n hX_ hB_ dL_ticks_97 rfl (lv_at hl 0 rfl) ?_
            refine lv_iconst (v := 5) hX_ hB_ dL_ticks_98 (by decide) ?_
            refine lv_iadd hX_ hB_ dL_ticks_99 ?_
            refine ze_top (xb_add (a := 9 * i15 + 50) (b := 5) (c := 9 * i15 + 55) (by omega)) ?_
            refine ze_ialdN hX_ hB_ hK hW 0 (f := (upd (upd (upd (xa_tN N i15) (9 * i15 + 57) 0) (9 * i15 + 56) ((xa_tN N i15) (9 * i15 + 56) - 0)) (9 * i15 + 55) ((xa_tN N i15) (9 * i15 + 55)))) rfl (i := 9 * i15 + 55) (by omega) (by decide) dL_ticks_100 ?_
            refine ze_top (ze_updat _ _ _) ?_
            refine lv_iconst (v := 2) hX_ hB_ dL_ticks_101 (by decide) ?_
            refine lv_icmp_ne (tgt := 122) hX_ hB_ dL_ticks_102 (by decide) (fun c102 => ?_) (fun c102 => ?_)
            · refine lv_aload_n hX_ hB_ dL_ticks_122 rfl (lv_at hl 2 rfl) ?_
              refine lv_iload_n hX_ hB_ dL_ticks_123 rfl (lv_at hl 0 rfl) ?_
              refine lv_iconst (v := 5) hX_ hB_ dL_ticks_124 (by decide) ?_
              refine lv_iadd hX_ hB_ dL_ticks_125 ?_
              refine ze_top (xb_add (a := 9 * i15 + 50) (b := 5) (c := 9 * i15 + 55) (by omega)) ?_
              refine ze_ialdN hX_ hB_ hK hW 0 (f := (upd (upd (upd (xa_tN N i15) (9 * i15 + 57) 0) (9 * i15 + 56) ((xa_tN N i15) (9 * i15 + 56) - 0)) (9 * i15 + 55) ((xa_tN N i15) (9 * i15 + 55)))) rfl (i := 9 * i15 + 55) (by omega) (by decide) dL_ticks_126 ?_
              refine ze_top (ze_updat _ _ _) ?_
              refine ze_iastN hX_ hB_ hK hW 0 (f := (upd (upd (upd (xa_tN N i15) (9 * i15 + 57) 0) (9 * i15 + 56) ((xa_tN N i15) (9 * i15 + 56) - 0)) (9 * i15 + 55) ((xa_tN N i15) (9 * i15 + 55)))) rfl (i := 9 * i15 + 55) (by omega) (by decide) dL_ticks_127 rfl (fun H locs hW => ?_)
              have hW : ze_W D ([(q, .inl (c 0, 210, .inl (upd (upd (upd (upd (xa_tN N i15) (9 * i15 + 57) 0) (9 * i15 + 56) ((xa_tN N i15) (9 * i15 + 56) - 0)) (9 * i15 + 55) ((xa_tN N i15) (9 * i15 + 55))) (9 * i15 + 55) ((xa_tN N i15) (9 * i15 + 55)))))] : va_W) F s.heap _ _ := hW
              refine lv_iinc (v := nI (i15 + 1)) (lv' := [(1, .int (nI (i15 + 1))), (2, .int (nI (9 * i15 + 50))), (0, .ref q)]) hX_ hB_ dL_ticks_128 hl (k := 1) rfl (ze_inc _) (by decide) rfl (fun ls hl => ?_)
              refine lv_goto (tgt := 15) hX_ hB_ dL_ticks_131 (by decide) ?_
              have eW : ([(q, .inl (c 0, 210, .inl (upd (upd (upd (upd (xa_tN N i15) (9 * i15 + 57) 0) (9 * i15 + 56) ((xa_tN N i15) (9 * i15 + 56) - 0)) (9 * i15 + 55) ((xa_tN N i15) (9 * i15 + 55))) (9 * i15 + 55) ((xa_tN N i15) (9 * i15 + 55)))))] : va_W) = ([(q, .inl (c 0, 210, .inl (xa_tN N (i15 + 1))))] : va_W) := (by simp only [xa_tN, xa_tg, xa_tu, xa_ts, ze_b, eq_true c19, eq_false c50, eq_false c70, eq_false c102, not_true_eq_false, not_false_eq_true, and_true, true_and, and_false, false_and, or_true, true_or, or_false, false_or, and_self, or_self, Decidable.not_not, if_true, if_false, reduceIte, reduceCtorEq, ne_eq, eq_self, Int32.lt_irrefl, Int32.le_refl, Nat.lt_irrefl])
              rw [eW] at hW
              exact ih15 (i15 + 1) (by omega) (by omega) _ _ ls hW (lv_sub hl [0, 2] rfl)
            · refine lv_aload_n hX_ hB_ dL_ticks_105 rfl (lv_at hl 2 rfl) ?_
              refine lv_iload_n hX_ hB_ dL_ticks_106 rfl (lv_at hl 0 rfl) ?_
              refine lv_iconst (v := 4) hX_ hB_ dL_ticks_107 (by decide) ?_
              refine lv_iadd hX_ hB_ dL_ticks_108 ?_
              refine ze_top (xb_add (a := 9 * i15 + 50) (b := 4) (c := 9 * i15 + 54) (by omega)) ?_
              refine ze_ialdN hX_ hB_ hK hW 0 (f := (upd (upd (upd (xa_tN N i15) (9 * i15 + 57) 0) (9 * i15 + 56) ((xa_tN N i15) (9 * i15 + 56) - 0)) (9 * i15 + 55) ((xa_tN N i15) (9 * i15 + 55)))) rfl (i := 9 * i15 + 54) (by omega) (by decide) dL_ticks_109 ?_
              refine ze_top (xb_un (by omega)) ?_
              refine ze_top (xb_un (by omega)) ?_
              refine ze_top (xb_un (by omega)) ?_
              refine lv_aload_n hX_ hB_ dL_ticks_110 rfl (lv_at hl 2 rfl) ?_
              refine lv_iload_n hX_ hB_ dL_ticks_111 rfl (lv_at hl 0 rfl) ?_
              refine lv_iconst (v := 1) hX_ hB_ dL_ticks_112 (by decide) ?_
              refine lv_iadd hX_ hB_ dL_ticks_113 ?_
              refine ze_top (xb_add (a := 9 * i15 + 50) (b := 1) (c := 9 * i15 + 51) (by omega)) ?_
              refine ze_ialdN hX_ hB_ hK hW 0 (f := (upd (upd (upd (xa_tN N i15) (9 * i15 + 57) 0) (9 * i15 + 56) ((xa_tN N i15) (9 * i15 + 56) - 0)) (9 * i15 + 55) ((xa_tN N i15) (9 * i15 + 55)))) rfl (i := 9 * i15 + 51) (by omega) (by decide) dL_ticks_114 ?_
              refine ze_top (xb_un (by omega)) ?_
              refine ze_top (xb_un (by omega)) ?_
              refine ze_top (xb_un (by omega)) ?_
              refine lv_icmp_ge (tgt := 122) hX_ hB_ dL_ticks_115 (by decide) (fun c115 => ?_) (fun c115 => ?_)
              · refine lv_aload_n hX_ hB_ dL_ticks_122 rfl (lv_at hl 2 rfl) ?_
                refine lv_iload_n hX_ hB_ dL_ticks_123 rfl (lv_at hl 0 rfl) ?_
                refine lv_iconst (v := 5) hX_ hB_ dL_ticks_124 (by decide) ?_
                refine lv_iadd hX_ hB_ dL_ticks_125 ?_
                refine ze_top (xb_add (a := 9 * i15 + 50) (b := 5) (c := 9 * i15 + 55) (by omega)) ?_
                refine ze_ialdN hX_ hB_ hK hW 0 (f := (upd (upd (upd (xa_tN N i15) (9 * i15 + 57) 0) (9 * i15 + 56) ((xa_tN N i15) (9 * i15 + 56) - 0)) (9 * i15 + 55) ((xa_tN N i15) (9 * i15 + 55)))) rfl (i := 9 * i15 + 55) (by omega) (by decide) dL_ticks_126 ?_
                refine ze_top (ze_updat _ _ _) ?_
                refine ze_iastN hX_ hB_ hK hW 0 (f := (upd (upd (upd (xa_tN N i15) (9 * i15 + 57) 0) (9 * i15 + 56) ((xa_tN N i15) (9 * i15 + 56) - 0)) (9 * i15 + 55) ((xa_tN N i15) (9 * i15 + 55)))) rfl (i := 9 * i15 + 55) (by omega) (by decide) dL_ticks_127 rfl (fun H locs hW => ?_)
                have hW : ze_W D ([(q, .inl (c 0, 210, .inl (upd (upd (upd (upd (xa_tN N i15) (9 * i15 + 57) 0) (9 * i15 + 56) ((xa_tN N i15) (9 * i15 + 56) - 0)) (9 * i15 + 55) ((xa_tN N i15) (9 * i15 + 55))) (9 * i15 + 55) ((xa_tN N i15) (9 * i15 + 55)))))] : va_W) F s.heap _ _ := hW
                refine lv_iinc (v := nI (i15 + 1)) (lv' := [(1, .int (nI (i15 + 1))), (2, .int (nI (9 * i15 + 50))), (0, .ref q)]) hX_ hB_ dL_ticks_128 hl (k := 1) rfl (ze_inc _) (by decide) rfl (fun ls hl => ?_)
                refine lv_goto (tgt := 15) hX_ hB_ dL_ticks_131 (by decide) ?_
                have eW : ([(q, .inl (c 0, 210, .inl (upd (upd (upd (upd (xa_tN N i15) (9 * i15 + 57) 0) (9 * i15 + 56) ((xa_tN N i15) (9 * i15 + 56) - 0)) (9 * i15 + 55) ((xa_tN N i15) (9 * i15 + 55))) (9 * i15 + 55) ((xa_tN N i15) (9 * i15 + 55)))))] : va_W) = ([(q, .inl (c 0, 210, .inl (xa_tN N (i15 + 1))))] : va_W) := (by simp only [xa_tN, xa_tg, xa_tu, xa_ts, ze_b, eq_true c19, eq_false c50, eq_false c70, eq_true c102, eq_true c115, not_true_eq_false, not_false_eq_true, and_true, true_and, and_false, false_and, or_true, true_or, or_false, false_or, and_self, or_self, Decidable.not_not, if_true, if_false, reduceIte, reduceCtorEq, ne_eq, eq_self, Int32.lt_irrefl, Int32.le_refl, Nat.lt_irrefl])
                rw [eW] at hW
                exact ih15 (i15 + 1) (by omega) (by omega) _ _ ls hW (lv_sub hl [0, 2] rfl)
              · refine lv_iconst (v := 0) hX_ hB_ dL_ticks_118 (by decide) ?_
                refine lv_goto (tgt := 127) hX_ hB_ dL_ticks_119 (by decide) ?_
                refine ze_iastN hX_ hB_ hK hW 0 (f := (upd (upd (upd (xa_tN N i15) (9 * i15 + 57) 0) (9 * i15 + 56) ((xa_tN N i15) (9 * i15 + 56) - 0)) (9 * i15 + 55) ((xa_tN N i15) (9 * i15 + 55)))) rfl (i := 9 * i15 + 55) (by omega) (by decide) dL_ticks_127 rfl (fun H locs hW => ?_)
                have hW : ze_W D ([(q, .inl (c 0, 210, .inl (upd (upd (upd (upd (xa_tN N i15) (9 * i15 + 57) 0) (9 * i15 + 56) ((xa_tN N i15) (9 * i15 + 56) - 0)) (9 * i15 + 55) ((xa_tN N i15) (9 * i15 + 55))) (9 * i15 + 55) 0)))] : va_W) F s.heap _ _ := hW
                refine lv_iinc (v := nI (i15 + 1)) (lv' := [(1, .int (nI (i15 + 1))), (2, .int (nI (9 * i15 + 50))), (0, .ref q)]) hX_ hB_ dL_ticks_128 hl (k := 1) rfl (ze_inc _) (by decide) rfl (fun ls hl => ?_)
                refine lv_goto (tgt := 15) hX_ hB_ dL_ticks_131 (by decide) ?_
                have eW : ([(q, .inl (c 0, 210, .inl (upd (upd (upd (upd (xa_tN N i15) (9 * i15 + 57) 0) (9 * i15 + 56) ((xa_tN N i15) (9 * i15 + 56) - 0)) (9 * i15 + 55) ((xa_tN N i15) (9 * i15 + 55))) (9 * i15 + 55) 0)))] : va_W) = ([(q, .inl (c 0, 210, .inl (xa_tN N (i15 + 1))))] : va_W) := (by simp only [xa_tN, xa_tg, xa_tu, xa_ts, ze_b, eq_true c19, eq_false c50, eq_false c70, eq_true c102, eq_false c115, not_true_eq_false, not_false_eq_true, and_true, true_and, and_false, false_and, or_true, true_or, or_false, false_or, and_self, or_self, Decidable.not_not, if_true, if_false, reduceIte, reduceCtorEq, ne_eq, eq_self, Int32.lt_irrefl, Int32.le_refl, Nat.lt_irrefl])
                rw [eW] at hW
                exact ih15 (i15 + 1) (by omega) (by omega) _ _ ls hW (lv_sub hl [0, 2] rfl)
          · exact absurd c70 c50
        · refine lv_iconst (v := 1) hX_ hB_ dL_ticks_53 (by decide) ?_
          refine lv_goto (tgt := 58) hX_ hB_ dL_ticks_54 (by decide) ?_
          refine lv_isub hX_ hB_ dL_ticks_58 ?_
          refine ze_iastN hX_ hB_ hK hW 0 (f := (upd (xa_tN N i15) (9 * i15 + 57) 0)) rfl (i := 9 * i15 + 56) (by omega) (by decide) dL_ticks_59 rfl (fun H locs hW => ?_)
          have hW : ze_W D ([(q, .inl (c 0, 210, .inl (upd (upd (xa_tN N i15) (9 * i15 + 57) 0) (9 * i15 + 56) ((xa_tN N i15) (9 * i15 + 56) - 1))))] : va_W) F s.heap _ _ := hW
          refine lv_aload_n hX_ hB_ dL_ticks_60 rfl (lv_at hl 2 rfl) ?_
          refine lv_iload_n hX_ hB_ dL_ticks_61 rfl (lv_at hl 0 rfl) ?_
          refine lv_iconst (v := 5) hX_ hB_ dL_ticks_62 (by decide) ?_
          refine lv_iadd hX_ hB_ dL_ticks_63 ?_
          refine ze_top (xb_add (a := 9 * i15 + 50) (b := 5) (c := 9 * i15 + 55) (by omega)) ?_
          refine lv_aload_n hX_ hB_ dL_ticks_64 rfl (lv_at hl 2 rfl) ?_
          refine lv_iload_n hX_ hB_ dL_ticks_65 rfl (lv_at hl 0 rfl) ?_
          refine lv_iconst (v := 5) hX_ hB_ dL_ticks_66 (by decide) ?_
          refine lv_iadd hX_ hB_ dL_ticks_67 ?_
          refine ze_top (xb_add (a := 9 * i15 + 50) (b := 5) (c := 9 * i15 + 55) (by omega)) ?_
          refine ze_ialdN hX_ hB_ hK hW 0 (f := (upd (upd (xa_tN N i15) (9 * i15 + 57) 0) (9 * i15 + 56) ((xa_tN N i15) (9 * i15 + 56) - 1))) rfl (i := 9 * i15 + 55) (by omega) (by decide) dL_ticks_68 ?_
          refine ze_top (xb_un (by omega)) ?_
          refine ze_top (xb_un (by omega)) ?_
          refine lv_iconst (v := 1) hX_ hB_ dL_ticks_69 (by decide) ?_
          refine lv_icmp_ne (tgt := 86) hX_ hB_ dL_ticks_70 (by decide) (fun c70 => ?_) (fun c70 => ?_)
          · exact absurd c50 c70
          · refine lv_aload_n hX_ hB_ dL_ticks_73 rfl (lv_at hl 2 rfl) ?_
            refine lv_iload_n hX_ hB_ dL_ticks_74 rfl (lv_at hl 0 rfl) ?_
            refine lv_bipush (v := 6) hX_ hB_ dL_ticks_75 (by decide) ?_
            refine lv_iadd hX_ hB_ dL_ticks_77 ?_
            refine ze_top (xb_add (a := 9 * i15 + 50) (b := 6) (c := 9 * i15 + 56) (by omega)) ?_
            refine ze_ialdN hX_ hB_ hK hW 0 (f := (upd (upd (xa_tN N i15) (9 * i15 + 57) 0) (9 * i15 + 56) ((xa_tN N i15) (9 * i15 + 56) - 1))) rfl (i := 9 * i15 + 56) (by omega) (by decide) dL_ticks_78 ?_
            refine ze_top (ze_updat _ _ _) ?_
            refine lv_if_ne (tgt := 86) hX_ hB_ dL_ticks_79 (by decide) (fun c79 => ?_) (fun c79 => ?_)
            · refine lv_aload_n hX_ hB_ dL_ticks_86 rfl (lv_at hl 2 rfl) ?_
              refine lv_iload_n hX_ hB_ dL_ticks_87 rfl (lv_at hl 0 rfl) ?_
              refine lv_iconst (v := 5) hX_ hB_ dL_ticks_88 (by decide) ?_
              refine lv_iadd hX_ hB_ dL_ticks_89 ?_
              refine ze_top (xb_add (a := 9 * i15 + 50) (b := 5) (c := 9 * i15 + 55) (by omega)) ?_
              refine ze_ialdN hX_ hB_ hK hW 0 (f := (upd (upd (xa_tN N i15) (9 * i15 + 57) 0) (9 * i15 + 56) ((xa_tN N i15) (9 * i15 + 56) - 1))) rfl (i := 9 * i15 + 55) (by omega) (by decide) dL_ticks_90 ?_
              refine ze_top (xb_un (by omega)) ?_
              refine ze_top (xb_un (by omega)) ?_
              refine ze_iastN hX_ hB_ hK hW 0 (f := (upd (upd (xa_tN N i15) (9 * i15 + 57) 0) (9 * i15 + 56) ((xa_tN N i15) (9 * i15 + 56) - 1))) rfl (i := 9 * i15 + 55) (by omega) (by decide) dL_ticks_91 rfl (fun H locs hW => ?_)
              have hW : ze_W D ([(q, .inl (c 0, 210, .inl (upd (upd (upd (xa_tN N i15) (9 * i15 + 57) 0) (9 * i15 + 56) ((xa_tN N i15) (9 * i15 + 56) - 1)) (9 * i15 + 55) ((xa_tN N i15) (9 * i15 + 55)))))] : va_W) F s.heap _ _ := hW
              refine lv_aload_n hX_ hB_ dL_ticks_92 rfl (lv_at hl 2 rfl) ?_
              refine lv_iload_n hX_ hB_ dL_ticks_93 rfl (lv_at hl 0 rfl) ?_
              refine lv_iconst (v := 5) hX_ hB_ dL_ticks_94 (by decide) ?_
              refine lv_iadd hX_ hB_ dL_ticks_95 ?_
              refine ze_top (xb_add (a := 9 * i15 + 50) (b := 5) (c := 9 * i15 + 55) (by omega)) ?_
              refine lv_aload_n hX_ hB_ dL_ticks_96 rfl (lv_at hl 2 rfl) ?_
              refine lv_iload_n hX_ hB_ dL_ticks_97 rfl (lv_at hl 0 rfl) ?_
              refine lv_iconst (v := 5) hX_ hB_ dL_ticks_98 (by decide) ?_
              refine lv_iadd hX_ hB_ dL_ticks_99 ?_
              refine ze_top (xb_add (a := 9 * i15 + 50) (b := 5) (c := 9 * i15 + 55) (by omega)) ?_
              refine ze_ialdN hX_ hB_ hK hW 0 (f := (upd (upd (upd (xa_tN N i15) (9 * i15 + 57) 0) (9 * i15 + 56) ((xa_tN N i15) (9 * i15 + 56) - 1)) (9 * i15 + 55) ((xa_tN N i15) (9 * i15 + 55)))) rfl (i := 9 * i15 + 55) (by omega) (by decide) dL_ticks_100 ?_
              refine ze_top (ze_updat _ _ _) ?_
              refine lv_iconst (v := 2) hX_ hB_ dL_ticks_101 (by decide) ?_
              refine lv_icmp_ne (tgt := 122) hX_ hB_ dL_ticks_102 (by decide) (fun c102 => ?_) (fun c102 => ?_)
              · refine lv_aload_n hX_ hB_ dL_ticks_122 rfl (lv_at hl 2 rfl) ?_
                refine lv_iload_n hX_ hB_ dL_ticks_123 rfl (lv_at hl 0 rfl) ?_
                refine lv_iconst (v := 5) hX_ hB_ dL_ticks_124 (by decide) ?_
                refine lv_iadd hX_ hB_ dL_ticks_125 ?_
                refine ze_top (xb_add (a := 9 * i15 + 50) (b := 5) (c := 9 * i15 + 55) (by omega)) ?_
                refine ze_ialdN hX_ hB_ hK hW 0 (f := (upd (upd (upd (xa_tN N i15) (9 * i15 + 57) 0) (9 * i15 + 56) ((xa_tN N i15) (9 * i15 + 56) - 1)) (9 * i15 + 55) ((xa_tN N i15) (9 * i15 + 55)))) rfl (i := 9 * i15 + 55) (by omega) (by decide) dL_ticks_126 ?_
                refine ze_top (ze_updat _ _ _) ?_
                refine ze_iastN hX_ hB_ hK hW 0 (f := (upd (upd (upd (xa_tN N i15) (9 * i15 + 57) 0) (9 * i15 + 56) ((xa_tN N i15) (9 * i15 + 56) - 1)) (9 * i15 + 55) ((xa_tN N i15) (9 * i15 + 55)))) rfl (i := 9 * i15 + 55) (by omega) (by decide) dL_ticks_127 rfl (fun H locs hW => ?_)
                have hW : ze_W D ([(q, .inl (c 0, 210, .inl (upd (upd (upd (upd (xa_tN N i15) (9 * i15 + 57) 0) (9 * i15 + 56) ((xa_tN N i15) (9 * i15 + 56) - 1)) (9 * i15 + 55) ((xa_tN N i15) (9 * i15 + 55))) (9 * i15 + 55) ((xa_tN N i15) (9 * i15 + 55)))))] : va_W) F s.heap _ _ := hW
                refine lv_iinc (v := nI (i15 + 1)) (lv' := [(1, .int (nI (i15 + 1))), (2, .int (nI (9 * i15 + 50))), (0, .ref q)]) hX_ hB_ dL_ticks_128 hl (k := 1) rfl (ze_inc _) (by decide) rfl (fun ls hl => ?_)
                refine lv_goto (tgt := 15) hX_ hB_ dL_ticks_131 (by decide) ?_
                have eW : ([(q, .inl (c 0, 210, .inl (upd (upd (upd (upd (xa_tN N i15) (9 * i15 + 57) 0) (9 * i15 + 56) ((xa_tN N i15) (9 * i15 + 56) - 1)) (9 * i15 + 55) ((xa_tN N i15) (9 * i15 + 55))) (9 * i15 + 55) ((xa_tN N i15) (9 * i15 + 55)))))] : va_W) = ([(q, .inl (c 0, 210, .inl (xa_tN N (i15 + 1))))] : va_W) := (by simp only [xa_tN, xa_tg, xa_tu, xa_ts, ze_b, eq_true c19, eq_true c50, eq_true c70, eq_false c79, eq_false c102, not_true_eq_false, not_false_eq_true, and_true, true_and, and_false, false_and, or_true, true_or, or_false, false_or, and_self, or_self, Decidable.not_not, if_true, if_false, reduceIte, reduceCtorEq, ne_eq, eq_self, Int32.lt_irrefl, Int32.le_refl, Nat.lt_irrefl])
                rw [eW] at hW
                exact ih15 (i15 + 1) (by omega) (by omega) _ _ ls hW (lv_sub hl [0, 2] rfl)
              · refine lv_aload_n hX_ hB_ dL_ticks_105 rfl (lv_at hl 2 rfl) ?_
                refine lv_iload_n hX_ hB_ dL_ticks_106 rfl (lv_at hl 0 rfl) ?_
                refine lv_iconst (v := 4) hX_ hB_ dL_ticks_107 (by decide) ?_
                refine lv_iadd hX_ hB_ dL_ticks_108 ?_
                refine ze_top (xb_add (a := 9 * i15 + 50) (b := 4) (c := 9 * i15 + 54) (by omega)) ?_
                refine ze_ialdN hX_ hB_ hK hW 0 (f := (upd (upd (upd (xa_tN N i15) (9 * i15 + 57) 0) (9 * i15 + 56) ((xa_tN N i15) (9 * i15 + 56) - 1)) (9 * i15 + 55) ((xa_tN N i15) (9 * i15 + 55)))) rfl (i := 9 * i15 + 54) (by omega) (by decide) dL_ticks_109 ?_
                refine ze_top (xb_un (by omega)) ?_
                refine ze_top (xb_un (by omega)) ?_
                refine ze_top (xb_un (by omega)) ?_
                refine lv_aload_n hX_ hB_ dL_ticks_110 rfl (lv_at hl 2 rfl) ?_
                refine lv_iload_n hX_ hB_ dL_ticks_111 rfl (lv_at hl 0 rfl) ?_
                refine lv_iconst (v := 1) hX_ hB_ dL_ticks_112 (by decide) ?_
                refine lv_iadd hX_ hB_ dL_ticks_113 ?_
                refine ze_top (xb_add (a := 9 * i15 + 50) (b := 1) (c := 9 * i15 + 51) (by omega)) ?_
                refine ze_ialdN hX_ hB_ hK hW 0 (f := (upd (upd (upd (xa_tN N i15) (9 * i15 + 57) 0) (9 * i15 + 56) ((xa_tN N i15) (9 * i15 + 56) - 1)) (9 * i15 + 55) ((xa_tN N i15) (9 * i15 + 55)))) rfl (i := 9 * i15 + 51) (by omega) (by decide) dL_ticks_114 ?_
                refine ze_top (xb_un (by omega)) ?_
                refine ze_top (xb_un (by omega)) ?_
                refine ze_top (xb_un (by omega)) ?_
                refine lv_icmp_ge (tgt := 122) hX_ hB_ dL_ticks_115 (by decide) (fun c115 => ?_) (fun c115 => ?_)
                · refine lv_aload_n hX_ hB_ dL_ticks_122 rfl (lv_at hl 2 rfl) ?_
                  refine lv_iload_n hX_ hB_ dL_ticks_123 rfl (lv_at hl 0 rfl) ?_
                  refine lv_iconst (v := 5) hX_ hB_ dL_ticks_124 (by decide) ?_
                  refine lv_iadd hX_ hB_ dL_ticks_125 ?_
                  refine ze_top (xb_add (a := 9 * i15 + 50) (b := 5) (c := 9 * i15 + 55) (by omega)) ?_
                  refine ze_ialdN hX_ hB_ hK hW 0 (f := (upd (upd (upd (xa_tN N i15) (9 * i15 + 57) 0) (9 * i15 + 56) ((xa_tN N i15) (9 * i15 + 56) - 1)) (9 * i15 + 55) ((xa_tN N i15) (9 * i15 + 55)))) rfl (i := 9 * i15 + 55) (by omega) (by decide) dL_ticks_126 ?_
                  refine ze_top (ze_updat _ _ _) ?_
                  refine ze_iastN hX_ hB_ hK hW 0 (f := (upd (upd (upd (xa_tN N i15) (9 * i15 + 57) 0) (9 * i15 + 56) ((xa_tN N i15) (9 * i15 + 56) - 1)) (9 * i15 + 55) ((xa_tN N i15) (9 * i15 + 55)))) rfl (i := 9 * i15 + 55) (by omega) (by decide) dL_ticks_127 rfl (fun H locs hW => ?_)
                  have hW : ze_W D ([(q, .inl (c 0, 210, .inl (upd (upd (upd (upd (xa_tN N i15) (9 * i15 + 57) 0) (9 * i15 + 56) ((xa_tN N i15) (9 * i15 + 56) - 1)) (9 * i15 + 55) ((xa_tN N i15) (9 * i15 + 55))) (9 * i15 + 55) ((xa_tN N i15) (9 * i15 + 55)))))] : va_W) F s.heap _ _ := hW
                  refine lv_iinc (v := nI (i15 + 1)) (lv' := [(1, .int (nI (i15 + 1))), (2, .int (nI (9 * i15 + 50))), (0, .ref q)]) hX_ hB_ dL_ticks_128 hl (k := 1) rfl (ze_inc _) (by decide) rfl (fun ls hl => ?_)
                  refine lv_goto (tgt := 15) hX_ hB_ dL_ticks_131 (by decide) ?_
                  have eW : ([(q, .inl (c 0, 210, .inl (upd (upd (upd (upd (xa_tN N i15) (9 * i15 + 57) 0) (9 * i15 + 56) ((xa_tN N i15) (9 * i15 + 56) - 1)) (9 * i15 + 55) ((xa_tN N i15) (9 * i15 + 55))) (9 * i15 + 55) ((xa_tN N i15) (9 * i15 + 55)))))] : va_W) = ([(q, .inl (c 0, 210, .inl (xa_tN N (i15 + 1))))] : va_W) := (by simp only [xa_tN, xa_tg, xa_tu, xa_ts, ze_b, eq_true c19, eq_true c50, eq_true c70, eq_false c79, eq_true c102, eq_true c115, not_true_eq_false, not_false_eq_true, and_true, true_and, and_false, false_and, or_true, true_or, or_false, false_or, and_self, or_self, Decidable.not_not, if_true, if_false, reduceIte, reduceCtorEq, ne_eq, eq_self, Int32.lt_irrefl, Int32.le_refl, Nat.lt_irrefl])
                  rw [eW] at hW
                  exact ih15 (i15 + 1) (by omega) (by omega) _ _ ls hW (lv_sub hl [0, 2] rfl)
                · refine lv_iconst (v := 0) hX_ hB_ dL_ticks_118 (by decide) ?_
                  refine lv_goto (tgt := 127) hX_ hB_ dL_ticks_119 (by decide) ?_
                  refine ze_iastN hX_ hB_ hK hW 0 (f := (upd (upd (upd (xa_tN N i15) (9 * i15 + 57) 0) (9 * i15 + 56) ((xa_tN N i15) (9 * i15 + 56) - 1)) (9 * i15 + 55) ((xa_tN N i15) (9 * i15 + 55)))) rfl (i := 9 * i15 + 55) (by omega) (by decide) dL_ticks_127 rfl (fun H locs hW => ?_)
                  have hW : ze_W D ([(q, .inl (c 0, 210, .inl (upd (upd (upd (upd (xa_tN N i15) (9 * i15 + 57) 0) (9 * i15 + 56) ((xa_tN N i15) (9 * i15 + 56) - 1)) (9 * i15 + 55) ((xa_tN N i15) (9 * i15 + 55))) (9 * i15 + 55) 0)))] : va_W) F s.heap _ _ := hW
                  refine lv_iinc (v := nI (i15 + 1)) (lv' := [(1, .int (nI (i15 + 1))), (2, .int (nI (9 * i15 + 50))), (0, .ref q)]) hX_ hB_ dL_ticks_128 hl (k := 1) rfl (ze_inc _) (by decide) rfl (fun ls hl => ?_)
                  refine lv_goto (tgt := 15) hX_ hB_ dL_ticks_131 (by decide) ?_
                  have eW : ([(q, .inl (c 0, 210, .inl (upd (upd (upd (upd (xa_tN N i15) (9 * i15 + 57) 0) (9 * i15 + 56) ((xa_tN N i15) (9 * i15 + 56) - 1)) (9 * i15 + 55) ((xa_tN N i15) (9 * i15 + 55))) (9 * i15 + 55) 0)))] : va_W) = ([(q, .inl (c 0, 210, .inl (xa_tN N (i15 + 1))))] : va_W) := (by simp only [xa_tN, xa_tg, xa_tu, xa_ts, ze_b, eq_true c19, eq_true c50, eq_true c70, eq_false c79, eq_true c102, eq_false c115, not_true_eq_false, not_false_eq_true, and_true, true_and, and_false, false_and, or_true, true_or, or_false, false_or, and_self, or_self, Decidable.not_not, if_true, if_false, reduceIte, reduceCtorEq, ne_eq, eq_self, Int32.lt_irrefl, Int32.le_refl, Nat.lt_irrefl])
                  rw [eW] at hW
                  exact ih15 (i15 + 1) (by omega) (by omega) _ _ ls hW (lv_sub hl [0, 2] rfl)
            · refine lv_iconst (v := 2) hX_ hB_ dL_ticks_82 (by decide) ?_
              refine lv_goto (tgt := 91) hX_ hB_ dL_ticks_83 (by decide) ?_
              refine ze_iastN hX_ hB_ hK hW 0 (f := (upd (upd (xa_tN N i15) (9 * i15 + 57) 0) (9 * i15 + 56) ((xa_tN N i15) (9 * i15 + 56) - 1))) rfl (i := 9 * i15 + 55) (by omega) (by decide) dL_ticks_91 rfl (fun H locs hW => ?_)
              have hW : ze_W D ([(q, .inl (c 0, 210, .inl (upd (upd (upd (xa_tN N i15) (9 * i15 + 57) 0) (9 * i15 + 56) ((xa_tN N i15) (9 * i15 + 56) - 1)) (9 * i15 + 55) 2)))] : va_W) F s.heap _ _ := hW
              refine lv_aload_n hX_ hB_ dL_ticks_92 rfl (lv_at hl 2 rfl) ?_
              refine lv_iload_n hX_ hB_ dL_ticks_93 rfl (lv_at hl 0 rfl) ?_
              refine lv_iconst (v := 5) hX_ hB_ dL_ticks_94 (by decide) ?_
              refine lv_iadd hX_ hB_ dL_ticks_95 ?_
              refine ze_top (xb_add (a := 9 * i15 + 50) (b := 5) (c := 9 * i15 + 55) (by omega)) ?_
              refine lv_aload_n hX_ hB_ dL_ticks_96 rfl (lv_at hl 2 rfl) ?_
              refine lv_iload_n hX_ hB_ dL_ticks_97 rfl (lv_at hl 0 rfl) ?_
              refine lv_iconst (v := 5) hX_ hB_ dL_ticks_98 (by decide) ?_
              refine lv_iadd hX_ hB_ dL_ticks_99 ?_
              refine ze_top (xb_add (a := 9 * i15 + 50) (b := 5) (c := 9 * i15 + 55) (by omega)) ?_
              refine ze_ialdN hX_ hB_ hK hW 0 (f := (upd (upd (upd (xa_tN N i15) (9 * i15 + 57) 0) (9 * i15 + 56) ((xa_tN N i15) (9 * i15 + 56) - 1)) (9 * i15 + 55) 2)) rfl (i := 9 * i15 + 55) (by omega) (by decide) dL_ticks_100 ?_
              refine ze_top (ze_updat _ _ _) ?_
              refine lv_iconst (v := 2) hX_ hB_ dL_ticks_101 (by decide) ?_
              refine lv_icmp_ne (tgt := 122) hX_ hB_ dL_ticks_102 (by decide) (fun c102 => ?_) (fun c102 => ?_)
              · exact absurd c102 (by decide)
              · refine lv_aload_n hX_ hB_ dL_ticks_105 rfl (lv_at hl 2 rfl) ?_
                refine lv_iload_n hX_ hB_ dL_ticks_106 rfl (lv_at hl 0 rfl) ?_
                refine lv_iconst (v := 4) hX_ hB_ dL_ticks_107 (by decide) ?_
                refine lv_iadd hX_ hB_ dL_ticks_108 ?_
                refine ze_top (xb_add (a := 9 * i15 + 50) (b := 4) (c := 9 * i15 + 54) (by omega)) ?_
                refine ze_ialdN hX_ hB_ hK hW 0 (f := (upd (upd (upd (xa_tN N i15) (9 * i15 + 57) 0) (9 * i15 + 56) ((xa_tN N i15) (9 * i15 + 56) - 1)) (9 * i15 + 55) 2)) rfl (i := 9 * i15 + 54) (by omega) (by decide) dL_ticks_109 ?_
                refine ze_top (xb_un (by omega)) ?_
                refine ze_top (xb_un (by omega)) ?_
                refine ze_top (xb_un (by omega)) ?_
                refine lv_aload_n hX_ hB_ dL_ticks_110 rfl (lv_at hl 2 rfl) ?_
                refine lv_iload_n hX_ hB_ dL_ticks_111 rfl (lv_at hl 0 rfl) ?_
                refine lv_iconst (v := 1) hX_ hB_ dL_ticks_112 (by decide) ?_
                refine lv_iadd hX_ hB_ dL_ticks_113 ?_
                refine ze_top (xb_add (a := 9 * i15 + 50) (b := 1) (c := 9 * i15 + 51) (by omega)) ?_
                refine ze_ialdN hX_ hB_ hK hW 0 (f := (upd (upd (upd (xa_tN N i15) (9 * i15 + 57) 0) (9 * i15 + 56) ((xa_tN N i15) (9 * i15 + 56) - 1)) (9 * i15 + 55) 2)) rfl (i := 9 * i15 + 51) (by omega) (by decide) dL_ticks_114 ?_
                refine ze_top (xb_un (by omega)) ?_
                refine ze_top (xb_un (by omega)) ?_
                refine ze_top (xb_un (by omega)) ?_
                refine lv_icmp_ge (tgt := 122) hX_ hB_ dL_ticks_115 (by decide) (fun c115 => ?_) (fun c115 => ?_)
                · refine lv_aload_n hX_ hB_ dL_ticks_122 rfl (lv_at hl 2 rfl) ?_
                  refine lv_iload_n hX_ hB_ dL_ticks_123 rfl (lv_at hl 0 rfl) ?_
                  refine lv_iconst (v := 5) hX_ hB_ dL_ticks_124 (by decide) ?_
                  refine lv_iadd hX_ hB_ dL_ticks_125 ?_
                  refine ze_top (xb_add (a := 9 * i15 + 50) (b := 5) (c := 9 * i15 + 55) (by omega)) ?_
                  refine ze_ialdN hX_ hB_ hK hW 0 (f := (upd (upd (upd (xa_tN N i15) (9 * i15 + 57) 0) (9 * i15 + 56) ((xa_tN N i15) (9 * i15 + 56) - 1)) (9 * i15 + 55) 2)) rfl (i := 9 * i15 + 55) (by omega) (by decide) dL_ticks_126 ?_
                  refine ze_top (ze_updat _ _ _) ?_
                  refine ze_iastN hX_ hB_ hK hW 0 (f := (upd (upd (upd (xa_tN N i15) (9 * i15 + 57) 0) (9 * i15 + 56) ((xa_tN N i15) (9 * i15 + 56) - 1)) (9 * i15 + 55) 2)) rfl (i := 9 * i15 + 55) (by omega) (by decide) dL_ticks_127 rfl (fun H locs hW => ?_)
                  have hW : ze_W D ([(q, .inl (c 0, 210, .inl (upd (upd (upd (upd (xa_tN N i15) (9 * i15 + 57) 0) (9 * i15 + 56) ((xa_tN N i15) (9 * i15 + 56) - 1)) (9 * i15 + 55) 2) (9 * i15 + 55) 2)))] : va_W) F s.heap _ _ := hW
                  refine lv_iinc (v := nI (i15 + 1)) (lv' := [(1, .int (nI (i15 + 1))), (2, .int (nI (9 * i15 + 50))), (0, .ref q)]) hX_ hB_ dL_ticks_128 hl (k := 1) rfl (ze_inc _) (by decide) rfl (fun ls hl => ?_)
                  refine lv_goto (tgt := 15) hX_ hB_ dL_ticks_131 (by decide) ?_
                  have eW : ([(q, .inl (c 0, 210, .inl (upd (upd (upd (upd (xa_tN N i15) (9 * i15 + 57) 0) (9 * i15 + 56) ((xa_tN N i15) (9 * i15 + 56) - 1)) (9 * i15 + 55) 2) (9 * i15 + 55) 2)))] : va_W) = ([(q, .inl (c 0, 210, .inl (xa_tN N (i15 + 1))))] : va_W) := (by simp only [xa_tN, xa_tg, xa_tu, xa_ts, ze_b, eq_true c19, eq_true c50, eq_true c70, eq_true c79, eq_true c102, eq_true c115, not_true_eq_false, not_false_eq_true, and_true, true_and, and_false, false_and, or_true, true_or, or_false, false_or, and_self, or_self, Decidable.not_not, if_true, if_false, reduceIte, reduceCtorEq, ne_eq, eq_self, Int32.lt_irrefl, Int32.le_refl, Nat.lt_irrefl])
                  rw [eW] at hW
                  exact ih15 (i15 + 1) (by omega) (by omega) _ _ ls hW (lv_sub hl [0, 2] rfl)
                · refine lv_iconst (v := 0) hX_ hB_ dL_ticks_118 (by decide) ?_
                  refine lv_goto (tgt := 127) hX_ hB_ dL_ticks_119 (by decide) ?_
                  refine ze_iastN hX_ hB_ hK hW 0 (f := (upd (upd (upd (xa_tN N i15) (9 * i15 + 57) 0) (9 * i15 + 56) ((xa_tN N i15) (9 * i15 + 56) - 1)) (9 * i15 + 55) 2)) rfl (i := 9 * i15 + 55) (by omega) (by decide) dL_ticks_127 rfl (fun H locs hW => ?_)
                  have hW : ze_W D ([(q, .inl (c 0, 210, .inl (upd (upd (upd (upd (xa_tN N i15) (9 * i15 + 57) 0) (9 * i15 + 56) ((xa_tN N i15) (9 * i15 + 56) - 1)) (9 * i15 + 55) 2) (9 * i15 + 55) 0)))] : va_W) F s.heap _ _ := hW
                  refine lv_iinc (v := nI (i15 + 1)) (lv' := [(1, .int (nI (i15 + 1))), (2, .int (nI (9 * i15 + 50))), (0, .ref q)]) hX_ hB_ dL_ticks_128 hl (k := 1) rfl (ze_inc _) (by decide) rfl (fun ls hl => ?_)
                  refine lv_goto (tgt := 15) hX_ hB_ dL_ticks_131 (by decide) ?_
                  have eW : ([(q, .inl (c 0, 210, .inl (upd (upd (upd (upd (xa_tN N i15) (9 * i15 + 57) 0) (9 * i15 + 56) ((xa_tN N i15) (9 * i15 + 56) - 1)) (9 * i15 + 55) 2) (9 * i15 + 55) 0)))] : va_W) = ([(q, .inl (c 0, 210, .inl (xa_tN N (i15 + 1))))] : va_W) := (by simp only [xa_tN, xa_tg, xa_tu, xa_ts, ze_b, eq_true c19, eq_true c50, eq_true c70, eq_true c79, eq_true c102, eq_false c115, not_true_eq_false, not_false_eq_true, and_true, true_and, and_false, false_and, or_true, true_or, or_false, false_or, and_self, or_self, Decidable.not_not, if_true, if_false, reduceIte, reduceCtorEq, ne_eq, eq_self, Int32.lt_irrefl, Int32.le_refl, Nat.lt_irrefl])
                  rw [eW] at hW
                  exact ih15 (i15 + 1) (by omega) (by omega) _ _ ls hW (lv_sub hl [0, 2] rfl)
  have hl : lv_has ls 3 [(1, .int (nI 0)), (0, .ref q)] := hl
  have hW : ze_W D ([(q, .inl (c 0, 210, .inl (xa_tN N 0)))] : va_W) F s.heap _ _ := hW
  exact L15 _ 0 (by omega) (Nat.lt_succ_self _) _ _ ls hW (lv_sub hl [0, 1] rfl)
