/-! ===== the law's own methods over the net ===== -/
set_option maxHeartbeats 8000000 in
set_option maxRecDepth 100000 in
theorem xl_island (l : Launch) (D : va_G) (c : Nat → ClassId) (q : Nat) (n : Nat → Nat) (N : Nat → Int32) (hH : xa_H n N) (u : Nat) (hs : u < n 0) : ze_I l yL_island wsL_island 0 0 0 0 D c ([(q, .inl (c 0, 210, .inl N))] : va_W) [.ref q, .int (nI u)] (nI (xa_isl N (n 1) u)) ([(q, .inl (c 0, 210, .inl N))] : va_W) := by
  intro sz
  refine ze_start (cc := cL_island) (maxL := 6) (ret := (some .int)) (own := RL) (by decide) rfl rfl (Nat.le_of_ble_eq_true rfl) ?_
  obtain ⟨⟨hn0, hn1, hn2, hn3, hn4⟩, -⟩ := id hH
  have hs6 : u < 6 := by omega
  intro p e s m_ below meth cd F ls hF hsz E0
  obtain ⟨S, hr, hlocks, hK, hW, hA, hl⟩ := E0
  have hX_ := S.1
  have hB_ := S.2.1
  have hts := S.2.2.2.2
  have hl : lv_has ls 6 [(0, .ref q), (1, .int (nI u))] := hl
  refine lv_iconst (v := 1) hX_ hB_ dL_island_0 (by decide) ?_
  refine lv_iload_n hX_ hB_ dL_island_1 rfl (lv_at hl 1 rfl) ?_
  refine lv_ishl hX_ hB_ dL_island_2 ?_
  refine ze_top (xa_o4 hs6) ?_
  refine lv_istore_n (lv' := [(2, .int (nI (2 ^ u))), (0, .ref q), (1, .int (nI u))]) hX_ hB_ dL_island_3 rfl hl (by decide) rfl (fun ls hl => ?_)
  refine lv_iconst (v := 0) hX_ hB_ dL_island_4 (by decide) ?_
  refine lv_istore_n (lv' := [(3, .int 0), (2, .int (nI (2 ^ u))), (0, .ref q), (1, .int (nI u))]) hX_ hB_ dL_island_5 rfl hl (by decide) rfl (fun ls hl => ?_)
  have L6 : ∀ (k6 : Nat) (i6 : Nat), (i6 ≤ 6) → (6 - i6) < k6 → ∀ (H : Heap) (locs : List Loc) (ls : Array Slot), ze_W D ([(q, .inl (c 0, 210, .inl N))] : va_W) F s.heap H locs → lv_has ls 6 [(3, .int (nI i6)), (2, .int (nI (xa_rs N (n 1) (2 ^ u) i6))), (0, .ref q), (1, .int (nI u))] → W p l e { frames := 0, cells := 0, slots := 0, locals := 0 } s m_ ([.ref q, .int (nI u)] : List Value).toArray below meth cd H locs 0 0 (MQ below (ze_Qi D c ([(q, .inl (c 0, 210, .inl N))] : va_W) sz (nI (xa_isl N (n 1) u)) ([(q, .inl (c 0, 210, .inl N))] : va_W)) ([.ref q, .int (nI u)] : List Value).toArray s 0 0 F) (F0 m_ 6 ls []) := by
    intro k6
    induction k6 with
    | zero =>
      intro i6 h6 hk6
      exact absurd hk6 (Nat.not_lt_zero _)
    | succ k6 ih6 =>
      intro i6 h6 hk6 H locs ls hW hl
      have ht := xa_rsI hH hs i6
      refine lv_iload_n hX_ hB_ dL_island_6 rfl (lv_at hl 0 rfl) ?_
      refine lv_bipush (v := 6) hX_ hB_ dL_island_7 (by decide) ?_
      refine lv_icmp_ge (tgt := 119) hX_ hB_ dL_island_9 (by decide) (fun c9 => ?_) (fun c9 => ?_)
      · have c9 : ¬ i6 < 6 := Nat.not_lt.mpr ((nI_leI (a := 6) (b := i6) (by omega) (by omega)).mp c9)
        have e6 : i6 = 6 := by omega
        subst e6
        refine lv_iconst (v := 0) hX_ hB_ dL_island_119 (by decide) ?_
        refine lv_istore_n (lv' := [(3, .int 0), (2, .int (nI (xa_rs N (n 1) (2 ^ u) 6))), (0, .ref q), (1, .int (nI u))]) hX_ hB_ dL_island_120 rfl hl (by decide) rfl (fun ls hl => ?_)
        have L121 : ∀ (k121 : Nat) (k : Nat), (k ≤ xa_lb (xa_rs N (n 1) (2 ^ u) 6)) → (xa_lb (xa_rs N (n 1) (2 ^ u) 6) + 1 - k) < k121 → ∀ (H : Heap) (locs : List Loc) (ls : Array Slot), ze_W D ([(q, .inl (c 0, 210, .inl N))] : va_W) F s.heap H locs → lv_has ls 6 [(3, .int (nI k)), (2, .int (nI (xa_rs N (n 1) (2 ^ u) 6))), (0, .ref q), (1, .int (nI u))] → W p l e { frames := 0, cells := 0, slots := 0, locals := 0 } s m_ ([.ref q, .int (nI u)] : List Value).toArray below meth cd H locs 0 0 (MQ below (ze_Qi D c ([(q, .inl (c 0, 210, .inl N))] : va_W) sz (nI (xa_isl N (n 1) u)) ([(q, .inl (c 0, 210, .inl N))] : va_W)) ([.ref q, .int (nI u)] : List Value).toArray s 0 0 F) (F0 m_ 121 ls []) := by
          intro k121
          induction k121 with
          | zero =>
            intro k hk hk121
            exact absurd hk121 (Nat.not_lt_zero _)
          | succ k121 ih121 =>
            intro k hk hk121 H locs ls hW hl
            have hz := xa_rsI hH hs 6
            have hk6 := (xa_o6 hz.1 hs6 hz.2 hk).1
            refine lv_iload_n hX_ hB_ dL_island_121 rfl (lv_at hl 1 rfl) ?_
            refine lv_iload_n hX_ hB_ dL_island_122 rfl (lv_at hl 0 rfl) ?_
            refine lv_ishr hX_ hB_ dL_island_123 ?_
            refine lv_iconst (v := 1) hX_ hB_ dL_island_124 (by decide) ?_
            refine lv_iand hX_ hB_ dL_island_125 ?_
            refine ze_top (xa_o5 hz.1 (by omega)) ?_
            refine lv_if_ne (tgt := 135) hX_ hB_ dL_island_126 (by decide) (fun c126 => ?_) (fun c126 => ?_)
            · have c126 : (xa_rs N (n 1) (2 ^ u) 6).testBit k = true := ze_bt c126
              refine lv_iload_n hX_ hB_ dL_island_135 rfl (lv_at hl 0 rfl) ?_
              exact ze_iret S hr hlocks hF hK hW rfl dL_island_136 (Nat.le_of_ble_eq_true rfl) (Nat.le_of_ble_eq_true rfl) (congrArg nI ((xa_o6 hz.1 hs6 hz.2 hk).2.1 c126)) rfl
            · have c126 : ¬ ((xa_rs N (n 1) (2 ^ u) 6).testBit k = true) := ze_bf c126
              refine lv_iinc (v := nI (k + 1)) (lv' := [(3, .int (nI (k + 1))), (2, .int (nI (xa_rs N (n 1) (2 ^ u) 6))), (0, .ref q), (1, .int (nI u))]) hX_ hB_ dL_island_129 hl (k := 0) rfl (ze_inc _) (by decide) rfl (fun ls hl => ?_)
              refine lv_goto (tgt := 121) hX_ hB_ dL_island_132 (by decide) ?_
              exact ih121 (k + 1) ((xa_o6 hz.1 hs6 hz.2 hk).2.2 c126) (by omega) _ _ ls hW (lv_sub hl [0, 1, 2, 3] rfl)
        exact L121 _ 0 (Nat.zero_le _) (Nat.lt_succ_self _) _ _ ls hW (lv_sub hl [0, 1, 2, 3] rfl)
      · have c9 : i6 < 6 := Nat.lt_of_not_le (fun h9 => c9 ((nI_leI (a := 6) (b := i6) (by omega) (by omega)).mpr h9))
        refine lv_iconst (v := 0) hX_ hB_ dL_island_12 (by decide) ?_
        refine lv_istore (lv' := [(4, .int 0), (3, .int (nI i6)), (2, .int (nI (xa_rs N (n 1) (2 ^ u) i6))), (0, .ref q), (1, .int (nI u))]) hX_ hB_ dL_island_13 hl (by decide) rfl (fun ls hl => ?_)
        have L15 : ∀ (k15 : Nat) (i15 : Nat), (i15 ≤ n 1) → (n 1 - i15) < k15 → ∀ (H : Heap) (locs : List Loc) (ls : Array Slot), ze_W D ([(q, .inl (c 0, 210, .inl N))] : va_W) F s.heap H locs → lv_has ls 6 [(4, .int (nI i15)), (3, .int (nI i6)), (2, .int (nI (xa_in N (xa_rs N (n 1) (2 ^ u) i6) i15))), (0, .ref q), (1, .int (nI u))] → W p l e { frames := 0, cells := 0, slots := 0, locals := 0 } s m_ ([.ref q, .int (nI u)] : List Value).toArray below meth cd H locs 0 0 (MQ below (ze_Qi D c ([(q, .inl (c 0, 210, .inl N))] : va_W) sz (nI (xa_isl N (n 1) u)) ([(q, .inl (c 0, 210, .inl N))] : va_W)) ([.ref q, .int (nI u)] : List Value).toArray s 0 0 F) (F0 m_ 15 ls []) := by
          intro k15
          induction k15 with
          | zero =>
            intro i15 h15 hk15
            exact absurd hk15 (Nat.not_lt_zero _)
          | succ k15 ih15 =>
            intro i15 h15 hk15 H locs ls hW hl
            have hu := xa_inI hH ht (i := i15) h15
            refine lv_iload hX_ hB_ dL_island_15 (lv_at hl 0 rfl) ?_
            refine lv_aload_n hX_ hB_ dL_island_17 rfl (lv_at hl 3 rfl) ?_
            refine lv_iconst (v := 1) hX_ hB_ dL_island_18 (by decide) ?_
            refine ze_ialdN hX_ hB_ hK hW 0 (f := N) rfl (i := 1) (by omega) (by decide) dL_island_19 ?_
            refine ze_top (y := nI (n 1)) hH.2.1.2.1 ?_
            refine lv_icmp_ge (tgt := 113) hX_ hB_ dL_island_20 (by decide) (fun c20 => ?_) (fun c20 => ?_)
            · have c20 : ¬ i15 < (n 1) := Nat.not_lt.mpr ((nI_leI (a := (n 1)) (b := i15) (by omega) (by omega)).mp c20)
              have e15 : i15 = n 1 := by omega
              subst e15
              refine lv_iinc (v := nI (i6 + 1)) (lv' := [(3, .int (nI (i6 + 1))), (4, .int (nI (n 1))), (2, .int (nI (xa_in N (xa_rs N (n 1) (2 ^ u) i6) (n 1)))), (0, .ref q), (1, .int (nI u))]) hX_ hB_ dL_island_113 hl (k := 1) rfl (ze_inc _) (by decide) rfl (fun ls hl => ?_)
              refine lv_goto (tgt := 6) hX_ hB_ dL_island_116 (by decide) ?_
              have eL2 : nI (xa_in N (xa_rs N (n 1) (2 ^ u) i6) (n 1)) = nI (xa_rs N (n 1) (2 ^ u) (i6 + 1)) := rfl
              have hl : lv_has ls 6 [(3, .int (nI (i6 + 1))), (4, .int (nI (n 1))), (2, .int (nI (xa_rs N (n 1) (2 ^ u) (i6 + 1)))), (0, .ref q), (1, .int (nI u))] := by
                first | (rw [← eL2]; exact hl) | (simp only [← eL2]; exact hl)
              exact ih6 (i6 + 1) (by omega) (by omega) _ _ ls hW (lv_sub hl [0, 2, 3, 4] rfl)
            · have c20 : i15 < (n 1) := Nat.lt_of_not_le (fun h9 => c20 ((nI_leI (a := (n 1)) (b := i15) (by omega) (by omega)).mpr h9))
              refine lv_aload_n hX_ hB_ dL_island_23 rfl (lv_at hl 3 rfl) ?_
              refine lv_bipush (v := 22) hX_ hB_ dL_island_24 (by decide) ?_
              refine lv_iconst (v := 3) hX_ hB_ dL_island_26 (by decide) ?_
              refine lv_iload hX_ hB_ dL_island_27 (lv_at hl 0 rfl) ?_
              refine lv_imul hX_ hB_ dL_island_29 ?_
              refine ze_top (xb_mul (a := 3) (b := i15) (c := 3 * i15) (by omega)) ?_
              refine lv_iadd hX_ hB_ dL_island_30 ?_
              refine ze_top (xb_add (a := 22) (b := 3 * i15) (c := 3 * i15 + 22) (by omega)) ?_
              refine ze_ialdN hX_ hB_ hK hW 0 (f := N) rfl (i := 3 * i15 + 22) (by omega) (by decide) dL_island_31 ?_
              refine lv_iconst (v := 1) hX_ hB_ dL_island_32 (by decide) ?_
              refine lv_icmp_ne (tgt := 69) hX_ hB_ dL_island_33 (by decide) (fun c33 => ?_) (fun c33 => ?_)
              · refine lv_iconst (v := 0) hX_ hB_ dL_island_69 (by decide) ?_
                refine lv_istore (lv' := [(5, .int 0), (4, .int (nI i15)), (3, .int (nI i6)), (2, .int (nI (xa_in N (xa_rs N (n 1) (2 ^ u) i6) i15))), (0, .ref q), (1, .int (nI u))]) hX_ hB_ dL_island_70 hl (by decide) rfl (fun ls hl => ?_)
                refine lv_iload_n hX_ hB_ dL_island_72 rfl (lv_at hl 3 rfl) ?_
                refine lv_iload hX_ hB_ dL_island_73 (lv_at hl 0 rfl) ?_
                refine lv_if_eq (tgt := 104) hX_ hB_ dL_island_75 (by decide) (fun c75 => ?_) (fun c75 => ?_)
                · refine lv_iconst (v := 0) hX_ hB_ dL_island_104 (by decide) ?_
                  refine lv_ior hX_ hB_ dL_island_105 ?_
                  refine ze_top (xa_o3 hu.1) ?_
                  refine lv_istore_n (lv' := [(2, .int (nI (xa_in N (xa_rs N (n 1) (2 ^ u) i6) i15))), (5, .int 0), (4, .int (nI i15)), (3, .int (nI i6)), (0, .ref q), (1, .int (nI u))]) hX_ hB_ dL_island_106 rfl hl (by decide) rfl (fun ls hl => ?_)
                  refine lv_iinc (v := nI (i15 + 1)) (lv' := [(4, .int (nI (i15 + 1))), (2, .int (nI (xa_in N (xa_rs N (n 1) (2 ^ u) i6) i15))), (5, .int 0), (3, .int (nI i6)), (0, .ref q), (1, .int (nI u))]) hX_ hB_ dL_island_107 hl (k := 2) rfl (ze_inc _) (by decide) rfl (fun ls hl => ?_)
                  refine lv_goto (tgt := 15) hX_ hB_ dL_island_110 (by decide) ?_
                  have eL2 : nI (xa_in N (xa_rs N (n 1) (2 ^ u) i6) i15) = nI (xa_in N (xa_rs N (n 1) (2 ^ u) i6) (i15 + 1)) := (by simp only [xa_in, eq_true c9, eq_true c20, eq_false c33, eq_true c75, not_true_eq_false, not_false_eq_true, and_true, true_and, and_false, false_and, or_true, true_or, or_false, false_or, and_self, or_self, Decidable.not_not, if_true, if_false, reduceIte, reduceCtorEq, ne_eq, eq_self, Int32.lt_irrefl, Int32.le_refl, Nat.lt_irrefl])
                  have hl : lv_has ls 6 [(4, .int (nI (i15 + 1))), (2, .int (nI (xa_in N (xa_rs N (n 1) (2 ^ u) i6) (i15 + 1)))), (5, .int 0), (3, .int (nI i6)), (0, .ref q), (1, .int (nI u))] := by
                    first | (rw [← eL2]; exact hl) | (simp only [← eL2]; exact hl)
                  exact ih15 (i15 + 1) (by omega) (by omega) _ _ ls hW (lv_sub hl [0, 3, 1, 4, 5] rfl)
                · exact absurd c75 (by decide)
              · refine lv_iload_n hX_ hB_ dL_island_36 rfl (lv_at hl 2 rfl) ?_
                refine lv_aload_n hX_ hB_ dL_island_37 rfl (lv_at hl 3 rfl) ?_
                refine lv_bipush (v := 20) hX_ hB_ dL_island_38 (by decide) ?_
                refine lv_iconst (v := 3) hX_ hB_ dL_island_40 (by decide) ?_
                refine lv_iload hX_ hB_ dL_island_41 (lv_at hl 0 rfl) ?_
                refine lv_imul hX_ hB_ dL_island_43 ?_
                refine ze_top (xb_mul (a := 3) (b := i15) (c := 3 * i15) (by omega)) ?_
                refine lv_iadd hX_ hB_ dL_island_44 ?_
                refine ze_top (xb_add (a := 20) (b := 3 * i15) (c := 3 * i15 + 20) (by omega)) ?_
                refine ze_ialdN hX_ hB_ hK hW 0 (f := N) rfl (i := 3 * i15 + 20) (by omega) (by decide) dL_island_45 ?_
                refine ze_top (y := nI (ze_ix (N (3 * i15 + 20)))) (hH.2.2.1 i15 (by omega)).1.1 ?_
                refine lv_ishr hX_ hB_ dL_island_46 ?_
                refine lv_iload_n hX_ hB_ dL_island_47 rfl (lv_at hl 2 rfl) ?_
                refine lv_aload_n hX_ hB_ dL_island_48 rfl (lv_at hl 3 rfl) ?_
                refine lv_bipush (v := 21) hX_ hB_ dL_island_49 (by decide) ?_
                refine lv_iconst (v := 3) hX_ hB_ dL_island_51 (by decide) ?_
                refine lv_iload hX_ hB_ dL_island_52 (lv_at hl 0 rfl) ?_
                refine lv_imul hX_ hB_ dL_island_54 ?_
                refine ze_top (xb_mul (a := 3) (b := i15) (c := 3 * i15) (by omega)) ?_
                refine lv_iadd hX_ hB_ dL_island_55 ?_
                refine ze_top (xb_add (a := 21) (b := 3 * i15) (c := 3 * i15 + 21) (by omega)) ?_
                refine ze_ialdN hX_ hB_ hK hW 0 (f := N) rfl (i := 3 * i15 + 21) (by omega) (by decide) dL_island_56 ?_
                refine ze_top (y := nI (ze_ix (N (3 * i15 + 21)))) (hH.2.2.1 i15 (by omega)).2.1 ?_
                refine lv_ishr hX_ hB_ dL_island_57 ?_
                refine lv_ior hX_ hB_ dL_island_58 ?_
                refine lv_iconst (v := 1) hX_ hB_ dL_island_59 (by decide) ?_
                refine lv_iand hX_ hB_ dL_island_60 ?_
                refine ze_top (xa_o1 hu.1 (xa_ends hH (i := i15) (by omega)).1 (xa_ends hH (i := i15) (by omega)).2) ?_
                refine lv_iconst (v := 1) hX_ hB_ dL_island_61 (by decide) ?_
                refine lv_icmp_ne (tgt := 69) hX_ hB_ dL_island_62 (by decide) (fun c62 => ?_) (fun c62 => ?_)
                · have c62 : ¬ (((xa_in N (xa_rs N (n 1) (2 ^ u) i6) i15).testBit (ze_ix (N (3 * i15 + 20))) || (xa_in N (xa_rs N (n 1) (2 ^ u) i6) i15).testBit (ze_ix (N (3 * i15 + 21)))) = true) := xb_bf c62
                  refine lv_iconst (v := 0) hX_ hB_ dL_island_69 (by decide) ?_
                  refine lv_istore (lv' := [(5, .int 0), (4, .int (nI i15)), (3, .int (nI i6)), (2, .int (nI (xa_in N (xa_rs N (n 1) (2 ^ u) i6) i15))), (0, .ref q), (1, .int (nI u))]) hX_ hB_ dL_island_70 hl (by decide) rfl (fun ls hl => ?_)
                  refine lv_iload_n hX_ hB_ dL_island_72 rfl (lv_at hl 3 rfl) ?_
                  refine lv_iload hX_ hB_ dL_island_73 (lv_at hl 0 rfl) ?_
                  refine lv_if_eq (tgt := 104) hX_ hB_ dL_island_75 (by decide) (fun c75 => ?_) (fun c75 => ?_)
                  · refine lv_iconst (v := 0) hX_ hB_ dL_island_104 (by decide) ?_
                    refine lv_ior hX_ hB_ dL_island_105 ?_
                    refine ze_top (xa_o3 hu.1) ?_
                    refine lv_istore_n (lv' := [(2, .int (nI (xa_in N (xa_rs N (n 1) (2 ^ u) i6) i15))), (5, .int 0), (4, .int (nI i15)), (3, .int (nI i6)), (0, .ref q), (1, .int (nI u))]) hX_ hB_ dL_island_106 rfl hl (by decide) rfl (fun ls hl => ?_)
                    refine lv_iinc (v := nI (i15 + 1)) (lv' := [(4, .int (nI (i15 + 1))), (2, .int (nI (xa_in N (xa_rs N (n 1) (2 ^ u) i6) i15))), (5, .int 0), (3, .int (nI i6)), (0, .ref q), (1, .int (nI u))]) hX_ hB_ dL_island_107 hl (k := 2) rfl (ze_inc _) (by decide) rfl (fun ls hl => ?_)
                    refine lv_goto (tgt := 15) hX_ hB_ dL_island_110 (by decide) ?_
                    have eL2 : nI (xa_in N (xa_rs N (n 1) (2 ^ u) i6) i15) = nI (xa_in N (xa_rs N (n 1) (2 ^ u) i6) (i15 + 1)) := (by simp only [xa_in, eq_true c9, eq_true c20, eq_true c33, eq_false c62, eq_true c75, not_true_eq_false, not_false_eq_true, and_true, true_and, and_false, false_and, or_true, true_or, or_false, false_or, and_self, or_self, Decidable.not_not, if_true, if_false, reduceIte, reduceCtorEq, ne_eq, eq_self, Int32.lt_irrefl, Int32.le_refl, Nat.lt_irrefl])
                    have hl : lv_has ls 6 [(4, .int (nI (i15 + 1))), (2, .int (nI (xa_in N (xa_rs N (n 1) (2 ^ u) i6) (i15 + 1)))), (5, .int 0), (3, .int (nI i6)), (0, .ref q), (1, .int (nI u))] := by
                      first | (rw [← eL2]; exact hl) | (simp only [← eL2]; exact hl)
                    exact ih15 (i15 + 1) (by omega) (by omega) _ _ ls hW (lv_sub hl [0, 3, 1, 4, 5] rfl)
                  · exact absurd c75 (by decide)
                · have c62 : ((xa_in N (xa_rs N (n 1) (2 ^ u) i6) i15).testBit (ze_ix (N (3 * i15 + 20))) || (xa_in N (xa_rs N (n 1) (2 ^ u) i6) i15).testBit (ze_ix (N (3 * i15 + 21)))) = true := xb_bt c62
                  refine lv_iconst (v := 1) hX_ hB_ dL_island_65 (by decide) ?_
                  refine lv_goto (tgt := 70) hX_ hB_ dL_island_66 (by decide) ?_
                  refine lv_istore (lv' := [(5, .int 1), (4, .int (nI i15)), (3, .int (nI i6)), (2, .int (nI (xa_in N (xa_rs N (n 1) (2 ^ u) i6) i15))), (0, .ref q), (1, .int (nI u))]) hX_ hB_ dL_island_70 hl (by decide) rfl (fun ls hl => ?_)
                  refine lv_iload_n hX_ hB_ dL_island_72 rfl (lv_at hl 3 rfl) ?_
                  refine lv_iload hX_ hB_ dL_island_73 (lv_at hl 0 rfl) ?_
                  refine lv_if_eq (tgt := 104) hX_ hB_ dL_island_75 (by decide) (fun c75 => ?_) (fun c75 => ?_)
                  · exact absurd c75 (by decide)
                  · refine lv_iconst (v := 1) hX_ hB_ dL_island_78 (by decide) ?_
                    refine lv_aload_n hX_ hB_ dL_island_79 rfl (lv_at hl 4 rfl) ?_
                    refine lv_bipush (v := 20) hX_ hB_ dL_island_80 (by decide) ?_
                    refine lv_iconst (v := 3) hX_ hB_ dL_island_82 (by decide) ?_
                    refine lv_iload hX_ hB_ dL_island_83 (lv_at hl 1 rfl) ?_
                    refine lv_imul hX_ hB_ dL_island_85 ?_
                    refine ze_top (xb_mul (a := 3) (b := i15) (c := 3 * i15) (by omega)) ?_
                    refine lv_iadd hX_ hB_ dL_island_86 ?_
                    refine ze_top (xb_add (a := 20) (b := 3 * i15) (c := 3 * i15 + 20) (by omega)) ?_
                    refine ze_ialdN hX_ hB_ hK hW 0 (f := N) rfl (i := 3 * i15 + 20) (by omega) (by decide) dL_island_87 ?_
                    refine ze_top (y := nI (ze_ix (N (3 * i15 + 20)))) (hH.2.2.1 i15 (by omega)).1.1 ?_
                    refine lv_ishl hX_ hB_ dL_island_88 ?_
                    refine lv_iconst (v := 1) hX_ hB_ dL_island_89 (by decide) ?_
                    refine lv_aload_n hX_ hB_ dL_island_90 rfl (lv_at hl 4 rfl) ?_
                    refine lv_bipush (v := 21) hX_ hB_ dL_island_91 (by decide) ?_
                    refine lv_iconst (v := 3) hX_ hB_ dL_island_93 (by decide) ?_
                    refine lv_iload hX_ hB_ dL_island_94 (lv_at hl 1 rfl) ?_
                    refine lv_imul hX_ hB_ dL_island_96 ?_
                    refine ze_top (xb_mul (a := 3) (b := i15) (c := 3 * i15) (by omega)) ?_
                    refine lv_iadd hX_ hB_ dL_island_97 ?_
                    refine ze_top (xb_add (a := 21) (b := 3 * i15) (c := 3 * i15 + 21) (by omega)) ?_
                    refine ze_ialdN hX_ hB_ hK hW 0 (f := N) rfl (i := 3 * i15 + 21) (by omega) (by decide) dL_island_98 ?_
                    refine ze_top (y := nI (ze_ix (N (3 * i15 + 21)))) (hH.2.2.1 i15 (by omega)).2.1 ?_
                    refine lv_ishl hX_ hB_ dL_island_99 ?_
                    refine lv_ior hX_ hB_ dL_island_100 ?_
                    refine lv_goto (tgt := 105) hX_ hB_ dL_island_101 (by decide) ?_
                    refine lv_ior hX_ hB_ dL_island_105 ?_
                    refine ze_top (xa_o2 hu.1 (xa_ends hH (i := i15) (by omega)).1 (xa_ends hH (i := i15) (by omega)).2) ?_
                    refine lv_istore_n (lv' := [(2, .int (nI ((xa_in N (xa_rs N (n 1) (2 ^ u) i6) i15) ||| (2 ^ ze_ix (N (3 * i15 + 20)) ||| 2 ^ ze_ix (N (3 * i15 + 21)))))), (5, .int 1), (4, .int (nI i15)), (3, .int (nI i6)), (0, .ref q), (1, .int (nI u))]) hX_ hB_ dL_island_106 rfl hl (by decide) rfl (fun ls hl => ?_)
                    refine lv_iinc (v := nI (i15 + 1)) (lv' := [(4, .int (nI (i15 + 1))), (2, .int (nI ((xa_in N (xa_rs N (n 1) (2 ^ u) i6) i15) ||| (2 ^ ze_ix (N (3 * i15 + 20)) ||| 2 ^ ze_ix (N (3 * i15 + 21)))))), (5, .int 1), (3, .int (nI i6)), (0, .ref q), (1, .int (nI u))]) hX_ hB_ dL_island_107 hl (k := 2) rfl (ze_inc _) (by decide) rfl (fun ls hl => ?_)
                    refine lv_goto (tgt := 15) hX_ hB_ dL_island_110 (by decide) ?_
                    have eL2 : nI ((xa_in N (xa_rs N (n 1) (2 ^ u) i6) i15) ||| (2 ^ ze_ix (N (3 * i15 + 20)) ||| 2 ^ ze_ix (N (3 * i15 + 21)))) = nI (xa_in N (xa_rs N (n 1) (2 ^ u) i6) (i15 + 1)) := (by simp only [xa_in, eq_true c9, eq_true c20, eq_true c33, eq_true c62, eq_false c75, not_true_eq_false, not_false_eq_true, and_true, true_and, and_false, false_and, or_true, true_or, or_false, false_or, and_self, or_self, Decidable.not_not, if_true, if_false, reduceIte, reduceCtorEq, ne_eq, eq_self, Int32.lt_irrefl, Int32.le_refl, Nat.lt_irrefl])
                    have hl : lv_has ls 6 [(4, .int (nI (i15 + 1))), (2, .int (nI (xa_in N (xa_rs N (n 1) (2 ^ u) i6) (i15 + 1)))), (5, .int 1), (3, .int (nI i6)), (0, .ref q), (1, .int (nI u))] := by
                      first | (rw [← eL2]; exact hl) | (simp only [← eL2]; exact hl)
                    exact ih15 (i15 + 1) (by omega) (by omega) _ _ ls hW (lv_sub hl [0, 3, 1, 4, 5] rfl)
        have hl : lv_has ls 6 [(4, .int (nI 0)), (3, .int (nI i6)), (2, .int (nI (xa_in N (xa_rs N (n 1) (2 ^ u) i6) 0))), (0, .ref q), (1, .int (nI u))] := hl
        have hW : ze_W D ([(q, .inl (c 0, 210, .inl N))] : va_W) F s.heap _ _ := hW
        exact L15 _ 0 (by omega) (Nat.lt_succ_self _) _ _ ls hW (lv_sub hl [0, 1, 2, 3, 4] rfl)
  have hl : lv_has ls 6 [(3, .int (nI 0)), (2, .int (nI (xa_rs N (n 1) (2 ^ u) 0))), (0, .ref q), (1, .int (nI u))] := hl
  have hW : ze_W D ([(q, .inl (c 0, 210, .inl N))] : va_W) F s.heap _ _ := hW
  exact L6 _ 0 (by omega) (Nat.lt_succ_self _) _ _ ls hW (lv_sub hl [0, 1, 2, 3] rfl)
set_option maxHeartbeats 8000000 in
set_option maxRecDepth 100000 in
theorem xl_islands (l : Launch) (D : va_G) (c : Nat → ClassId) (q : Nat) (n : Nat → Nat) (N : Nat → Int32) (hH : xa_H n N)  : ze_I l yL_islands wsL_islands 1 25 0 0 D c ([(q, .inl (c 0, 210, .inl N))] : va_W) [.ref q] (xa_many N (n 1) (n 0)) ([(q, .inl (c 0, 210, .inl N))] : va_W) := by
  intro sz
  refine ze_start (cc := cL_islands) (maxL := 3) (ret := (some .int)) (own := RL) (by decide) rfl rfl (Nat.le_of_ble_eq_true rfl) ?_
  obtain ⟨⟨hn0, hn1, hn2, hn3, hn4⟩, -⟩ := id hH
  intro p e s m_ below meth cd F ls hF hsz E0
  obtain ⟨S, hr, hlocks, hK, hW, hA, hl⟩ := E0
  have hX_ := S.1
  have hB_ := S.2.1
  have hts := S.2.2.2.2
  have hl : lv_has ls 3 [(0, .ref q)] := hl
  refine lv_iconst (v := 0) hX_ hB_ dL_islands_0 (by decide) ?_
  refine lv_istore_n (lv' := [(1, .int 0), (0, .ref q)]) hX_ hB_ dL_islands_1 rfl hl (by decide) rfl (fun ls hl => ?_)
  refine lv_iconst (v := 0) hX_ hB_ dL_islands_2 (by decide) ?_
  refine lv_istore_n (lv' := [(2, .int 0), (1, .int 0), (0, .ref q)]) hX_ hB_ dL_islands_3 rfl hl (by decide) rfl (fun ls hl => ?_)
  have L4 : ∀ (k4 : Nat) (i4 : Nat), (i4 ≤ n 0) → (n 0 - i4) < k4 → ∀ (H : Heap) (locs : List Loc) (ls : Array Slot), ze_W D ([(q, .inl (c 0, 210, .inl N))] : va_W) F s.heap H locs → lv_has ls 3 [(2, .int (nI i4)), (1, .int (xa_many N (n 1) i4)), (0, .ref q)] → W p l e { frames := 1, cells := 0, slots := 0, locals := 25 } s m_ ([.ref q] : List Value).toArray below meth cd H locs 0 0 (MQ below (ze_Qi D c ([(q, .inl (c 0, 210, .inl N))] : va_W) sz (xa_many N (n 1) (n 0)) ([(q, .inl (c 0, 210, .inl N))] : va_W)) ([.ref q] : List Value).toArray s 0 0 F) (F0 m_ 4 ls []) := by
    intro k4
    induction k4 with
    | zero =>
      intro i4 h4 hk4
      exact absurd hk4 (Nat.not_lt_zero _)
    | succ k4 ih4 =>
      intro i4 h4 hk4 H locs ls hW hl
      refine lv_iload_n hX_ hB_ dL_islands_4 rfl (lv_at hl 0 rfl) ?_
      refine lv_aload_n hX_ hB_ dL_islands_5 rfl (lv_at hl 2 rfl) ?_
      refine lv_iconst (v := 0) hX_ hB_ dL_islands_6 (by decide) ?_
      refine ze_ialdN hX_ hB_ hK hW 0 (f := N) rfl (i := 0) (by omega) (by decide) dL_islands_7 ?_
      refine ze_top (y := nI (n 0)) hH.2.1.1 ?_
      refine lv_icmp_ge (tgt := 34) hX_ hB_ dL_islands_8 (by decide) (fun c8 => ?_) (fun c8 => ?_)
      · have c8 : ¬ i4 < (n 0) := Nat.not_lt.mpr ((nI_leI (a := (n 0)) (b := i4) (by omega) (by omega)).mp c8)
        have e4 : i4 = n 0 := by omega
        subst e4
        refine lv_iload_n hX_ hB_ dL_islands_34 rfl (lv_at hl 1 rfl) ?_
        exact ze_iret S hr hlocks hF hK hW rfl dL_islands_35 (Nat.le_of_ble_eq_true rfl) (Nat.le_of_ble_eq_true rfl) rfl rfl
      · have c8 : i4 < (n 0) := Nat.lt_of_not_le (fun h9 => c8 ((nI_leI (a := (n 0)) (b := i4) (by omega) (by omega)).mpr h9))
        refine lv_iload_n hX_ hB_ dL_islands_11 rfl (lv_at hl 1 rfl) ?_
        refine lv_aload_n hX_ hB_ dL_islands_12 rfl (lv_at hl 2 rfl) ?_
        refine lv_iload_n hX_ hB_ dL_islands_13 rfl (lv_at hl 0 rfl) ?_
        have hW := ze_W0 hW
        refine ze_FSi (As := [.ref q, .int (nI i4)]) (rest := [.int (xa_many N (n 1) i4)]) S (xl_island l D c q n N hH i4 (by omega)) (va_cwS 2 hts gL_islands_L_island rfl rfl rfl (by decide +kernel) ⟨(Nat.le_of_ble_eq_true rfl), (Nat.le_of_ble_eq_true rfl)⟩) hK hW hA rfl hl.1 rfl (lv_room (Nat.le_of_ble_eq_true rfl)) dL_islands_14 ⟨(Nat.le_of_ble_eq_true rfl), (Nat.le_of_ble_eq_true rfl)⟩ (fun H locs hW => ?_)
        have hi14 := xa_islt hH (s := i4) (by omega)
        have hW := ze_W0' hW
        have hW : ze_W D ([(q, .inl (c 0, 210, .inl N))] : va_W) F s.heap _ _ := hW
        refine lv_iload_n hX_ hB_ dL_islands_17 rfl (lv_at hl 0 rfl) ?_
        refine lv_icmp_ne (tgt := 25) hX_ hB_ dL_islands_18 (by decide) (fun c18 => ?_) (fun c18 => ?_)
        · have c18 : ¬ (xa_isl N (n 1) i4) = i4 := fun h9 => c18 ((nI_eq (a := (xa_isl N (n 1) i4)) (b := i4) (by omega) (by omega)).mpr h9)
          refine lv_iconst (v := 0) hX_ hB_ dL_islands_25 (by decide) ?_
          refine lv_iadd hX_ hB_ dL_islands_26 ?_
          refine lv_istore_n (lv' := [(1, .int (xa_many N (n 1) i4 + 0)), (2, .int (nI i4)), (0, .ref q)]) hX_ hB_ dL_islands_27 rfl hl (by decide) rfl (fun ls hl => ?_)
          refine lv_iinc (v := nI (i4 + 1)) (lv' := [(2, .int (nI (i4 + 1))), (1, .int (xa_many N (n 1) i4 + 0)), (0, .ref q)]) hX_ hB_ dL_islands_28 hl (k := 1) rfl (ze_inc _) (by decide) rfl (fun ls hl => ?_)
          refine lv_goto (tgt := 4) hX_ hB_ dL_islands_31 (by decide) ?_
          have eL1 : xa_many N (n 1) i4 + 0 = xa_many N (n 1) (i4 + 1) := (by simp only [ze_b, xa_many, ze_sum, eq_true c8, eq_false c18, not_true_eq_false, not_false_eq_true, and_true, true_and, and_false, false_and, or_true, true_or, or_false, false_or, and_self, or_self, Decidable.not_not, if_true, if_false, reduceIte, reduceCtorEq, ne_eq, eq_self, Int32.lt_irrefl, Int32.le_refl, Nat.lt_irrefl])
          have hl : lv_has ls 3 [(2, .int (nI (i4 + 1))), (1, .int (xa_many N (n 1) (i4 + 1))), (0, .ref q)] := by
            first | (rw [← eL1]; exact hl) | (simp only [← eL1]; exact hl)
          exact ih4 (i4 + 1) (by omega) (by omega) _ _ ls hW (lv_sub hl [0, 1, 2] rfl)
        · have c18 : (xa_isl N (n 1) i4) = i4 := (nI_eq (a := (xa_isl N (n 1) i4)) (b := i4) (by omega) (by omega)).mp c18
          refine lv_iconst (v := 1) hX_ hB_ dL_islands_21 (by decide) ?_
          refine lv_goto (tgt := 26) hX_ hB_ dL_islands_22 (by decide) ?_
          refine lv_iadd hX_ hB_ dL_islands_26 ?_
          refine lv_istore_n (lv' := [(1, .int (xa_many N (n 1) i4 + 1)), (2, .int (nI i4)), (0, .ref q)]) hX_ hB_ dL_islands_27 rfl hl (by decide) rfl (fun ls hl => ?_)
          refine lv_iinc (v := nI (i4 + 1)) (lv' := [(2, .int (nI (i4 + 1))), (1, .int (xa_many N (n 1) i4 + 1)), (0, .ref q)]) hX_ hB_ dL_islands_28 hl (k := 1) rfl (ze_inc _) (by decide) rfl (fun ls hl => ?_)
          refine lv_goto (tgt := 4) hX_ hB_ dL_islands_31 (by decide) ?_
          have eL1 : xa_many N (n 1) i4 + 1 = xa_many N (n 1) (i4 + 1) := (by simp only [ze_b, xa_many, ze_sum, eq_true c8, eq_true c18, not_true_eq_false, not_false_eq_true, and_true, true_and, and_false, false_and, or_true, true_or, or_false, false_or, and_self, or_self, Decidable.not_not, if_true, if_false, reduceIte, reduceCtorEq, ne_eq, eq_self, Int32.lt_irrefl, Int32.le_refl, Nat.lt_irrefl])
          have hl : lv_has ls 3 [(2, .int (nI (i4 + 1))), (1, .int (xa_many N (n 1) (i4 + 1))), (0, .ref q)] := by
            first | (rw [← eL1]; exact hl) | (simp only [← eL1]; exact hl)
          exact ih4 (i4 + 1) (by omega) (by omega) _ _ ls hW (lv_sub hl [0, 1, 2] rfl)
  have hl : lv_has ls 3 [(2, .int (nI 0)), (1, .int (xa_many N (n 1) 0)), (0, .ref q)] := hl
  have hW : ze_W D ([(q, .inl (c 0, 210, .inl N))] : va_W) F s.heap _ _ := hW
  exact L4 _ 0 (by omega) (Nat.lt_succ_self _) _ _ ls hW (lv_sub hl [0, 1, 2] rfl)
set_option maxHeartbeats 8000000 in
set_option maxRecDepth 100000 in
theorem xl_phaseOf (l : Launch) (D : va_G) (c : Nat → ClassId) (q : Nat) (n : Nat → Nat) (N : Nat → Int32) (hH : xa_H n N) (u : Nat) (hs : u < n 0) : ze_I l yL_phaseOf wsL_phaseOf 1 25 0 0 D c ([(q, .inl (c 0, 210, .inl N))] : va_W) [.ref q, .int (nI u)] (xa_ph N (n 1) u) ([(q, .inl (c 0, 210, .inl N))] : va_W) := by
  intro sz
  refine ze_start (cc := cL_phaseOf) (maxL := 3) (ret := (some .int)) (own := RL) (by decide) rfl rfl (Nat.le_of_ble_eq_true rfl) ?_
  obtain ⟨⟨hn0, hn1, hn2, hn3, hn4⟩, -⟩ := id hH
  have h9 := xa_islt hH hs
  intro p e s m_ below meth cd F ls hF hsz E0
  obtain ⟨S, hr, hlocks, hK, hW, hA, hl⟩ := E0
  have hX_ := S.1
  have hB_ := S.2.1
  have hts := S.2.2.2.2
  have hl : lv_has ls 3 [(0, .ref q), (1, .int (nI u))] := hl
  refine lv_aload_n hX_ hB_ dL_phaseOf_0 rfl (lv_at hl 0 rfl) ?_
  refine lv_iload_n hX_ hB_ dL_phaseOf_1 rfl (lv_at hl 1 rfl) ?_
  have hW := ze_W0 hW
  refine ze_FSi (As := [.ref q, .int (nI u)]) (rest := []) S (xl_island l D c q n N hH u (by omega)) (va_cwS 2 hts gL_phaseOf_L_island rfl rfl rfl (by decide +kernel) ⟨(Nat.le_of_ble_eq_true rfl), (Nat.le_of_ble_eq_true rfl)⟩) hK hW hA rfl hl.1 rfl (lv_room (Nat.le_of_ble_eq_true rfl)) dL_phaseOf_2 ⟨(Nat.le_of_ble_eq_true rfl), (Nat.le_of_ble_eq_true rfl)⟩ (fun H locs hW => ?_)
  have hi2 := xa_islt hH (s := u) (by omega)
  have hW := ze_W0' hW
  have hW : ze_W D ([(q, .inl (c 0, 210, .inl N))] : va_W) F s.heap _ _ := hW
  refine lv_istore_n (lv' := [(2, .int (nI (xa_isl N (n 1) u))), (0, .ref q), (1, .int (nI u))]) hX_ hB_ dL_phaseOf_5 rfl hl (by decide) rfl (fun ls hl => ?_)
  refine lv_iload_n hX_ hB_ dL_phaseOf_6 rfl (lv_at hl 0 rfl) ?_
  refine lv_if_ne (tgt := 22) hX_ hB_ dL_phaseOf_7 (by decide) (fun c7 => ?_) (fun c7 => ?_)
  · have c7 : ¬ (xa_isl N (n 1) u) = 0 := fun h9 => c7 ((nI_eq (a := (xa_isl N (n 1) u)) (b := 0) (by omega) (by omega)).mpr h9)
    refine lv_aload_n hX_ hB_ dL_phaseOf_22 rfl (lv_at hl 1 rfl) ?_
    refine lv_bipush (v := 10) hX_ hB_ dL_phaseOf_23 (by decide) ?_
    refine lv_iload_n hX_ hB_ dL_phaseOf_25 rfl (lv_at hl 0 rfl) ?_
    refine lv_iadd hX_ hB_ dL_phaseOf_26 ?_
    refine ze_top (xb_add (a := 10) (b := xa_isl N (n 1) u) (c := xa_isl N (n 1) u + 10) (by omega)) ?_
    refine ze_ialdN hX_ hB_ hK hW 0 (f := N) rfl (i := xa_isl N (n 1) u + 10) (by omega) (by decide) dL_phaseOf_27 ?_
    exact ze_iret S hr hlocks hF hK hW rfl dL_phaseOf_28 (Nat.le_of_ble_eq_true rfl) (Nat.le_of_ble_eq_true rfl) (by simp only [ze_b, xa_ph, eq_false c7, not_true_eq_false, not_false_eq_true, and_true, true_and, and_false, false_and, or_true, true_or, or_false, false_or, and_self, or_self, Decidable.not_not, if_true, if_false, reduceIte, reduceCtorEq, ne_eq, eq_self, Int32.lt_irrefl, Int32.le_refl, Nat.lt_irrefl]) rfl
  · have c7 : (xa_isl N (n 1) u) = 0 := (nI_eq (a := (xa_isl N (n 1) u)) (b := 0) (by omega) (by omega)).mp c7
    refine lv_aload_n hX_ hB_ dL_phaseOf_10 rfl (lv_at hl 1 rfl) ?_
    refine lv_bipush (v := 8) hX_ hB_ dL_phaseOf_11 (by decide) ?_
    refine ze_ialdN hX_ hB_ hK hW 0 (f := N) rfl (i := 8) (by omega) (by decide) dL_phaseOf_13 ?_
    refine lv_iconst (v := 1) hX_ hB_ dL_phaseOf_14 (by decide) ?_
    refine lv_icmp_ne (tgt := 22) hX_ hB_ dL_phaseOf_15 (by decide) (fun c15 => ?_) (fun c15 => ?_)
    · refine lv_aload_n hX_ hB_ dL_phaseOf_22 rfl (lv_at hl 1 rfl) ?_
      refine lv_bipush (v := 10) hX_ hB_ dL_phaseOf_23 (by decide) ?_
      refine lv_iload_n hX_ hB_ dL_phaseOf_25 rfl (lv_at hl 0 rfl) ?_
      refine lv_iadd hX_ hB_ dL_phaseOf_26 ?_
      refine ze_top (xb_add (a := 10) (b := xa_isl N (n 1) u) (c := xa_isl N (n 1) u + 10) (by omega)) ?_
      refine ze_ialdN hX_ hB_ hK hW 0 (f := N) rfl (i := xa_isl N (n 1) u + 10) (by omega) (by decide) dL_phaseOf_27 ?_
      exact ze_iret S hr hlocks hF hK hW rfl dL_phaseOf_28 (Nat.le_of_ble_eq_true rfl) (Nat.le_of_ble_eq_true rfl) (by simp only [ze_b, xa_ph, eq_true c7, eq_false c15, not_true_eq_false, not_false_eq_true, and_true, true_and, and_false, false_and, or_true, true_or, or_false, false_or, and_self, or_self, Decidable.not_not, if_true, if_false, reduceIte, reduceCtorEq, ne_eq, eq_self, Int32.lt_irrefl, Int32.le_refl, Nat.lt_irrefl]) rfl
    · refine lv_iconst (v := 0) hX_ hB_ dL_phaseOf_18 (by decide) ?_
      refine lv_goto (tgt := 28) hX_ hB_ dL_phaseOf_19 (by decide) ?_
      exact ze_iret S hr hlocks hF hK hW rfl dL_phaseOf_28 (Nat.le_of_ble_eq_true rfl) (Nat.le_of_ble_eq_true rfl) (by simp only [ze_b, xa_ph, eq_true c7, eq_true c15, not_true_eq_false, not_false_eq_true, and_true, true_and, and_false, false_and, or_true, true_or, or_false, false_or, and_self, or_self, Decidable.not_not, if_true, if_false, reduceIte, reduceCtorEq, ne_eq, eq_self, Int32.lt_irrefl, Int32.le_refl, Nat.lt_irrefl]) rfl
set_option maxHeartbeats 8000000 in
set_option maxRecDepth 100000 in
theorem xl_gap (l : Launch) (D : va_G) (c : Nat → ClassId) (q : Nat) (n : Nat → Nat) (N : Nat → Int32) (hH : xa_H n N) (i : Nat) (hi : i < n 1) : ze_I l yL_gap wsL_gap 2 47 0 0 D c ([(q, .inl (c 0, 210, .inl N))] : va_W) [.ref q, .int (nI i)] (xa_gap N (n 1) i) ([(q, .inl (c 0, 210, .inl N))] : va_W) := by
  intro sz
  refine ze_start (cc := cL_gap) (maxL := 5) (ret := (some .int)) (own := RL) (by decide) rfl rfl (Nat.le_of_ble_eq_true rfl) ?_
  obtain ⟨⟨hn0, hn1, hn2, hn3, hn4⟩, -⟩ := id hH
  intro p e s m_ below meth cd F ls hF hsz E0
  obtain ⟨S, hr, hlocks, hK, hW, hA, hl⟩ := E0
  have hX_ := S.1
  have hB_ := S.2.1
  have hts := S.2.2.2.2
  have hl : lv_has ls 5 [(0, .ref q), (1, .int (nI i))] := hl
  refine lv_aload_n hX_ hB_ dL_gap_0 rfl (lv_at hl 0 rfl) ?_
  refine lv_bipush (v := 20) hX_ hB_ dL_gap_1 (by decide) ?_
  refine lv_iconst (v := 3) hX_ hB_ dL_gap_3 (by decide) ?_
  refine lv_iload_n hX_ hB_ dL_gap_4 rfl (lv_at hl 1 rfl) ?_
  refine lv_imul hX_ hB_ dL_gap_5 ?_
  refine ze_top (xb_mul (a := 3) (b := i) (c := 3 * i) (by omega)) ?_
  refine lv_iadd hX_ hB_ dL_gap_6 ?_
  refine ze_top (xb_add (a := 20) (b := 3 * i) (c := 3 * i + 20) (by omega)) ?_
  refine ze_ialdN hX_ hB_ hK hW 0 (f := N) rfl (i := 3 * i + 20) (by omega) (by decide) dL_gap_7 ?_
  refine ze_top (y := nI (ze_ix (N (3 * i + 20)))) (hH.2.2.1 i (by omega)).1.1 ?_
  refine lv_istore_n (lv' := [(2, .int (nI (ze_ix (N (3 * i + 20))))), (0, .ref q), (1, .int (nI i))]) hX_ hB_ dL_gap_8 rfl hl (by decide) rfl (fun ls hl => ?_)
  refine lv_aload_n hX_ hB_ dL_gap_9 rfl (lv_at hl 1 rfl) ?_
  refine lv_bipush (v := 21) hX_ hB_ dL_gap_10 (by decide) ?_
  refine lv_iconst (v := 3) hX_ hB_ dL_gap_12 (by decide) ?_
  refine lv_iload_n hX_ hB_ dL_gap_13 rfl (lv_at hl 2 rfl) ?_
  refine lv_imul hX_ hB_ dL_gap_14 ?_
  refine ze_top (xb_mul (a := 3) (b := i) (c := 3 * i) (by omega)) ?_
  refine lv_iadd hX_ hB_ dL_gap_15 ?_
  refine ze_top (xb_add (a := 21) (b := 3 * i) (c := 3 * i + 21) (by omega)) ?_
  refine ze_ialdN hX_ hB_ hK hW 0 (f := N) rfl (i := 3 * i + 21) (by omega) (by decide) dL_gap_16 ?_
  refine ze_top (y := nI (ze_ix (N (3 * i + 21)))) (hH.2.2.1 i (by omega)).2.1 ?_
  refine lv_istore_n (lv' := [(3, .int (nI (ze_ix (N (3 * i + 21))))), (2, .int (nI (ze_ix (N (3 * i + 20))))), (0, .ref q), (1, .int (nI i))]) hX_ hB_ dL_gap_17 rfl hl (by decide) rfl (fun ls hl => ?_)
  refine lv_aload_n hX_ hB_ dL_gap_18 rfl (lv_at hl 2 rfl) ?_
  refine lv_iload_n hX_ hB_ dL_gap_19 rfl (lv_at hl 1 rfl) ?_
  have hW := ze_W0 hW
  refine ze_FSi (As := [.ref q, .int (nI (ze_ix (N (3 * i + 20))))]) (rest := []) S (xl_phaseOf l D c q n N hH (ze_ix (N (3 * i + 20))) (hH.2.2.1 i (by omega)).1.2) (va_cwS 2 hts gL_gap_L_phaseOf rfl rfl rfl (by decide +kernel) ⟨(Nat.le_of_ble_eq_true rfl), (Nat.le_of_ble_eq_true rfl)⟩) hK hW hA rfl hl.1 rfl (lv_room (Nat.le_of_ble_eq_true rfl)) dL_gap_20 ⟨(Nat.le_of_ble_eq_true rfl), (Nat.le_of_ble_eq_true rfl)⟩ (fun H locs hW => ?_)
  have hW := ze_W0' hW
  have hW : ze_W D ([(q, .inl (c 0, 210, .inl N))] : va_W) F s.heap _ _ := hW
  refine lv_aload_n hX_ hB_ dL_gap_23 rfl (lv_at hl 2 rfl) ?_
  refine lv_iload_n hX_ hB_ dL_gap_24 rfl (lv_at hl 0 rfl) ?_
  have hW := ze_W0 hW
  refine ze_FSi (As := [.ref q, .int (nI (ze_ix (N (3 * i + 21))))]) (rest := [.int (xa_ph N (n 1) (ze_ix (N (3 * i + 20))))]) S (xl_phaseOf l D c q n N hH (ze_ix (N (3 * i + 21))) (hH.2.2.1 i (by omega)).2.2) (va_cwS 2 hts gL_gap_L_phaseOf rfl rfl rfl (by decide +kernel) ⟨(Nat.le_of_ble_eq_true rfl), (Nat.le_of_ble_eq_true rfl)⟩) hK hW hA rfl hl.1 rfl (lv_room (Nat.le_of_ble_eq_true rfl)) dL_gap_25 ⟨(Nat.le_of_ble_eq_true rfl), (Nat.le_of_ble_eq_true rfl)⟩ (fun H locs hW => ?_)
  have hW := ze_W0' hW
  have hW : ze_W D ([(q, .inl (c 0, 210, .inl N))] : va_W) F s.heap _ _ := hW
  refine lv_isub hX_ hB_ dL_gap_28 ?_
  refine lv_sipush (v := 360) hX_ hB_ dL_gap_29 (by decide) ?_
  refine lv_iadd hX_ hB_ dL_gap_32 ?_
  refine lv_sipush (v := 360) hX_ hB_ dL_gap_33 (by decide) ?_
  refine lv_irem hX_ hB_ dL_gap_36 (by decide) ?_
  refine lv_istore (lv' := [(4, .int (((xa_ph N (n 1) (ze_ix (N (3 * i + 20))) - xa_ph N (n 1) (ze_ix (N (3 * i + 21)))) + 360) - ((xa_ph N (n 1) (ze_ix (N (3 * i + 20))) - xa_ph N (n 1) (ze_ix (N (3 * i + 21)))) + 360) / 360 * 360)), (3, .int (nI (ze_ix (N (3 * i + 21))))), (2, .int (nI (ze_ix (N (3 * i + 20))))), (0, .ref q), (1, .int (nI i))]) hX_ hB_ dL_gap_37 hl (by decide) rfl (fun ls hl => ?_)
  refine lv_aload_n hX_ hB_ dL_gap_39 rfl (lv_at hl 3 rfl) ?_
  refine lv_iload_n hX_ hB_ dL_gap_40 rfl (lv_at hl 2 rfl) ?_
  have hW := ze_W0 hW
  refine ze_FSi (As := [.ref q, .int (nI (ze_ix (N (3 * i + 20))))]) (rest := []) S (xl_island l D c q n N hH (ze_ix (N (3 * i + 20))) (hH.2.2.1 i (by omega)).1.2) (va_cwS 2 hts gL_gap_L_island rfl rfl rfl (by decide +kernel) ⟨(Nat.le_of_ble_eq_true rfl), (Nat.le_of_ble_eq_true rfl)⟩) hK hW hA rfl hl.1 rfl (lv_room (Nat.le_of_ble_eq_true rfl)) dL_gap_41 ⟨(Nat.le_of_ble_eq_true rfl), (Nat.le_of_ble_eq_true rfl)⟩ (fun H locs hW => ?_)
  have hi41 := xa_islt hH (s := (ze_ix (N (3 * i + 20)))) (hH.2.2.1 i (by omega)).1.2
  have hW := ze_W0' hW
  have hW : ze_W D ([(q, .inl (c 0, 210, .inl N))] : va_W) F s.heap _ _ := hW
  refine lv_aload_n hX_ hB_ dL_gap_44 rfl (lv_at hl 3 rfl) ?_
  refine lv_iload_n hX_ hB_ dL_gap_45 rfl (lv_at hl 1 rfl) ?_
  have hW := ze_W0 hW
  refine ze_FSi (As := [.ref q, .int (nI (ze_ix (N (3 * i + 21))))]) (rest := [.int (nI (xa_isl N (n 1) (ze_ix (N (3 * i + 20)))))]) S (xl_island l D c q n N hH (ze_ix (N (3 * i + 21))) (hH.2.2.1 i (by omega)).2.2) (va_cwS 2 hts gL_gap_L_island rfl rfl rfl (by decide +kernel) ⟨(Nat.le_of_ble_eq_true rfl), (Nat.le_of_ble_eq_true rfl)⟩) hK hW hA rfl hl.1 rfl (lv_room (Nat.le_of_ble_eq_true rfl)) dL_gap_46 ⟨(Nat.le_of_ble_eq_true rfl), (Nat.le_of_ble_eq_true rfl)⟩ (fun H locs hW => ?_)
  have hi46 := xa_islt hH (s := (ze_ix (N (3 * i + 21)))) (hH.2.2.1 i (by omega)).2.2
  have hW := ze_W0' hW
  have hW : ze_W D ([(q, .inl (c 0, 210, .inl N))] : va_W) F s.heap _ _ := hW
  refine lv_icmp_ne (tgt := 56) hX_ hB_ dL_gap_49 (by decide) (fun c49 => ?_) (fun c49 => ?_)
  · have c49 : ¬ (xa_isl N (n 1) (ze_ix (N (3 * i + 20)))) = (xa_isl N (n 1) (ze_ix (N (3 * i + 21)))) := fun h9 => c49 ((nI_eq (a := (xa_isl N (n 1) (ze_ix (N (3 * i + 20))))) (b := (xa_isl N (n 1) (ze_ix (N (3 * i + 21))))) (by omega) (by omega)).mpr h9)
    refine lv_iload hX_ hB_ dL_gap_56 (lv_at hl 0 rfl) ?_
    refine lv_sipush (v := 180) hX_ hB_ dL_gap_58 (by decide) ?_
    refine lv_icmp_le (tgt := 73) hX_ hB_ dL_gap_61 (by decide) (fun c61 => ?_) (fun c61 => ?_)
    · refine lv_iload hX_ hB_ dL_gap_73 (lv_at hl 0 rfl) ?_
      exact ze_iret S hr hlocks hF hK hW rfl dL_gap_75 (Nat.le_of_ble_eq_true rfl) (Nat.le_of_ble_eq_true rfl) (by simp only [ze_b, xa_gap, xa_off, eq_false c49, eq_true c61, not_true_eq_false, not_false_eq_true, and_true, true_and, and_false, false_and, or_true, true_or, or_false, false_or, and_self, or_self, Decidable.not_not, if_true, if_false, reduceIte, reduceCtorEq, ne_eq, eq_self, Int32.lt_irrefl, Int32.le_refl, Nat.lt_irrefl]) rfl
    · refine lv_sipush (v := 360) hX_ hB_ dL_gap_64 (by decide) ?_
      refine lv_iload hX_ hB_ dL_gap_67 (lv_at hl 0 rfl) ?_
      refine lv_isub hX_ hB_ dL_gap_69 ?_
      refine lv_goto (tgt := 75) hX_ hB_ dL_gap_70 (by decide) ?_
      exact ze_iret S hr hlocks hF hK hW rfl dL_gap_75 (Nat.le_of_ble_eq_true rfl) (Nat.le_of_ble_eq_true rfl) (by simp only [ze_b, xa_gap, xa_off, eq_false c49, eq_false c61, not_true_eq_false, not_false_eq_true, and_true, true_and, and_false, false_and, or_true, true_or, or_false, false_or, and_self, or_self, Decidable.not_not, if_true, if_false, reduceIte, reduceCtorEq, ne_eq, eq_self, Int32.lt_irrefl, Int32.le_refl, Nat.lt_irrefl]) rfl
  · have c49 : (xa_isl N (n 1) (ze_ix (N (3 * i + 20)))) = (xa_isl N (n 1) (ze_ix (N (3 * i + 21)))) := (nI_eq (a := (xa_isl N (n 1) (ze_ix (N (3 * i + 20))))) (b := (xa_isl N (n 1) (ze_ix (N (3 * i + 21))))) (by omega) (by omega)).mp c49
    refine lv_iconst (v := 0) hX_ hB_ dL_gap_52 (by decide) ?_
    refine lv_goto (tgt := 75) hX_ hB_ dL_gap_53 (by decide) ?_
    exact ze_iret S hr hlocks hF hK hW rfl dL_gap_75 (Nat.le_of_ble_eq_true rfl) (Nat.le_of_ble_eq_true rfl) (by simp only [ze_b, xa_gap, xa_off, eq_true c49, not_true_eq_false, not_false_eq_true, and_true, true_and, and_false, false_and, or_true, true_or, or_false, false_or, and_self, or_self, Decidable.not_not, if_true, if_false, reduceIte, reduceCtorEq, ne_eq, eq_self, Int32.lt_irrefl, Int32.le_refl, Nat.lt_irrefl]) rfl
set_option maxHeartbeats 8000000 in
set_option maxRecDepth 100000 in
theorem xl_size (l : Launch) (D : va_G) (c : Nat → ClassId) (q : Nat) (n : Nat → Nat) (N : Nat → Int32) (hH : xa_H n N)  : ze_I l yL_size wsL_size 1 25 0 0 D c ([(q, .inl (c 0, 210, .inl N))] : va_W) [.ref q] (xa_size N (n 1) (n 0)) ([(q, .inl (c 0, 210, .inl N))] : va_W) := by
  intro sz
  refine ze_start (cc := cL_size) (maxL := 3) (ret := (some .int)) (own := RL) (by decide) rfl rfl (Nat.le_of_ble_eq_true rfl) ?_
  obtain ⟨⟨hn0, hn1, hn2, hn3, hn4⟩, -⟩ := id hH
  intro p e s m_ below meth cd F ls hF hsz E0
  obtain ⟨S, hr, hlocks, hK, hW, hA, hl⟩ := E0
  have hX_ := S.1
  have hB_ := S.2.1
  have hts := S.2.2.2.2
  have hl : lv_has ls 3 [(0, .ref q)] := hl
  refine lv_iconst (v := 0) hX_ hB_ dL_size_0 (by decide) ?_
  refine lv_istore_n (lv' := [(1, .int 0), (0, .ref q)]) hX_ hB_ dL_size_1 rfl hl (by decide) rfl (fun ls hl => ?_)
  refine lv_iconst (v := 0) hX_ hB_ dL_size_2 (by decide) ?_
  refine lv_istore_n (lv' := [(2, .int 0), (1, .int 0), (0, .ref q)]) hX_ hB_ dL_size_3 rfl hl (by decide) rfl (fun ls hl => ?_)
  have L4 : ∀ (k4 : Nat) (i4 : Nat), (i4 ≤ n 0) → (n 0 - i4) < k4 → ∀ (H : Heap) (locs : List Loc) (ls : Array Slot), ze_W D ([(q, .inl (c 0, 210, .inl N))] : va_W) F s.heap H locs → lv_has ls 3 [(2, .int (nI i4)), (1, .int (xa_size N (n 1) i4)), (0, .ref q)] → W p l e { frames := 1, cells := 0, slots := 0, locals := 25 } s m_ ([.ref q] : List Value).toArray below meth cd H locs 0 0 (MQ below (ze_Qi D c ([(q, .inl (c 0, 210, .inl N))] : va_W) sz (xa_size N (n 1) (n 0)) ([(q, .inl (c 0, 210, .inl N))] : va_W)) ([.ref q] : List Value).toArray s 0 0 F) (F0 m_ 4 ls []) := by
    intro k4
    induction k4 with
    | zero =>
      intro i4 h4 hk4
      exact absurd hk4 (Nat.not_lt_zero _)
    | succ k4 ih4 =>
      intro i4 h4 hk4 H locs ls hW hl
      refine lv_iload_n hX_ hB_ dL_size_4 rfl (lv_at hl 0 rfl) ?_
      refine lv_aload_n hX_ hB_ dL_size_5 rfl (lv_at hl 2 rfl) ?_
      refine lv_iconst (v := 0) hX_ hB_ dL_size_6 (by decide) ?_
      refine ze_ialdN hX_ hB_ hK hW 0 (f := N) rfl (i := 0) (by omega) (by decide) dL_size_7 ?_
      refine ze_top (y := nI (n 0)) hH.2.1.1 ?_
      refine lv_icmp_ge (tgt := 33) hX_ hB_ dL_size_8 (by decide) (fun c8 => ?_) (fun c8 => ?_)
      · have c8 : ¬ i4 < (n 0) := Nat.not_lt.mpr ((nI_leI (a := (n 0)) (b := i4) (by omega) (by omega)).mp c8)
        have e4 : i4 = n 0 := by omega
        subst e4
        refine lv_iload_n hX_ hB_ dL_size_33 rfl (lv_at hl 1 rfl) ?_
        exact ze_iret S hr hlocks hF hK hW rfl dL_size_34 (Nat.le_of_ble_eq_true rfl) (Nat.le_of_ble_eq_true rfl) rfl rfl
      · have c8 : i4 < (n 0) := Nat.lt_of_not_le (fun h9 => c8 ((nI_leI (a := (n 0)) (b := i4) (by omega) (by omega)).mpr h9))
        refine lv_iload_n hX_ hB_ dL_size_11 rfl (lv_at hl 1 rfl) ?_
        refine lv_aload_n hX_ hB_ dL_size_12 rfl (lv_at hl 2 rfl) ?_
        refine lv_iload_n hX_ hB_ dL_size_13 rfl (lv_at hl 0 rfl) ?_
        have hW := ze_W0 hW
        refine ze_FSi (As := [.ref q, .int (nI i4)]) (rest := [.int (xa_size N (n 1) i4)]) S (xl_island l D c q n N hH i4 (by omega)) (va_cwS 2 hts gL_size_L_island rfl rfl rfl (by decide +kernel) ⟨(Nat.le_of_ble_eq_true rfl), (Nat.le_of_ble_eq_true rfl)⟩) hK hW hA rfl hl.1 rfl (lv_room (Nat.le_of_ble_eq_true rfl)) dL_size_14 ⟨(Nat.le_of_ble_eq_true rfl), (Nat.le_of_ble_eq_true rfl)⟩ (fun H locs hW => ?_)
        have hi14 := xa_islt hH (s := i4) (by omega)
        have hW := ze_W0' hW
        have hW : ze_W D ([(q, .inl (c 0, 210, .inl N))] : va_W) F s.heap _ _ := hW
        refine lv_if_ne (tgt := 24) hX_ hB_ dL_size_17 (by decide) (fun c17 => ?_) (fun c17 => ?_)
        · have c17 : ¬ (xa_isl N (n 1) i4) = 0 := fun h9 => c17 ((nI_eq (a := (xa_isl N (n 1) i4)) (b := 0) (by omega) (by omega)).mpr h9)
          refine lv_iconst (v := 0) hX_ hB_ dL_size_24 (by decide) ?_
          refine lv_iadd hX_ hB_ dL_size_25 ?_
          refine lv_istore_n (lv' := [(1, .int (xa_size N (n 1) i4 + 0)), (2, .int (nI i4)), (0, .ref q)]) hX_ hB_ dL_size_26 rfl hl (by decide) rfl (fun ls hl => ?_)
          refine lv_iinc (v := nI (i4 + 1)) (lv' := [(2, .int (nI (i4 + 1))), (1, .int (xa_size N (n 1) i4 + 0)), (0, .ref q)]) hX_ hB_ dL_size_27 hl (k := 1) rfl (ze_inc _) (by decide) rfl (fun ls hl => ?_)
          refine lv_goto (tgt := 4) hX_ hB_ dL_size_30 (by decide) ?_
          have eL1 : xa_size N (n 1) i4 + 0 = xa_size N (n 1) (i4 + 1) := (by simp only [ze_b, xa_size, ze_sum, eq_true c8, eq_false c17, not_true_eq_false, not_false_eq_true, and_true, true_and, and_false, false_and, or_true, true_or, or_false, false_or, and_self, or_self, Decidable.not_not, if_true, if_false, reduceIte, reduceCtorEq, ne_eq, eq_self, Int32.lt_irrefl, Int32.le_refl, Nat.lt_irrefl])
          have hl : lv_has ls 3 [(2, .int (nI (i4 + 1))), (1, .int (xa_size N (n 1) (i4 + 1))), (0, .ref q)] := by
            first | (rw [← eL1]; exact hl) | (simp only [← eL1]; exact hl)
          exact ih4 (i4 + 1) (by omega) (by omega) _ _ ls hW (lv_sub hl [0, 1, 2] rfl)
        · have c17 : (xa_isl N (n 1) i4) = 0 := (nI_eq (a := (xa_isl N (n 1) i4)) (b := 0) (by omega) (by omega)).mp c17
          refine lv_iconst (v := 1) hX_ hB_ dL_size_20 (by decide) ?_
          refine lv_goto (tgt := 25) hX_ hB_ dL_size_21 (by decide) ?_
          refine lv_iadd hX_ hB_ dL_size_25 ?_
          refine lv_istore_n (lv' := [(1, .int (xa_size N (n 1) i4 + 1)), (2, .int (nI i4)), (0, .ref q)]) hX_ hB_ dL_size_26 rfl hl (by decide) rfl (fun ls hl => ?_)
          refine lv_iinc (v := nI (i4 + 1)) (lv' := [(2, .int (nI (i4 + 1))), (1, .int (xa_size N (n 1) i4 + 1)), (0, .ref q)]) hX_ hB_ dL_size_27 hl (k := 1) rfl (ze_inc _) (by decide) rfl (fun ls hl => ?_)
          refine lv_goto (tgt := 4) hX_ hB_ dL_size_30 (by decide) ?_
          have eL1 : xa_size N (n 1) i4 + 1 = xa_size N (n 1) (i4 + 1) := (by simp only [ze_b, xa_size, ze_sum, eq_true c8, eq_true c17, not_true_eq_false, not_false_eq_true, and_true, true_and, and_false, false_and, or_true, true_or, or_false, false_or, and_self, or_self, Decidable.not_not, if_true, if_false, reduceIte, reduceCtorEq, ne_eq, eq_self, Int32.lt_irrefl, Int32.le_refl, Nat.lt_irrefl])
          have hl : lv_has ls 3 [(2, .int (nI (i4 + 1))), (1, .int (xa_size N (n 1) (i4 + 1))), (0, .ref q)] := by
            first | (rw [← eL1]; exact hl) | (simp only [← eL1]; exact hl)
          exact ih4 (i4 + 1) (by omega) (by omega) _ _ ls hW (lv_sub hl [0, 1, 2] rfl)
  have hl : lv_has ls 3 [(2, .int (nI 0)), (1, .int (xa_size N (n 1) 0)), (0, .ref q)] := hl
  have hW : ze_W D ([(q, .inl (c 0, 210, .inl N))] : va_W) F s.heap _ _ := hW
  exact L4 _ 0 (by omega) (Nat.lt_succ_self _) _ _ ls hW (lv_sub hl [0, 1, 2] rfl)
set_option maxHeartbeats 8000000 in
set_option maxRecDepth 100000 in
theorem xl_can (l : Launch) (D : va_G) (c : Nat → ClassId) (q : Nat) (n : Nat → Nat) (N : Nat → Int32) (hH : xa_H n N) (g m : Nat) (hg : g < n 2) (hm : m < 6) : ze_I l yL_can wsL_can 1 25 0 0 D c ([(q, .inl (c 0, 210, .inl N))] : va_W) [.ref q, .int (nI g), .int (nI m)] (xa_can N (n 1) m g) ([(q, .inl (c 0, 210, .inl N))] : va_W) := by
  intro sz
  refine ze_start (cc := cL_can) (maxL := 4) (ret := (some .int)) (own := RL) (by decide) rfl rfl (Nat.le_of_ble_eq_true rfl) ?_
  obtain ⟨⟨hn0, hn1, hn2, hn3, hn4⟩, -⟩ := id hH
  intro p e s m_ below meth cd F ls hF hsz E0
  obtain ⟨S, hr, hlocks, hK, hW, hA, hl⟩ := E0
  have hX_ := S.1
  have hB_ := S.2.1
  have hts := S.2.2.2.2
  have hl : lv_has ls 4 [(0, .ref q), (1, .int (nI g)), (2, .int (nI m))] := hl
  have w0 := hts (.methodLink RL 199 Lib.Math.min.name) (List.mem_cons_of_mem _ (List.mem_of_getElem? (i := 0) rfl))
  have w1 := hts (.static Lib.Math.min.name) (List.mem_cons_of_mem _ (List.mem_of_getElem? (i := 1) rfl))
  have w2 := hts (.initialized "java/lang/Math") (List.mem_cons_of_mem _ (List.mem_of_getElem? (i := 2) rfl))
  have w3 := hts (.code Lib.Math.min.name Lib.Math.min.code 2 (some .int)) (List.mem_cons_of_mem _ (List.mem_of_getElem? (i := 3) rfl))
  refine lv_bipush (v := 50) hX_ hB_ dL_can_0 (by decide) ?_
  refine lv_bipush (v := 9) hX_ hB_ dL_can_2 (by decide) ?_
  refine lv_iload_n hX_ hB_ dL_can_4 rfl (lv_at hl 1 rfl) ?_
  refine lv_imul hX_ hB_ dL_can_5 ?_
  refine ze_top (xb_mul (a := 9) (b := g) (c := 9 * g) (by omega)) ?_
  refine lv_iadd hX_ hB_ dL_can_6 ?_
  refine ze_top (xb_add (a := 50) (b := 9 * g) (c := 9 * g + 50) (by omega)) ?_
  refine lv_istore_n (lv' := [(3, .int (nI (9 * g + 50))), (0, .ref q), (1, .int (nI g)), (2, .int (nI m))]) hX_ hB_ dL_can_7 rfl hl (by decide) rfl (fun ls hl => ?_)
  refine lv_aload_n hX_ hB_ dL_can_8 rfl (lv_at hl 1 rfl) ?_
  refine lv_iload_n hX_ hB_ dL_can_9 rfl (lv_at hl 0 rfl) ?_
  refine lv_iconst (v := 5) hX_ hB_ dL_can_10 (by decide) ?_
  refine lv_iadd hX_ hB_ dL_can_11 ?_
  refine ze_top (xb_add (a := 9 * g + 50) (b := 5) (c := 9 * g + 55) (by omega)) ?_
  refine ze_ialdN hX_ hB_ hK hW 0 (f := N) rfl (i := 9 * g + 55) (by omega) (by decide) dL_can_12 ?_
  refine lv_iconst (v := 2) hX_ hB_ dL_can_13 (by decide) ?_
  refine lv_icmp_ne (tgt := 44) hX_ hB_ dL_can_14 (by decide) (fun c14 => ?_) (fun c14 => ?_)
  · refine lv_iconst (v := 0) hX_ hB_ dL_can_44 (by decide) ?_
    exact ze_iret S hr hlocks hF hK hW rfl dL_can_45 (Nat.le_of_ble_eq_true rfl) (Nat.le_of_ble_eq_true rfl) (by simp only [ze_b, xa_can, xa_rn, eq_false c14, not_true_eq_false, not_false_eq_true, and_true, true_and, and_false, false_and, or_true, true_or, or_false, false_or, and_self, or_self, Decidable.not_not, if_true, if_false, reduceIte, reduceCtorEq, ne_eq, eq_self, Int32.lt_irrefl, Int32.le_refl, Nat.lt_irrefl]) rfl
  · refine lv_aload_n hX_ hB_ dL_can_17 rfl (lv_at hl 1 rfl) ?_
    refine lv_aload_n hX_ hB_ dL_can_18 rfl (lv_at hl 1 rfl) ?_
    refine lv_iload_n hX_ hB_ dL_can_19 rfl (lv_at hl 0 rfl) ?_
    refine ze_ialdN hX_ hB_ hK hW 0 (f := N) rfl (i := 9 * g + 50) (by omega) (by decide) dL_can_20 ?_
    refine ze_top (y := nI (ze_ix (N (9 * g + 50)))) (hH.2.2.2.1 g (by omega)).1 ?_
    have hW := ze_W0 hW
    refine ze_FSi (As := [.ref q, .int (nI (ze_ix (N (9 * g + 50))))]) (rest := []) S (xl_island l D c q n N hH (ze_ix (N (9 * g + 50))) (hH.2.2.2.1 g (by omega)).2) (va_cwS 2 hts gL_can_L_island rfl rfl rfl (by decide +kernel) ⟨(Nat.le_of_ble_eq_true rfl), (Nat.le_of_ble_eq_true rfl)⟩) hK hW hA rfl hl.1 rfl (lv_room (Nat.le_of_ble_eq_true rfl)) dL_can_21 ⟨(Nat.le_of_ble_eq_true rfl), (Nat.le_of_ble_eq_true rfl)⟩ (fun H locs hW => ?_)
    have hi21 := xa_islt hH (s := (ze_ix (N (9 * g + 50)))) (hH.2.2.2.1 g (by omega)).2
    have hW := ze_W0' hW
    have hW : ze_W D ([(q, .inl (c 0, 210, .inl N))] : va_W) F s.heap _ _ := hW
    refine lv_iload_n hX_ hB_ dL_can_24 rfl (lv_at hl 3 rfl) ?_
    refine lv_icmp_ne (tgt := 44) hX_ hB_ dL_can_25 (by decide) (fun c25 => ?_) (fun c25 => ?_)
    · have c25 : ¬ (xa_isl N (n 1) (ze_ix (N (9 * g + 50)))) = m := fun h9 => c25 ((nI_eq (a := (xa_isl N (n 1) (ze_ix (N (9 * g + 50))))) (b := m) (by omega) (by omega)).mpr h9)
      refine lv_iconst (v := 0) hX_ hB_ dL_can_44 (by decide) ?_
      exact ze_iret S hr hlocks hF hK hW rfl dL_can_45 (Nat.le_of_ble_eq_true rfl) (Nat.le_of_ble_eq_true rfl) (by simp only [ze_b, xa_can, xa_rn, eq_true c14, eq_false c25, not_true_eq_false, not_false_eq_true, and_true, true_and, and_false, false_and, or_true, true_or, or_false, false_or, and_self, or_self, Decidable.not_not, if_true, if_false, reduceIte, reduceCtorEq, ne_eq, eq_self, Int32.lt_irrefl, Int32.le_refl, Nat.lt_irrefl]) rfl
    · have c25 : (xa_isl N (n 1) (ze_ix (N (9 * g + 50)))) = m := (nI_eq (a := (xa_isl N (n 1) (ze_ix (N (9 * g + 50))))) (b := m) (by omega) (by omega)).mp c25
      refine lv_aload_n hX_ hB_ dL_can_28 rfl (lv_at hl 1 rfl) ?_
      refine lv_iload_n hX_ hB_ dL_can_29 rfl (lv_at hl 0 rfl) ?_
      refine lv_iconst (v := 2) hX_ hB_ dL_can_30 (by decide) ?_
      refine lv_iadd hX_ hB_ dL_can_31 ?_
      refine ze_top (xb_add (a := 9 * g + 50) (b := 2) (c := 9 * g + 52) (by omega)) ?_
      refine ze_ialdN hX_ hB_ hK hW 0 (f := N) rfl (i := 9 * g + 52) (by omega) (by decide) dL_can_32 ?_
      refine lv_aload_n hX_ hB_ dL_can_33 rfl (lv_at hl 1 rfl) ?_
      refine lv_iload_n hX_ hB_ dL_can_34 rfl (lv_at hl 0 rfl) ?_
      refine lv_iconst (v := 4) hX_ hB_ dL_can_35 (by decide) ?_
      refine lv_iadd hX_ hB_ dL_can_36 ?_
      refine ze_top (xb_add (a := 9 * g + 50) (b := 4) (c := 9 * g + 54) (by omega)) ?_
      refine ze_ialdN hX_ hB_ hK hW 0 (f := N) rfl (i := 9 * g + 54) (by omega) (by decide) dL_can_37 ?_
      refine ze_min S hl.1 w0 w1 w2 w3 ⟨Nat.le_of_ble_eq_true rfl, Nat.le_of_ble_eq_true rfl, Nat.le_of_ble_eq_true rfl, Nat.le_of_ble_eq_true rfl⟩ dL_can_38 ?_
      refine lv_goto (tgt := 45) hX_ hB_ dL_can_41 (by decide) ?_
      exact ze_iret S hr hlocks hF hK hW rfl dL_can_45 (Nat.le_of_ble_eq_true rfl) (Nat.le_of_ble_eq_true rfl) (by simp only [ze_b, xa_can, xa_rn, eq_true c14, eq_true c25, not_true_eq_false, not_false_eq_true, and_true, true_and, and_false, false_and, or_true, true_or, or_false, false_or, and_self, or_self, Decidable.not_not, if_true, if_false, reduceIte, reduceCtorEq, ne_eq, eq_self, Int32.lt_irrefl, Int32.le_refl, Nat.lt_irrefl]) rfl
set_option maxHeartbeats 8000000 in
set_option maxRecDepth 100000 in
theorem xl_bound_ (l : Launch) (D : va_G) (c : Nat → ClassId) (q : Nat) (n : Nat → Nat) (N : Nat → Int32) (hH : xa_H n N) (m : Nat) (hm : m < 6) : ze_I l yL_bound_ wsL_bound_ 2 48 0 0 D c ([(q, .inl (c 0, 210, .inl N))] : va_W) [.ref q, .int (nI m)] (xa_bnd n N m) ([(q, .inl (c 0, 210, .inl N))] : va_W) := by
  intro sz
  refine ze_start (cc := cL_bound_) (maxL := 4) (ret := (some .int)) (own := RL) (by decide) rfl rfl (Nat.le_of_ble_eq_true rfl) ?_
  obtain ⟨⟨hn0, hn1, hn2, hn3, hn4⟩, -⟩ := id hH
  intro p e s m_ below meth cd F ls hF hsz E0
  obtain ⟨S, hr, hlocks, hK, hW, hA, hl⟩ := E0
  have hX_ := S.1
  have hB_ := S.2.1
  have hts := S.2.2.2.2
  have hl : lv_has ls 4 [(0, .ref q), (1, .int (nI m))] := hl
  have w0 := hts (.methodLink RL 140 Lib.Math.max.name) (List.mem_cons_of_mem _ (List.mem_of_getElem? (i := 5) rfl))
  have w1 := hts (.static Lib.Math.max.name) (List.mem_cons_of_mem _ (List.mem_of_getElem? (i := 6) rfl))
  have w2 := hts (.initialized "java/lang/Math") (List.mem_cons_of_mem _ (List.mem_of_getElem? (i := 2) rfl))
  have w3 := hts (.code Lib.Math.max.name Lib.Math.max.code 2 (some .int)) (List.mem_cons_of_mem _ (List.mem_of_getElem? (i := 7) rfl))
  have w4 := hts (.constant RL 205 (1000000)) (List.mem_cons_of_mem _ (List.mem_of_getElem? (i := 4) rfl))
  have w5 := hts (.methodLink RL 199 Lib.Math.min.name) (List.mem_cons_of_mem _ (List.mem_of_getElem? (i := 0) rfl))
  have w6 := hts (.static Lib.Math.min.name) (List.mem_cons_of_mem _ (List.mem_of_getElem? (i := 1) rfl))
  have w7 := hts (.code Lib.Math.min.name Lib.Math.min.code 2 (some .int)) (List.mem_cons_of_mem _ (List.mem_of_getElem? (i := 3) rfl))
  refine lv_aload_n hX_ hB_ dL_bound__0 rfl (lv_at hl 0 rfl) ?_
  refine lv_iconst (v := 5) hX_ hB_ dL_bound__1 (by decide) ?_
  refine ze_ialdN hX_ hB_ hK hW 0 (f := N) rfl (i := 5) (by omega) (by decide) dL_bound__2 ?_
  refine lv_ineg hX_ hB_ dL_bound__3 ?_
  refine lv_istore_n (lv' := [(2, .int (-(N 5))), (0, .ref q), (1, .int (nI m))]) hX_ hB_ dL_bound__4 rfl hl (by decide) rfl (fun ls hl => ?_)
  refine lv_iconst (v := 0) hX_ hB_ dL_bound__5 (by decide) ?_
  refine lv_istore_n (lv' := [(3, .int 0), (2, .int (-(N 5))), (0, .ref q), (1, .int (nI m))]) hX_ hB_ dL_bound__6 rfl hl (by decide) rfl (fun ls hl => ?_)
  have L7 : ∀ (k7 : Nat) (i7 : Nat), (i7 ≤ n 2) → (n 2 - i7) < k7 → ∀ (H : Heap) (locs : List Loc) (ls : Array Slot), ze_W D ([(q, .inl (c 0, 210, .inl N))] : va_W) F s.heap H locs → lv_has ls 4 [(3, .int (nI i7)), (2, .int (xa_bg N (n 1) m i7)), (0, .ref q), (1, .int (nI m))] → W p l e { frames := 2, cells := 0, slots := 0, locals := 48 } s m_ ([.ref q, .int (nI m)] : List Value).toArray below meth cd H locs 0 0 (MQ below (ze_Qi D c ([(q, .inl (c 0, 210, .inl N))] : va_W) sz (xa_bnd n N m) ([(q, .inl (c 0, 210, .inl N))] : va_W)) ([.ref q, .int (nI m)] : List Value).toArray s 0 0 F) (F0 m_ 7 ls []) := by
    intro k7
    induction k7 with
    | zero =>
      intro i7 h7 hk7
      exact absurd hk7 (Nat.not_lt_zero _)
    | succ k7 ih7 =>
      intro i7 h7 hk7 H locs ls hW hl
      refine lv_iload_n hX_ hB_ dL_bound__7 rfl (lv_at hl 0 rfl) ?_
      refine lv_aload_n hX_ hB_ dL_bound__8 rfl (lv_at hl 2 rfl) ?_
      refine lv_iconst (v := 2) hX_ hB_ dL_bound__9 (by decide) ?_
      refine ze_ialdN hX_ hB_ hK hW 0 (f := N) rfl (i := 2) (by omega) (by decide) dL_bound__10 ?_
      refine ze_top (y := nI (n 2)) hH.2.1.2.2.1 ?_
      refine lv_icmp_ge (tgt := 29) hX_ hB_ dL_bound__11 (by decide) (fun c11 => ?_) (fun c11 => ?_)
      · have c11 : ¬ i7 < (n 2) := Nat.not_lt.mpr ((nI_leI (a := (n 2)) (b := i7) (by omega) (by omega)).mp c11)
        have e7 : i7 = n 2 := by omega
        subst e7
        refine lv_iconst (v := 0) hX_ hB_ dL_bound__29 (by decide) ?_
        refine lv_istore_n (lv' := [(3, .int 0), (2, .int (xa_bg N (n 1) m (n 2))), (0, .ref q), (1, .int (nI m))]) hX_ hB_ dL_bound__30 rfl hl (by decide) rfl (fun ls hl => ?_)
        have L31 : ∀ (k31 : Nat) (i31 : Nat), (i31 ≤ n 3) → (n 3 - i31) < k31 → ∀ (H : Heap) (locs : List Loc) (ls : Array Slot), ze_W D ([(q, .inl (c 0, 210, .inl N))] : va_W) F s.heap H locs → lv_has ls 4 [(3, .int (nI i31)), (2, .int (xa_bt N (n 1) m (xa_bg N (n 1) m (n 2)) i31)), (0, .ref q), (1, .int (nI m))] → W p l e { frames := 2, cells := 0, slots := 0, locals := 48 } s m_ ([.ref q, .int (nI m)] : List Value).toArray below meth cd H locs 0 0 (MQ below (ze_Qi D c ([(q, .inl (c 0, 210, .inl N))] : va_W) sz (xa_bnd n N m) ([(q, .inl (c 0, 210, .inl N))] : va_W)) ([.ref q, .int (nI m)] : List Value).toArray s 0 0 F) (F0 m_ 31 ls []) := by
          intro k31
          induction k31 with
          | zero =>
            intro i31 h31 hk31
            exact absurd hk31 (Nat.not_lt_zero _)
          | succ k31 ih31 =>
            intro i31 h31 hk31 H locs ls hW hl
            refine lv_iload_n hX_ hB_ dL_bound__31 rfl (lv_at hl 0 rfl) ?_
            refine lv_aload_n hX_ hB_ dL_bound__32 rfl (lv_at hl 2 rfl) ?_
            refine lv_iconst (v := 3) hX_ hB_ dL_bound__33 (by decide) ?_
            refine ze_ialdN hX_ hB_ hK hW 0 (f := N) rfl (i := 3) (by omega) (by decide) dL_bound__34 ?_
            refine ze_top (y := nI (n 3)) hH.2.1.2.2.2.1 ?_
            refine lv_icmp_ge (tgt := 89) hX_ hB_ dL_bound__35 (by decide) (fun c35 => ?_) (fun c35 => ?_)
            · have c35 : ¬ i31 < (n 3) := Nat.not_lt.mpr ((nI_leI (a := (n 3)) (b := i31) (by omega) (by omega)).mp c35)
              have e31 : i31 = n 3 := by omega
              subst e31
              refine lv_iload_n hX_ hB_ dL_bound__89 rfl (lv_at hl 3 rfl) ?_
              refine lv_if_ne (tgt := 106) hX_ hB_ dL_bound__90 (by decide) (fun c90 => ?_) (fun c90 => ?_)
              · have c90 : ¬ m = 0 := fun h9 => c90 ((nI_eq (a := m) (b := 0) (by omega) (by omega)).mpr h9)
                refine lv_iconst (v := 0) hX_ hB_ dL_bound__106 (by decide) ?_
                refine lv_iload_n hX_ hB_ dL_bound__107 rfl (lv_at hl 1 rfl) ?_
                refine ze_max S hl.1 w0 w1 w2 w3 ⟨Nat.le_of_ble_eq_true rfl, Nat.le_of_ble_eq_true rfl, Nat.le_of_ble_eq_true rfl, Nat.le_of_ble_eq_true rfl⟩ dL_bound__108 ?_
                exact ze_iret S hr hlocks hF hK hW rfl dL_bound__111 (Nat.le_of_ble_eq_true rfl) (Nat.le_of_ble_eq_true rfl) (by simp only [ze_b, xa_bnd, eq_false c11, eq_false c35, eq_false c90, not_true_eq_false, not_false_eq_true, and_true, true_and, and_false, false_and, or_true, true_or, or_false, false_or, and_self, or_self, Decidable.not_not, if_true, if_false, reduceIte, reduceCtorEq, ne_eq, eq_self, Int32.lt_irrefl, Int32.le_refl, Nat.lt_irrefl]) rfl
              · have c90 : m = 0 := (nI_eq (a := m) (b := 0) (by omega) (by omega)).mp c90
                refine lv_aload_n hX_ hB_ dL_bound__93 rfl (lv_at hl 2 rfl) ?_
                refine lv_bipush (v := 8) hX_ hB_ dL_bound__94 (by decide) ?_
                refine ze_ialdN hX_ hB_ hK hW 0 (f := N) rfl (i := 8) (by omega) (by decide) dL_bound__96 ?_
                refine lv_iconst (v := 1) hX_ hB_ dL_bound__97 (by decide) ?_
                refine lv_icmp_ne (tgt := 106) hX_ hB_ dL_bound__98 (by decide) (fun c98 => ?_) (fun c98 => ?_)
                · refine lv_iconst (v := 0) hX_ hB_ dL_bound__106 (by decide) ?_
                  refine lv_iload_n hX_ hB_ dL_bound__107 rfl (lv_at hl 1 rfl) ?_
                  refine ze_max S hl.1 w0 w1 w2 w3 ⟨Nat.le_of_ble_eq_true rfl, Nat.le_of_ble_eq_true rfl, Nat.le_of_ble_eq_true rfl, Nat.le_of_ble_eq_true rfl⟩ dL_bound__108 ?_
                  exact ze_iret S hr hlocks hF hK hW rfl dL_bound__111 (Nat.le_of_ble_eq_true rfl) (Nat.le_of_ble_eq_true rfl) (by simp only [ze_b, xa_bnd, eq_false c11, eq_false c35, eq_true c90, eq_false c98, not_true_eq_false, not_false_eq_true, and_true, true_and, and_false, false_and, or_true, true_or, or_false, false_or, and_self, or_self, Decidable.not_not, if_true, if_false, reduceIte, reduceCtorEq, ne_eq, eq_self, Int32.lt_irrefl, Int32.le_refl, Nat.lt_irrefl]) rfl
                · refine lv_ldc (own := RL) (v := 1000000) hX_ hB_ S.2.2.2.1 w4 dL_bound__101 ?_
                  refine lv_goto (tgt := 111) hX_ hB_ dL_bound__103 (by decide) ?_
                  exact ze_iret S hr hlocks hF hK hW rfl dL_bound__111 (Nat.le_of_ble_eq_true rfl) (Nat.le_of_ble_eq_true rfl) (by simp only [ze_b, xa_bnd, eq_false c11, eq_false c35, eq_true c90, eq_true c98, not_true_eq_false, not_false_eq_true, and_true, true_and, and_false, false_and, or_true, true_or, or_false, false_or, and_self, or_self, Decidable.not_not, if_true, if_false, reduceIte, reduceCtorEq, ne_eq, eq_self, Int32.lt_irrefl, Int32.le_refl, Nat.lt_irrefl]) rfl
            · have c35 : i31 < (n 3) := Nat.lt_of_not_le (fun h9 => c35 ((nI_leI (a := (n 3)) (b := i31) (by omega) (by omega)).mpr h9))
              refine lv_iload_n hX_ hB_ dL_bound__38 rfl (lv_at hl 1 rfl) ?_
              refine lv_aload_n hX_ hB_ dL_bound__39 rfl (lv_at hl 2 rfl) ?_
              refine lv_aload_n hX_ hB_ dL_bound__40 rfl (lv_at hl 2 rfl) ?_
              refine lv_bipush (v := 110) hX_ hB_ dL_bound__41 (by decide) ?_
              refine lv_bipush (v := 6) hX_ hB_ dL_bound__43 (by decide) ?_
              refine lv_iload_n hX_ hB_ dL_bound__45 rfl (lv_at hl 0 rfl) ?_
              refine lv_imul hX_ hB_ dL_bound__46 ?_
              refine ze_top (xb_mul (a := 6) (b := i31) (c := 6 * i31) (by omega)) ?_
              refine lv_iadd hX_ hB_ dL_bound__47 ?_
              refine ze_top (xb_add (a := 110) (b := 6 * i31) (c := 6 * i31 + 110) (by omega)) ?_
              refine ze_ialdN hX_ hB_ hK hW 0 (f := N) rfl (i := 6 * i31 + 110) (by omega) (by decide) dL_bound__48 ?_
              refine ze_top (y := nI (ze_ix (N (6 * i31 + 110)))) (hH.2.2.2.2.1 i31 (by omega)).1 ?_
              have hW := ze_W0 hW
              refine ze_FSi (As := [.ref q, .int (nI (ze_ix (N (6 * i31 + 110))))]) (rest := [.int (xa_bt N (n 1) m (xa_bg N (n 1) m (n 2)) i31)]) S (xl_island l D c q n N hH (ze_ix (N (6 * i31 + 110))) (hH.2.2.2.2.1 i31 (by omega)).2) (va_cwS 2 hts gL_bound__L_island rfl rfl rfl (by decide +kernel) ⟨(Nat.le_of_ble_eq_true rfl), (Nat.le_of_ble_eq_true rfl)⟩) hK hW hA rfl hl.1 rfl (lv_room (Nat.le_of_ble_eq_true rfl)) dL_bound__49 ⟨(Nat.le_of_ble_eq_true rfl), (Nat.le_of_ble_eq_true rfl)⟩ (fun H locs hW => ?_)
              have hi49 := xa_islt hH (s := (ze_ix (N (6 * i31 + 110)))) (hH.2.2.2.2.1 i31 (by omega)).2
              have hW := ze_W0' hW
              have hW : ze_W D ([(q, .inl (c 0, 210, .inl N))] : va_W) F s.heap _ _ := hW
              refine lv_iload_n hX_ hB_ dL_bound__52 rfl (lv_at hl 3 rfl) ?_
              refine lv_icmp_ne (tgt := 80) hX_ hB_ dL_bound__53 (by decide) (fun c53 => ?_) (fun c53 => ?_)
              · have c53 : ¬ (xa_isl N (n 1) (ze_ix (N (6 * i31 + 110)))) = m := fun h9 => c53 ((nI_eq (a := (xa_isl N (n 1) (ze_ix (N (6 * i31 + 110))))) (b := m) (by omega) (by omega)).mpr h9)
                refine lv_iconst (v := 0) hX_ hB_ dL_bound__80 (by decide) ?_
                refine lv_iadd hX_ hB_ dL_bound__81 ?_
                refine lv_istore_n (lv' := [(2, .int (xa_bt N (n 1) m (xa_bg N (n 1) m (n 2)) i31 + 0)), (3, .int (nI i31)), (0, .ref q), (1, .int (nI m))]) hX_ hB_ dL_bound__82 rfl hl (by decide) rfl (fun ls hl => ?_)
                refine lv_iinc (v := nI (i31 + 1)) (lv' := [(3, .int (nI (i31 + 1))), (2, .int (xa_bt N (n 1) m (xa_bg N (n 1) m (n 2)) i31 + 0)), (0, .ref q), (1, .int (nI m))]) hX_ hB_ dL_bound__83 hl (k := 1) rfl (ze_inc _) (by decide) rfl (fun ls hl => ?_)
                refine lv_goto (tgt := 31) hX_ hB_ dL_bound__86 (by decide) ?_
                have eL2 : xa_bt N (n 1) m (xa_bg N (n 1) m (n 2)) i31 + 0 = xa_bt N (n 1) m (xa_bg N (n 1) m (n 2)) (i31 + 1) := (by simp only [ze_b, xa_bt, ze_sum, eq_false c11, eq_true c35, eq_false c53, not_true_eq_false, not_false_eq_true, and_true, true_and, and_false, false_and, or_true, true_or, or_false, false_or, and_self, or_self, Decidable.not_not, if_true, if_false, reduceIte, reduceCtorEq, ne_eq, eq_self, Int32.lt_irrefl, Int32.le_refl, Nat.lt_irrefl])
                have hl : lv_has ls 4 [(3, .int (nI (i31 + 1))), (2, .int (xa_bt N (n 1) m (xa_bg N (n 1) m (n 2)) (i31 + 1))), (0, .ref q), (1, .int (nI m))] := by
                  first | (rw [← eL2]; exact hl) | (simp only [← eL2]; exact hl)
                exact ih31 (i31 + 1) (by omega) (by omega) _ _ ls hW (lv_sub hl [0, 1, 2, 3] rfl)
              · have c53 : (xa_isl N (n 1) (ze_ix (N (6 * i31 + 110)))) = m := (nI_eq (a := (xa_isl N (n 1) (ze_ix (N (6 * i31 + 110))))) (b := m) (by omega) (by omega)).mp c53
                refine lv_aload_n hX_ hB_ dL_bound__56 rfl (lv_at hl 2 rfl) ?_
                refine lv_bipush (v := 112) hX_ hB_ dL_bound__57 (by decide) ?_
                refine lv_bipush (v := 6) hX_ hB_ dL_bound__59 (by decide) ?_
                refine lv_iload_n hX_ hB_ dL_bound__61 rfl (lv_at hl 0 rfl) ?_
                refine lv_imul hX_ hB_ dL_bound__62 ?_
                refine ze_top (xb_mul (a := 6) (b := i31) (c := 6 * i31) (by omega)) ?_
                refine lv_iadd hX_ hB_ dL_bound__63 ?_
                refine ze_top (xb_add (a := 112) (b := 6 * i31) (c := 6 * i31 + 112) (by omega)) ?_
                refine ze_ialdN hX_ hB_ hK hW 0 (f := N) rfl (i := 6 * i31 + 112) (by omega) (by decide) dL_bound__64 ?_
                refine lv_aload_n hX_ hB_ dL_bound__65 rfl (lv_at hl 2 rfl) ?_
                refine lv_bipush (v := 113) hX_ hB_ dL_bound__66 (by decide) ?_
                refine lv_bipush (v := 6) hX_ hB_ dL_bound__68 (by decide) ?_
                refine lv_iload_n hX_ hB_ dL_bound__70 rfl (lv_at hl 0 rfl) ?_
                refine lv_imul hX_ hB_ dL_bound__71 ?_
                refine ze_top (xb_mul (a := 6) (b := i31) (c := 6 * i31) (by omega)) ?_
                refine lv_iadd hX_ hB_ dL_bound__72 ?_
                refine ze_top (xb_add (a := 113) (b := 6 * i31) (c := 6 * i31 + 113) (by omega)) ?_
                refine ze_ialdN hX_ hB_ hK hW 0 (f := N) rfl (i := 6 * i31 + 113) (by omega) (by decide) dL_bound__73 ?_
                refine ze_min S hl.1 w5 w6 w2 w7 ⟨Nat.le_of_ble_eq_true rfl, Nat.le_of_ble_eq_true rfl, Nat.le_of_ble_eq_true rfl, Nat.le_of_ble_eq_true rfl⟩ dL_bound__74 ?_
                refine lv_goto (tgt := 81) hX_ hB_ dL_bound__77 (by decide) ?_
                refine lv_iadd hX_ hB_ dL_bound__81 ?_
                refine lv_istore_n (lv' := [(2, .int (xa_bt N (n 1) m (xa_bg N (n 1) m (n 2)) i31 + ze_mn (N (6 * i31 + 112)) (N (6 * i31 + 113)))), (3, .int (nI i31)), (0, .ref q), (1, .int (nI m))]) hX_ hB_ dL_bound__82 rfl hl (by decide) rfl (fun ls hl => ?_)
                refine lv_iinc (v := nI (i31 + 1)) (lv' := [(3, .int (nI (i31 + 1))), (2, .int (xa_bt N (n 1) m (xa_bg N (n 1) m (n 2)) i31 + ze_mn (N (6 * i31 + 112)) (N (6 * i31 + 113)))), (0, .ref q), (1, .int (nI m))]) hX_ hB_ dL_bound__83 hl (k := 1) rfl (ze_inc _) (by decide) rfl (fun ls hl => ?_)
                refine lv_goto (tgt := 31) hX_ hB_ dL_bound__86 (by decide) ?_
                have eL2 : xa_bt N (n 1) m (xa_bg N (n 1) m (n 2)) i31 + ze_mn (N (6 * i31 + 112)) (N (6 * i31 + 113)) = xa_bt N (n 1) m (xa_bg N (n 1) m (n 2)) (i31 + 1) := (by simp only [ze_b, xa_bt, ze_sum, eq_false c11, eq_true c35, eq_true c53, not_true_eq_false, not_false_eq_true, and_true, true_and, and_false, false_and, or_true, true_or, or_false, false_or, and_self, or_self, Decidable.not_not, if_true, if_false, reduceIte, reduceCtorEq, ne_eq, eq_self, Int32.lt_irrefl, Int32.le_refl, Nat.lt_irrefl])
                have hl : lv_has ls 4 [(3, .int (nI (i31 + 1))), (2, .int (xa_bt N (n 1) m (xa_bg N (n 1) m (n 2)) (i31 + 1))), (0, .ref q), (1, .int (nI m))] := by
                  first | (rw [← eL2]; exact hl) | (simp only [← eL2]; exact hl)
                exact ih31 (i31 + 1) (by omega) (by omega) _ _ ls hW (lv_sub hl [0, 1, 2, 3] rfl)
        have hl : lv_has ls 4 [(3, .int (nI 0)), (2, .int (xa_bt N (n 1) m (xa_bg N (n 1) m (n 2)) 0)), (0, .ref q), (1, .int (nI m))] := hl
        have hW : ze_W D ([(q, .inl (c 0, 210, .inl N))] : va_W) F s.heap _ _ := hW
        exact L31 _ 0 (by omega) (Nat.lt_succ_self _) _ _ ls hW (lv_sub hl [0, 1, 2, 3] rfl)
      · have c11 : i7 < (n 2) := Nat.lt_of_not_le (fun h9 => c11 ((nI_leI (a := (n 2)) (b := i7) (by omega) (by omega)).mpr h9))
        refine lv_iload_n hX_ hB_ dL_bound__14 rfl (lv_at hl 1 rfl) ?_
        refine lv_aload_n hX_ hB_ dL_bound__15 rfl (lv_at hl 2 rfl) ?_
        refine lv_iload_n hX_ hB_ dL_bound__16 rfl (lv_at hl 0 rfl) ?_
        refine lv_iload_n hX_ hB_ dL_bound__17 rfl (lv_at hl 3 rfl) ?_
        have hW := ze_W0 hW
        refine ze_FSi (As := [.ref q, .int (nI i7), .int (nI m)]) (rest := [.int (xa_bg N (n 1) m i7)]) S (xl_can l D c q n N hH i7 m (by omega) (by omega)) (va_cwS 3 hts gL_bound__L_can rfl rfl rfl (by decide +kernel) ⟨(Nat.le_of_ble_eq_true rfl), (Nat.le_of_ble_eq_true rfl)⟩) hK hW hA rfl hl.1 rfl (lv_room (Nat.le_of_ble_eq_true rfl)) dL_bound__18 ⟨(Nat.le_of_ble_eq_true rfl), (Nat.le_of_ble_eq_true rfl)⟩ (fun H locs hW => ?_)
        have hW := ze_W0' hW
        have hW : ze_W D ([(q, .inl (c 0, 210, .inl N))] : va_W) F s.heap _ _ := hW
        refine lv_iadd hX_ hB_ dL_bound__21 ?_
        refine lv_istore_n (lv' := [(2, .int (xa_bg N (n 1) m i7 + xa_can N (n 1) m i7)), (3, .int (nI i7)), (0, .ref q), (1, .int (nI m))]) hX_ hB_ dL_bound__22 rfl hl (by decide) rfl (fun ls hl => ?_)
        refine lv_iinc (v := nI (i7 + 1)) (lv' := [(3, .int (nI (i7 + 1))), (2, .int (xa_bg N (n 1) m i7 + xa_can N (n 1) m i7)), (0, .ref q), (1, .int (nI m))]) hX_ hB_ dL_bound__23 hl (k := 1) rfl (ze_inc _) (by decide) rfl (fun ls hl => ?_)
        refine lv_goto (tgt := 7) hX_ hB_ dL_bound__26 (by decide) ?_
        have eL2 : xa_bg N (n 1) m i7 + xa_can N (n 1) m i7 = xa_bg N (n 1) m (i7 + 1) := (by simp only [ze_b, xa_bg, ze_sum, eq_true c11, not_true_eq_false, not_false_eq_true, and_true, true_and, and_false, false_and, or_true, true_or, or_false, false_or, and_self, or_self, Decidable.not_not, if_true, if_false, reduceIte, reduceCtorEq, ne_eq, eq_self, Int32.lt_irrefl, Int32.le_refl, Nat.lt_irrefl])
        have hl : lv_has ls 4 [(3, .int (nI (i7 + 1))), (2, .int (xa_bg N (n 1) m (i7 + 1))), (0, .ref q), (1, .int (nI m))] := by
          first | (rw [← eL2]; exact hl) | (simp only [← eL2]; exact hl)
        exact ih7 (i7 + 1) (by omega) (by omega) _ _ ls hW (lv_sub hl [0, 1, 2, 3] rfl)
  have hl : lv_has ls 4 [(3, .int (nI 0)), (2, .int (xa_bg N (n 1) m 0)), (0, .ref q), (1, .int (nI m))] := hl
  have hW : ze_W D ([(q, .inl (c 0, 210, .inl N))] : va_W) F s.heap _ _ := hW
  exact L7 _ 0 (by omega) (Nat.lt_succ_self _) _ _ ls hW (lv_sub hl [0, 1, 2, 3] rfl)
set_option maxHeartbeats 8000000 in
set_option maxRecDepth 100000 in
theorem xl_isAhead (l : Launch) (D : va_G) (c : Nat → ClassId) (q : Nat) (n : Nat → Nat) (N : Nat → Int32) (hH : xa_H n N) (k o : Nat) (hk : k < n 4) (ho : o < n 4) : ze_I l yL_isAhead wsL_isAhead 1 25 0 0 D c ([(q, .inl (c 0, 210, .inl N))] : va_W) [.ref q, .int (nI k), .int (nI o)] (ze_b (xa_ah N (n 1) k o)) ([(q, .inl (c 0, 210, .inl N))] : va_W) := by
  intro sz
  refine ze_start (cc := cL_isAhead) (maxL := 5) (ret := (some .boolean)) (own := RL) (by decide) rfl rfl (Nat.le_of_ble_eq_true rfl) ?_
  obtain ⟨⟨hn0, hn1, hn2, hn3, hn4⟩, -⟩ := id hH
  intro p e s m_ below meth cd F ls hF hsz E0
  obtain ⟨S, hr, hlocks, hK, hW, hA, hl⟩ := E0
  have hX_ := S.1
  have hB_ := S.2.1
  have hts := S.2.2.2.2
  have hl : lv_has ls 5 [(0, .ref q), (1, .int (nI k)), (2, .int (nI o))] := hl
  refine lv_aload_n hX_ hB_ dL_isAhead_0 rfl (lv_at hl 0 rfl) ?_
  refine lv_aload_n hX_ hB_ dL_isAhead_1 rfl (lv_at hl 0 rfl) ?_
  refine lv_sipush (v := 140) hX_ hB_ dL_isAhead_2 (by decide) ?_
  refine lv_iconst (v := 5) hX_ hB_ dL_isAhead_5 (by decide) ?_
  refine lv_iload_n hX_ hB_ dL_isAhead_6 rfl (lv_at hl 1 rfl) ?_
  refine lv_imul hX_ hB_ dL_isAhead_7 ?_
  refine ze_top (xb_mul (a := 5) (b := k) (c := 5 * k) (by omega)) ?_
  refine lv_iadd hX_ hB_ dL_isAhead_8 ?_
  refine ze_top (xb_add (a := 140) (b := 5 * k) (c := 5 * k + 140) (by omega)) ?_
  refine ze_ialdN hX_ hB_ hK hW 0 (f := N) rfl (i := 5 * k + 140) (by omega) (by decide) dL_isAhead_9 ?_
  refine ze_top (y := nI (ze_ix (N (5 * k + 140)))) (hH.2.2.2.2.2 k (by omega)).1 ?_
  have hW := ze_W0 hW
  refine ze_FSi (As := [.ref q, .int (nI (ze_ix (N (5 * k + 140))))]) (rest := []) S (xl_island l D c q n N hH (ze_ix (N (5 * k + 140))) (hH.2.2.2.2.2 k (by omega)).2) (va_cwS 2 hts gL_isAhead_L_island rfl rfl rfl (by decide +kernel) ⟨(Nat.le_of_ble_eq_true rfl), (Nat.le_of_ble_eq_true rfl)⟩) hK hW hA rfl hl.1 rfl (lv_room (Nat.le_of_ble_eq_true rfl)) dL_isAhead_10 ⟨(Nat.le_of_ble_eq_true rfl), (Nat.le_of_ble_eq_true rfl)⟩ (fun H locs hW => ?_)
  have hi10 := xa_islt hH (s := (ze_ix (N (5 * k + 140)))) (hH.2.2.2.2.2 k (by omega)).2
  have hW := ze_W0' hW
  have hW : ze_W D ([(q, .inl (c 0, 210, .inl N))] : va_W) F s.heap _ _ := hW
  refine lv_aload_n hX_ hB_ dL_isAhead_13 rfl (lv_at hl 0 rfl) ?_
  refine lv_aload_n hX_ hB_ dL_isAhead_14 rfl (lv_at hl 0 rfl) ?_
  refine lv_sipush (v := 140) hX_ hB_ dL_isAhead_15 (by decide) ?_
  refine lv_iconst (v := 5) hX_ hB_ dL_isAhead_18 (by decide) ?_
  refine lv_iload_n hX_ hB_ dL_isAhead_19 rfl (lv_at hl 2 rfl) ?_
  refine lv_imul hX_ hB_ dL_isAhead_20 ?_
  refine ze_top (xb_mul (a := 5) (b := o) (c := 5 * o) (by omega)) ?_
  refine lv_iadd hX_ hB_ dL_isAhead_21 ?_
  refine ze_top (xb_add (a := 140) (b := 5 * o) (c := 5 * o + 140) (by omega)) ?_
  refine ze_ialdN hX_ hB_ hK hW 0 (f := N) rfl (i := 5 * o + 140) (by omega) (by decide) dL_isAhead_22 ?_
  refine ze_top (y := nI (ze_ix (N (5 * o + 140)))) (hH.2.2.2.2.2 o (by omega)).1 ?_
  have hW := ze_W0 hW
  refine ze_FSi (As := [.ref q, .int (nI (ze_ix (N (5 * o + 140))))]) (rest := [.int (nI (xa_isl N (n 1) (ze_ix (N (5 * k + 140)))))]) S (xl_island l D c q n N hH (ze_ix (N (5 * o + 140))) (hH.2.2.2.2.2 o (by omega)).2) (va_cwS 2 hts gL_isAhead_L_island rfl rfl rfl (by decide +kernel) ⟨(Nat.le_of_ble_eq_true rfl), (Nat.le_of_ble_eq_true rfl)⟩) hK hW hA rfl hl.1 rfl (lv_room (Nat.le_of_ble_eq_true rfl)) dL_isAhead_23 ⟨(Nat.le_of_ble_eq_true rfl), (Nat.le_of_ble_eq_true rfl)⟩ (fun H locs hW => ?_)
  have hi23 := xa_islt hH (s := (ze_ix (N (5 * o + 140)))) (hH.2.2.2.2.2 o (by omega)).2
  have hW := ze_W0' hW
  have hW : ze_W D ([(q, .inl (c 0, 210, .inl N))] : va_W) F s.heap _ _ := hW
  refine lv_icmp_ne (tgt := 33) hX_ hB_ dL_isAhead_26 (by decide) (fun c26 => ?_) (fun c26 => ?_)
  · have c26 : ¬ (xa_isl N (n 1) (ze_ix (N (5 * k + 140)))) = (xa_isl N (n 1) (ze_ix (N (5 * o + 140)))) := fun h9 => c26 ((nI_eq (a := (xa_isl N (n 1) (ze_ix (N (5 * k + 140))))) (b := (xa_isl N (n 1) (ze_ix (N (5 * o + 140))))) (by omega) (by omega)).mpr h9)
    refine lv_iconst (v := 0) hX_ hB_ dL_isAhead_33 (by decide) ?_
    refine lv_istore_n (lv' := [(3, .int 0), (0, .ref q), (1, .int (nI k)), (2, .int (nI o))]) hX_ hB_ dL_isAhead_34 rfl hl (by decide) rfl (fun ls hl => ?_)
    refine lv_aload_n hX_ hB_ dL_isAhead_35 rfl (lv_at hl 1 rfl) ?_
    refine lv_sipush (v := 142) hX_ hB_ dL_isAhead_36 (by decide) ?_
    refine lv_iconst (v := 5) hX_ hB_ dL_isAhead_39 (by decide) ?_
    refine lv_iload_n hX_ hB_ dL_isAhead_40 rfl (lv_at hl 2 rfl) ?_
    refine lv_imul hX_ hB_ dL_isAhead_41 ?_
    refine ze_top (xb_mul (a := 5) (b := k) (c := 5 * k) (by omega)) ?_
    refine lv_iadd hX_ hB_ dL_isAhead_42 ?_
    refine ze_top (xb_add (a := 142) (b := 5 * k) (c := 5 * k + 142) (by omega)) ?_
    refine ze_ialdN hX_ hB_ hK hW 0 (f := N) rfl (i := 5 * k + 142) (by omega) (by decide) dL_isAhead_43 ?_
    refine lv_istore (lv' := [(4, .int (N (5 * k + 142))), (3, .int 0), (0, .ref q), (1, .int (nI k)), (2, .int (nI o))]) hX_ hB_ dL_isAhead_44 hl (by decide) rfl (fun ls hl => ?_)
    refine lv_iload_n hX_ hB_ dL_isAhead_46 rfl (lv_at hl 1 rfl) ?_
    refine lv_if_eq (tgt := 87) hX_ hB_ dL_isAhead_47 (by decide) (fun c47 => ?_) (fun c47 => ?_)
    · refine lv_iconst (v := 0) hX_ hB_ dL_isAhead_87 (by decide) ?_
      exact ze_iret S hr hlocks hF hK hW rfl dL_isAhead_88 (Nat.le_of_ble_eq_true rfl) (Nat.le_of_ble_eq_true rfl) (by simp only [ze_b, xa_ah, eq_false c26, eq_true c47, not_true_eq_false, not_false_eq_true, and_true, true_and, and_false, false_and, or_true, true_or, or_false, false_or, and_self, or_self, Decidable.not_not, if_true, if_false, reduceIte, reduceCtorEq, ne_eq, eq_self, Int32.lt_irrefl, Int32.le_refl, Nat.lt_irrefl]) rfl
    · exact absurd c47 (by decide)
  · have c26 : (xa_isl N (n 1) (ze_ix (N (5 * k + 140)))) = (xa_isl N (n 1) (ze_ix (N (5 * o + 140)))) := (nI_eq (a := (xa_isl N (n 1) (ze_ix (N (5 * k + 140))))) (b := (xa_isl N (n 1) (ze_ix (N (5 * o + 140))))) (by omega) (by omega)).mp c26
    refine lv_iconst (v := 1) hX_ hB_ dL_isAhead_29 (by decide) ?_
    refine lv_goto (tgt := 34) hX_ hB_ dL_isAhead_30 (by decide) ?_
    refine lv_istore_n (lv' := [(3, .int 1), (0, .ref q), (1, .int (nI k)), (2, .int (nI o))]) hX_ hB_ dL_isAhead_34 rfl hl (by decide) rfl (fun ls hl => ?_)
    refine lv_aload_n hX_ hB_ dL_isAhead_35 rfl (lv_at hl 1 rfl) ?_
    refine lv_sipush (v := 142) hX_ hB_ dL_isAhead_36 (by decide) ?_
    refine lv_iconst (v := 5) hX_ hB_ dL_isAhead_39 (by decide) ?_
    refine lv_iload_n hX_ hB_ dL_isAhead_40 rfl (lv_at hl 2 rfl) ?_
    refine lv_imul hX_ hB_ dL_isAhead_41 ?_
    refine ze_top (xb_mul (a := 5) (b := k) (c := 5 * k) (by omega)) ?_
    refine lv_iadd hX_ hB_ dL_isAhead_42 ?_
    refine ze_top (xb_add (a := 142) (b := 5 * k) (c := 5 * k + 142) (by omega)) ?_
    refine ze_ialdN hX_ hB_ hK hW 0 (f := N) rfl (i := 5 * k + 142) (by omega) (by decide) dL_isAhead_43 ?_
    refine lv_istore (lv' := [(4, .int (N (5 * k + 142))), (3, .int 1), (0, .ref q), (1, .int (nI k)), (2, .int (nI o))]) hX_ hB_ dL_isAhead_44 hl (by decide) rfl (fun ls hl => ?_)
    refine lv_iload_n hX_ hB_ dL_isAhead_46 rfl (lv_at hl 1 rfl) ?_
    refine lv_if_eq (tgt := 87) hX_ hB_ dL_isAhead_47 (by decide) (fun c47 => ?_) (fun c47 => ?_)
    · exact absurd c47 (by decide)
    · refine lv_iload hX_ hB_ dL_isAhead_50 (lv_at hl 0 rfl) ?_
      refine lv_aload_n hX_ hB_ dL_isAhead_52 rfl (lv_at hl 2 rfl) ?_
      refine lv_sipush (v := 142) hX_ hB_ dL_isAhead_53 (by decide) ?_
      refine lv_iconst (v := 5) hX_ hB_ dL_isAhead_56 (by decide) ?_
      refine lv_iload_n hX_ hB_ dL_isAhead_57 rfl (lv_at hl 4 rfl) ?_
      refine lv_imul hX_ hB_ dL_isAhead_58 ?_
      refine ze_top (xb_mul (a := 5) (b := o) (c := 5 * o) (by omega)) ?_
      refine lv_iadd hX_ hB_ dL_isAhead_59 ?_
      refine ze_top (xb_add (a := 142) (b := 5 * o) (c := 5 * o + 142) (by omega)) ?_
      refine ze_ialdN hX_ hB_ hK hW 0 (f := N) rfl (i := 5 * o + 142) (by omega) (by decide) dL_isAhead_60 ?_
      refine lv_icmp_lt (tgt := 83) hX_ hB_ dL_isAhead_61 (by decide) (fun c61 => ?_) (fun c61 => ?_)
      · refine lv_iconst (v := 1) hX_ hB_ dL_isAhead_83 (by decide) ?_
        refine lv_goto (tgt := 88) hX_ hB_ dL_isAhead_84 (by decide) ?_
        exact ze_iret S hr hlocks hF hK hW rfl dL_isAhead_88 (Nat.le_of_ble_eq_true rfl) (Nat.le_of_ble_eq_true rfl) (by simp only [ze_b, xa_ah, eq_true c26, eq_false c47, eq_true c61, not_true_eq_false, not_false_eq_true, and_true, true_and, and_false, false_and, or_true, true_or, or_false, false_or, and_self, or_self, Decidable.not_not, if_true, if_false, reduceIte, reduceCtorEq, ne_eq, eq_self, Int32.lt_irrefl, Int32.le_refl, Nat.lt_irrefl]) rfl
      · refine lv_iload hX_ hB_ dL_isAhead_64 (lv_at hl 0 rfl) ?_
        refine lv_aload_n hX_ hB_ dL_isAhead_66 rfl (lv_at hl 2 rfl) ?_
        refine lv_sipush (v := 142) hX_ hB_ dL_isAhead_67 (by decide) ?_
        refine lv_iconst (v := 5) hX_ hB_ dL_isAhead_70 (by decide) ?_
        refine lv_iload_n hX_ hB_ dL_isAhead_71 rfl (lv_at hl 4 rfl) ?_
        refine lv_imul hX_ hB_ dL_isAhead_72 ?_
        refine ze_top (xb_mul (a := 5) (b := o) (c := 5 * o) (by omega)) ?_
        refine lv_iadd hX_ hB_ dL_isAhead_73 ?_
        refine ze_top (xb_add (a := 142) (b := 5 * o) (c := 5 * o + 142) (by omega)) ?_
        refine ze_ialdN hX_ hB_ hK hW 0 (f := N) rfl (i := 5 * o + 142) (by omega) (by decide) dL_isAhead_74 ?_
        refine lv_icmp_ne (tgt := 87) hX_ hB_ dL_isAhead_75 (by decide) (fun c75 => ?_) (fun c75 => ?_)
        · refine lv_iconst (v := 0) hX_ hB_ dL_isAhead_87 (by decide) ?_
          exact ze_iret S hr hlocks hF hK hW rfl dL_isAhead_88 (Nat.le_of_ble_eq_true rfl) (Nat.le_of_ble_eq_true rfl) (by simp only [ze_b, xa_ah, eq_true c26, eq_false c47, eq_false c61, eq_false c75, not_true_eq_false, not_false_eq_true, and_true, true_and, and_false, false_and, or_true, true_or, or_false, false_or, and_self, or_self, Decidable.not_not, if_true, if_false, reduceIte, reduceCtorEq, ne_eq, eq_self, Int32.lt_irrefl, Int32.le_refl, Nat.lt_irrefl]) rfl
        · refine lv_iload_n hX_ hB_ dL_isAhead_78 rfl (lv_at hl 3 rfl) ?_
          refine lv_iload_n hX_ hB_ dL_isAhead_79 rfl (lv_at hl 4 rfl) ?_
          refine lv_icmp_ge (tgt := 87) hX_ hB_ dL_isAhead_80 (by decide) (fun c80 => ?_) (fun c80 => ?_)
          · have c80 : ¬ k < o := Nat.not_lt.mpr ((nI_leI (a := o) (b := k) (by omega) (by omega)).mp c80)
            refine lv_iconst (v := 0) hX_ hB_ dL_isAhead_87 (by decide) ?_
            exact ze_iret S hr hlocks hF hK hW rfl dL_isAhead_88 (Nat.le_of_ble_eq_true rfl) (Nat.le_of_ble_eq_true rfl) (by simp only [ze_b, xa_ah, eq_true c26, eq_false c47, eq_false c61, eq_true c75, eq_false c80, not_true_eq_false, not_false_eq_true, and_true, true_and, and_false, false_and, or_true, true_or, or_false, false_or, and_self, or_self, Decidable.not_not, if_true, if_false, reduceIte, reduceCtorEq, ne_eq, eq_self, Int32.lt_irrefl, Int32.le_refl, Nat.lt_irrefl]) rfl
          · have c80 : k < o := Nat.lt_of_not_le (fun h9 => c80 ((nI_leI (a := o) (b := k) (by omega) (by omega)).mpr h9))
            refine lv_iconst (v := 1) hX_ hB_ dL_isAhead_83 (by decide) ?_
            refine lv_goto (tgt := 88) hX_ hB_ dL_isAhead_84 (by decide) ?_
            exact ze_iret S hr hlocks hF hK hW rfl dL_isAhead_88 (Nat.le_of_ble_eq_true rfl) (Nat.le_of_ble_eq_true rfl) (by simp only [ze_b, xa_ah, eq_true c26, eq_false c47, eq_false c61, eq_true c75, eq_true c80, not_true_eq_false, not_false_eq_true, and_true, true_and, and_false, false_and, or_true, true_or, or_false, false_or, and_self, or_self, Decidable.not_not, if_true, if_false, reduceIte, reduceCtorEq, ne_eq, eq_self, Int32.lt_irrefl, Int32.le_refl, Nat.lt_irrefl]) rfl
set_option maxHeartbeats 8000000 in
set_option maxRecDepth 100000 in
theorem xl_keeps (l : Launch) (D : va_G) (c : Nat → ClassId) (q : Nat) (n : Nat → Nat) (N : Nat → Int32) (hH : xa_H n N) (o : Nat) (ho : o < n 4) : ze_I l yL_keeps wsL_keeps 3 71 0 0 D c ([(q, .inl (c 0, 210, .inl N))] : va_W) [.ref q, .int (nI o)] (ze_b (xa_kp n N o)) ([(q, .inl (c 0, 210, .inl N))] : va_W) := by
  intro sz
  refine ze_start (cc := cL_keeps) (maxL := 4) (ret := (some .boolean)) (own := RL) (by decide) rfl rfl (Nat.le_of_ble_eq_true rfl) ?_
  obtain ⟨⟨hn0, hn1, hn2, hn3, hn4⟩, -⟩ := id hH
  have hi9 := xa_islt hH (hH.2.2.2.2.2 o ho).2
  intro p e s m_ below meth cd F ls hF hsz E0
  obtain ⟨S, hr, hlocks, hK, hW, hA, hl⟩ := E0
  have hX_ := S.1
  have hB_ := S.2.1
  have hts := S.2.2.2.2
  have hl : lv_has ls 4 [(0, .ref q), (1, .int (nI o))] := hl
  refine lv_aload_n hX_ hB_ dL_keeps_0 rfl (lv_at hl 0 rfl) ?_
  refine lv_sipush (v := 141) hX_ hB_ dL_keeps_1 (by decide) ?_
  refine lv_iconst (v := 5) hX_ hB_ dL_keeps_4 (by decide) ?_
  refine lv_iload_n hX_ hB_ dL_keeps_5 rfl (lv_at hl 1 rfl) ?_
  refine lv_imul hX_ hB_ dL_keeps_6 ?_
  refine ze_top (xb_mul (a := 5) (b := o) (c := 5 * o) (by omega)) ?_
  refine lv_iadd hX_ hB_ dL_keeps_7 ?_
  refine ze_top (xb_add (a := 141) (b := 5 * o) (c := 5 * o + 141) (by omega)) ?_
  refine ze_ialdN hX_ hB_ hK hW 0 (f := N) rfl (i := 5 * o + 141) (by omega) (by decide) dL_keeps_8 ?_
  refine lv_istore_n (lv' := [(2, .int (N (5 * o + 141))), (0, .ref q), (1, .int (nI o))]) hX_ hB_ dL_keeps_9 rfl hl (by decide) rfl (fun ls hl => ?_)
  refine lv_iconst (v := 0) hX_ hB_ dL_keeps_10 (by decide) ?_
  refine lv_istore_n (lv' := [(3, .int 0), (2, .int (N (5 * o + 141))), (0, .ref q), (1, .int (nI o))]) hX_ hB_ dL_keeps_11 rfl hl (by decide) rfl (fun ls hl => ?_)
  have L12 : ∀ (k12 : Nat) (i12 : Nat), (i12 ≤ n 4) → (n 4 - i12) < k12 → ∀ (H : Heap) (locs : List Loc) (ls : Array Slot), ze_W D ([(q, .inl (c 0, 210, .inl N))] : va_W) F s.heap H locs → lv_has ls 4 [(3, .int (nI i12)), (2, .int (xa_up N (n 1) o i12)), (0, .ref q), (1, .int (nI o))] → W p l e { frames := 3, cells := 0, slots := 0, locals := 71 } s m_ ([.ref q, .int (nI o)] : List Value).toArray below meth cd H locs 0 0 (MQ below (ze_Qi D c ([(q, .inl (c 0, 210, .inl N))] : va_W) sz (ze_b (xa_kp n N o)) ([(q, .inl (c 0, 210, .inl N))] : va_W)) ([.ref q, .int (nI o)] : List Value).toArray s 0 0 F) (F0 m_ 12 ls []) := by
    intro k12
    induction k12 with
    | zero =>
      intro i12 h12 hk12
      exact absurd hk12 (Nat.not_lt_zero _)
    | succ k12 ih12 =>
      intro i12 h12 hk12 H locs ls hW hl
      refine lv_iload_n hX_ hB_ dL_keeps_12 rfl (lv_at hl 0 rfl) ?_
      refine lv_aload_n hX_ hB_ dL_keeps_13 rfl (lv_at hl 2 rfl) ?_
      refine lv_iconst (v := 4) hX_ hB_ dL_keeps_14 (by decide) ?_
      refine ze_ialdN hX_ hB_ hK hW 0 (f := N) rfl (i := 4) (by omega) (by decide) dL_keeps_15 ?_
      refine ze_top (y := nI (n 4)) hH.2.1.2.2.2.2 ?_
      refine lv_icmp_ge (tgt := 50) hX_ hB_ dL_keeps_16 (by decide) (fun c16 => ?_) (fun c16 => ?_)
      · have c16 : ¬ i12 < (n 4) := Nat.not_lt.mpr ((nI_leI (a := (n 4)) (b := i12) (by omega) (by omega)).mp c16)
        have e12 : i12 = n 4 := by omega
        subst e12
        refine lv_iload_n hX_ hB_ dL_keeps_50 rfl (lv_at hl 1 rfl) ?_
        refine lv_aload_n hX_ hB_ dL_keeps_51 rfl (lv_at hl 2 rfl) ?_
        refine lv_aload_n hX_ hB_ dL_keeps_52 rfl (lv_at hl 2 rfl) ?_
        refine lv_aload_n hX_ hB_ dL_keeps_53 rfl (lv_at hl 2 rfl) ?_
        refine lv_sipush (v := 140) hX_ hB_ dL_keeps_54 (by decide) ?_
        refine lv_iconst (v := 5) hX_ hB_ dL_keeps_57 (by decide) ?_
        refine lv_iload_n hX_ hB_ dL_keeps_58 rfl (lv_at hl 3 rfl) ?_
        refine lv_imul hX_ hB_ dL_keeps_59 ?_
        refine ze_top (xb_mul (a := 5) (b := o) (c := 5 * o) (by omega)) ?_
        refine lv_iadd hX_ hB_ dL_keeps_60 ?_
        refine ze_top (xb_add (a := 140) (b := 5 * o) (c := 5 * o + 140) (by omega)) ?_
        refine ze_ialdN hX_ hB_ hK hW 0 (f := N) rfl (i := 5 * o + 140) (by omega) (by decide) dL_keeps_61 ?_
        refine ze_top (y := nI (ze_ix (N (5 * o + 140)))) (hH.2.2.2.2.2 o (by omega)).1 ?_
        have hW := ze_W0 hW
        refine ze_FSi (As := [.ref q, .int (nI (ze_ix (N (5 * o + 140))))]) (rest := [.ref q, .int (xa_up N (n 1) o (n 4))]) S (xl_island l D c q n N hH (ze_ix (N (5 * o + 140))) (hH.2.2.2.2.2 o (by omega)).2) (va_cwS 2 hts gL_keeps_L_island rfl rfl rfl (by decide +kernel) ⟨(Nat.le_of_ble_eq_true rfl), (Nat.le_of_ble_eq_true rfl)⟩) hK hW hA rfl hl.1 rfl (lv_room (Nat.le_of_ble_eq_true rfl)) dL_keeps_62 ⟨(Nat.le_of_ble_eq_true rfl), (Nat.le_of_ble_eq_true rfl)⟩ (fun H locs hW => ?_)
        have hi62 := xa_islt hH (s := (ze_ix (N (5 * o + 140)))) (hH.2.2.2.2.2 o (by omega)).2
        have hW := ze_W0' hW
        have hW : ze_W D ([(q, .inl (c 0, 210, .inl N))] : va_W) F s.heap _ _ := hW
        have hW := ze_W0 hW
        refine ze_FSi (As := [.ref q, .int (nI (xa_isl N (n 1) (ze_ix (N (5 * o + 140)))))]) (rest := [.int (xa_up N (n 1) o (n 4))]) S (xl_bound_ l D c q n N hH (xa_isl N (n 1) (ze_ix (N (5 * o + 140)))) (by omega)) (va_cwS 2 hts gL_keeps_L_bound_ rfl rfl rfl (by decide +kernel) ⟨(Nat.le_of_ble_eq_true rfl), (Nat.le_of_ble_eq_true rfl)⟩) hK hW hA rfl hl.1 rfl (lv_room (Nat.le_of_ble_eq_true rfl)) dL_keeps_65 ⟨(Nat.le_of_ble_eq_true rfl), (Nat.le_of_ble_eq_true rfl)⟩ (fun H locs hW => ?_)
        have hW := ze_W0' hW
        have hW : ze_W D ([(q, .inl (c 0, 210, .inl N))] : va_W) F s.heap _ _ := hW
        refine lv_icmp_gt (tgt := 75) hX_ hB_ dL_keeps_68 (by decide) (fun c68 => ?_) (fun c68 => ?_)
        · refine lv_iconst (v := 0) hX_ hB_ dL_keeps_75 (by decide) ?_
          exact ze_iret S hr hlocks hF hK hW rfl dL_keeps_76 (Nat.le_of_ble_eq_true rfl) (Nat.le_of_ble_eq_true rfl) (by simp only [ze_b, xa_kp, eq_false c16, eq_true c68, not_true_eq_false, not_false_eq_true, and_true, true_and, and_false, false_and, or_true, true_or, or_false, false_or, and_self, or_self, Decidable.not_not, if_true, if_false, reduceIte, reduceCtorEq, ne_eq, eq_self, Int32.lt_irrefl, Int32.le_refl, Nat.lt_irrefl]) rfl
        · refine lv_iconst (v := 1) hX_ hB_ dL_keeps_71 (by decide) ?_
          refine lv_goto (tgt := 76) hX_ hB_ dL_keeps_72 (by decide) ?_
          exact ze_iret S hr hlocks hF hK hW rfl dL_keeps_76 (Nat.le_of_ble_eq_true rfl) (Nat.le_of_ble_eq_true rfl) (by simp only [ze_b, xa_kp, eq_false c16, eq_false c68, not_true_eq_false, not_false_eq_true, and_true, true_and, and_false, false_and, or_true, true_or, or_false, false_or, and_self, or_self, Decidable.not_not, if_true, if_false, reduceIte, reduceCtorEq, ne_eq, eq_self, Int32.lt_irrefl, Int32.le_refl, Nat.lt_irrefl]) rfl
      · have c16 : i12 < (n 4) := Nat.lt_of_not_le (fun h9 => c16 ((nI_leI (a := (n 4)) (b := i12) (by omega) (by omega)).mpr h9))
        refine lv_iload_n hX_ hB_ dL_keeps_19 rfl (lv_at hl 1 rfl) ?_
        refine lv_aload_n hX_ hB_ dL_keeps_20 rfl (lv_at hl 2 rfl) ?_
        refine lv_iload_n hX_ hB_ dL_keeps_21 rfl (lv_at hl 0 rfl) ?_
        refine lv_iload_n hX_ hB_ dL_keeps_22 rfl (lv_at hl 3 rfl) ?_
        have hW := ze_W0 hW
        refine ze_FSi (As := [.ref q, .int (nI i12), .int (nI o)]) (rest := [.int (xa_up N (n 1) o i12)]) S (xl_isAhead l D c q n N hH i12 o (by omega) (by omega)) (va_cwS 3 hts gL_keeps_L_isAhead rfl rfl rfl (by decide +kernel) ⟨(Nat.le_of_ble_eq_true rfl), (Nat.le_of_ble_eq_true rfl)⟩) hK hW hA rfl hl.1 rfl (lv_room (Nat.le_of_ble_eq_true rfl)) dL_keeps_23 ⟨(Nat.le_of_ble_eq_true rfl), (Nat.le_of_ble_eq_true rfl)⟩ (fun H locs hW => ?_)
        have hW := ze_W0' hW
        have hW : ze_W D ([(q, .inl (c 0, 210, .inl N))] : va_W) F s.heap _ _ := hW
        refine lv_if_eq (tgt := 41) hX_ hB_ dL_keeps_26 (by decide) (fun c26 => ?_) (fun c26 => ?_)
        · have c26 : ¬ (xa_ah N (n 1) i12 o) := ze_bf c26
          refine lv_iconst (v := 0) hX_ hB_ dL_keeps_41 (by decide) ?_
          refine lv_iadd hX_ hB_ dL_keeps_42 ?_
          refine lv_istore_n (lv' := [(2, .int (xa_up N (n 1) o i12 + 0)), (3, .int (nI i12)), (0, .ref q), (1, .int (nI o))]) hX_ hB_ dL_keeps_43 rfl hl (by decide) rfl (fun ls hl => ?_)
          refine lv_iinc (v := nI (i12 + 1)) (lv' := [(3, .int (nI (i12 + 1))), (2, .int (xa_up N (n 1) o i12 + 0)), (0, .ref q), (1, .int (nI o))]) hX_ hB_ dL_keeps_44 hl (k := 1) rfl (ze_inc _) (by decide) rfl (fun ls hl => ?_)
          refine lv_goto (tgt := 12) hX_ hB_ dL_keeps_47 (by decide) ?_
          have eL2 : xa_up N (n 1) o i12 + 0 = xa_up N (n 1) o (i12 + 1) := (by simp only [ze_b, xa_up, ze_sum, eq_true c16, eq_false c26, not_true_eq_false, not_false_eq_true, and_true, true_and, and_false, false_and, or_true, true_or, or_false, false_or, and_self, or_self, Decidable.not_not, if_true, if_false, reduceIte, reduceCtorEq, ne_eq, eq_self, Int32.lt_irrefl, Int32.le_refl, Nat.lt_irrefl])
          have hl : lv_has ls 4 [(3, .int (nI (i12 + 1))), (2, .int (xa_up N (n 1) o (i12 + 1))), (0, .ref q), (1, .int (nI o))] := by
            first | (rw [← eL2]; exact hl) | (simp only [← eL2]; exact hl)
          exact ih12 (i12 + 1) (by omega) (by omega) _ _ ls hW (lv_sub hl [0, 1, 2, 3] rfl)
        · have c26 : xa_ah N (n 1) i12 o := ze_bt c26
          refine lv_aload_n hX_ hB_ dL_keeps_29 rfl (lv_at hl 2 rfl) ?_
          refine lv_sipush (v := 141) hX_ hB_ dL_keeps_30 (by decide) ?_
          refine lv_iconst (v := 5) hX_ hB_ dL_keeps_33 (by decide) ?_
          refine lv_iload_n hX_ hB_ dL_keeps_34 rfl (lv_at hl 0 rfl) ?_
          refine lv_imul hX_ hB_ dL_keeps_35 ?_
          refine ze_top (xb_mul (a := 5) (b := i12) (c := 5 * i12) (by omega)) ?_
          refine lv_iadd hX_ hB_ dL_keeps_36 ?_
          refine ze_top (xb_add (a := 141) (b := 5 * i12) (c := 5 * i12 + 141) (by omega)) ?_
          refine ze_ialdN hX_ hB_ hK hW 0 (f := N) rfl (i := 5 * i12 + 141) (by omega) (by decide) dL_keeps_37 ?_
          refine lv_goto (tgt := 42) hX_ hB_ dL_keeps_38 (by decide) ?_
          refine lv_iadd hX_ hB_ dL_keeps_42 ?_
          refine lv_istore_n (lv' := [(2, .int (xa_up N (n 1) o i12 + N (5 * i12 + 141))), (3, .int (nI i12)), (0, .ref q), (1, .int (nI o))]) hX_ hB_ dL_keeps_43 rfl hl (by decide) rfl (fun ls hl => ?_)
          refine lv_iinc (v := nI (i12 + 1)) (lv' := [(3, .int (nI (i12 + 1))), (2, .int (xa_up N (n 1) o i12 + N (5 * i12 + 141))), (0, .ref q), (1, .int (nI o))]) hX_ hB_ dL_keeps_44 hl (k := 1) rfl (ze_inc _) (by decide) rfl (fun ls hl => ?_)
          refine lv_goto (tgt := 12) hX_ hB_ dL_keeps_47 (by decide) ?_
          have eL2 : xa_up N (n 1) o i12 + N (5 * i12 + 141) = xa_up N (n 1) o (i12 + 1) := (by simp only [ze_b, xa_up, ze_sum, eq_true c16, eq_true c26, not_true_eq_false, not_false_eq_true, and_true, true_and, and_false, false_and, or_true, true_or, or_false, false_or, and_self, or_self, Decidable.not_not, if_true, if_false, reduceIte, reduceCtorEq, ne_eq, eq_self, Int32.lt_irrefl, Int32.le_refl, Nat.lt_irrefl])
          have hl : lv_has ls 4 [(3, .int (nI (i12 + 1))), (2, .int (xa_up N (n 1) o (i12 + 1))), (0, .ref q), (1, .int (nI o))] := by
            first | (rw [← eL2]; exact hl) | (simp only [← eL2]; exact hl)
          exact ih12 (i12 + 1) (by omega) (by omega) _ _ ls hW (lv_sub hl [0, 1, 2, 3] rfl)
  have hl : lv_has ls 4 [(3, .int (nI 0)), (2, .int (xa_up N (n 1) o 0)), (0, .ref q), (1, .int (nI o))] := hl
  have hW : ze_W D ([(q, .inl (c 0, 210, .inl N))] : va_W) F s.heap _ _ := hW
  exact L12 _ 0 (by omega) (Nat.lt_succ_self _) _ _ ls hW (lv_sub hl [0, 1, 2, 3] rfl)
set_option maxHeartbeats 8000000 in
set_option maxRecDepth 100000 in
theorem xl_demand_ (l : Launch) (D : va_G) (c : Nat → ClassId) (q : Nat) (n : Nat → Nat) (N : Nat → Int32) (hH : xa_H n N) (m : Nat) (hm : m < 6) : ze_I l yL_demand_ wsL_demand_ 1 25 0 0 D c ([(q, .inl (c 0, 210, .inl N))] : va_W) [.ref q, .int (nI m)] (xa_dm N (n 1) m (n 4)) ([(q, .inl (c 0, 210, .inl N))] : va_W) := by
  intro sz
  refine ze_start (cc := cL_demand_) (maxL := 4) (ret := (some .int)) (own := RL) (by decide) rfl rfl (Nat.le_of_ble_eq_true rfl) ?_
  obtain ⟨⟨hn0, hn1, hn2, hn3, hn4⟩, -⟩ := id hH
  intro p e s m_ below meth cd F ls hF hsz E0
  obtain ⟨S, hr, hlocks, hK, hW, hA, hl⟩ := E0
  have hX_ := S.1
  have hB_ := S.2.1
  have hts := S.2.2.2.2
  have hl : lv_has ls 4 [(0, .ref q), (1, .int (nI m))] := hl
  refine lv_iconst (v := 0) hX_ hB_ dL_demand__0 (by decide) ?_
  refine lv_istore_n (lv' := [(2, .int 0), (0, .ref q), (1, .int (nI m))]) hX_ hB_ dL_demand__1 rfl hl (by decide) rfl (fun ls hl => ?_)
  refine lv_iconst (v := 0) hX_ hB_ dL_demand__2 (by decide) ?_
  refine lv_istore_n (lv' := [(3, .int 0), (2, .int 0), (0, .ref q), (1, .int (nI m))]) hX_ hB_ dL_demand__3 rfl hl (by decide) rfl (fun ls hl => ?_)
  have L4 : ∀ (k4 : Nat) (i4 : Nat), (i4 ≤ n 4) → (n 4 - i4) < k4 → ∀ (H : Heap) (locs : List Loc) (ls : Array Slot), ze_W D ([(q, .inl (c 0, 210, .inl N))] : va_W) F s.heap H locs → lv_has ls 4 [(3, .int (nI i4)), (2, .int (xa_dm N (n 1) m i4)), (0, .ref q), (1, .int (nI m))] → W p l e { frames := 1, cells := 0, slots := 0, locals := 25 } s m_ ([.ref q, .int (nI m)] : List Value).toArray below meth cd H locs 0 0 (MQ below (ze_Qi D c ([(q, .inl (c 0, 210, .inl N))] : va_W) sz (xa_dm N (n 1) m (n 4)) ([(q, .inl (c 0, 210, .inl N))] : va_W)) ([.ref q, .int (nI m)] : List Value).toArray s 0 0 F) (F0 m_ 4 ls []) := by
    intro k4
    induction k4 with
    | zero =>
      intro i4 h4 hk4
      exact absurd hk4 (Nat.not_lt_zero _)
    | succ k4 ih4 =>
      intro i4 h4 hk4 H locs ls hW hl
      refine lv_iload_n hX_ hB_ dL_demand__4 rfl (lv_at hl 0 rfl) ?_
      refine lv_aload_n hX_ hB_ dL_demand__5 rfl (lv_at hl 2 rfl) ?_
      refine lv_iconst (v := 4) hX_ hB_ dL_demand__6 (by decide) ?_
      refine ze_ialdN hX_ hB_ hK hW 0 (f := N) rfl (i := 4) (by omega) (by decide) dL_demand__7 ?_
      refine ze_top (y := nI (n 4)) hH.2.1.2.2.2.2 ?_
      refine lv_icmp_ge (tgt := 62) hX_ hB_ dL_demand__8 (by decide) (fun c8 => ?_) (fun c8 => ?_)
      · have c8 : ¬ i4 < (n 4) := Nat.not_lt.mpr ((nI_leI (a := (n 4)) (b := i4) (by omega) (by omega)).mp c8)
        have e4 : i4 = n 4 := by omega
        subst e4
        refine lv_iload_n hX_ hB_ dL_demand__62 rfl (lv_at hl 1 rfl) ?_
        exact ze_iret S hr hlocks hF hK hW rfl dL_demand__63 (Nat.le_of_ble_eq_true rfl) (Nat.le_of_ble_eq_true rfl) rfl rfl
      · have c8 : i4 < (n 4) := Nat.lt_of_not_le (fun h9 => c8 ((nI_leI (a := (n 4)) (b := i4) (by omega) (by omega)).mpr h9))
        refine lv_iload_n hX_ hB_ dL_demand__11 rfl (lv_at hl 1 rfl) ?_
        refine lv_aload_n hX_ hB_ dL_demand__12 rfl (lv_at hl 2 rfl) ?_
        refine lv_sipush (v := 143) hX_ hB_ dL_demand__13 (by decide) ?_
        refine lv_iconst (v := 5) hX_ hB_ dL_demand__16 (by decide) ?_
        refine lv_iload_n hX_ hB_ dL_demand__17 rfl (lv_at hl 0 rfl) ?_
        refine lv_imul hX_ hB_ dL_demand__18 ?_
        refine ze_top (xb_mul (a := 5) (b := i4) (c := 5 * i4) (by omega)) ?_
        refine lv_iadd hX_ hB_ dL_demand__19 ?_
        refine ze_top (xb_add (a := 143) (b := 5 * i4) (c := 5 * i4 + 143) (by omega)) ?_
        refine ze_ialdN hX_ hB_ hK hW 0 (f := N) rfl (i := 5 * i4 + 143) (by omega) (by decide) dL_demand__20 ?_
        refine lv_if_ne (tgt := 53) hX_ hB_ dL_demand__21 (by decide) (fun c21 => ?_) (fun c21 => ?_)
        · refine lv_iconst (v := 0) hX_ hB_ dL_demand__53 (by decide) ?_
          refine lv_iadd hX_ hB_ dL_demand__54 ?_
          refine lv_istore_n (lv' := [(2, .int (xa_dm N (n 1) m i4 + 0)), (3, .int (nI i4)), (0, .ref q), (1, .int (nI m))]) hX_ hB_ dL_demand__55 rfl hl (by decide) rfl (fun ls hl => ?_)
          refine lv_iinc (v := nI (i4 + 1)) (lv' := [(3, .int (nI (i4 + 1))), (2, .int (xa_dm N (n 1) m i4 + 0)), (0, .ref q), (1, .int (nI m))]) hX_ hB_ dL_demand__56 hl (k := 1) rfl (ze_inc _) (by decide) rfl (fun ls hl => ?_)
          refine lv_goto (tgt := 4) hX_ hB_ dL_demand__59 (by decide) ?_
          have eL2 : xa_dm N (n 1) m i4 + 0 = xa_dm N (n 1) m (i4 + 1) := (by simp only [ze_b, xa_dm, ze_sum, eq_true c8, eq_false c21, not_true_eq_false, not_false_eq_true, and_true, true_and, and_false, false_and, or_true, true_or, or_false, false_or, and_self, or_self, Decidable.not_not, if_true, if_false, reduceIte, reduceCtorEq, ne_eq, eq_self, Int32.lt_irrefl, Int32.le_refl, Nat.lt_irrefl])
          have hl : lv_has ls 4 [(3, .int (nI (i4 + 1))), (2, .int (xa_dm N (n 1) m (i4 + 1))), (0, .ref q), (1, .int (nI m))] := by
            first | (rw [← eL2]; exact hl) | (simp only [← eL2]; exact hl)
          exact ih4 (i4 + 1) (by omega) (by omega) _ _ ls hW (lv_sub hl [0, 1, 2, 3] rfl)
        · refine lv_aload_n hX_ hB_ dL_demand__24 rfl (lv_at hl 2 rfl) ?_
          refine lv_aload_n hX_ hB_ dL_demand__25 rfl (lv_at hl 2 rfl) ?_
          refine lv_sipush (v := 140) hX_ hB_ dL_demand__26 (by decide) ?_
          refine lv_iconst (v := 5) hX_ hB_ dL_demand__29 (by decide) ?_
          refine lv_iload_n hX_ hB_ dL_demand__30 rfl (lv_at hl 0 rfl) ?_
          refine lv_imul hX_ hB_ dL_demand__31 ?_
          refine ze_top (xb_mul (a := 5) (b := i4) (c := 5 * i4) (by omega)) ?_
          refine lv_iadd hX_ hB_ dL_demand__32 ?_
          refine ze_top (xb_add (a := 140) (b := 5 * i4) (c := 5 * i4 + 140) (by omega)) ?_
          refine ze_ialdN hX_ hB_ hK hW 0 (f := N) rfl (i := 5 * i4 + 140) (by omega) (by decide) dL_demand__33 ?_
          refine ze_top (y := nI (ze_ix (N (5 * i4 + 140)))) (hH.2.2.2.2.2 i4 (by omega)).1 ?_
          have hW := ze_W0 hW
          refine ze_FSi (As := [.ref q, .int (nI (ze_ix (N (5 * i4 + 140))))]) (rest := [.int (xa_dm N (n 1) m i4)]) S (xl_island l D c q n N hH (ze_ix (N (5 * i4 + 140))) (hH.2.2.2.2.2 i4 (by omega)).2) (va_cwS 2 hts gL_demand__L_island rfl rfl rfl (by decide +kernel) ⟨(Nat.le_of_ble_eq_true rfl), (Nat.le_of_ble_eq_true rfl)⟩) hK hW hA rfl hl.1 rfl (lv_room (Nat.le_of_ble_eq_true rfl)) dL_demand__34 ⟨(Nat.le_of_ble_eq_true rfl), (Nat.le_of_ble_eq_true rfl)⟩ (fun H locs hW => ?_)
          have hi34 := xa_islt hH (s := (ze_ix (N (5 * i4 + 140)))) (hH.2.2.2.2.2 i4 (by omega)).2
          have hW := ze_W0' hW
          have hW : ze_W D ([(q, .inl (c 0, 210, .inl N))] : va_W) F s.heap _ _ := hW
          refine lv_iload_n hX_ hB_ dL_demand__37 rfl (lv_at hl 3 rfl) ?_
          refine lv_icmp_ne (tgt := 53) hX_ hB_ dL_demand__38 (by decide) (fun c38 => ?_) (fun c38 => ?_)
          · have c38 : ¬ (xa_isl N (n 1) (ze_ix (N (5 * i4 + 140)))) = m := fun h9 => c38 ((nI_eq (a := (xa_isl N (n 1) (ze_ix (N (5 * i4 + 140))))) (b := m) (by omega) (by omega)).mpr h9)
            refine lv_iconst (v := 0) hX_ hB_ dL_demand__53 (by decide) ?_
            refine lv_iadd hX_ hB_ dL_demand__54 ?_
            refine lv_istore_n (lv' := [(2, .int (xa_dm N (n 1) m i4 + 0)), (3, .int (nI i4)), (0, .ref q), (1, .int (nI m))]) hX_ hB_ dL_demand__55 rfl hl (by decide) rfl (fun ls hl => ?_)
            refine lv_iinc (v := nI (i4 + 1)) (lv' := [(3, .int (nI (i4 + 1))), (2, .int (xa_dm N (n 1) m i4 + 0)), (0, .ref q), (1, .int (nI m))]) hX_ hB_ dL_demand__56 hl (k := 1) rfl (ze_inc _) (by decide) rfl (fun ls hl => ?_)
            refine lv_goto (tgt := 4) hX_ hB_ dL_demand__59 (by decide) ?_
            have eL2 : xa_dm N (n 1) m i4 + 0 = xa_dm N (n 1) m (i4 + 1) := (by simp only [ze_b, xa_dm, ze_sum, eq_true c8, eq_true c21, eq_false c38, not_true_eq_false, not_false_eq_true, and_true, true_and, and_false, false_and, or_true, true_or, or_false, false_or, and_self, or_self, Decidable.not_not, if_true, if_false, reduceIte, reduceCtorEq, ne_eq, eq_self, Int32.lt_irrefl, Int32.le_refl, Nat.lt_irrefl])
            have hl : lv_has ls 4 [(3, .int (nI (i4 + 1))), (2, .int (xa_dm N (n 1) m (i4 + 1))), (0, .ref q), (1, .int (nI m))] := by
              first | (rw [← eL2]; exact hl) | (simp only [← eL2]; exact hl)
            exact ih4 (i4 + 1) (by omega) (by omega) _ _ ls hW (lv_sub hl [0, 1, 2, 3] rfl)
          · have c38 : (xa_isl N (n 1) (ze_ix (N (5 * i4 + 140)))) = m := (nI_eq (a := (xa_isl N (n 1) (ze_ix (N (5 * i4 + 140))))) (b := m) (by omega) (by omega)).mp c38
            refine lv_aload_n hX_ hB_ dL_demand__41 rfl (lv_at hl 2 rfl) ?_
            refine lv_sipush (v := 141) hX_ hB_ dL_demand__42 (by decide) ?_
            refine lv_iconst (v := 5) hX_ hB_ dL_demand__45 (by decide) ?_
            refine lv_iload_n hX_ hB_ dL_demand__46 rfl (lv_at hl 0 rfl) ?_
            refine lv_imul hX_ hB_ dL_demand__47 ?_
            refine ze_top (xb_mul (a := 5) (b := i4) (c := 5 * i4) (by omega)) ?_
            refine lv_iadd hX_ hB_ dL_demand__48 ?_
            refine ze_top (xb_add (a := 141) (b := 5 * i4) (c := 5 * i4 + 141) (by omega)) ?_
            refine ze_ialdN hX_ hB_ hK hW 0 (f := N) rfl (i := 5 * i4 + 141) (by omega) (by decide) dL_demand__49 ?_
            refine lv_goto (tgt := 54) hX_ hB_ dL_demand__50 (by decide) ?_
            refine lv_iadd hX_ hB_ dL_demand__54 ?_
            refine lv_istore_n (lv' := [(2, .int (xa_dm N (n 1) m i4 + N (5 * i4 + 141))), (3, .int (nI i4)), (0, .ref q), (1, .int (nI m))]) hX_ hB_ dL_demand__55 rfl hl (by decide) rfl (fun ls hl => ?_)
            refine lv_iinc (v := nI (i4 + 1)) (lv' := [(3, .int (nI (i4 + 1))), (2, .int (xa_dm N (n 1) m i4 + N (5 * i4 + 141))), (0, .ref q), (1, .int (nI m))]) hX_ hB_ dL_demand__56 hl (k := 1) rfl (ze_inc _) (by decide) rfl (fun ls hl => ?_)
            refine lv_goto (tgt := 4) hX_ hB_ dL_demand__59 (by decide) ?_
            have eL2 : xa_dm N (n 1) m i4 + N (5 * i4 + 141) = xa_dm N (n 1) m (i4 + 1) := (by simp only [ze_b, xa_dm, ze_sum, eq_true c8, eq_true c21, eq_true c38, not_true_eq_false, not_false_eq_true, and_true, true_and, and_false, false_and, or_true, true_or, or_false, false_or, and_self, or_self, Decidable.not_not, if_true, if_false, reduceIte, reduceCtorEq, ne_eq, eq_self, Int32.lt_irrefl, Int32.le_refl, Nat.lt_irrefl])
            have hl : lv_has ls 4 [(3, .int (nI (i4 + 1))), (2, .int (xa_dm N (n 1) m (i4 + 1))), (0, .ref q), (1, .int (nI m))] := by
              first | (rw [← eL2]; exact hl) | (simp only [← eL2]; exact hl)
            exact ih4 (i4 + 1) (by omega) (by omega) _ _ ls hW (lv_sub hl [0, 1, 2, 3] rfl)
  have hl : lv_has ls 4 [(3, .int (nI 0)), (2, .int (xa_dm N (n 1) m 0)), (0, .ref q), (1, .int (nI m))] := hl
  have hW : ze_W D ([(q, .inl (c 0, 210, .inl N))] : va_W) F s.heap _ _ := hW
  exact L4 _ 0 (by omega) (Nat.lt_succ_self _) _ _ ls hW (lv_sub hl [0, 1, 2, 3] rfl)
