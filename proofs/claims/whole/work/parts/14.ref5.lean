set_option maxHeartbeats 4000000 in
set_option maxRecDepth 100000 in
theorem zr_addGenerator_t1 (l : Launch) (D : va_G) (c : Nat → ClassId) (d n : Nat → Nat) (A : Nat → Nat → Int32) (B : Nat → Int64) (mk : Nat → Int32) (th : Int32) (x : Int32) (hN : zf_N n) (hx : ¬ zf_isIn x 0 (nI (n 0) - 1)) (le gr wu fu : Int32) : ze_I l yX9_addGenerator wsX9_addGenerator 2 43 0 0 D c (ze_wR c d n A B mk th) [.ref (d 0), .int x, .int le, .int gr, .int wu, .int fu] 0 (ze_wR c d n A B mk 1) := by
  intro sz
  refine ze_start (cc := cX9_addGenerator) (maxL := 8) (ret := (some .int)) (own := RX9) (by decide) rfl rfl (Nat.le_of_ble_eq_true rfl) ?_
  obtain ⟨hn0, hn1, hn2, hn3, hn4⟩ := id hN
  intro p e s m_ below meth cd F ls hF hsz E0
  obtain ⟨S, hr, hlocks, hK, hW, hA, hl⟩ := E0
  have hX_ := S.1
  have hB_ := S.2.1
  have hts := S.2.2.2.2
  have hl : lv_has ls 8 [(0, .ref (d 0)), (1, .int x), (2, .int le), (3, .int gr), (4, .int wu), (5, .int fu)] := hl
  refine lv_iload_n hX_ hB_ dX9_addGenerator_0 rfl (lv_at hl 2 rfl) ?_
  refine lv_iconst (v := 0) hX_ hB_ dX9_addGenerator_1 (by decide) ?_
  refine lv_bipush (v := 100) hX_ hB_ dX9_addGenerator_2 (by decide) ?_
  refine ze_Si (As := [.int le, .int 0, .int 100]) (rest := []) S (zr_isIn l D c (ze_wR c d n A B mk th) le 0 100) (va_cwS 3 hts gX9_addGenerator_X9_isIn rfl rfl rfl (by decide +kernel) ⟨Nat.le_of_ble_eq_true rfl, Nat.le_of_ble_eq_true rfl⟩) hK hW hA rfl hl.1 rfl (lv_room (Nat.le_of_ble_eq_true rfl)) dX9_addGenerator_4 ⟨Nat.le_of_ble_eq_true rfl, Nat.le_of_ble_eq_true rfl⟩ (fun H locs hW => ?_)
  refine lv_if_eq (tgt := 53) hX_ hB_ dX9_addGenerator_7 (by decide) (fun c7 => ?_) (fun c7 => ?_)
  · have c7 : ¬ (zf_isIn le 0 100) := ze_bf c7
    refine lv_iconst (v := 0) hX_ hB_ dX9_addGenerator_53 (by decide) ?_
    refine lv_istore (lv' := [(6, .int 0), (0, .ref (d 0)), (1, .int x), (2, .int le), (3, .int gr), (4, .int wu), (5, .int fu)]) hX_ hB_ dX9_addGenerator_54 hl (by decide) rfl (fun ls hl => ?_)
    refine lv_aload_n hX_ hB_ dX9_addGenerator_56 rfl (lv_at hl 1 rfl) ?_
    refine lv_iload_n hX_ hB_ dX9_addGenerator_57 rfl (lv_at hl 2 rfl) ?_
    refine ze_Vi (As := [.int x]) (rest := []) (ci := 9) (q0 := 0) (k := (RX9, TX9, 39)) S (zr_isNoSite l D c d n A B mk th x) (cwV 1 hts gX9_addGenerator_X9_isNoSite rfl rfl rfl (by decide +kernel) ⟨Nat.le_of_ble_eq_true rfl, Nat.le_of_ble_eq_true rfl⟩) hK hW hA rfl rfl rfl hl.1 rfl (lv_room (Nat.le_of_ble_eq_true rfl)) dX9_addGenerator_58 ⟨Nat.le_of_ble_eq_true rfl, Nat.le_of_ble_eq_true rfl⟩ (fun H locs hW => ?_)
    have hW : ze_W D (ze_wR c d n A B mk (if zf_isIn x 0 (nI (n 0) - 1) then 0 else 1)) F s.heap _ _ := hW
    refine lv_if_ne (tgt := 104) hX_ hB_ dX9_addGenerator_61 (by decide) (fun c61 => ?_) (fun c61 => ?_)
    · have c61 : ¬ zf_isIn x 0 (nI (n 0) - 1) := ze_bt c61
      refine lv_iconst (v := 0) hX_ hB_ dX9_addGenerator_104 (by decide) ?_
      exact ze_iret S hr hlocks hF hK hW rfl dX9_addGenerator_105 (Nat.le_of_ble_eq_true rfl) (Nat.le_of_ble_eq_true rfl) rfl (by simp only [ze_b, eq_false hx, eq_false c7, eq_false c61, not_true_eq_false, not_false_eq_true, and_true, true_and, and_false, false_and, or_true, true_or, or_false, false_or, and_self, or_self, Decidable.not_not, if_true, if_false, reduceIte, reduceCtorEq, ne_eq, eq_self, Int32.lt_irrefl, Int32.le_refl, Nat.lt_irrefl])
    · have c61 : ¬ (¬ zf_isIn x 0 (nI (n 0) - 1)) := ze_bf c61
      have c61 : zf_isIn x 0 (nI (n 0) - 1) := Decidable.of_not_not c61
      exact absurd c61 hx
  · have c7 : zf_isIn le 0 100 := ze_bt c7
    refine lv_iload_n hX_ hB_ dX9_addGenerator_10 rfl (lv_at hl 3 rfl) ?_
    refine lv_iconst (v := 1) hX_ hB_ dX9_addGenerator_11 (by decide) ?_
    refine lv_sipush (v := 200) hX_ hB_ dX9_addGenerator_12 (by decide) ?_
    refine ze_Si (As := [.int gr, .int 1, .int 200]) (rest := []) S (zr_isIn l D c (ze_wR c d n A B mk th) gr 1 200) (va_cwS 3 hts gX9_addGenerator_X9_isIn rfl rfl rfl (by decide +kernel) ⟨Nat.le_of_ble_eq_true rfl, Nat.le_of_ble_eq_true rfl⟩) hK hW hA rfl hl.1 rfl (lv_room (Nat.le_of_ble_eq_true rfl)) dX9_addGenerator_15 ⟨Nat.le_of_ble_eq_true rfl, Nat.le_of_ble_eq_true rfl⟩ (fun H locs hW => ?_)
    refine lv_if_eq (tgt := 53) hX_ hB_ dX9_addGenerator_18 (by decide) (fun c18 => ?_) (fun c18 => ?_)
    · have c18 : ¬ (zf_isIn gr 1 200) := ze_bf c18
      refine lv_iconst (v := 0) hX_ hB_ dX9_addGenerator_53 (by decide) ?_
      refine lv_istore (lv' := [(6, .int 0), (0, .ref (d 0)), (1, .int x), (2, .int le), (3, .int gr), (4, .int wu), (5, .int fu)]) hX_ hB_ dX9_addGenerator_54 hl (by decide) rfl (fun ls hl => ?_)
      refine lv_aload_n hX_ hB_ dX9_addGenerator_56 rfl (lv_at hl 1 rfl) ?_
      refine lv_iload_n hX_ hB_ dX9_addGenerator_57 rfl (lv_at hl 2 rfl) ?_
      refine ze_Vi (As := [.int x]) (rest := []) (ci := 9) (q0 := 0) (k := (RX9, TX9, 39)) S (zr_isNoSite l D c d n A B mk th x) (cwV 1 hts gX9_addGenerator_X9_isNoSite rfl rfl rfl (by decide +kernel) ⟨Nat.le_of_ble_eq_true rfl, Nat.le_of_ble_eq_true rfl⟩) hK hW hA rfl rfl rfl hl.1 rfl (lv_room (Nat.le_of_ble_eq_true rfl)) dX9_addGenerator_58 ⟨Nat.le_of_ble_eq_true rfl, Nat.le_of_ble_eq_true rfl⟩ (fun H locs hW => ?_)
      have hW : ze_W D (ze_wR c d n A B mk (if zf_isIn x 0 (nI (n 0) - 1) then 0 else 1)) F s.heap _ _ := hW
      refine lv_if_ne (tgt := 104) hX_ hB_ dX9_addGenerator_61 (by decide) (fun c61 => ?_) (fun c61 => ?_)
      · have c61 : ¬ zf_isIn x 0 (nI (n 0) - 1) := ze_bt c61
        refine lv_iconst (v := 0) hX_ hB_ dX9_addGenerator_104 (by decide) ?_
        exact ze_iret S hr hlocks hF hK hW rfl dX9_addGenerator_105 (Nat.le_of_ble_eq_true rfl) (Nat.le_of_ble_eq_true rfl) rfl (by simp only [ze_b, eq_false hx, eq_true c7, eq_false c18, eq_false c61, not_true_eq_false, not_false_eq_true, and_true, true_and, and_false, false_and, or_true, true_or, or_false, false_or, and_self, or_self, Decidable.not_not, if_true, if_false, reduceIte, reduceCtorEq, ne_eq, eq_self, Int32.lt_irrefl, Int32.le_refl, Nat.lt_irrefl])
      · have c61 : ¬ (¬ zf_isIn x 0 (nI (n 0) - 1)) := ze_bf c61
        have c61 : zf_isIn x 0 (nI (n 0) - 1) := Decidable.of_not_not c61
        exact absurd c61 hx
    · have c18 : zf_isIn gr 1 200 := ze_bt c18
      refine lv_iload_n hX_ hB_ dX9_addGenerator_21 rfl (lv_at hl 3 rfl) ?_
      refine lv_iload_n hX_ hB_ dX9_addGenerator_22 rfl (lv_at hl 2 rfl) ?_
      refine lv_icmp_lt (tgt := 53) hX_ hB_ dX9_addGenerator_23 (by decide) (fun c23 => ?_) (fun c23 => ?_)
      · refine lv_iconst (v := 0) hX_ hB_ dX9_addGenerator_53 (by decide) ?_
        refine lv_istore (lv' := [(6, .int 0), (0, .ref (d 0)), (1, .int x), (2, .int le), (3, .int gr), (4, .int wu), (5, .int fu)]) hX_ hB_ dX9_addGenerator_54 hl (by decide) rfl (fun ls hl => ?_)
        refine lv_aload_n hX_ hB_ dX9_addGenerator_56 rfl (lv_at hl 1 rfl) ?_
        refine lv_iload_n hX_ hB_ dX9_addGenerator_57 rfl (lv_at hl 2 rfl) ?_
        refine ze_Vi (As := [.int x]) (rest := []) (ci := 9) (q0 := 0) (k := (RX9, TX9, 39)) S (zr_isNoSite l D c d n A B mk th x) (cwV 1 hts gX9_addGenerator_X9_isNoSite rfl rfl rfl (by decide +kernel) ⟨Nat.le_of_ble_eq_true rfl, Nat.le_of_ble_eq_true rfl⟩) hK hW hA rfl rfl rfl hl.1 rfl (lv_room (Nat.le_of_ble_eq_true rfl)) dX9_addGenerator_58 ⟨Nat.le_of_ble_eq_true rfl, Nat.le_of_ble_eq_true rfl⟩ (fun H locs hW => ?_)
        have hW : ze_W D (ze_wR c d n A B mk (if zf_isIn x 0 (nI (n 0) - 1) then 0 else 1)) F s.heap _ _ := hW
        refine lv_if_ne (tgt := 104) hX_ hB_ dX9_addGenerator_61 (by decide) (fun c61 => ?_) (fun c61 => ?_)
        · have c61 : ¬ zf_isIn x 0 (nI (n 0) - 1) := ze_bt c61
          refine lv_iconst (v := 0) hX_ hB_ dX9_addGenerator_104 (by decide) ?_
          exact ze_iret S hr hlocks hF hK hW rfl dX9_addGenerator_105 (Nat.le_of_ble_eq_true rfl) (Nat.le_of_ble_eq_true rfl) rfl (by simp only [ze_b, eq_false hx, eq_true c7, eq_true c18, eq_true c23, eq_false c61, not_true_eq_false, not_false_eq_true, and_true, true_and, and_false, false_and, or_true, true_or, or_false, false_or, and_self, or_self, Decidable.not_not, if_true, if_false, reduceIte, reduceCtorEq, ne_eq, eq_self, Int32.lt_irrefl, Int32.le_refl, Nat.lt_irrefl])
        · have c61 : ¬ (¬ zf_isIn x 0 (nI (n 0) - 1)) := ze_bf c61
          have c61 : zf_isIn x 0 (nI (n 0) - 1) := Decidable.of_not_not c61
          exact absurd c61 hx
      · refine lv_iload hX_ hB_ dX9_addGenerator_26 (lv_at hl 4 rfl) ?_
        refine lv_iconst (v := 0) hX_ hB_ dX9_addGenerator_28 (by decide) ?_
        refine lv_bipush (v := 9) hX_ hB_ dX9_addGenerator_29 (by decide) ?_
        refine ze_Si (As := [.int wu, .int 0, .int 9]) (rest := []) S (zr_isIn l D c (ze_wR c d n A B mk th) wu 0 9) (va_cwS 3 hts gX9_addGenerator_X9_isIn rfl rfl rfl (by decide +kernel) ⟨Nat.le_of_ble_eq_true rfl, Nat.le_of_ble_eq_true rfl⟩) hK hW hA rfl hl.1 rfl (lv_room (Nat.le_of_ble_eq_true rfl)) dX9_addGenerator_31 ⟨Nat.le_of_ble_eq_true rfl, Nat.le_of_ble_eq_true rfl⟩ (fun H locs hW => ?_)
        refine lv_if_eq (tgt := 53) hX_ hB_ dX9_addGenerator_34 (by decide) (fun c34 => ?_) (fun c34 => ?_)
        · have c34 : ¬ (zf_isIn wu 0 9) := ze_bf c34
          refine lv_iconst (v := 0) hX_ hB_ dX9_addGenerator_53 (by decide) ?_
          refine lv_istore (lv' := [(6, .int 0), (0, .ref (d 0)), (1, .int x), (2, .int le), (3, .int gr), (4, .int wu), (5, .int fu)]) hX_ hB_ dX9_addGenerator_54 hl (by decide) rfl (fun ls hl => ?_)
          refine lv_aload_n hX_ hB_ dX9_addGenerator_56 rfl (lv_at hl 1 rfl) ?_
          refine lv_iload_n hX_ hB_ dX9_addGenerator_57 rfl (lv_at hl 2 rfl) ?_
          refine ze_Vi (As := [.int x]) (rest := []) (ci := 9) (q0 := 0) (k := (RX9, TX9, 39)) S (zr_isNoSite l D c d n A B mk th x) (cwV 1 hts gX9_addGenerator_X9_isNoSite rfl rfl rfl (by decide +kernel) ⟨Nat.le_of_ble_eq_true rfl, Nat.le_of_ble_eq_true rfl⟩) hK hW hA rfl rfl rfl hl.1 rfl (lv_room (Nat.le_of_ble_eq_true rfl)) dX9_addGenerator_58 ⟨Nat.le_of_ble_eq_true rfl, Nat.le_of_ble_eq_true rfl⟩ (fun H locs hW => ?_)
          have hW : ze_W D (ze_wR c d n A B mk (if zf_isIn x 0 (nI (n 0) - 1) then 0 else 1)) F s.heap _ _ := hW
          refine lv_if_ne (tgt := 104) hX_ hB_ dX9_addGenerator_61 (by decide) (fun c61 => ?_) (fun c61 => ?_)
          · have c61 : ¬ zf_isIn x 0 (nI (n 0) - 1) := ze_bt c61
            refine lv_iconst (v := 0) hX_ hB_ dX9_addGenerator_104 (by decide) ?_
            exact ze_iret S hr hlocks hF hK hW rfl dX9_addGenerator_105 (Nat.le_of_ble_eq_true rfl) (Nat.le_of_ble_eq_true rfl) rfl (by simp only [ze_b, eq_false hx, eq_true c7, eq_true c18, eq_false c23, eq_false c34, eq_false c61, not_true_eq_false, not_false_eq_true, and_true, true_and, and_false, false_and, or_true, true_or, or_false, false_or, and_self, or_self, Decidable.not_not, if_true, if_false, reduceIte, reduceCtorEq, ne_eq, eq_self, Int32.lt_irrefl, Int32.le_refl, Nat.lt_irrefl])
          · have c61 : ¬ (¬ zf_isIn x 0 (nI (n 0) - 1)) := ze_bf c61
            have c61 : zf_isIn x 0 (nI (n 0) - 1) := Decidable.of_not_not c61
            exact absurd c61 hx
        · have c34 : zf_isIn wu 0 9 := ze_bt c34
          refine lv_iload hX_ hB_ dX9_addGenerator_37 (lv_at hl 5 rfl) ?_
          refine lv_iconst (v := 0) hX_ hB_ dX9_addGenerator_39 (by decide) ?_
          refine lv_sipush (v := 9999) hX_ hB_ dX9_addGenerator_40 (by decide) ?_
          refine ze_Si (As := [.int fu, .int 0, .int 9999]) (rest := []) S (zr_isIn l D c (ze_wR c d n A B mk th) fu 0 9999) (va_cwS 3 hts gX9_addGenerator_X9_isIn rfl rfl rfl (by decide +kernel) ⟨Nat.le_of_ble_eq_true rfl, Nat.le_of_ble_eq_true rfl⟩) hK hW hA rfl hl.1 rfl (lv_room (Nat.le_of_ble_eq_true rfl)) dX9_addGenerator_43 ⟨Nat.le_of_ble_eq_true rfl, Nat.le_of_ble_eq_true rfl⟩ (fun H locs hW => ?_)
          refine lv_if_eq (tgt := 53) hX_ hB_ dX9_addGenerator_46 (by decide) (fun c46 => ?_) (fun c46 => ?_)
          · have c46 : ¬ (zf_isIn fu 0 9999) := ze_bf c46
            refine lv_iconst (v := 0) hX_ hB_ dX9_addGenerator_53 (by decide) ?_
            refine lv_istore (lv' := [(6, .int 0), (0, .ref (d 0)), (1, .int x), (2, .int le), (3, .int gr), (4, .int wu), (5, .int fu)]) hX_ hB_ dX9_addGenerator_54 hl (by decide) rfl (fun ls hl => ?_)
            refine lv_aload_n hX_ hB_ dX9_addGenerator_56 rfl (lv_at hl 1 rfl) ?_
            refine lv_iload_n hX_ hB_ dX9_addGenerator_57 rfl (lv_at hl 2 rfl) ?_
            refine ze_Vi (As := [.int x]) (rest := []) (ci := 9) (q0 := 0) (k := (RX9, TX9, 39)) S (zr_isNoSite l D c d n A B mk th x) (cwV 1 hts gX9_addGenerator_X9_isNoSite rfl rfl rfl (by decide +kernel) ⟨Nat.le_of_ble_eq_true rfl, Nat.le_of_ble_eq_true rfl⟩) hK hW hA rfl rfl rfl hl.1 rfl (lv_room (Nat.le_of_ble_eq_true rfl)) dX9_addGenerator_58 ⟨Nat.le_of_ble_eq_true rfl, Nat.le_of_ble_eq_true rfl⟩ (fun H locs hW => ?_)
            have hW : ze_W D (ze_wR c d n A B mk (if zf_isIn x 0 (nI (n 0) - 1) then 0 else 1)) F s.heap _ _ := hW
            refine lv_if_ne (tgt := 104) hX_ hB_ dX9_addGenerator_61 (by decide) (fun c61 => ?_) (fun c61 => ?_)
            · have c61 : ¬ zf_isIn x 0 (nI (n 0) - 1) := ze_bt c61
              refine lv_iconst (v := 0) hX_ hB_ dX9_addGenerator_104 (by decide) ?_
              exact ze_iret S hr hlocks hF hK hW rfl dX9_addGenerator_105 (Nat.le_of_ble_eq_true rfl) (Nat.le_of_ble_eq_true rfl) rfl (by simp only [ze_b, eq_false hx, eq_true c7, eq_true c18, eq_false c23, eq_true c34, eq_false c46, eq_false c61, not_true_eq_false, not_false_eq_true, and_true, true_and, and_false, false_and, or_true, true_or, or_false, false_or, and_self, or_self, Decidable.not_not, if_true, if_false, reduceIte, reduceCtorEq, ne_eq, eq_self, Int32.lt_irrefl, Int32.le_refl, Nat.lt_irrefl])
            · have c61 : ¬ (¬ zf_isIn x 0 (nI (n 0) - 1)) := ze_bf c61
              have c61 : zf_isIn x 0 (nI (n 0) - 1) := Decidable.of_not_not c61
              exact absurd c61 hx
          · have c46 : zf_isIn fu 0 9999 := ze_bt c46
            refine lv_iconst (v := 1) hX_ hB_ dX9_addGenerator_49 (by decide) ?_
            refine lv_goto (tgt := 54) hX_ hB_ dX9_addGenerator_50 (by decide) ?_
            refine lv_istore (lv' := [(6, .int 1), (0, .ref (d 0)), (1, .int x), (2, .int le), (3, .int gr), (4, .int wu), (5, .int fu)]) hX_ hB_ dX9_addGenerator_54 hl (by decide) rfl (fun ls hl => ?_)
            refine lv_aload_n hX_ hB_ dX9_addGenerator_56 rfl (lv_at hl 1 rfl) ?_
            refine lv_iload_n hX_ hB_ dX9_addGenerator_57 rfl (lv_at hl 2 rfl) ?_
            refine ze_Vi (As := [.int x]) (rest := []) (ci := 9) (q0 := 0) (k := (RX9, TX9, 39)) S (zr_isNoSite l D c d n A B mk th x) (cwV 1 hts gX9_addGenerator_X9_isNoSite rfl rfl rfl (by decide +kernel) ⟨Nat.le_of_ble_eq_true rfl, Nat.le_of_ble_eq_true rfl⟩) hK hW hA rfl rfl rfl hl.1 rfl (lv_room (Nat.le_of_ble_eq_true rfl)) dX9_addGenerator_58 ⟨Nat.le_of_ble_eq_true rfl, Nat.le_of_ble_eq_true rfl⟩ (fun H locs hW => ?_)
            have hW : ze_W D (ze_wR c d n A B mk (if zf_isIn x 0 (nI (n 0) - 1) then 0 else 1)) F s.heap _ _ := hW
            refine lv_if_ne (tgt := 104) hX_ hB_ dX9_addGenerator_61 (by decide) (fun c61 => ?_) (fun c61 => ?_)
            · have c61 : ¬ zf_isIn x 0 (nI (n 0) - 1) := ze_bt c61
              refine lv_iconst (v := 0) hX_ hB_ dX9_addGenerator_104 (by decide) ?_
              exact ze_iret S hr hlocks hF hK hW rfl dX9_addGenerator_105 (Nat.le_of_ble_eq_true rfl) (Nat.le_of_ble_eq_true rfl) rfl (by simp only [ze_b, eq_false hx, eq_true c7, eq_true c18, eq_false c23, eq_true c34, eq_true c46, eq_false c61, not_true_eq_false, not_false_eq_true, and_true, true_and, and_false, false_and, or_true, true_or, or_false, false_or, and_self, or_self, Decidable.not_not, if_true, if_false, reduceIte, reduceCtorEq, ne_eq, eq_self, Int32.lt_irrefl, Int32.le_refl, Nat.lt_irrefl])
            · have c61 : ¬ (¬ zf_isIn x 0 (nI (n 0) - 1)) := ze_bf c61
              have c61 : zf_isIn x 0 (nI (n 0) - 1) := Decidable.of_not_not c61
              exact absurd c61 hx
set_option maxHeartbeats 4000000 in
set_option maxRecDepth 100000 in
theorem zr_addGenerator_t2a (l : Launch) (D : va_G) (c : Nat → ClassId) (d n : Nat → Nat) (A : Nat → Nat → Int32) (B : Nat → Int64) (mk : Nat → Int32) (th : Int32) (j : Nat) (hN : zf_N n) (hj : j < n 0) (le gr wu fu : Int32) (h1 : ¬ zf_isIn le 0 100) : ze_I l yX9_addGenerator wsX9_addGenerator 2 43 0 0 D c (ze_wR c d n A B mk th) [.ref (d 0), .int (nI j), .int le, .int gr, .int wu, .int fu] 0 (ze_wR c d n A B mk 2) := by
  intro sz
  refine ze_start (cc := cX9_addGenerator) (maxL := 8) (ret := (some .int)) (own := RX9) (by decide) rfl rfl (Nat.le_of_ble_eq_true rfl) ?_
  obtain ⟨hn0, hn1, hn2, hn3, hn4⟩ := id hN
  have hinj : zf_isIn (nI j) 0 (nI (n 0) - 1) := zf_isInN hj (by omega)
  intro p e s m_ below meth cd F ls hF hsz E0
  obtain ⟨S, hr, hlocks, hK, hW, hA, hl⟩ := E0
  have hX_ := S.1
  have hB_ := S.2.1
  have hts := S.2.2.2.2
  have hl : lv_has ls 8 [(0, .ref (d 0)), (1, .int (nI j)), (2, .int le), (3, .int gr), (4, .int wu), (5, .int fu)] := hl
  refine lv_iload_n hX_ hB_ dX9_addGenerator_0 rfl (lv_at hl 2 rfl) ?_
  refine lv_iconst (v := 0) hX_ hB_ dX9_addGenerator_1 (by decide) ?_
  refine lv_bipush (v := 100) hX_ hB_ dX9_addGenerator_2 (by decide) ?_
  refine ze_Si (As := [.int le, .int 0, .int 100]) (rest := []) S (zr_isIn l D c (ze_wR c d n A B mk th) le 0 100) (va_cwS 3 hts gX9_addGenerator_X9_isIn rfl rfl rfl (by decide +kernel) ⟨Nat.le_of_ble_eq_true rfl, Nat.le_of_ble_eq_true rfl⟩) hK hW hA rfl hl.1 rfl (lv_room (Nat.le_of_ble_eq_true rfl)) dX9_addGenerator_4 ⟨Nat.le_of_ble_eq_true rfl, Nat.le_of_ble_eq_true rfl⟩ (fun H locs hW => ?_)
  refine lv_if_eq (tgt := 53) hX_ hB_ dX9_addGenerator_7 (by decide) (fun c7 => ?_) (fun c7 => ?_)
  · have c7 : ¬ (zf_isIn le 0 100) := ze_bf c7
    refine lv_iconst (v := 0) hX_ hB_ dX9_addGenerator_53 (by decide) ?_
    refine lv_istore (lv' := [(6, .int 0), (0, .ref (d 0)), (1, .int (nI j)), (2, .int le), (3, .int gr), (4, .int wu), (5, .int fu)]) hX_ hB_ dX9_addGenerator_54 hl (by decide) rfl (fun ls hl => ?_)
    refine lv_aload_n hX_ hB_ dX9_addGenerator_56 rfl (lv_at hl 1 rfl) ?_
    refine lv_iload_n hX_ hB_ dX9_addGenerator_57 rfl (lv_at hl 2 rfl) ?_
    refine ze_Vi (As := [.int (nI j)]) (rest := []) (ci := 9) (q0 := 0) (k := (RX9, TX9, 39)) S (zr_isNoSite l D c d n A B mk th (nI j)) (cwV 1 hts gX9_addGenerator_X9_isNoSite rfl rfl rfl (by decide +kernel) ⟨Nat.le_of_ble_eq_true rfl, Nat.le_of_ble_eq_true rfl⟩) hK hW hA rfl rfl rfl hl.1 rfl (lv_room (Nat.le_of_ble_eq_true rfl)) dX9_addGenerator_58 ⟨Nat.le_of_ble_eq_true rfl, Nat.le_of_ble_eq_true rfl⟩ (fun H locs hW => ?_)
    have hW : ze_W D (ze_wR c d n A B mk (if zf_isIn (nI j) 0 (nI (n 0) - 1) then 0 else 1)) F s.heap _ _ := hW
    refine lv_if_ne (tgt := 104) hX_ hB_ dX9_addGenerator_61 (by decide) (fun c61 => ?_) (fun c61 => ?_)
    · have c61 : ¬ zf_isIn (nI j) 0 (nI (n 0) - 1) := ze_bt c61
      exact absurd hinj c61
    · have c61 : ¬ (¬ zf_isIn (nI j) 0 (nI (n 0) - 1)) := ze_bf c61
      have c61 : zf_isIn (nI j) 0 (nI (n 0) - 1) := Decidable.of_not_not c61
      refine lv_aload_n hX_ hB_ dX9_addGenerator_64 rfl (lv_at hl 1 rfl) ?_
      refine lv_iload hX_ hB_ dX9_addGenerator_65 (lv_at hl 0 rfl) ?_
      refine lv_if_ne (tgt := 74) hX_ hB_ dX9_addGenerator_67 (by decide) (fun c67 => ?_) (fun c67 => ?_)
      · exact absurd c67 (by decide)
      · refine lv_iconst (v := 1) hX_ hB_ dX9_addGenerator_70 (by decide) ?_
        refine lv_goto (tgt := 75) hX_ hB_ dX9_addGenerator_71 (by decide) ?_
        refine lv_iconst (v := 2) hX_ hB_ dX9_addGenerator_75 (by decide) ?_
        refine ze_Vi (As := [.int 1, .int 2]) (rest := []) (ci := 9) (q0 := 0) (k := (RX9, TX9, 39)) S (zr_isThrown l D c d n A B mk (if zf_isIn (nI j) 0 (nI (n 0) - 1) then 0 else 1) 1 2 2 rfl (if_neg (by decide))) (cwV 2 hts gX9_addGenerator_X9_isThrown rfl rfl rfl (by decide +kernel) ⟨Nat.le_of_ble_eq_true rfl, Nat.le_of_ble_eq_true rfl⟩) hK hW hA rfl rfl rfl hl.1 rfl (lv_room (Nat.le_of_ble_eq_true rfl)) dX9_addGenerator_76 ⟨Nat.le_of_ble_eq_true rfl, Nat.le_of_ble_eq_true rfl⟩ (fun H locs hW => ?_)
        have hW : ze_W D (ze_wR c d n A B mk 2) F s.heap _ _ := hW
        refine lv_if_ne (tgt := 104) hX_ hB_ dX9_addGenerator_79 (by decide) (fun c79 => ?_) (fun c79 => ?_)
        · refine lv_iconst (v := 0) hX_ hB_ dX9_addGenerator_104 (by decide) ?_
          exact ze_iret S hr hlocks hF hK hW rfl dX9_addGenerator_105 (Nat.le_of_ble_eq_true rfl) (Nat.le_of_ble_eq_true rfl) rfl rfl
        · exact absurd c79 (by decide)
  · have c7 : zf_isIn le 0 100 := ze_bt c7
    exact absurd c7 h1
set_option maxHeartbeats 4000000 in
set_option maxRecDepth 100000 in
theorem zr_addGenerator_t2b (l : Launch) (D : va_G) (c : Nat → ClassId) (d n : Nat → Nat) (A : Nat → Nat → Int32) (B : Nat → Int64) (mk : Nat → Int32) (th : Int32) (j : Nat) (hN : zf_N n) (hj : j < n 0) (le gr wu fu : Int32) (h1 : zf_isIn le 0 100) (h2 : ¬ zf_isIn gr 1 200) : ze_I l yX9_addGenerator wsX9_addGenerator 2 43 0 0 D c (ze_wR c d n A B mk th) [.ref (d 0), .int (nI j), .int le, .int gr, .int wu, .int fu] 0 (ze_wR c d n A B mk 2) := by
  intro sz
  refine ze_start (cc := cX9_addGenerator) (maxL := 8) (ret := (some .int)) (own := RX9) (by decide) rfl rfl (Nat.le_of_ble_eq_true rfl) ?_
  obtain ⟨hn0, hn1, hn2, hn3, hn4⟩ := id hN
  have hinj : zf_isIn (nI j) 0 (nI (n 0) - 1) := zf_isInN hj (by omega)
  intro p e s m_ below meth cd F ls hF hsz E0
  obtain ⟨S, hr, hlocks, hK, hW, hA, hl⟩ := E0
  have hX_ := S.1
  have hB_ := S.2.1
  have hts := S.2.2.2.2
  have hl : lv_has ls 8 [(0, .ref (d 0)), (1, .int (nI j)), (2, .int le), (3, .int gr), (4, .int wu), (5, .int fu)] := hl
  refine lv_iload_n hX_ hB_ dX9_addGenerator_0 rfl (lv_at hl 2 rfl) ?_
  refine lv_iconst (v := 0) hX_ hB_ dX9_addGenerator_1 (by decide) ?_
  refine lv_bipush (v := 100) hX_ hB_ dX9_addGenerator_2 (by decide) ?_
  refine ze_Si (As := [.int le, .int 0, .int 100]) (rest := []) S (zr_isIn l D c (ze_wR c d n A B mk th) le 0 100) (va_cwS 3 hts gX9_addGenerator_X9_isIn rfl rfl rfl (by decide +kernel) ⟨Nat.le_of_ble_eq_true rfl, Nat.le_of_ble_eq_true rfl⟩) hK hW hA rfl hl.1 rfl (lv_room (Nat.le_of_ble_eq_true rfl)) dX9_addGenerator_4 ⟨Nat.le_of_ble_eq_true rfl, Nat.le_of_ble_eq_true rfl⟩ (fun H locs hW => ?_)
  refine lv_if_eq (tgt := 53) hX_ hB_ dX9_addGenerator_7 (by decide) (fun c7 => ?_) (fun c7 => ?_)
  · have c7 : ¬ (zf_isIn le 0 100) := ze_bf c7
    exact absurd h1 c7
  · have c7 : zf_isIn le 0 100 := ze_bt c7
    refine lv_iload_n hX_ hB_ dX9_addGenerator_10 rfl (lv_at hl 3 rfl) ?_
    refine lv_iconst (v := 1) hX_ hB_ dX9_addGenerator_11 (by decide) ?_
    refine lv_sipush (v := 200) hX_ hB_ dX9_addGenerator_12 (by decide) ?_
    refine ze_Si (As := [.int gr, .int 1, .int 200]) (rest := []) S (zr_isIn l D c (ze_wR c d n A B mk th) gr 1 200) (va_cwS 3 hts gX9_addGenerator_X9_isIn rfl rfl rfl (by decide +kernel) ⟨Nat.le_of_ble_eq_true rfl, Nat.le_of_ble_eq_true rfl⟩) hK hW hA rfl hl.1 rfl (lv_room (Nat.le_of_ble_eq_true rfl)) dX9_addGenerator_15 ⟨Nat.le_of_ble_eq_true rfl, Nat.le_of_ble_eq_true rfl⟩ (fun H locs hW => ?_)
    refine lv_if_eq (tgt := 53) hX_ hB_ dX9_addGenerator_18 (by decide) (fun c18 => ?_) (fun c18 => ?_)
    · have c18 : ¬ (zf_isIn gr 1 200) := ze_bf c18
      refine lv_iconst (v := 0) hX_ hB_ dX9_addGenerator_53 (by decide) ?_
      refine lv_istore (lv' := [(6, .int 0), (0, .ref (d 0)), (1, .int (nI j)), (2, .int le), (3, .int gr), (4, .int wu), (5, .int fu)]) hX_ hB_ dX9_addGenerator_54 hl (by decide) rfl (fun ls hl => ?_)
      refine lv_aload_n hX_ hB_ dX9_addGenerator_56 rfl (lv_at hl 1 rfl) ?_
      refine lv_iload_n hX_ hB_ dX9_addGenerator_57 rfl (lv_at hl 2 rfl) ?_
      refine ze_Vi (As := [.int (nI j)]) (rest := []) (ci := 9) (q0 := 0) (k := (RX9, TX9, 39)) S (zr_isNoSite l D c d n A B mk th (nI j)) (cwV 1 hts gX9_addGenerator_X9_isNoSite rfl rfl rfl (by decide +kernel) ⟨Nat.le_of_ble_eq_true rfl, Nat.le_of_ble_eq_true rfl⟩) hK hW hA rfl rfl rfl hl.1 rfl (lv_room (Nat.le_of_ble_eq_true rfl)) dX9_addGenerator_58 ⟨Nat.le_of_ble_eq_true rfl, Nat.le_of_ble_eq_true rfl⟩ (fun H locs hW => ?_)
      have hW : ze_W D (ze_wR c d n A B mk (if zf_isIn (nI j) 0 (nI (n 0) - 1) then 0 else 1)) F s.heap _ _ := hW
      refine lv_if_ne (tgt := 104) hX_ hB_ dX9_addGenerator_61 (by decide) (fun c61 => ?_) (fun c61 => ?_)
      · have c61 : ¬ zf_isIn (nI j) 0 (nI (n 0) - 1) := ze_bt c61
        exact absurd hinj c61
      · have c61 : ¬ (¬ zf_isIn (nI j) 0 (nI (n 0) - 1)) := ze_bf c61
        have c61 : zf_isIn (nI j) 0 (nI (n 0) - 1) := Decidable.of_not_not c61
        refine lv_aload_n hX_ hB_ dX9_addGenerator_64 rfl (lv_at hl 1 rfl) ?_
        refine lv_iload hX_ hB_ dX9_addGenerator_65 (lv_at hl 0 rfl) ?_
        refine lv_if_ne (tgt := 74) hX_ hB_ dX9_addGenerator_67 (by decide) (fun c67 => ?_) (fun c67 => ?_)
        · exact absurd c67 (by decide)
        · refine lv_iconst (v := 1) hX_ hB_ dX9_addGenerator_70 (by decide) ?_
          refine lv_goto (tgt := 75) hX_ hB_ dX9_addGenerator_71 (by decide) ?_
          refine lv_iconst (v := 2) hX_ hB_ dX9_addGenerator_75 (by decide) ?_
          refine ze_Vi (As := [.int 1, .int 2]) (rest := []) (ci := 9) (q0 := 0) (k := (RX9, TX9, 39)) S (zr_isThrown l D c d n A B mk (if zf_isIn (nI j) 0 (nI (n 0) - 1) then 0 else 1) 1 2 2 rfl (if_neg (by decide))) (cwV 2 hts gX9_addGenerator_X9_isThrown rfl rfl rfl (by decide +kernel) ⟨Nat.le_of_ble_eq_true rfl, Nat.le_of_ble_eq_true rfl⟩) hK hW hA rfl rfl rfl hl.1 rfl (lv_room (Nat.le_of_ble_eq_true rfl)) dX9_addGenerator_76 ⟨Nat.le_of_ble_eq_true rfl, Nat.le_of_ble_eq_true rfl⟩ (fun H locs hW => ?_)
          have hW : ze_W D (ze_wR c d n A B mk 2) F s.heap _ _ := hW
          refine lv_if_ne (tgt := 104) hX_ hB_ dX9_addGenerator_79 (by decide) (fun c79 => ?_) (fun c79 => ?_)
          · refine lv_iconst (v := 0) hX_ hB_ dX9_addGenerator_104 (by decide) ?_
            exact ze_iret S hr hlocks hF hK hW rfl dX9_addGenerator_105 (Nat.le_of_ble_eq_true rfl) (Nat.le_of_ble_eq_true rfl) rfl rfl
          · exact absurd c79 (by decide)
    · have c18 : zf_isIn gr 1 200 := ze_bt c18
      exact absurd c18 h2
set_option maxHeartbeats 4000000 in
set_option maxRecDepth 100000 in
theorem zr_addGenerator_t2c (l : Launch) (D : va_G) (c : Nat → ClassId) (d n : Nat → Nat) (A : Nat → Nat → Int32) (B : Nat → Int64) (mk : Nat → Int32) (th : Int32) (j : Nat) (hN : zf_N n) (hj : j < n 0) (le gr wu fu : Int32) (h1 : zf_isIn le 0 100) (h2 : zf_isIn gr 1 200) (h3 : gr < le) : ze_I l yX9_addGenerator wsX9_addGenerator 2 43 0 0 D c (ze_wR c d n A B mk th) [.ref (d 0), .int (nI j), .int le, .int gr, .int wu, .int fu] 0 (ze_wR c d n A B mk 2) := by
  intro sz
  refine ze_start (cc := cX9_addGenerator) (maxL := 8) (ret := (some .int)) (own := RX9) (by decide) rfl rfl (Nat.le_of_ble_eq_true rfl) ?_
  obtain ⟨hn0, hn1, hn2, hn3, hn4⟩ := id hN
  have hinj : zf_isIn (nI j) 0 (nI (n 0) - 1) := zf_isInN hj (by omega)
  intro p e s m_ below meth cd F ls hF hsz E0
  obtain ⟨S, hr, hlocks, hK, hW, hA, hl⟩ := E0
  have hX_ := S.1
  have hB_ := S.2.1
  have hts := S.2.2.2.2
  have hl : lv_has ls 8 [(0, .ref (d 0)), (1, .int (nI j)), (2, .int le), (3, .int gr), (4, .int wu), (5, .int fu)] := hl
  refine lv_iload_n hX_ hB_ dX9_addGenerator_0 rfl (lv_at hl 2 rfl) ?_
  refine lv_iconst (v := 0) hX_ hB_ dX9_addGenerator_1 (by decide) ?_
  refine lv_bipush (v := 100) hX_ hB_ dX9_addGenerator_2 (by decide) ?_
  refine ze_Si (As := [.int le, .int 0, .int 100]) (rest := []) S (zr_isIn l D c (ze_wR c d n A B mk th) le 0 100) (va_cwS 3 hts gX9_addGenerator_X9_isIn rfl rfl rfl (by decide +kernel) ⟨Nat.le_of_ble_eq_true rfl, Nat.le_of_ble_eq_true rfl⟩) hK hW hA rfl hl.1 rfl (lv_room (Nat.le_of_ble_eq_true rfl)) dX9_addGenerator_4 ⟨Nat.le_of_ble_eq_true rfl, Nat.le_of_ble_eq_true rfl⟩ (fun H locs hW => ?_)
  refine lv_if_eq (tgt := 53) hX_ hB_ dX9_addGenerator_7 (by decide) (fun c7 => ?_) (fun c7 => ?_)
  · have c7 : ¬ (zf_isIn le 0 100) := ze_bf c7
    exact absurd h1 c7
  · have c7 : zf_isIn le 0 100 := ze_bt c7
    refine lv_iload_n hX_ hB_ dX9_addGenerator_10 rfl (lv_at hl 3 rfl) ?_
    refine lv_iconst (v := 1) hX_ hB_ dX9_addGenerator_11 (by decide) ?_
    refine lv_sipush (v := 200) hX_ hB_ dX9_addGenerator_12 (by decide) ?_
    refine ze_Si (As := [.int gr, .int 1, .int 200]) (rest := []) S (zr_isIn l D c (ze_wR c d n A B mk th) gr 1 200) (va_cwS 3 hts gX9_addGenerator_X9_isIn rfl rfl rfl (by decide +kernel) ⟨Nat.le_of_ble_eq_true rfl, Nat.le_of_ble_eq_true rfl⟩) hK hW hA rfl hl.1 rfl (lv_room (Nat.le_of_ble_eq_true rfl)) dX9_addGenerator_15 ⟨Nat.le_of_ble_eq_true rfl, Nat.le_of_ble_eq_true rfl⟩ (fun H locs hW => ?_)
    refine lv_if_eq (tgt := 53) hX_ hB_ dX9_addGenerator_18 (by decide) (fun c18 => ?_) (fun c18 => ?_)
    · have c18 : ¬ (zf_isIn gr 1 200) := ze_bf c18
      exact absurd h2 c18
    · have c18 : zf_isIn gr 1 200 := ze_bt c18
      refine lv_iload_n hX_ hB_ dX9_addGenerator_21 rfl (lv_at hl 3 rfl) ?_
      refine lv_iload_n hX_ hB_ dX9_addGenerator_22 rfl (lv_at hl 2 rfl) ?_
      refine lv_icmp_lt (tgt := 53) hX_ hB_ dX9_addGenerator_23 (by decide) (fun c23 => ?_) (fun c23 => ?_)
      · refine lv_iconst (v := 0) hX_ hB_ dX9_addGenerator_53 (by decide) ?_
        refine lv_istore (lv' := [(6, .int 0), (0, .ref (d 0)), (1, .int (nI j)), (2, .int le), (3, .int gr), (4, .int wu), (5, .int fu)]) hX_ hB_ dX9_addGenerator_54 hl (by decide) rfl (fun ls hl => ?_)
        refine lv_aload_n hX_ hB_ dX9_addGenerator_56 rfl (lv_at hl 1 rfl) ?_
        refine lv_iload_n hX_ hB_ dX9_addGenerator_57 rfl (lv_at hl 2 rfl) ?_
        refine ze_Vi (As := [.int (nI j)]) (rest := []) (ci := 9) (q0 := 0) (k := (RX9, TX9, 39)) S (zr_isNoSite l D c d n A B mk th (nI j)) (cwV 1 hts gX9_addGenerator_X9_isNoSite rfl rfl rfl (by decide +kernel) ⟨Nat.le_of_ble_eq_true rfl, Nat.le_of_ble_eq_true rfl⟩) hK hW hA rfl rfl rfl hl.1 rfl (lv_room (Nat.le_of_ble_eq_true rfl)) dX9_addGenerator_58 ⟨Nat.le_of_ble_eq_true rfl, Nat.le_of_ble_eq_true rfl⟩ (fun H locs hW => ?_)
        have hW : ze_W D (ze_wR c d n A B mk (if zf_isIn (nI j) 0 (nI (n 0) - 1) then 0 else 1)) F s.heap _ _ := hW
        refine lv_if_ne (tgt := 104) hX_ hB_ dX9_addGenerator_61 (by decide) (fun c61 => ?_) (fun c61 => ?_)
        · have c61 : ¬ zf_isIn (nI j) 0 (nI (n 0) - 1) := ze_bt c61
          exact absurd hinj c61
        · have c61 : ¬ (¬ zf_isIn (nI j) 0 (nI (n 0) - 1)) := ze_bf c61
          have c61 : zf_isIn (nI j) 0 (nI (n 0) - 1) := Decidable.of_not_not c61
          refine lv_aload_n hX_ hB_ dX9_addGenerator_64 rfl (lv_at hl 1 rfl) ?_
          refine lv_iload hX_ hB_ dX9_addGenerator_65 (lv_at hl 0 rfl) ?_
          refine lv_if_ne (tgt := 74) hX_ hB_ dX9_addGenerator_67 (by decide) (fun c67 => ?_) (fun c67 => ?_)
          · exact absurd c67 (by decide)
          · refine lv_iconst (v := 1) hX_ hB_ dX9_addGenerator_70 (by decide) ?_
            refine lv_goto (tgt := 75) hX_ hB_ dX9_addGenerator_71 (by decide) ?_
            refine lv_iconst (v := 2) hX_ hB_ dX9_addGenerator_75 (by decide) ?_
            refine ze_Vi (As := [.int 1, .int 2]) (rest := []) (ci := 9) (q0 := 0) (k := (RX9, TX9, 39)) S (zr_isThrown l D c d n A B mk (if zf_isIn (nI j) 0 (nI (n 0) - 1) then 0 else 1) 1 2 2 rfl (if_neg (by decide))) (cwV 2 hts gX9_addGenerator_X9_isThrown rfl rfl rfl (by decide +kernel) ⟨Nat.le_of_ble_eq_true rfl, Nat.le_of_ble_eq_true rfl⟩) hK hW hA rfl rfl rfl hl.1 rfl (lv_room (Nat.le_of_ble_eq_true rfl)) dX9_addGenerator_76 ⟨Nat.le_of_ble_eq_true rfl, Nat.le_of_ble_eq_true rfl⟩ (fun H locs hW => ?_)
            have hW : ze_W D (ze_wR c d n A B mk 2) F s.heap _ _ := hW
            refine lv_if_ne (tgt := 104) hX_ hB_ dX9_addGenerator_79 (by decide) (fun c79 => ?_) (fun c79 => ?_)
            · refine lv_iconst (v := 0) hX_ hB_ dX9_addGenerator_104 (by decide) ?_
              exact ze_iret S hr hlocks hF hK hW rfl dX9_addGenerator_105 (Nat.le_of_ble_eq_true rfl) (Nat.le_of_ble_eq_true rfl) rfl rfl
            · exact absurd c79 (by decide)
      · exact absurd h3 c23
set_option maxHeartbeats 4000000 in
set_option maxRecDepth 100000 in
theorem zr_addGenerator_t2d (l : Launch) (D : va_G) (c : Nat → ClassId) (d n : Nat → Nat) (A : Nat → Nat → Int32) (B : Nat → Int64) (mk : Nat → Int32) (th : Int32) (j : Nat) (hN : zf_N n) (hj : j < n 0) (le gr wu fu : Int32) (h1 : zf_isIn le 0 100) (h2 : zf_isIn gr 1 200) (h3 : ¬ gr < le) (h4 : ¬ zf_isIn wu 0 9) : ze_I l yX9_addGenerator wsX9_addGenerator 2 43 0 0 D c (ze_wR c d n A B mk th) [.ref (d 0), .int (nI j), .int le, .int gr, .int wu, .int fu] 0 (ze_wR c d n A B mk 2) := by
  intro sz
  refine ze_start (cc := cX9_addGenerator) (maxL := 8) (ret := (some .int)) (own := RX9) (by decide) rfl rfl (Nat.le_of_ble_eq_true rfl) ?_
  obtain ⟨hn0, hn1, hn2, hn3, hn4⟩ := id hN
  have hinj : zf_isIn (nI j) 0 (nI (n 0) - 1) := zf_isInN hj (by omega)
  intro p e s m_ below meth cd F ls hF hsz E0
  obtain ⟨S, hr, hlocks, hK, hW, hA, hl⟩ := E0
  have hX_ := S.1
  have hB_ := S.2.1
  have hts := S.2.2.2.2
  have hl : lv_has ls 8 [(0, .ref (d 0)), (1, .int (nI j)), (2, .int le), (3, .int gr), (4, .int wu), (5, .int fu)] := hl
  refine lv_iload_n hX_ hB_ dX9_addGenerator_0 rfl (lv_at hl 2 rfl) ?_
  refine lv_iconst (v := 0) hX_ hB_ dX9_addGenerator_1 (by decide) ?_
  refine lv_bipush (v := 100) hX_ hB_ dX9_addGenerator_2 (by decide) ?_
  refine ze_Si (As := [.int le, .int 0, .int 100]) (rest := []) S (zr_isIn l D c (ze_wR c d n A B mk th) le 0 100) (va_cwS 3 hts gX9_addGenerator_X9_isIn rfl rfl rfl (by decide +kernel) ⟨Nat.le_of_ble_eq_true rfl, Nat.le_of_ble_eq_true rfl⟩) hK hW hA rfl hl.1 rfl (lv_room (Nat.le_of_ble_eq_true rfl)) dX9_addGenerator_4 ⟨Nat.le_of_ble_eq_true rfl, Nat.le_of_ble_eq_true rfl⟩ (fun H locs hW => ?_)
  refine lv_if_eq (tgt := 53) hX_ hB_ dX9_addGenerator_7 (by decide) (fun c7 => ?_) (fun c7 => ?_)
  · have c7 : ¬ (zf_isIn le 0 100) := ze_bf c7
    exact absurd h1 c7
  · have c7 : zf_isIn le 0 100 := ze_bt c7
    refine lv_iload_n hX_ hB_ dX9_addGenerator_10 rfl (lv_at hl 3 rfl) ?_
    refine lv_iconst (v := 1) hX_ hB_ dX9_addGenerator_11 (by decide) ?_
    refine lv_sipush (v := 200) hX_ hB_ dX9_addGenerator_12 (by decide) ?_
    refine ze_Si (As := [.int gr, .int 1, .int 200]) (rest := []) S (zr_isIn l D c (ze_wR c d n A B mk th) gr 1 200) (va_cwS 3 hts gX9_addGenerator_X9_isIn rfl rfl rfl (by decide +kernel) ⟨Nat.le_of_ble_eq_true rfl, Nat.le_of_ble_eq_true rfl⟩) hK hW hA rfl hl.1 rfl (lv_room (Nat.le_of_ble_eq_true rfl)) dX9_addGenerator_15 ⟨Nat.le_of_ble_eq_true rfl, Nat.le_of_ble_eq_true rfl⟩ (fun H locs hW => ?_)
    refine lv_if_eq (tgt := 53) hX_ hB_ dX9_addGenerator_18 (by decide) (fun c18 => ?_) (fun c18 => ?_)
    · have c18 : ¬ (zf_isIn gr 1 200) := ze_bf c18
      exact absurd h2 c18
    · have c18 : zf_isIn gr 1 200 := ze_bt c18
      refine lv_iload_n hX_ hB_ dX9_addGenerator_21 rfl (lv_at hl 3 rfl) ?_
      refine lv_iload_n hX_ hB_ dX9_addGenerator_22 rfl (lv_at hl 2 rfl) ?_
      refine lv_icmp_lt (tgt := 53) hX_ hB_ dX9_addGenerator_23 (by decide) (fun c23 => ?_) (fun c23 => ?_)
      · exact absurd c23 h3
      · refine lv_iload hX_ hB_ dX9_addGenerator_26 (lv_at hl 4 rfl) ?_
        refine lv_iconst (v := 0) hX_ hB_ dX9_addGenerator_28 (by decide) ?_
        refine lv_bipush (v := 9) hX_ hB_ dX9_addGenerator_29 (by decide) ?_
        refine ze_Si (As := [.int wu, .int 0, .int 9]) (rest := []) S (zr_isIn l D c (ze_wR c d n A B mk th) wu 0 9) (va_cwS 3 hts gX9_addGenerator_X9_isIn rfl rfl rfl (by decide +kernel) ⟨Nat.le_of_ble_eq_true rfl, Nat.le_of_ble_eq_true rfl⟩) hK hW hA rfl hl.1 rfl (lv_room (Nat.le_of_ble_eq_true rfl)) dX9_addGenerator_31 ⟨Nat.le_of_ble_eq_true rfl, Nat.le_of_ble_eq_true rfl⟩ (fun H locs hW => ?_)
        refine lv_if_eq (tgt := 53) hX_ hB_ dX9_addGenerator_34 (by decide) (fun c34 => ?_) (fun c34 => ?_)
        · have c34 : ¬ (zf_isIn wu 0 9) := ze_bf c34
          refine lv_iconst (v := 0) hX_ hB_ dX9_addGenerator_53 (by decide) ?_
          refine lv_istore (lv' := [(6, .int 0), (0, .ref (d 0)), (1, .int (nI j)), (2, .int le), (3, .int gr), (4, .int wu), (5, .int fu)]) hX_ hB_ dX9_addGenerator_54 hl (by decide) rfl (fun ls hl => ?_)
          refine lv_aload_n hX_ hB_ dX9_addGenerator_56 rfl (lv_at hl 1 rfl) ?_
          refine lv_iload_n hX_ hB_ dX9_addGenerator_57 rfl (lv_at hl 2 rfl) ?_
          refine ze_Vi (As := [.int (nI j)]) (rest := []) (ci := 9) (q0 := 0) (k := (RX9, TX9, 39)) S (zr_isNoSite l D c d n A B mk th (nI j)) (cwV 1 hts gX9_addGenerator_X9_isNoSite rfl rfl rfl (by decide +kernel) ⟨Nat.le_of_ble_eq_true rfl, Nat.le_of_ble_eq_true rfl⟩) hK hW hA rfl rfl rfl hl.1 rfl (lv_room (Nat.le_of_ble_eq_true rfl)) dX9_addGenerator_58 ⟨Nat.le_of_ble_eq_true rfl, Nat.le_of_ble_eq_true rfl⟩ (fun H locs hW => ?_)
          have hW : ze_W D (ze_wR c d n A B mk (if zf_isIn (nI j) 0 (nI (n 0) - 1) then 0 else 1)) F s.heap _ _ := hW
          refine lv_if_ne (tgt := 104) hX_ hB_ dX9_addGenerator_61 (by decide) (fun c61 => ?_) (fun c61 => ?_)
          · have c61 : ¬ zf_isIn (nI j) 0 (nI (n 0) - 1) := ze_bt c61
            exact absurd hinj c61
          · have c61 : ¬ (¬ zf_isIn (nI j) 0 (nI (n 0) - 1)) := ze_bf c61
            have c61 : zf_isIn (nI j) 0 (nI (n 0) - 1) := Decidable.of_not_not c61
            refine lv_aload_n hX_ hB_ dX9_addGenerator_64 rfl (lv_at hl 1 rfl) ?_
            refine lv_iload hX_ hB_ dX9_addGenerator_65 (lv_at hl 0 rfl) ?_
            refine lv_if_ne (tgt := 74) hX_ hB_ dX9_addGenerator_67 (by decide) (fun c67 => ?_) (fun c67 => ?_)
            · exact absurd c67 (by decide)
            · refine lv_iconst (v := 1) hX_ hB_ dX9_addGenerator_70 (by decide) ?_
              refine lv_goto (tgt := 75) hX_ hB_ dX9_addGenerator_71 (by decide) ?_
              refine lv_iconst (v := 2) hX_ hB_ dX9_addGenerator_75 (by decide) ?_
              refine ze_Vi (As := [.int 1, .int 2]) (rest := []) (ci := 9) (q0 := 0) (k := (RX9, TX9, 39)) S (zr_isThrown l D c d n A B mk (if zf_isIn (nI j) 0 (nI (n 0) - 1) then 0 else 1) 1 2 2 rfl (if_neg (by decide))) (cwV 2 hts gX9_addGenerator_X9_isThrown rfl rfl rfl (by decide +kernel) ⟨Nat.le_of_ble_eq_true rfl, Nat.le_of_ble_eq_true rfl⟩) hK hW hA rfl rfl rfl hl.1 rfl (lv_room (Nat.le_of_ble_eq_true rfl)) dX9_addGenerator_76 ⟨Nat.le_of_ble_eq_true rfl, Nat.le_of_ble_eq_true rfl⟩ (fun H locs hW => ?_)
              have hW : ze_W D (ze_wR c d n A B mk 2) F s.heap _ _ := hW
              refine lv_if_ne (tgt := 104) hX_ hB_ dX9_addGenerator_79 (by decide) (fun c79 => ?_) (fun c79 => ?_)
              · refine lv_iconst (v := 0) hX_ hB_ dX9_addGenerator_104 (by decide) ?_
                exact ze_iret S hr hlocks hF hK hW rfl dX9_addGenerator_105 (Nat.le_of_ble_eq_true rfl) (Nat.le_of_ble_eq_true rfl) rfl rfl
              · exact absurd c79 (by decide)
        · have c34 : zf_isIn wu 0 9 := ze_bt c34
          exact absurd c34 h4
set_option maxHeartbeats 4000000 in
set_option maxRecDepth 100000 in
theorem zr_addGenerator_t2e (l : Launch) (D : va_G) (c : Nat → ClassId) (d n : Nat → Nat) (A : Nat → Nat → Int32) (B : Nat → Int64) (mk : Nat → Int32) (th : Int32) (j : Nat) (hN : zf_N n) (hj : j < n 0) (le gr wu fu : Int32) (h1 : zf_isIn le 0 100) (h2 : zf_isIn gr 1 200) (h3 : ¬ gr < le) (h4 : zf_isIn wu 0 9) (h5 : ¬ zf_isIn fu 0 9999) : ze_I l yX9_addGenerator wsX9_addGenerator 2 43 0 0 D c (ze_wR c d n A B mk th) [.ref (d 0), .int (nI j), .int le, .int gr, .int wu, .int fu] 0 (ze_wR c d n A B mk 2) := by
  intro sz
  refine ze_start (cc := cX9_addGenerator) (maxL := 8) (ret := (some .int)) (own := RX9) (by decide) rfl rfl (Nat.le_of_ble_eq_true rfl) ?_
  obtain ⟨hn0, hn1, hn2, hn3, hn4⟩ := id hN
  have hinj : zf_isIn (nI j) 0 (nI (n 0) - 1) := zf_isInN hj (by omega)
  intro p e s m_ below meth cd F ls hF hsz E0
  obtain ⟨S, hr, hlocks, hK, hW, hA, hl⟩ := E0
  have hX_ := S.1
  have hB_ := S.2.1
  have hts := S.2.2.2.2
  have hl : lv_has ls 8 [(0, .ref (d 0)), (1, .int (nI j)), (2, .int le), (3, .int gr), (4, .int wu), (5, .int fu)] := hl
  refine lv_iload_n hX_ hB_ dX9_addGenerator_0 rfl (lv_at hl 2 rfl) ?_
  refine lv_iconst (v := 0) hX_ hB_ dX9_addGenerator_1 (by decide) ?_
  refine lv_bipush (v := 100) hX_ hB_ dX9_addGenerator_2 (by decide) ?_
  refine ze_Si (As := [.int le, .int 0, .int 100]) (rest := []) S (zr_isIn l D c (ze_wR c d n A B mk th) le 0 100) (va_cwS 3 hts gX9_addGenerator_X9_isIn rfl rfl rfl (by decide +kernel) ⟨Nat.le_of_ble_eq_true rfl, Nat.le_of_ble_eq_true rfl⟩) hK hW hA rfl hl.1 rfl (lv_room (Nat.le_of_ble_eq_true rfl)) dX9_addGenerator_4 ⟨Nat.le_of_ble_eq_true rfl, Nat.le_of_ble_eq_true rfl⟩ (fun H locs hW => ?_)
  refine lv_if_eq (tgt := 53) hX_ hB_ dX9_addGenerator_7 (by decide) (fun c7 => ?_) (fun c7 => ?_)
  · have c7 : ¬ (zf_isIn le 0 100) := ze_bf c7
    exact absurd h1 c7
  · have c7 : zf_isIn le 0 100 := ze_bt c7
    refine lv_iload_n hX_ hB_ dX9_addGenerator_10 rfl (lv_at hl 3 rfl) ?_
    refine lv_iconst (v := 1) hX_ hB_ dX9_addGenerator_11 (by decide) ?_
    refine lv_sipush (v := 200) hX_ hB_ dX9_addGenerator_12 (by decide) ?_
    refine ze_Si (As := [.int gr, .int 1, .int 200]) (rest := []) S (zr_isIn l D c (ze_wR c d n A B mk th) gr 1 200) (va_cwS 3 hts gX9_addGenerator_X9_isIn rfl rfl rfl (by decide +kernel) ⟨Nat.le_of_ble_eq_true rfl, Nat.le_of_ble_eq_true rfl⟩) hK hW hA rfl hl.1 rfl (lv_room (Nat.le_of_ble_eq_true rfl)) dX9_addGenerator_15 ⟨Nat.le_of_ble_eq_true rfl, Nat.le_of_ble_eq_true rfl⟩ (fun H locs hW => ?_)
    refine lv_if_eq (tgt := 53) hX_ hB_ dX9_addGenerator_18 (by decide) (fun c18 => ?_) (fun c18 => ?_)
    · have c18 : ¬ (zf_isIn gr 1 200) := ze_bf c18
      exact absurd h2 c18
    · have c18 : zf_isIn gr 1 200 := ze_bt c18
      refine lv_iload_n hX_ hB_ dX9_addGenerator_21 rfl (lv_at hl 3 rfl) ?_
      refine lv_iload_n hX_ hB_ dX9_addGenerator_22 rfl (lv_at hl 2 rfl) ?_
      refine lv_icmp_lt (tgt := 53) hX_ hB_ dX9_addGenerator_23 (by decide) (fun c23 => ?_) (fun c23 => ?_)
      · exact absurd c23 h3
      · refine lv_iload hX_ hB_ dX9_addGenerator_26 (lv_at hl 4 rfl) ?_
        refine lv_iconst (v := 0) hX_ hB_ dX9_addGenerator_28 (by decide) ?_
        refine lv_bipush (v := 9) hX_ hB_ dX9_addGenerator_29 (by decide) ?_
        refine ze_Si (As := [.int wu, .int 0, .int 9]) (rest := []) S (zr_isIn l D c (ze_wR c d n A B mk th) wu 0 9) (va_cwS 3 hts gX9_addGenerator_X9_isIn rfl rfl rfl (by decide +kernel) ⟨Nat.le_of_ble_eq_true rfl, Nat.le_of_ble_eq_true rfl⟩) hK hW hA rfl hl.1 rfl (lv_room (Nat.le_of_ble_eq_true rfl)) dX9_addGenerator_31 ⟨Nat.le_of_ble_eq_true rfl, Nat.le_of_ble_eq_true rfl⟩ (fun H locs hW => ?_)
        refine lv_if_eq (tgt := 53) hX_ hB_ dX9_addGenerator_34 (by decide) (fun c34 => ?_) (fun c34 => ?_)
        · have c34 : ¬ (zf_isIn wu 0 9) := ze_bf c34
          exact absurd h4 c34
        · have c34 : zf_isIn wu 0 9 := ze_bt c34
          refine lv_iload hX_ hB_ dX9_addGenerator_37 (lv_at hl 5 rfl) ?_
          refine lv_iconst (v := 0) hX_ hB_ dX9_addGenerator_39 (by decide) ?_
          refine lv_sipush (v := 9999) hX_ hB_ dX9_addGenerator_40 (by decide) ?_
          refine ze_Si (As := [.int fu, .int 0, .int 9999]) (rest := []) S (zr_isIn l D c (ze_wR c d n A B mk th) fu 0 9999) (va_cwS 3 hts gX9_addGenerator_X9_isIn rfl rfl rfl (by decide +kernel) ⟨Nat.le_of_ble_eq_true rfl, Nat.le_of_ble_eq_true rfl⟩) hK hW hA rfl hl.1 rfl (lv_room (Nat.le_of_ble_eq_true rfl)) dX9_addGenerator_43 ⟨Nat.le_of_ble_eq_true rfl, Nat.le_of_ble_eq_true rfl⟩ (fun H locs hW => ?_)
          refine lv_if_eq (tgt := 53) hX_ hB_ dX9_addGenerator_46 (by decide) (fun c46 => ?_) (fun c46 => ?_)
          · have c46 : ¬ (zf_isIn fu 0 9999) := ze_bf c46
            refine lv_iconst (v := 0) hX_ hB_ dX9_addGenerator_53 (by decide) ?_
            refine lv_istore (lv' := [(6, .int 0), (0, .ref (d 0)), (1, .int (nI j)), (2, .int le), (3, .int gr), (4, .int wu), (5, .int fu)]) hX_ hB_ dX9_addGenerator_54 hl (by decide) rfl (fun ls hl => ?_)
            refine lv_aload_n hX_ hB_ dX9_addGenerator_56 rfl (lv_at hl 1 rfl) ?_
            refine lv_iload_n hX_ hB_ dX9_addGenerator_57 rfl (lv_at hl 2 rfl) ?_
            refine ze_Vi (As := [.int (nI j)]) (rest := []) (ci := 9) (q0 := 0) (k := (RX9, TX9, 39)) S (zr_isNoSite l D c d n A B mk th (nI j)) (cwV 1 hts gX9_addGenerator_X9_isNoSite rfl rfl rfl (by decide +kernel) ⟨Nat.le_of_ble_eq_true rfl, Nat.le_of_ble_eq_true rfl⟩) hK hW hA rfl rfl rfl hl.1 rfl (lv_room (Nat.le_of_ble_eq_true rfl)) dX9_addGenerator_58 ⟨Nat.le_of_ble_eq_true rfl, Nat.le_of_ble_eq_true rfl⟩ (fun H locs hW => ?_)
            have hW : ze_W D (ze_wR c d n A B mk (if zf_isIn (nI j) 0 (nI (n 0) - 1) then 0 else 1)) F s.heap _ _ := hW
            refine lv_if_ne (tgt := 104) hX_ hB_ dX9_addGenerator_61 (by decide) (fun c61 => ?_) (fun c61 => ?_)
            · have c61 : ¬ zf_isIn (nI j) 0 (nI (n 0) - 1) := ze_bt c61
              exact absurd hinj c61
            · have c61 : ¬ (¬ zf_isIn (nI j) 0 (nI (n 0) - 1)) := ze_bf c61
              have c61 : zf_isIn (nI j) 0 (nI (n 0) - 1) := Decidable.of_not_not c61
              refine lv_aload_n hX_ hB_ dX9_addGenerator_64 rfl (lv_at hl 1 rfl) ?_
              refine lv_iload hX_ hB_ dX9_addGenerator_65 (lv_at hl 0 rfl) ?_
              refine lv_if_ne (tgt := 74) hX_ hB_ dX9_addGenerator_67 (by decide) (fun c67 => ?_) (fun c67 => ?_)
              · exact absurd c67 (by decide)
              · refine lv_iconst (v := 1) hX_ hB_ dX9_addGenerator_70 (by decide) ?_
                refine lv_goto (tgt := 75) hX_ hB_ dX9_addGenerator_71 (by decide) ?_
                refine lv_iconst (v := 2) hX_ hB_ dX9_addGenerator_75 (by decide) ?_
                refine ze_Vi (As := [.int 1, .int 2]) (rest := []) (ci := 9) (q0 := 0) (k := (RX9, TX9, 39)) S (zr_isThrown l D c d n A B mk (if zf_isIn (nI j) 0 (nI (n 0) - 1) then 0 else 1) 1 2 2 rfl (if_neg (by decide))) (cwV 2 hts gX9_addGenerator_X9_isThrown rfl rfl rfl (by decide +kernel) ⟨Nat.le_of_ble_eq_true rfl, Nat.le_of_ble_eq_true rfl⟩) hK hW hA rfl rfl rfl hl.1 rfl (lv_room (Nat.le_of_ble_eq_true rfl)) dX9_addGenerator_76 ⟨Nat.le_of_ble_eq_true rfl, Nat.le_of_ble_eq_true rfl⟩ (fun H locs hW => ?_)
                have hW : ze_W D (ze_wR c d n A B mk 2) F s.heap _ _ := hW
                refine lv_if_ne (tgt := 104) hX_ hB_ dX9_addGenerator_79 (by decide) (fun c79 => ?_) (fun c79 => ?_)
                · refine lv_iconst (v := 0) hX_ hB_ dX9_addGenerator_104 (by decide) ?_
                  exact ze_iret S hr hlocks hF hK hW rfl dX9_addGenerator_105 (Nat.le_of_ble_eq_true rfl) (Nat.le_of_ble_eq_true rfl) rfl rfl
                · exact absurd c79 (by decide)
          · have c46 : zf_isIn fu 0 9999 := ze_bt c46
            exact absurd c46 h5
set_option maxHeartbeats 4000000 in
set_option maxRecDepth 100000 in
theorem zr_addGenerator_t3 (l : Launch) (D : va_G) (c : Nat → ClassId) (d n : Nat → Nat) (A : Nat → Nat → Int32) (B : Nat → Int64) (mk : Nat → Int32) (th : Int32) (j : Nat) (hN : zf_N n) (hj : j < n 0) (le gr wu fu : Int32) (h1 : zf_isIn le 0 100) (h2 : zf_isIn gr 1 200) (h3 : ¬ gr < le) (h4 : zf_isIn wu 0 9) (h5 : zf_isIn fu 0 9999) (h6 : n 2 = 6) : ze_I l yX9_addGenerator wsX9_addGenerator 2 43 0 0 D c (ze_wR c d n A B mk th) [.ref (d 0), .int (nI j), .int le, .int gr, .int wu, .int fu] 0 (ze_wR c d n A B mk 3) := by
  intro sz
  refine ze_start (cc := cX9_addGenerator) (maxL := 8) (ret := (some .int)) (own := RX9) (by decide) rfl rfl (Nat.le_of_ble_eq_true rfl) ?_
  obtain ⟨hn0, hn1, hn2, hn3, hn4⟩ := id hN
  have hinj : zf_isIn (nI j) 0 (nI (n 0) - 1) := zf_isInN hj (by omega)
  intro p e s m_ below meth cd F ls hF hsz E0
  obtain ⟨S, hr, hlocks, hK, hW, hA, hl⟩ := E0
  have hX_ := S.1
  have hB_ := S.2.1
  have hts := S.2.2.2.2
  have hl : lv_has ls 8 [(0, .ref (d 0)), (1, .int (nI j)), (2, .int le), (3, .int gr), (4, .int wu), (5, .int fu)] := hl
  have hiX9 : ∀ w ∈ u_ws RX9 TX9 39, w ∈ wsX9_addGenerator := fun _ h => (List.mem_cons_of_mem _ (List.mem_append_right _ h))
  have w0 := hts (.fieldLink RX9 102 "IslandgridModel" "generators" "I") (List.mem_cons_of_mem _ (List.mem_append_left _ (List.mem_of_getElem? (i := 0) rfl)))
  refine lv_iload_n hX_ hB_ dX9_addGenerator_0 rfl (lv_at hl 2 rfl) ?_
  refine lv_iconst (v := 0) hX_ hB_ dX9_addGenerator_1 (by decide) ?_
  refine lv_bipush (v := 100) hX_ hB_ dX9_addGenerator_2 (by decide) ?_
  refine ze_Si (As := [.int le, .int 0, .int 100]) (rest := []) S (zr_isIn l D c (ze_wR c d n A B mk th) le 0 100) (va_cwS 3 hts gX9_addGenerator_X9_isIn rfl rfl rfl (by decide +kernel) ⟨Nat.le_of_ble_eq_true rfl, Nat.le_of_ble_eq_true rfl⟩) hK hW hA rfl hl.1 rfl (lv_room (Nat.le_of_ble_eq_true rfl)) dX9_addGenerator_4 ⟨Nat.le_of_ble_eq_true rfl, Nat.le_of_ble_eq_true rfl⟩ (fun H locs hW => ?_)
  refine lv_if_eq (tgt := 53) hX_ hB_ dX9_addGenerator_7 (by decide) (fun c7 => ?_) (fun c7 => ?_)
  · have c7 : ¬ (zf_isIn le 0 100) := ze_bf c7
    exact absurd h1 c7
  · have c7 : zf_isIn le 0 100 := ze_bt c7
    refine lv_iload_n hX_ hB_ dX9_addGenerator_10 rfl (lv_at hl 3 rfl) ?_
    refine lv_iconst (v := 1) hX_ hB_ dX9_addGenerator_11 (by decide) ?_
    refine lv_sipush (v := 200) hX_ hB_ dX9_addGenerator_12 (by decide) ?_
    refine ze_Si (As := [.int gr, .int 1, .int 200]) (rest := []) S (zr_isIn l D c (ze_wR c d n A B mk th) gr 1 200) (va_cwS 3 hts gX9_addGenerator_X9_isIn rfl rfl rfl (by decide +kernel) ⟨Nat.le_of_ble_eq_true rfl, Nat.le_of_ble_eq_true rfl⟩) hK hW hA rfl hl.1 rfl (lv_room (Nat.le_of_ble_eq_true rfl)) dX9_addGenerator_15 ⟨Nat.le_of_ble_eq_true rfl, Nat.le_of_ble_eq_true rfl⟩ (fun H locs hW => ?_)
    refine lv_if_eq (tgt := 53) hX_ hB_ dX9_addGenerator_18 (by decide) (fun c18 => ?_) (fun c18 => ?_)
    · have c18 : ¬ (zf_isIn gr 1 200) := ze_bf c18
      exact absurd h2 c18
    · have c18 : zf_isIn gr 1 200 := ze_bt c18
      refine lv_iload_n hX_ hB_ dX9_addGenerator_21 rfl (lv_at hl 3 rfl) ?_
      refine lv_iload_n hX_ hB_ dX9_addGenerator_22 rfl (lv_at hl 2 rfl) ?_
      refine lv_icmp_lt (tgt := 53) hX_ hB_ dX9_addGenerator_23 (by decide) (fun c23 => ?_) (fun c23 => ?_)
      · exact absurd c23 h3
      · refine lv_iload hX_ hB_ dX9_addGenerator_26 (lv_at hl 4 rfl) ?_
        refine lv_iconst (v := 0) hX_ hB_ dX9_addGenerator_28 (by decide) ?_
        refine lv_bipush (v := 9) hX_ hB_ dX9_addGenerator_29 (by decide) ?_
        refine ze_Si (As := [.int wu, .int 0, .int 9]) (rest := []) S (zr_isIn l D c (ze_wR c d n A B mk th) wu 0 9) (va_cwS 3 hts gX9_addGenerator_X9_isIn rfl rfl rfl (by decide +kernel) ⟨Nat.le_of_ble_eq_true rfl, Nat.le_of_ble_eq_true rfl⟩) hK hW hA rfl hl.1 rfl (lv_room (Nat.le_of_ble_eq_true rfl)) dX9_addGenerator_31 ⟨Nat.le_of_ble_eq_true rfl, Nat.le_of_ble_eq_true rfl⟩ (fun H locs hW => ?_)
        refine lv_if_eq (tgt := 53) hX_ hB_ dX9_addGenerator_34 (by decide) (fun c34 => ?_) (fun c34 => ?_)
        · have c34 : ¬ (zf_isIn wu 0 9) := ze_bf c34
          exact absurd h4 c34
        · have c34 : zf_isIn wu 0 9 := ze_bt c34
          refine lv_iload hX_ hB_ dX9_addGenerator_37 (lv_at hl 5 rfl) ?_
          refine lv_iconst (v := 0) hX_ hB_ dX9_addGenerator_39 (by decide) ?_
          refine lv_sipush (v := 9999) hX_ hB_ dX9_addGenerator_40 (by decide) ?_
          refine ze_Si (As := [.int fu, .int 0, .int 9999]) (rest := []) S (zr_isIn l D c (ze_wR c d n A B mk th) fu 0 9999) (va_cwS 3 hts gX9_addGenerator_X9_isIn rfl rfl rfl (by decide +kernel) ⟨Nat.le_of_ble_eq_true rfl, Nat.le_of_ble_eq_true rfl⟩) hK hW hA rfl hl.1 rfl (lv_room (Nat.le_of_ble_eq_true rfl)) dX9_addGenerator_43 ⟨Nat.le_of_ble_eq_true rfl, Nat.le_of_ble_eq_true rfl⟩ (fun H locs hW => ?_)
          refine lv_if_eq (tgt := 53) hX_ hB_ dX9_addGenerator_46 (by decide) (fun c46 => ?_) (fun c46 => ?_)
          · have c46 : ¬ (zf_isIn fu 0 9999) := ze_bf c46
            exact absurd h5 c46
          · have c46 : zf_isIn fu 0 9999 := ze_bt c46
            refine lv_iconst (v := 1) hX_ hB_ dX9_addGenerator_49 (by decide) ?_
            refine lv_goto (tgt := 54) hX_ hB_ dX9_addGenerator_50 (by decide) ?_
            refine lv_istore (lv' := [(6, .int 1), (0, .ref (d 0)), (1, .int (nI j)), (2, .int le), (3, .int gr), (4, .int wu), (5, .int fu)]) hX_ hB_ dX9_addGenerator_54 hl (by decide) rfl (fun ls hl => ?_)
            refine lv_aload_n hX_ hB_ dX9_addGenerator_56 rfl (lv_at hl 1 rfl) ?_
            refine lv_iload_n hX_ hB_ dX9_addGenerator_57 rfl (lv_at hl 2 rfl) ?_
            refine ze_Vi (As := [.int (nI j)]) (rest := []) (ci := 9) (q0 := 0) (k := (RX9, TX9, 39)) S (zr_isNoSite l D c d n A B mk th (nI j)) (cwV 1 hts gX9_addGenerator_X9_isNoSite rfl rfl rfl (by decide +kernel) ⟨Nat.le_of_ble_eq_true rfl, Nat.le_of_ble_eq_true rfl⟩) hK hW hA rfl rfl rfl hl.1 rfl (lv_room (Nat.le_of_ble_eq_true rfl)) dX9_addGenerator_58 ⟨Nat.le_of_ble_eq_true rfl, Nat.le_of_ble_eq_true rfl⟩ (fun H locs hW => ?_)
            have hW : ze_W D (ze_wR c d n A B mk (if zf_isIn (nI j) 0 (nI (n 0) - 1) then 0 else 1)) F s.heap _ _ := hW
            refine lv_if_ne (tgt := 104) hX_ hB_ dX9_addGenerator_61 (by decide) (fun c61 => ?_) (fun c61 => ?_)
            · have c61 : ¬ zf_isIn (nI j) 0 (nI (n 0) - 1) := ze_bt c61
              exact absurd hinj c61
            · have c61 : ¬ (¬ zf_isIn (nI j) 0 (nI (n 0) - 1)) := ze_bf c61
              have c61 : zf_isIn (nI j) 0 (nI (n 0) - 1) := Decidable.of_not_not c61
              refine lv_aload_n hX_ hB_ dX9_addGenerator_64 rfl (lv_at hl 1 rfl) ?_
              refine lv_iload hX_ hB_ dX9_addGenerator_65 (lv_at hl 0 rfl) ?_
              refine lv_if_ne (tgt := 74) hX_ hB_ dX9_addGenerator_67 (by decide) (fun c67 => ?_) (fun c67 => ?_)
              · refine lv_iconst (v := 0) hX_ hB_ dX9_addGenerator_74 (by decide) ?_
                refine lv_iconst (v := 2) hX_ hB_ dX9_addGenerator_75 (by decide) ?_
                refine ze_Vi (As := [.int 0, .int 2]) (rest := []) (ci := 9) (q0 := 0) (k := (RX9, TX9, 39)) S (zr_isThrown l D c d n A B mk (if zf_isIn (nI j) 0 (nI (n 0) - 1) then 0 else 1) 0 2 0 rfl (if_pos rfl)) (cwV 2 hts gX9_addGenerator_X9_isThrown rfl rfl rfl (by decide +kernel) ⟨Nat.le_of_ble_eq_true rfl, Nat.le_of_ble_eq_true rfl⟩) hK hW hA rfl rfl rfl hl.1 rfl (lv_room (Nat.le_of_ble_eq_true rfl)) dX9_addGenerator_76 ⟨Nat.le_of_ble_eq_true rfl, Nat.le_of_ble_eq_true rfl⟩ (fun H locs hW => ?_)
                have hW : ze_W D (ze_wR c d n A B mk 0) F s.heap _ _ := hW
                refine lv_if_ne (tgt := 104) hX_ hB_ dX9_addGenerator_79 (by decide) (fun c79 => ?_) (fun c79 => ?_)
                · exact absurd c79 (by decide)
                · refine lv_aload_n hX_ hB_ dX9_addGenerator_82 rfl (lv_at hl 1 rfl) ?_
                  refine lv_aload_n hX_ hB_ dX9_addGenerator_83 rfl (lv_at hl 1 rfl) ?_
                  refine ze_get (ci := 9) (C := RX9) (T := TX9) (N := 39) (v := .int (nI (n 2))) S hiX9 hK hW 0 rfl rfl 25 (by decide) rfl w0 dX9_addGenerator_84 ?_
                  refine lv_bipush (v := 6) hX_ hB_ dX9_addGenerator_87 (by decide) ?_
                  refine lv_icmp_ne (tgt := 96) hX_ hB_ dX9_addGenerator_89 (by decide) (fun c89 => ?_) (fun c89 => ?_)
                  · have c89 : ¬ (n 2) = 6 := fun h9 => c89 ((nI_eq (a := (n 2)) (b := 6) (by omega) (by omega)).mpr h9)
                    exact absurd h6 c89
                  · have c89 : (n 2) = 6 := (nI_eq (a := (n 2)) (b := 6) (by omega) (by omega)).mp c89
                    refine lv_iconst (v := 1) hX_ hB_ dX9_addGenerator_92 (by decide) ?_
                    refine lv_goto (tgt := 97) hX_ hB_ dX9_addGenerator_93 (by decide) ?_
                    refine lv_iconst (v := 3) hX_ hB_ dX9_addGenerator_97 (by decide) ?_
                    refine ze_Vi (As := [.int 1, .int 3]) (rest := []) (ci := 9) (q0 := 0) (k := (RX9, TX9, 39)) S (zr_isThrown l D c d n A B mk 0 1 3 3 rfl (if_neg (by decide))) (cwV 2 hts gX9_addGenerator_X9_isThrown rfl rfl rfl (by decide +kernel) ⟨Nat.le_of_ble_eq_true rfl, Nat.le_of_ble_eq_true rfl⟩) hK hW hA rfl rfl rfl hl.1 rfl (lv_room (Nat.le_of_ble_eq_true rfl)) dX9_addGenerator_98 ⟨Nat.le_of_ble_eq_true rfl, Nat.le_of_ble_eq_true rfl⟩ (fun H locs hW => ?_)
                    have hW : ze_W D (ze_wR c d n A B mk 3) F s.heap _ _ := hW
                    refine lv_if_eq (tgt := 106) hX_ hB_ dX9_addGenerator_101 (by decide) (fun c101 => ?_) (fun c101 => ?_)
                    · exact absurd c101 (by decide)
                    · refine lv_iconst (v := 0) hX_ hB_ dX9_addGenerator_104 (by decide) ?_
                      exact ze_iret S hr hlocks hF hK hW rfl dX9_addGenerator_105 (Nat.le_of_ble_eq_true rfl) (Nat.le_of_ble_eq_true rfl) rfl rfl
              · exact absurd c67 (by decide)
set_option maxHeartbeats 4000000 in
set_option maxRecDepth 100000 in
theorem zr_addGenerator_f (l : Launch) (D : va_G) (c : Nat → ClassId) (d n : Nat → Nat) (A : Nat → Nat → Int32) (B : Nat → Int64) (mk : Nat → Int32) (th : Int32) (j : Nat) (hN : zf_N n) (hj : j < n 0) (le gr wu fu : Int32) (h1 : zf_isIn le 0 100) (h2 : zf_isIn gr 1 200) (h3 : ¬ gr < le) (h4 : zf_isIn wu 0 9) (h5 : zf_isIn fu 0 9999) (h6 : ¬ n 2 = 6) : ze_I l yX9_addGenerator wsX9_addGenerator 2 43 0 0 D c (ze_wR c d n A B mk th) [.ref (d 0), .int (nI j), .int le, .int gr, .int wu, .int fu] (nI (n 2)) (ze_wR c d (ze_sn n 2 (n 2 + 1)) (ze_sE (ze_sE (ze_sE (ze_sE (ze_sE (ze_sE A 6 (n 2) (nI j)) 7 (n 2) le) 8 (n 2) gr) 9 (n 2) wu) 10 (n 2) fu) 13 (n 2) 111) B mk 0) := by
  intro sz
  refine ze_start (cc := cX9_addGenerator) (maxL := 8) (ret := (some .int)) (own := RX9) (by decide) rfl rfl (Nat.le_of_ble_eq_true rfl) ?_
  obtain ⟨hn0, hn1, hn2, hn3, hn4⟩ := id hN
  have hinj : zf_isIn (nI j) 0 (nI (n 0) - 1) := zf_isInN hj (by omega)
  intro p e s m_ below meth cd F ls hF hsz E0
  obtain ⟨S, hr, hlocks, hK, hW, hA, hl⟩ := E0
  have hX_ := S.1
  have hB_ := S.2.1
  have hts := S.2.2.2.2
  have hl : lv_has ls 8 [(0, .ref (d 0)), (1, .int (nI j)), (2, .int le), (3, .int gr), (4, .int wu), (5, .int fu)] := hl
  have hiX9 : ∀ w ∈ u_ws RX9 TX9 39, w ∈ wsX9_addGenerator := fun _ h => (List.mem_cons_of_mem _ (List.mem_append_right _ h))
  have w0 := hts (.fieldLink RX9 102 "IslandgridModel" "generators" "I") (List.mem_cons_of_mem _ (List.mem_append_left _ (List.mem_of_getElem? (i := 0) rfl)))
  have w1 := hts (.fieldLink RX9 29 "IslandgridModel" "genSite" "[I") (List.mem_cons_of_mem _ (List.mem_append_left _ (List.mem_of_getElem? (i := 1) rfl)))
  have w2 := hts (.fieldLink RX9 32 "IslandgridModel" "least" "[I") (List.mem_cons_of_mem _ (List.mem_append_left _ (List.mem_of_getElem? (i := 2) rfl)))
  have w3 := hts (.fieldLink RX9 35 "IslandgridModel" "greatest" "[I") (List.mem_cons_of_mem _ (List.mem_append_left _ (List.mem_of_getElem? (i := 3) rfl)))
  have w4 := hts (.fieldLink RX9 38 "IslandgridModel" "warmUp" "[I") (List.mem_cons_of_mem _ (List.mem_append_left _ (List.mem_of_getElem? (i := 4) rfl)))
  have w5 := hts (.fieldLink RX9 41 "IslandgridModel" "fuel" "[I") (List.mem_cons_of_mem _ (List.mem_append_left _ (List.mem_of_getElem? (i := 5) rfl)))
  have w6 := hts (.fieldLink RX9 50 "IslandgridModel" "state" "[C") (List.mem_cons_of_mem _ (List.mem_append_left _ (List.mem_of_getElem? (i := 6) rfl)))
  refine lv_iload_n hX_ hB_ dX9_addGenerator_0 rfl (lv_at hl 2 rfl) ?_
  refine lv_iconst (v := 0) hX_ hB_ dX9_addGenerator_1 (by decide) ?_
  refine lv_bipush (v := 100) hX_ hB_ dX9_addGenerator_2 (by decide) ?_
  refine ze_Si (As := [.int le, .int 0, .int 100]) (rest := []) S (zr_isIn l D c (ze_wR c d n A B mk th) le 0 100) (va_cwS 3 hts gX9_addGenerator_X9_isIn rfl rfl rfl (by decide +kernel) ⟨Nat.le_of_ble_eq_true rfl, Nat.le_of_ble_eq_true rfl⟩) hK hW hA rfl hl.1 rfl (lv_room (Nat.le_of_ble_eq_true rfl)) dX9_addGenerator_4 ⟨Nat.le_of_ble_eq_true rfl, Nat.le_of_ble_eq_true rfl⟩ (fun H locs hW => ?_)
  refine lv_if_eq (tgt := 53) hX_ hB_ dX9_addGenerator_7 (by decide) (fun c7 => ?_) (fun c7 => ?_)
  · have c7 : ¬ (zf_isIn le 0 100) := ze_bf c7
    exact absurd h1 c7
  · have c7 : zf_isIn le 0 100 := ze_bt c7
    refine lv_iload_n hX_ hB_ dX9_addGenerator_10 rfl (lv_at hl 3 rfl) ?_
    refine lv_iconst (v := 1) hX_ hB_ dX9_addGenerator_11 (by decide) ?_
    refine lv_sipush (v := 200) hX_ hB_ dX9_addGenerator_12 (by decide) ?_
    refine ze_Si (As := [.int gr, .int 1, .int 200]) (rest := []) S (zr_isIn l D c (ze_wR c d n A B mk th) gr 1 200) (va_cwS 3 hts gX9_addGenerator_X9_isIn rfl rfl rfl (by decide +kernel) ⟨Nat.le_of_ble_eq_true rfl, Nat.le_of_ble_eq_true rfl⟩) hK hW hA rfl hl.1 rfl (lv_room (Nat.le_of_ble_eq_true rfl)) dX9_addGenerator_15 ⟨Nat.le_of_ble_eq_true rfl, Nat.le_of_ble_eq_true rfl⟩ (fun H locs hW => ?_)
    refine lv_if_eq (tgt := 53) hX_ hB_ dX9_addGenerator_18 (by decide) (fun c18 => ?_) (fun c18 => ?_)
    · have c18 : ¬ (zf_isIn gr 1 200) := ze_bf c18
      exact absurd h2 c18
    · have c18 : zf_isIn gr 1 200 := ze_bt c18
      refine lv_iload_n hX_ hB_ dX9_addGenerator_21 rfl (lv_at hl 3 rfl) ?_
      refine lv_iload_n hX_ hB_ dX9_addGenerator_22 rfl (lv_at hl 2 rfl) ?_
      refine lv_icmp_lt (tgt := 53) hX_ hB_ dX9_addGenerator_23 (by decide) (fun c23 => ?_) (fun c23 => ?_)
      · exact absurd c23 h3
      · refine lv_iload hX_ hB_ dX9_addGenerator_26 (lv_at hl 4 rfl) ?_
        refine lv_iconst (v := 0) hX_ hB_ dX9_addGenerator_28 (by decide) ?_
        refine lv_bipush (v := 9) hX_ hB_ dX9_addGenerator_29 (by decide) ?_
        refine ze_Si (As := [.int wu, .int 0, .int 9]) (rest := []) S (zr_isIn l D c (ze_wR c d n A B mk th) wu 0 9) (va_cwS 3 hts gX9_addGenerator_X9_isIn rfl rfl rfl (by decide +kernel) ⟨Nat.le_of_ble_eq_true rfl, Nat.le_of_ble_eq_true rfl⟩) hK hW hA rfl hl.1 rfl (lv_room (Nat.le_of_ble_eq_true rfl)) dX9_addGenerator_31 ⟨Nat.le_of_ble_eq_true rfl, Nat.le_of_ble_eq_true rfl⟩ (fun H locs hW => ?_)
        refine lv_if_eq (tgt := 53) hX_ hB_ dX9_addGenerator_34 (by decide) (fun c34 => ?_) (fun c34 => ?_)
        · have c34 : ¬ (zf_isIn wu 0 9) := ze_bf c34
          exact absurd h4 c34
        · have c34 : zf_isIn wu 0 9 := ze_bt c34
          refine lv_iload hX_ hB_ dX9_addGenerator_37 (lv_at hl 5 rfl) ?_
          refine lv_iconst (v := 0) hX_ hB_ dX9_addGenerator_39 (by decide) ?_
          refine lv_sipush (v := 9999) hX_ hB_ dX9_addGenerator_40 (by decide) ?_
          refine ze_Si (As := [.int fu, .int 0, .int 9999]) (rest := []) S (zr_isIn l D c (ze_wR c d n A B mk th) fu 0 9999) (va_cwS 3 hts gX9_addGenerator_X9_isIn rfl rfl rfl (by decide +kernel) ⟨Nat.le_of_ble_eq_true rfl, Nat.le_of_ble_eq_true rfl⟩) hK hW hA rfl hl.1 rfl (lv_room (Nat.le_of_ble_eq_true rfl)) dX9_addGenerator_43 ⟨Nat.le_of_ble_eq_true rfl, Nat.le_of_ble_eq_true rfl⟩ (fun H locs hW => ?_)
          refine lv_if_eq (tgt := 53) hX_ hB_ dX9_addGenerator_46 (by decide) (fun c46 => ?_) (fun c46 => ?_)
          · have c46 : ¬ (zf_isIn fu 0 9999) := ze_bf c46
            exact absurd h5 c46
          · have c46 : zf_isIn fu 0 9999 := ze_bt c46
            refine lv_iconst (v := 1) hX_ hB_ dX9_addGenerator_49 (by decide) ?_
            refine lv_goto (tgt := 54) hX_ hB_ dX9_addGenerator_50 (by decide) ?_
            refine lv_istore (lv' := [(6, .int 1), (0, .ref (d 0)), (1, .int (nI j)), (2, .int le), (3, .int gr), (4, .int wu), (5, .int fu)]) hX_ hB_ dX9_addGenerator_54 hl (by decide) rfl (fun ls hl => ?_)
            refine lv_aload_n hX_ hB_ dX9_addGenerator_56 rfl (lv_at hl 1 rfl) ?_
            refine lv_iload_n hX_ hB_ dX9_addGenerator_57 rfl (lv_at hl 2 rfl) ?_
            refine ze_Vi (As := [.int (nI j)]) (rest := []) (ci := 9) (q0 := 0) (k := (RX9, TX9, 39)) S (zr_isNoSite l D c d n A B mk th (nI j)) (cwV 1 hts gX9_addGenerator_X9_isNoSite rfl rfl rfl (by decide +kernel) ⟨Nat.le_of_ble_eq_true rfl, Nat.le_of_ble_eq_true rfl⟩) hK hW hA rfl rfl rfl hl.1 rfl (lv_room (Nat.le_of_ble_eq_true rfl)) dX9_addGenerator_58 ⟨Nat.le_of_ble_eq_true rfl, Nat.le_of_ble_eq_true rfl⟩ (fun H locs hW => ?_)
            have hW : ze_W D (ze_wR c d n A B mk (if zf_isIn (nI j) 0 (nI (n 0) - 1) then 0 else 1)) F s.heap _ _ := hW
            refine lv_if_ne (tgt := 104) hX_ hB_ dX9_addGenerator_61 (by decide) (fun c61 => ?_) (fun c61 => ?_)
            · have c61 : ¬ zf_isIn (nI j) 0 (nI (n 0) - 1) := ze_bt c61
              exact absurd hinj c61
            · have c61 : ¬ (¬ zf_isIn (nI j) 0 (nI (n 0) - 1)) := ze_bf c61
              have c61 : zf_isIn (nI j) 0 (nI (n 0) - 1) := Decidable.of_not_not c61
              refine lv_aload_n hX_ hB_ dX9_addGenerator_64 rfl (lv_at hl 1 rfl) ?_
              refine lv_iload hX_ hB_ dX9_addGenerator_65 (lv_at hl 0 rfl) ?_
              refine lv_if_ne (tgt := 74) hX_ hB_ dX9_addGenerator_67 (by decide) (fun c67 => ?_) (fun c67 => ?_)
              · refine lv_iconst (v := 0) hX_ hB_ dX9_addGenerator_74 (by decide) ?_
                refine lv_iconst (v := 2) hX_ hB_ dX9_addGenerator_75 (by decide) ?_
                refine ze_Vi (As := [.int 0, .int 2]) (rest := []) (ci := 9) (q0 := 0) (k := (RX9, TX9, 39)) S (zr_isThrown l D c d n A B mk (if zf_isIn (nI j) 0 (nI (n 0) - 1) then 0 else 1) 0 2 0 rfl (if_pos rfl)) (cwV 2 hts gX9_addGenerator_X9_isThrown rfl rfl rfl (by decide +kernel) ⟨Nat.le_of_ble_eq_true rfl, Nat.le_of_ble_eq_true rfl⟩) hK hW hA rfl rfl rfl hl.1 rfl (lv_room (Nat.le_of_ble_eq_true rfl)) dX9_addGenerator_76 ⟨Nat.le_of_ble_eq_true rfl, Nat.le_of_ble_eq_true rfl⟩ (fun H locs hW => ?_)
                have hW : ze_W D (ze_wR c d n A B mk 0) F s.heap _ _ := hW
                refine lv_if_ne (tgt := 104) hX_ hB_ dX9_addGenerator_79 (by decide) (fun c79 => ?_) (fun c79 => ?_)
                · exact absurd c79 (by decide)
                · refine lv_aload_n hX_ hB_ dX9_addGenerator_82 rfl (lv_at hl 1 rfl) ?_
                  refine lv_aload_n hX_ hB_ dX9_addGenerator_83 rfl (lv_at hl 1 rfl) ?_
                  refine ze_get (ci := 9) (C := RX9) (T := TX9) (N := 39) (v := .int (nI (n 2))) S hiX9 hK hW 0 rfl rfl 25 (by decide) rfl w0 dX9_addGenerator_84 ?_
                  refine lv_bipush (v := 6) hX_ hB_ dX9_addGenerator_87 (by decide) ?_
                  refine lv_icmp_ne (tgt := 96) hX_ hB_ dX9_addGenerator_89 (by decide) (fun c89 => ?_) (fun c89 => ?_)
                  · have c89 : ¬ (n 2) = 6 := fun h9 => c89 ((nI_eq (a := (n 2)) (b := 6) (by omega) (by omega)).mpr h9)
                    refine lv_iconst (v := 0) hX_ hB_ dX9_addGenerator_96 (by decide) ?_
                    refine lv_iconst (v := 3) hX_ hB_ dX9_addGenerator_97 (by decide) ?_
                    refine ze_Vi (As := [.int 0, .int 3]) (rest := []) (ci := 9) (q0 := 0) (k := (RX9, TX9, 39)) S (zr_isThrown l D c d n A B mk 0 0 3 0 rfl (if_pos rfl)) (cwV 2 hts gX9_addGenerator_X9_isThrown rfl rfl rfl (by decide +kernel) ⟨Nat.le_of_ble_eq_true rfl, Nat.le_of_ble_eq_true rfl⟩) hK hW hA rfl rfl rfl hl.1 rfl (lv_room (Nat.le_of_ble_eq_true rfl)) dX9_addGenerator_98 ⟨Nat.le_of_ble_eq_true rfl, Nat.le_of_ble_eq_true rfl⟩ (fun H locs hW => ?_)
                    refine lv_if_eq (tgt := 106) hX_ hB_ dX9_addGenerator_101 (by decide) (fun c101 => ?_) (fun c101 => ?_)
                    · refine lv_aload_n hX_ hB_ dX9_addGenerator_106 rfl (lv_at hl 1 rfl) ?_
                      refine ze_get (ci := 9) (C := RX9) (T := TX9) (N := 39) (v := .int (nI (n 2))) S hiX9 hK hW 0 rfl rfl 25 (by decide) rfl w0 dX9_addGenerator_107 ?_
                      refine lv_istore (lv' := [(7, .int (nI (n 2))), (6, .int 1), (0, .ref (d 0)), (1, .int (nI j)), (2, .int le), (3, .int gr), (4, .int wu), (5, .int fu)]) hX_ hB_ dX9_addGenerator_110 hl (by decide) rfl (fun ls hl => ?_)
                      refine lv_aload_n hX_ hB_ dX9_addGenerator_112 rfl (lv_at hl 2 rfl) ?_
                      refine ze_get (ci := 9) (C := RX9) (T := TX9) (N := 39) (v := .ref (d 7)) S hiX9 hK hW 0 rfl rfl 6 (by decide) rfl w1 dX9_addGenerator_113 ?_
                      refine lv_iload hX_ hB_ dX9_addGenerator_116 (lv_at hl 0 rfl) ?_
                      refine lv_iload_n hX_ hB_ dX9_addGenerator_118 rfl (lv_at hl 3 rfl) ?_
                      refine ze_iastN hX_ hB_ hK hW 7 (f := A 6) rfl (i := n 2) (by omega) (by decide) dX9_addGenerator_119 (ze_qR6 (n 2) (nI j) _ _ _ _ _ _ _) (fun H locs hW => ?_)
                      have hW : ze_W D (ze_wR c d n (ze_sE A 6 (n 2) (nI j)) B mk 0) F s.heap _ _ := hW
                      refine lv_aload_n hX_ hB_ dX9_addGenerator_120 rfl (lv_at hl 2 rfl) ?_
                      refine ze_get (ci := 9) (C := RX9) (T := TX9) (N := 39) (v := .ref (d 8)) S hiX9 hK hW 0 rfl rfl 7 (by decide) rfl w2 dX9_addGenerator_121 ?_
                      refine lv_iload hX_ hB_ dX9_addGenerator_124 (lv_at hl 0 rfl) ?_
                      refine lv_iload_n hX_ hB_ dX9_addGenerator_126 rfl (lv_at hl 4 rfl) ?_
                      refine ze_iastN hX_ hB_ hK hW 8 (f := A 7) rfl (i := n 2) (by omega) (by decide) dX9_addGenerator_127 (ze_qR7 (n 2) le _ _ _ _ _ _ _) (fun H locs hW => ?_)
                      have hW : ze_W D (ze_wR c d n (ze_sE (ze_sE A 6 (n 2) (nI j)) 7 (n 2) le) B mk 0) F s.heap _ _ := hW
                      refine lv_aload_n hX_ hB_ dX9_addGenerator_128 rfl (lv_at hl 2 rfl) ?_
                      refine ze_get (ci := 9) (C := RX9) (T := TX9) (N := 39) (v := .ref (d 9)) S hiX9 hK hW 0 rfl rfl 8 (by decide) rfl w3 dX9_addGenerator_129 ?_
                      refine lv_iload hX_ hB_ dX9_addGenerator_132 (lv_at hl 0 rfl) ?_
                      refine lv_iload_n hX_ hB_ dX9_addGenerator_134 rfl (lv_at hl 5 rfl) ?_
                      refine ze_iastN hX_ hB_ hK hW 9 (f := A 8) rfl (i := n 2) (by omega) (by decide) dX9_addGenerator_135 (ze_qR8 (n 2) gr _ _ _ _ _ _ _) (fun H locs hW => ?_)
                      have hW : ze_W D (ze_wR c d n (ze_sE (ze_sE (ze_sE A 6 (n 2) (nI j)) 7 (n 2) le) 8 (n 2) gr) B mk 0) F s.heap _ _ := hW
                      refine lv_aload_n hX_ hB_ dX9_addGenerator_136 rfl (lv_at hl 2 rfl) ?_
                      refine ze_get (ci := 9) (C := RX9) (T := TX9) (N := 39) (v := .ref (d 10)) S hiX9 hK hW 0 rfl rfl 9 (by decide) rfl w4 dX9_addGenerator_137 ?_
                      refine lv_iload hX_ hB_ dX9_addGenerator_140 (lv_at hl 0 rfl) ?_
                      refine lv_iload hX_ hB_ dX9_addGenerator_142 (lv_at hl 6 rfl) ?_
                      refine ze_iastN hX_ hB_ hK hW 10 (f := A 9) rfl (i := n 2) (by omega) (by decide) dX9_addGenerator_144 (ze_qR9 (n 2) wu _ _ _ _ _ _ _) (fun H locs hW => ?_)
                      have hW : ze_W D (ze_wR c d n (ze_sE (ze_sE (ze_sE (ze_sE A 6 (n 2) (nI j)) 7 (n 2) le) 8 (n 2) gr) 9 (n 2) wu) B mk 0) F s.heap _ _ := hW
                      refine lv_aload_n hX_ hB_ dX9_addGenerator_145 rfl (lv_at hl 2 rfl) ?_
                      refine ze_get (ci := 9) (C := RX9) (T := TX9) (N := 39) (v := .ref (d 11)) S hiX9 hK hW 0 rfl rfl 10 (by decide) rfl w5 dX9_addGenerator_146 ?_
                      refine lv_iload hX_ hB_ dX9_addGenerator_149 (lv_at hl 0 rfl) ?_
                      refine lv_iload hX_ hB_ dX9_addGenerator_151 (lv_at hl 7 rfl) ?_
                      refine ze_iastN hX_ hB_ hK hW 11 (f := A 10) rfl (i := n 2) (by omega) (by decide) dX9_addGenerator_153 (ze_qR10 (n 2) fu _ _ _ _ _ _ _) (fun H locs hW => ?_)
                      have hW : ze_W D (ze_wR c d n (ze_sE (ze_sE (ze_sE (ze_sE (ze_sE A 6 (n 2) (nI j)) 7 (n 2) le) 8 (n 2) gr) 9 (n 2) wu) 10 (n 2) fu) B mk 0) F s.heap _ _ := hW
                      refine lv_aload_n hX_ hB_ dX9_addGenerator_154 rfl (lv_at hl 2 rfl) ?_
                      refine ze_get (ci := 9) (C := RX9) (T := TX9) (N := 39) (v := .ref (d 14)) S hiX9 hK hW 0 rfl rfl 13 (by decide) rfl w6 dX9_addGenerator_155 ?_
                      refine lv_iload hX_ hB_ dX9_addGenerator_158 (lv_at hl 0 rfl) ?_
                      refine lv_bipush (v := 111) hX_ hB_ dX9_addGenerator_160 (by decide) ?_
                      refine ze_castN hX_ hB_ hK hW 14 (f := A 13) rfl (i := n 2) (by omega) (by decide) rfl dX9_addGenerator_162 (ze_qR13 (n 2) 111 _ _ _ _ _ _ _) (fun H locs hW => ?_)
                      have hW : ze_W D (ze_wR c d n (ze_sE (ze_sE (ze_sE (ze_sE (ze_sE (ze_sE A 6 (n 2) (nI j)) 7 (n 2) le) 8 (n 2) gr) 9 (n 2) wu) 10 (n 2) fu) 13 (n 2) 111) B mk 0) F s.heap _ _ := hW
                      refine lv_aload_n hX_ hB_ dX9_addGenerator_163 rfl (lv_at hl 2 rfl) ?_
                      refine lv_dup hX_ hB_ dX9_addGenerator_164 rfl ?_
                      refine ze_get (ci := 9) (C := RX9) (T := TX9) (N := 39) (v := .int (nI (n 2))) S hiX9 hK hW 0 rfl rfl 25 (by decide) rfl w0 dX9_addGenerator_165 ?_
                      refine lv_iconst (v := 1) hX_ hB_ dX9_addGenerator_168 (by decide) ?_
                      refine lv_iadd hX_ hB_ dX9_addGenerator_169 ?_
                      refine ze_top (nI_add (n 2) 1) ?_
                      refine ze_put (ci := 9) (C := RX9) (T := TX9) (N := 39) (v := .int (nI (n 2 + 1))) S hiX9 tyX9 tyX9_ok nmX9 hK hW 0 rfl rfl 25 (by decide) (Nat.le_of_ble_eq_true rfl) rfl rfl rfl w0 dX9_addGenerator_170 (ze_pR25 (n 2 + 1) _ _ _ _ _ _ _) (fun H locs hW => ?_)
                      have hW : ze_W D (ze_wR c d (ze_sn n 2 (n 2 + 1)) (ze_sE (ze_sE (ze_sE (ze_sE (ze_sE (ze_sE A 6 (n 2) (nI j)) 7 (n 2) le) 8 (n 2) gr) 9 (n 2) wu) 10 (n 2) fu) 13 (n 2) 111) B mk 0) F s.heap _ _ := hW
                      refine lv_iload hX_ hB_ dX9_addGenerator_173 (lv_at hl 0 rfl) ?_
                      exact ze_iret S hr hlocks hF hK hW rfl dX9_addGenerator_175 (Nat.le_of_ble_eq_true rfl) (Nat.le_of_ble_eq_true rfl) rfl rfl
                    · exact absurd c101 (by decide)
                  · have c89 : (n 2) = 6 := (nI_eq (a := (n 2)) (b := 6) (by omega) (by omega)).mp c89
                    exact absurd c89 h6
              · exact absurd c67 (by decide)
set_option maxHeartbeats 4000000 in
set_option maxRecDepth 100000 in
theorem zr_start_t1 (l : Launch) (D : va_G) (c : Nat → ClassId) (d n : Nat → Nat) (A : Nat → Nat → Int32) (B : Nat → Int64) (mk : Nat → Int32) (th : Int32) (x : Int32) (hN : zf_N n) (hx : ¬ zf_isIn x 0 (nI (n 2) - 1)) : ze_I l yX9_start wsX9_start 2 43 0 0 D c (ze_wR c d n A B mk th) [.ref (d 0), .int x] 0 (ze_wR c d n A B mk 1) := by
  intro sz
  refine ze_start (cc := cX9_start) (maxL := 2) (ret := (some .int)) (own := RX9) (by decide) rfl rfl (Nat.le_of_ble_eq_true rfl) ?_
  obtain ⟨hn0, hn1, hn2, hn3, hn4⟩ := id hN
  intro p e s m_ below meth cd F ls hF hsz E0
  obtain ⟨S, hr, hlocks, hK, hW, hA, hl⟩ := E0
  have hX_ := S.1
  have hB_ := S.2.1
  have hts := S.2.2.2.2
  have hl : lv_has ls 2 [(0, .ref (d 0)), (1, .int x)] := hl
  refine lv_aload_n hX_ hB_ dX9_start_0 rfl (lv_at hl 0 rfl) ?_
  refine lv_iload_n hX_ hB_ dX9_start_1 rfl (lv_at hl 1 rfl) ?_
  refine ze_Vi (As := [.int x]) (rest := []) (ci := 9) (q0 := 0) (k := (RX9, TX9, 39)) S (zr_isNoGenerator l D c d n A B mk th x) (cwV 1 hts gX9_start_X9_isNoGenerator rfl rfl rfl (by decide +kernel) ⟨Nat.le_of_ble_eq_true rfl, Nat.le_of_ble_eq_true rfl⟩) hK hW hA rfl rfl rfl hl.1 rfl (lv_room (Nat.le_of_ble_eq_true rfl)) dX9_start_2 ⟨Nat.le_of_ble_eq_true rfl, Nat.le_of_ble_eq_true rfl⟩ (fun H locs hW => ?_)
  have hW : ze_W D (ze_wR c d n A B mk (if zf_isIn x 0 (nI (n 2) - 1) then 0 else 1)) F s.heap _ _ := hW
  refine lv_if_ne (tgt := 60) hX_ hB_ dX9_start_5 (by decide) (fun c5 => ?_) (fun c5 => ?_)
  · have c5 : ¬ zf_isIn x 0 (nI (n 2) - 1) := ze_bt c5
    refine lv_iconst (v := 0) hX_ hB_ dX9_start_60 (by decide) ?_
    exact ze_iret S hr hlocks hF hK hW rfl dX9_start_61 (Nat.le_of_ble_eq_true rfl) (Nat.le_of_ble_eq_true rfl) rfl (by simp only [ze_b, eq_false hx, eq_false c5, not_true_eq_false, not_false_eq_true, and_true, true_and, and_false, false_and, or_true, true_or, or_false, false_or, and_self, or_self, Decidable.not_not, if_true, if_false, reduceIte, reduceCtorEq, ne_eq, eq_self, Int32.lt_irrefl, Int32.le_refl, Nat.lt_irrefl])
  · have c5 : ¬ (¬ zf_isIn x 0 (nI (n 2) - 1)) := ze_bf c5
    have c5 : zf_isIn x 0 (nI (n 2) - 1) := Decidable.of_not_not c5
    exact absurd c5 hx
set_option maxHeartbeats 4000000 in
set_option maxRecDepth 100000 in
theorem zr_start_t2 (l : Launch) (D : va_G) (c : Nat → ClassId) (d n : Nat → Nat) (A : Nat → Nat → Int32) (B : Nat → Int64) (mk : Nat → Int32) (th : Int32) (j : Nat) (hN : zf_N n) (hj : j < n 2) (h : ¬ A 13 j = 111) : ze_I l yX9_start wsX9_start 2 43 0 0 D c (ze_wR c d n A B mk th) [.ref (d 0), .int (nI j)] 0 (ze_wR c d n A B mk 2) := by
  intro sz
  refine ze_start (cc := cX9_start) (maxL := 2) (ret := (some .int)) (own := RX9) (by decide) rfl rfl (Nat.le_of_ble_eq_true rfl) ?_
  obtain ⟨hn0, hn1, hn2, hn3, hn4⟩ := id hN
  have hinj : zf_isIn (nI j) 0 (nI (n 2) - 1) := zf_isInN hj (by omega)
  intro p e s m_ below meth cd F ls hF hsz E0
  obtain ⟨S, hr, hlocks, hK, hW, hA, hl⟩ := E0
  have hX_ := S.1
  have hB_ := S.2.1
  have hts := S.2.2.2.2
  have hl : lv_has ls 2 [(0, .ref (d 0)), (1, .int (nI j))] := hl
  have hiX9 : ∀ w ∈ u_ws RX9 TX9 39, w ∈ wsX9_start := fun _ h => (List.mem_cons_of_mem _ (List.mem_append_right _ h))
  have w0 := hts (.fieldLink RX9 50 "IslandgridModel" "state" "[C") (List.mem_cons_of_mem _ (List.mem_append_left _ (List.mem_of_getElem? (i := 0) rfl)))
  refine lv_aload_n hX_ hB_ dX9_start_0 rfl (lv_at hl 0 rfl) ?_
  refine lv_iload_n hX_ hB_ dX9_start_1 rfl (lv_at hl 1 rfl) ?_
  refine ze_Vi (As := [.int (nI j)]) (rest := []) (ci := 9) (q0 := 0) (k := (RX9, TX9, 39)) S (zr_isNoGenerator l D c d n A B mk th (nI j)) (cwV 1 hts gX9_start_X9_isNoGenerator rfl rfl rfl (by decide +kernel) ⟨Nat.le_of_ble_eq_true rfl, Nat.le_of_ble_eq_true rfl⟩) hK hW hA rfl rfl rfl hl.1 rfl (lv_room (Nat.le_of_ble_eq_true rfl)) dX9_start_2 ⟨Nat.le_of_ble_eq_true rfl, Nat.le_of_ble_eq_true rfl⟩ (fun H locs hW => ?_)
  have hW : ze_W D (ze_wR c d n A B mk (if zf_isIn (nI j) 0 (nI (n 2) - 1) then 0 else 1)) F s.heap _ _ := hW
  refine lv_if_ne (tgt := 60) hX_ hB_ dX9_start_5 (by decide) (fun c5 => ?_) (fun c5 => ?_)
  · have c5 : ¬ zf_isIn (nI j) 0 (nI (n 2) - 1) := ze_bt c5
    exact absurd hinj c5
  · have c5 : ¬ (¬ zf_isIn (nI j) 0 (nI (n 2) - 1)) := ze_bf c5
    have c5 : zf_isIn (nI j) 0 (nI (n 2) - 1) := Decidable.of_not_not c5
    refine lv_aload_n hX_ hB_ dX9_start_8 rfl (lv_at hl 0 rfl) ?_
    refine lv_aload_n hX_ hB_ dX9_start_9 rfl (lv_at hl 0 rfl) ?_
    refine ze_get (ci := 9) (C := RX9) (T := TX9) (N := 39) (v := .ref (d 14)) S hiX9 hK hW 0 rfl rfl 13 (by decide) rfl w0 dX9_start_10 ?_
    refine lv_iload_n hX_ hB_ dX9_start_13 rfl (lv_at hl 1 rfl) ?_
    refine ze_caldN hX_ hB_ hK hW 14 (f := A 13) rfl (i := j) (by omega) (by decide) dX9_start_14 ?_
    refine lv_bipush (v := 111) hX_ hB_ dX9_start_15 (by decide) ?_
    refine lv_icmp_eq (tgt := 24) hX_ hB_ dX9_start_17 (by decide) (fun c17 => ?_) (fun c17 => ?_)
    · exact absurd c17 h
    · refine lv_iconst (v := 1) hX_ hB_ dX9_start_20 (by decide) ?_
      refine lv_goto (tgt := 25) hX_ hB_ dX9_start_21 (by decide) ?_
      refine lv_iconst (v := 2) hX_ hB_ dX9_start_25 (by decide) ?_
      refine ze_Vi (As := [.int 1, .int 2]) (rest := []) (ci := 9) (q0 := 0) (k := (RX9, TX9, 39)) S (zr_isThrown l D c d n A B mk (if zf_isIn (nI j) 0 (nI (n 2) - 1) then 0 else 1) 1 2 2 rfl (if_neg (by decide))) (cwV 2 hts gX9_start_X9_isThrown rfl rfl rfl (by decide +kernel) ⟨Nat.le_of_ble_eq_true rfl, Nat.le_of_ble_eq_true rfl⟩) hK hW hA rfl rfl rfl hl.1 rfl (lv_room (Nat.le_of_ble_eq_true rfl)) dX9_start_26 ⟨Nat.le_of_ble_eq_true rfl, Nat.le_of_ble_eq_true rfl⟩ (fun H locs hW => ?_)
      have hW : ze_W D (ze_wR c d n A B mk 2) F s.heap _ _ := hW
      refine lv_if_ne (tgt := 60) hX_ hB_ dX9_start_29 (by decide) (fun c29 => ?_) (fun c29 => ?_)
      · refine lv_iconst (v := 0) hX_ hB_ dX9_start_60 (by decide) ?_
        exact ze_iret S hr hlocks hF hK hW rfl dX9_start_61 (Nat.le_of_ble_eq_true rfl) (Nat.le_of_ble_eq_true rfl) rfl rfl
      · exact absurd c29 (by decide)
set_option maxHeartbeats 4000000 in
set_option maxRecDepth 100000 in
theorem zr_start_t3 (l : Launch) (D : va_G) (c : Nat → ClassId) (d n : Nat → Nat) (A : Nat → Nat → Int32) (B : Nat → Int64) (mk : Nat → Int32) (th : Int32) (j : Nat) (hN : zf_N n) (hj : j < n 2) (h : A 13 j = 111) (h2 : ¬ A 7 j ≤ A 10 j) : ze_I l yX9_start wsX9_start 2 43 0 0 D c (ze_wR c d n A B mk th) [.ref (d 0), .int (nI j)] 0 (ze_wR c d n A B mk 3) := by
  intro sz
  refine ze_start (cc := cX9_start) (maxL := 2) (ret := (some .int)) (own := RX9) (by decide) rfl rfl (Nat.le_of_ble_eq_true rfl) ?_
  obtain ⟨hn0, hn1, hn2, hn3, hn4⟩ := id hN
  have hinj : zf_isIn (nI j) 0 (nI (n 2) - 1) := zf_isInN hj (by omega)
  intro p e s m_ below meth cd F ls hF hsz E0
  obtain ⟨S, hr, hlocks, hK, hW, hA, hl⟩ := E0
  have hX_ := S.1
  have hB_ := S.2.1
  have hts := S.2.2.2.2
  have hl : lv_has ls 2 [(0, .ref (d 0)), (1, .int (nI j))] := hl
  have hiX9 : ∀ w ∈ u_ws RX9 TX9 39, w ∈ wsX9_start := fun _ h => (List.mem_cons_of_mem _ (List.mem_append_right _ h))
  have w0 := hts (.fieldLink RX9 50 "IslandgridModel" "state" "[C") (List.mem_cons_of_mem _ (List.mem_append_left _ (List.mem_of_getElem? (i := 0) rfl)))
  have w1 := hts (.fieldLink RX9 41 "IslandgridModel" "fuel" "[I") (List.mem_cons_of_mem _ (List.mem_append_left _ (List.mem_of_getElem? (i := 1) rfl)))
  have w2 := hts (.fieldLink RX9 32 "IslandgridModel" "least" "[I") (List.mem_cons_of_mem _ (List.mem_append_left _ (List.mem_of_getElem? (i := 2) rfl)))
  refine lv_aload_n hX_ hB_ dX9_start_0 rfl (lv_at hl 0 rfl) ?_
  refine lv_iload_n hX_ hB_ dX9_start_1 rfl (lv_at hl 1 rfl) ?_
  refine ze_Vi (As := [.int (nI j)]) (rest := []) (ci := 9) (q0 := 0) (k := (RX9, TX9, 39)) S (zr_isNoGenerator l D c d n A B mk th (nI j)) (cwV 1 hts gX9_start_X9_isNoGenerator rfl rfl rfl (by decide +kernel) ⟨Nat.le_of_ble_eq_true rfl, Nat.le_of_ble_eq_true rfl⟩) hK hW hA rfl rfl rfl hl.1 rfl (lv_room (Nat.le_of_ble_eq_true rfl)) dX9_start_2 ⟨Nat.le_of_ble_eq_true rfl, Nat.le_of_ble_eq_true rfl⟩ (fun H locs hW => ?_)
  have hW : ze_W D (ze_wR c d n A B mk (if zf_isIn (nI j) 0 (nI (n 2) - 1) then 0 else 1)) F s.heap _ _ := hW
  refine lv_if_ne (tgt := 60) hX_ hB_ dX9_start_5 (by decide) (fun c5 => ?_) (fun c5 => ?_)
  · have c5 : ¬ zf_isIn (nI j) 0 (nI (n 2) - 1) := ze_bt c5
    exact absurd hinj c5
  · have c5 : ¬ (¬ zf_isIn (nI j) 0 (nI (n 2) - 1)) := ze_bf c5
    have c5 : zf_isIn (nI j) 0 (nI (n 2) - 1) := Decidable.of_not_not c5
    refine lv_aload_n hX_ hB_ dX9_start_8 rfl (lv_at hl 0 rfl) ?_
    refine lv_aload_n hX_ hB_ dX9_start_9 rfl (lv_at hl 0 rfl) ?_
    refine ze_get (ci := 9) (C := RX9) (T := TX9) (N := 39) (v := .ref (d 14)) S hiX9 hK hW 0 rfl rfl 13 (by decide) rfl w0 dX9_start_10 ?_
    refine lv_iload_n hX_ hB_ dX9_start_13 rfl (lv_at hl 1 rfl) ?_
    refine ze_caldN hX_ hB_ hK hW 14 (f := A 13) rfl (i := j) (by omega) (by decide) dX9_start_14 ?_
    refine lv_bipush (v := 111) hX_ hB_ dX9_start_15 (by decide) ?_
    refine lv_icmp_eq (tgt := 24) hX_ hB_ dX9_start_17 (by decide) (fun c17 => ?_) (fun c17 => ?_)
    · refine lv_iconst (v := 0) hX_ hB_ dX9_start_24 (by decide) ?_
      refine lv_iconst (v := 2) hX_ hB_ dX9_start_25 (by decide) ?_
      refine ze_Vi (As := [.int 0, .int 2]) (rest := []) (ci := 9) (q0 := 0) (k := (RX9, TX9, 39)) S (zr_isThrown l D c d n A B mk (if zf_isIn (nI j) 0 (nI (n 2) - 1) then 0 else 1) 0 2 0 rfl (if_pos rfl)) (cwV 2 hts gX9_start_X9_isThrown rfl rfl rfl (by decide +kernel) ⟨Nat.le_of_ble_eq_true rfl, Nat.le_of_ble_eq_true rfl⟩) hK hW hA rfl rfl rfl hl.1 rfl (lv_room (Nat.le_of_ble_eq_true rfl)) dX9_start_26 ⟨Nat.le_of_ble_eq_true rfl, Nat.le_of_ble_eq_true rfl⟩ (fun H locs hW => ?_)
      have hW : ze_W D (ze_wR c d n A B mk 0) F s.heap _ _ := hW
      refine lv_if_ne (tgt := 60) hX_ hB_ dX9_start_29 (by decide) (fun c29 => ?_) (fun c29 => ?_)
      · exact absurd c29 (by decide)
      · refine lv_aload_n hX_ hB_ dX9_start_32 rfl (lv_at hl 0 rfl) ?_
        refine lv_aload_n hX_ hB_ dX9_start_33 rfl (lv_at hl 0 rfl) ?_
        refine ze_get (ci := 9) (C := RX9) (T := TX9) (N := 39) (v := .ref (d 11)) S hiX9 hK hW 0 rfl rfl 10 (by decide) rfl w1 dX9_start_34 ?_
        refine lv_iload_n hX_ hB_ dX9_start_37 rfl (lv_at hl 1 rfl) ?_
        refine ze_ialdN hX_ hB_ hK hW 11 (f := A 10) rfl (i := j) (by omega) (by decide) dX9_start_38 ?_
        refine lv_aload_n hX_ hB_ dX9_start_39 rfl (lv_at hl 0 rfl) ?_
        refine ze_get (ci := 9) (C := RX9) (T := TX9) (N := 39) (v := .ref (d 8)) S hiX9 hK hW 0 rfl rfl 7 (by decide) rfl w2 dX9_start_40 ?_
        refine lv_iload_n hX_ hB_ dX9_start_43 rfl (lv_at hl 1 rfl) ?_
        refine ze_ialdN hX_ hB_ hK hW 8 (f := A 7) rfl (i := j) (by omega) (by decide) dX9_start_44 ?_
        refine lv_icmp_ge (tgt := 52) hX_ hB_ dX9_start_45 (by decide) (fun c45 => ?_) (fun c45 => ?_)
        · exact absurd c45 h2
        · refine lv_iconst (v := 1) hX_ hB_ dX9_start_48 (by decide) ?_
          refine lv_goto (tgt := 53) hX_ hB_ dX9_start_49 (by decide) ?_
          refine lv_iconst (v := 3) hX_ hB_ dX9_start_53 (by decide) ?_
          refine ze_Vi (As := [.int 1, .int 3]) (rest := []) (ci := 9) (q0 := 0) (k := (RX9, TX9, 39)) S (zr_isThrown l D c d n A B mk 0 1 3 3 rfl (if_neg (by decide))) (cwV 2 hts gX9_start_X9_isThrown rfl rfl rfl (by decide +kernel) ⟨Nat.le_of_ble_eq_true rfl, Nat.le_of_ble_eq_true rfl⟩) hK hW hA rfl rfl rfl hl.1 rfl (lv_room (Nat.le_of_ble_eq_true rfl)) dX9_start_54 ⟨Nat.le_of_ble_eq_true rfl, Nat.le_of_ble_eq_true rfl⟩ (fun H locs hW => ?_)
          have hW : ze_W D (ze_wR c d n A B mk 3) F s.heap _ _ := hW
          refine lv_if_eq (tgt := 62) hX_ hB_ dX9_start_57 (by decide) (fun c57 => ?_) (fun c57 => ?_)
          · exact absurd c57 (by decide)
          · refine lv_iconst (v := 0) hX_ hB_ dX9_start_60 (by decide) ?_
            exact ze_iret S hr hlocks hF hK hW rfl dX9_start_61 (Nat.le_of_ble_eq_true rfl) (Nat.le_of_ble_eq_true rfl) rfl rfl
    · exact absurd h c17
set_option maxHeartbeats 4000000 in
set_option maxRecDepth 100000 in
theorem zr_start_f (l : Launch) (D : va_G) (c : Nat → ClassId) (d n : Nat → Nat) (A : Nat → Nat → Int32) (B : Nat → Int64) (mk : Nat → Int32) (th : Int32) (j : Nat) (hN : zf_N n) (hj : j < n 2) (h : A 13 j = 111) (h2 : A 7 j ≤ A 10 j) : ze_I l yX9_start wsX9_start 2 43 0 0 D c (ze_wR c d n A B mk th) [.ref (d 0), .int (nI j)] (A 9 j) (ze_wR c d n (zf_start A j) B mk 0) := by
  intro sz
  refine ze_start (cc := cX9_start) (maxL := 2) (ret := (some .int)) (own := RX9) (by decide) rfl rfl (Nat.le_of_ble_eq_true rfl) ?_
  obtain ⟨hn0, hn1, hn2, hn3, hn4⟩ := id hN
  have hinj : zf_isIn (nI j) 0 (nI (n 2) - 1) := zf_isInN hj (by omega)
  intro p e s m_ below meth cd F ls hF hsz E0
  obtain ⟨S, hr, hlocks, hK, hW, hA, hl⟩ := E0
  have hX_ := S.1
  have hB_ := S.2.1
  have hts := S.2.2.2.2
  have hl : lv_has ls 2 [(0, .ref (d 0)), (1, .int (nI j))] := hl
  have hiX9 : ∀ w ∈ u_ws RX9 TX9 39, w ∈ wsX9_start := fun _ h => (List.mem_cons_of_mem _ (List.mem_append_right _ h))
  have w0 := hts (.fieldLink RX9 50 "IslandgridModel" "state" "[C") (List.mem_cons_of_mem _ (List.mem_append_left _ (List.mem_of_getElem? (i := 0) rfl)))
  have w1 := hts (.fieldLink RX9 41 "IslandgridModel" "fuel" "[I") (List.mem_cons_of_mem _ (List.mem_append_left _ (List.mem_of_getElem? (i := 1) rfl)))
  have w2 := hts (.fieldLink RX9 32 "IslandgridModel" "least" "[I") (List.mem_cons_of_mem _ (List.mem_append_left _ (List.mem_of_getElem? (i := 2) rfl)))
  have w3 := hts (.fieldLink RX9 38 "IslandgridModel" "warmUp" "[I") (List.mem_cons_of_mem _ (List.mem_append_left _ (List.mem_of_getElem? (i := 3) rfl)))
  refine lv_aload_n hX_ hB_ dX9_start_0 rfl (lv_at hl 0 rfl) ?_
  refine lv_iload_n hX_ hB_ dX9_start_1 rfl (lv_at hl 1 rfl) ?_
  refine ze_Vi (As := [.int (nI j)]) (rest := []) (ci := 9) (q0 := 0) (k := (RX9, TX9, 39)) S (zr_isNoGenerator l D c d n A B mk th (nI j)) (cwV 1 hts gX9_start_X9_isNoGenerator rfl rfl rfl (by decide +kernel) ⟨Nat.le_of_ble_eq_true rfl, Nat.le_of_ble_eq_true rfl⟩) hK hW hA rfl rfl rfl hl.1 rfl (lv_room (Nat.le_of_ble_eq_true rfl)) dX9_start_2 ⟨Nat.le_of_ble_eq_true rfl, Nat.le_of_ble_eq_true rfl⟩ (fun H locs hW => ?_)
  have hW : ze_W D (ze_wR c d n A B mk (if zf_isIn (nI j) 0 (nI (n 2) - 1) then 0 else 1)) F s.heap _ _ := hW
  refine lv_if_ne (tgt := 60) hX_ hB_ dX9_start_5 (by decide) (fun c5 => ?_) (fun c5 => ?_)
  · have c5 : ¬ zf_isIn (nI j) 0 (nI (n 2) - 1) := ze_bt c5
    exact absurd hinj c5
  · have c5 : ¬ (¬ zf_isIn (nI j) 0 (nI (n 2) - 1)) := ze_bf c5
    have c5 : zf_isIn (nI j) 0 (nI (n 2) - 1) := Decidable.of_not_not c5
    refine lv_aload_n hX_ hB_ dX9_start_8 rfl (lv_at hl 0 rfl) ?_
    refine lv_aload_n hX_ hB_ dX9_start_9 rfl (lv_at hl 0 rfl) ?_
    refine ze_get (ci := 9) (C := RX9) (T := TX9) (N := 39) (v := .ref (d 14)) S hiX9 hK hW 0 rfl rfl 13 (by decide) rfl w0 dX9_start_10 ?_
    refine lv_iload_n hX_ hB_ dX9_start_13 rfl (lv_at hl 1 rfl) ?_
    refine ze_caldN hX_ hB_ hK hW 14 (f := A 13) rfl (i := j) (by omega) (by decide) dX9_start_14 ?_
    refine lv_bipush (v := 111) hX_ hB_ dX9_start_15 (by decide) ?_
    refine lv_icmp_eq (tgt := 24) hX_ hB_ dX9_start_17 (by decide) (fun c17 => ?_) (fun c17 => ?_)
    · refine lv_iconst (v := 0) hX_ hB_ dX9_start_24 (by decide) ?_
      refine lv_iconst (v := 2) hX_ hB_ dX9_start_25 (by decide) ?_
      refine ze_Vi (As := [.int 0, .int 2]) (rest := []) (ci := 9) (q0 := 0) (k := (RX9, TX9, 39)) S (zr_isThrown l D c d n A B mk (if zf_isIn (nI j) 0 (nI (n 2) - 1) then 0 else 1) 0 2 0 rfl (if_pos rfl)) (cwV 2 hts gX9_start_X9_isThrown rfl rfl rfl (by decide +kernel) ⟨Nat.le_of_ble_eq_true rfl, Nat.le_of_ble_eq_true rfl⟩) hK hW hA rfl rfl rfl hl.1 rfl (lv_room (Nat.le_of_ble_eq_true rfl)) dX9_start_26 ⟨Nat.le_of_ble_eq_true rfl, Nat.le_of_ble_eq_true rfl⟩ (fun H locs hW => ?_)
      have hW : ze_W D (ze_wR c d n A B mk 0) F s.heap _ _ := hW
      refine lv_if_ne (tgt := 60) hX_ hB_ dX9_start_29 (by decide) (fun c29 => ?_) (fun c29 => ?_)
      · exact absurd c29 (by decide)
      · refine lv_aload_n hX_ hB_ dX9_start_32 rfl (lv_at hl 0 rfl) ?_
        refine lv_aload_n hX_ hB_ dX9_start_33 rfl (lv_at hl 0 rfl) ?_
        refine ze_get (ci := 9) (C := RX9) (T := TX9) (N := 39) (v := .ref (d 11)) S hiX9 hK hW 0 rfl rfl 10 (by decide) rfl w1 dX9_start_34 ?_
        refine lv_iload_n hX_ hB_ dX9_start_37 rfl (lv_at hl 1 rfl) ?_
        refine ze_ialdN hX_ hB_ hK hW 11 (f := A 10) rfl (i := j) (by omega) (by decide) dX9_start_38 ?_
        refine lv_aload_n hX_ hB_ dX9_start_39 rfl (lv_at hl 0 rfl) ?_
        refine ze_get (ci := 9) (C := RX9) (T := TX9) (N := 39) (v := .ref (d 8)) S hiX9 hK hW 0 rfl rfl 7 (by decide) rfl w2 dX9_start_40 ?_
        refine lv_iload_n hX_ hB_ dX9_start_43 rfl (lv_at hl 1 rfl) ?_
        refine ze_ialdN hX_ hB_ hK hW 8 (f := A 7) rfl (i := j) (by omega) (by decide) dX9_start_44 ?_
        refine lv_icmp_ge (tgt := 52) hX_ hB_ dX9_start_45 (by decide) (fun c45 => ?_) (fun c45 => ?_)
        · refine lv_iconst (v := 0) hX_ hB_ dX9_start_52 (by decide) ?_
          refine lv_iconst (v := 3) hX_ hB_ dX9_start_53 (by decide) ?_
          refine ze_Vi (As := [.int 0, .int 3]) (rest := []) (ci := 9) (q0 := 0) (k := (RX9, TX9, 39)) S (zr_isThrown l D c d n A B mk 0 0 3 0 rfl (if_pos rfl)) (cwV 2 hts gX9_start_X9_isThrown rfl rfl rfl (by decide +kernel) ⟨Nat.le_of_ble_eq_true rfl, Nat.le_of_ble_eq_true rfl⟩) hK hW hA rfl rfl rfl hl.1 rfl (lv_room (Nat.le_of_ble_eq_true rfl)) dX9_start_54 ⟨Nat.le_of_ble_eq_true rfl, Nat.le_of_ble_eq_true rfl⟩ (fun H locs hW => ?_)
          refine lv_if_eq (tgt := 62) hX_ hB_ dX9_start_57 (by decide) (fun c57 => ?_) (fun c57 => ?_)
          · refine lv_aload_n hX_ hB_ dX9_start_62 rfl (lv_at hl 0 rfl) ?_
            refine lv_iload_n hX_ hB_ dX9_start_63 rfl (lv_at hl 1 rfl) ?_
            refine ze_Vv (As := [.int (nI j)]) (rest := []) (ci := 9) (q0 := 0) (k := (RX9, TX9, 39)) S (zr_starts l D c d n A B mk 0 j hN (by omega)) (cwV 1 hts gX9_start_X9_starts rfl rfl rfl (by decide +kernel) ⟨Nat.le_of_ble_eq_true rfl, Nat.le_of_ble_eq_true rfl⟩) hK hW hA rfl rfl rfl hl.1 rfl (lv_room (Nat.le_of_ble_eq_true rfl)) dX9_start_64 ⟨Nat.le_of_ble_eq_true rfl, Nat.le_of_ble_eq_true rfl⟩ (fun H locs hW => ?_)
            have hW : ze_W D (ze_wR c d n (zf_start A j) B mk 0) F s.heap _ _ := hW
            refine lv_aload_n hX_ hB_ dX9_start_67 rfl (lv_at hl 0 rfl) ?_
            refine ze_get (ci := 9) (C := RX9) (T := TX9) (N := 39) (v := .ref (d 10)) S hiX9 hK hW 0 rfl rfl 9 (by decide) rfl w3 dX9_start_68 ?_
            refine lv_iload_n hX_ hB_ dX9_start_71 rfl (lv_at hl 1 rfl) ?_
            refine ze_ialdN hX_ hB_ hK hW 10 (f := (zf_start A j) 9) rfl (i := j) (by omega) (by decide) dX9_start_72 ?_
            exact ze_iret S hr hlocks hF hK hW rfl dX9_start_73 (Nat.le_of_ble_eq_true rfl) (Nat.le_of_ble_eq_true rfl) rfl rfl
          · exact absurd c57 (by decide)
        · exact absurd h2 c45
    · exact absurd h c17
set_option maxHeartbeats 4000000 in
set_option maxRecDepth 100000 in
theorem zr_stop_t1 (l : Launch) (D : va_G) (c : Nat → ClassId) (d n : Nat → Nat) (A : Nat → Nat → Int32) (B : Nat → Int64) (mk : Nat → Int32) (th : Int32) (x : Int32) (hN : zf_N n) (hx : ¬ zf_isIn x 0 (nI (n 2) - 1)) : ze_I l yX9_stop wsX9_stop 2 43 0 0 D c (ze_wR c d n A B mk th) [.ref (d 0), .int x] 0 (ze_wR c d n A B mk 1) := by
  intro sz
  refine ze_start (cc := cX9_stop) (maxL := 2) (ret := (some .int)) (own := RX9) (by decide) rfl rfl (Nat.le_of_ble_eq_true rfl) ?_
  obtain ⟨hn0, hn1, hn2, hn3, hn4⟩ := id hN
  intro p e s m_ below meth cd F ls hF hsz E0
  obtain ⟨S, hr, hlocks, hK, hW, hA, hl⟩ := E0
  have hX_ := S.1
  have hB_ := S.2.1
  have hts := S.2.2.2.2
  have hl : lv_has ls 2 [(0, .ref (d 0)), (1, .int x)] := hl
  refine lv_aload_n hX_ hB_ dX9_stop_0 rfl (lv_at hl 0 rfl) ?_
  refine lv_iload_n hX_ hB_ dX9_stop_1 rfl (lv_at hl 1 rfl) ?_
  refine ze_Vi (As := [.int x]) (rest := []) (ci := 9) (q0 := 0) (k := (RX9, TX9, 39)) S (zr_isNoGenerator l D c d n A B mk th x) (cwV 1 hts gX9_stop_X9_isNoGenerator rfl rfl rfl (by decide +kernel) ⟨Nat.le_of_ble_eq_true rfl, Nat.le_of_ble_eq_true rfl⟩) hK hW hA rfl rfl rfl hl.1 rfl (lv_room (Nat.le_of_ble_eq_true rfl)) dX9_stop_2 ⟨Nat.le_of_ble_eq_true rfl, Nat.le_of_ble_eq_true rfl⟩ (fun H locs hW => ?_)
  have hW : ze_W D (ze_wR c d n A B mk (if zf_isIn x 0 (nI (n 2) - 1) then 0 else 1)) F s.heap _ _ := hW
  refine lv_if_ne (tgt := 32) hX_ hB_ dX9_stop_5 (by decide) (fun c5 => ?_) (fun c5 => ?_)
  · have c5 : ¬ zf_isIn x 0 (nI (n 2) - 1) := ze_bt c5
    refine lv_iconst (v := 0) hX_ hB_ dX9_stop_32 (by decide) ?_
    exact ze_iret S hr hlocks hF hK hW rfl dX9_stop_33 (Nat.le_of_ble_eq_true rfl) (Nat.le_of_ble_eq_true rfl) rfl (by simp only [ze_b, eq_false hx, eq_false c5, not_true_eq_false, not_false_eq_true, and_true, true_and, and_false, false_and, or_true, true_or, or_false, false_or, and_self, or_self, Decidable.not_not, if_true, if_false, reduceIte, reduceCtorEq, ne_eq, eq_self, Int32.lt_irrefl, Int32.le_refl, Nat.lt_irrefl])
  · have c5 : ¬ (¬ zf_isIn x 0 (nI (n 2) - 1)) := ze_bf c5
    have c5 : zf_isIn x 0 (nI (n 2) - 1) := Decidable.of_not_not c5
    exact absurd c5 hx
set_option maxHeartbeats 4000000 in
set_option maxRecDepth 100000 in
theorem zr_stop_t2 (l : Launch) (D : va_G) (c : Nat → ClassId) (d n : Nat → Nat) (A : Nat → Nat → Int32) (B : Nat → Int64) (mk : Nat → Int32) (th : Int32) (j : Nat) (hN : zf_N n) (hj : j < n 2) (h : A 13 j = 111) : ze_I l yX9_stop wsX9_stop 2 43 0 0 D c (ze_wR c d n A B mk th) [.ref (d 0), .int (nI j)] 0 (ze_wR c d n A B mk 2) := by
  intro sz
  refine ze_start (cc := cX9_stop) (maxL := 2) (ret := (some .int)) (own := RX9) (by decide) rfl rfl (Nat.le_of_ble_eq_true rfl) ?_
  obtain ⟨hn0, hn1, hn2, hn3, hn4⟩ := id hN
  have hinj : zf_isIn (nI j) 0 (nI (n 2) - 1) := zf_isInN hj (by omega)
  intro p e s m_ below meth cd F ls hF hsz E0
  obtain ⟨S, hr, hlocks, hK, hW, hA, hl⟩ := E0
  have hX_ := S.1
  have hB_ := S.2.1
  have hts := S.2.2.2.2
  have hl : lv_has ls 2 [(0, .ref (d 0)), (1, .int (nI j))] := hl
  have hiX9 : ∀ w ∈ u_ws RX9 TX9 39, w ∈ wsX9_stop := fun _ h => (List.mem_cons_of_mem _ (List.mem_append_right _ h))
  have w0 := hts (.fieldLink RX9 50 "IslandgridModel" "state" "[C") (List.mem_cons_of_mem _ (List.mem_append_left _ (List.mem_of_getElem? (i := 0) rfl)))
  refine lv_aload_n hX_ hB_ dX9_stop_0 rfl (lv_at hl 0 rfl) ?_
  refine lv_iload_n hX_ hB_ dX9_stop_1 rfl (lv_at hl 1 rfl) ?_
  refine ze_Vi (As := [.int (nI j)]) (rest := []) (ci := 9) (q0 := 0) (k := (RX9, TX9, 39)) S (zr_isNoGenerator l D c d n A B mk th (nI j)) (cwV 1 hts gX9_stop_X9_isNoGenerator rfl rfl rfl (by decide +kernel) ⟨Nat.le_of_ble_eq_true rfl, Nat.le_of_ble_eq_true rfl⟩) hK hW hA rfl rfl rfl hl.1 rfl (lv_room (Nat.le_of_ble_eq_true rfl)) dX9_stop_2 ⟨Nat.le_of_ble_eq_true rfl, Nat.le_of_ble_eq_true rfl⟩ (fun H locs hW => ?_)
  have hW : ze_W D (ze_wR c d n A B mk (if zf_isIn (nI j) 0 (nI (n 2) - 1) then 0 else 1)) F s.heap _ _ := hW
  refine lv_if_ne (tgt := 32) hX_ hB_ dX9_stop_5 (by decide) (fun c5 => ?_) (fun c5 => ?_)
  · have c5 : ¬ zf_isIn (nI j) 0 (nI (n 2) - 1) := ze_bt c5
    exact absurd hinj c5
  · have c5 : ¬ (¬ zf_isIn (nI j) 0 (nI (n 2) - 1)) := ze_bf c5
    have c5 : zf_isIn (nI j) 0 (nI (n 2) - 1) := Decidable.of_not_not c5
    refine lv_aload_n hX_ hB_ dX9_stop_8 rfl (lv_at hl 0 rfl) ?_
    refine lv_aload_n hX_ hB_ dX9_stop_9 rfl (lv_at hl 0 rfl) ?_
    refine ze_get (ci := 9) (C := RX9) (T := TX9) (N := 39) (v := .ref (d 14)) S hiX9 hK hW 0 rfl rfl 13 (by decide) rfl w0 dX9_stop_10 ?_
    refine lv_iload_n hX_ hB_ dX9_stop_13 rfl (lv_at hl 1 rfl) ?_
    refine ze_caldN hX_ hB_ hK hW 14 (f := A 13) rfl (i := j) (by omega) (by decide) dX9_stop_14 ?_
    refine lv_bipush (v := 111) hX_ hB_ dX9_stop_15 (by decide) ?_
    refine lv_icmp_ne (tgt := 24) hX_ hB_ dX9_stop_17 (by decide) (fun c17 => ?_) (fun c17 => ?_)
    · exact absurd h c17
    · refine lv_iconst (v := 1) hX_ hB_ dX9_stop_20 (by decide) ?_
      refine lv_goto (tgt := 25) hX_ hB_ dX9_stop_21 (by decide) ?_
      refine lv_iconst (v := 2) hX_ hB_ dX9_stop_25 (by decide) ?_
      refine ze_Vi (As := [.int 1, .int 2]) (rest := []) (ci := 9) (q0 := 0) (k := (RX9, TX9, 39)) S (zr_isThrown l D c d n A B mk (if zf_isIn (nI j) 0 (nI (n 2) - 1) then 0 else 1) 1 2 2 rfl (if_neg (by decide))) (cwV 2 hts gX9_stop_X9_isThrown rfl rfl rfl (by decide +kernel) ⟨Nat.le_of_ble_eq_true rfl, Nat.le_of_ble_eq_true rfl⟩) hK hW hA rfl rfl rfl hl.1 rfl (lv_room (Nat.le_of_ble_eq_true rfl)) dX9_stop_26 ⟨Nat.le_of_ble_eq_true rfl, Nat.le_of_ble_eq_true rfl⟩ (fun H locs hW => ?_)
      have hW : ze_W D (ze_wR c d n A B mk 2) F s.heap _ _ := hW
      refine lv_if_eq (tgt := 34) hX_ hB_ dX9_stop_29 (by decide) (fun c29 => ?_) (fun c29 => ?_)
      · exact absurd c29 (by decide)
      · refine lv_iconst (v := 0) hX_ hB_ dX9_stop_32 (by decide) ?_
        exact ze_iret S hr hlocks hF hK hW rfl dX9_stop_33 (Nat.le_of_ble_eq_true rfl) (Nat.le_of_ble_eq_true rfl) rfl rfl
set_option maxHeartbeats 4000000 in
set_option maxRecDepth 100000 in
theorem zr_stop_f (l : Launch) (D : va_G) (c : Nat → ClassId) (d n : Nat → Nat) (A : Nat → Nat → Int32) (B : Nat → Int64) (mk : Nat → Int32) (th : Int32) (j : Nat) (hN : zf_N n) (hj : j < n 2) (h : ¬ A 13 j = 111) : ze_I l yX9_stop wsX9_stop 2 43 0 0 D c (ze_wR c d n A B mk th) [.ref (d 0), .int (nI j)] (A 10 j) (ze_wR c d n (ze_sE A 13 j 111) B mk 0) := by
  intro sz
  refine ze_start (cc := cX9_stop) (maxL := 2) (ret := (some .int)) (own := RX9) (by decide) rfl rfl (Nat.le_of_ble_eq_true rfl) ?_
  obtain ⟨hn0, hn1, hn2, hn3, hn4⟩ := id hN
  have hinj : zf_isIn (nI j) 0 (nI (n 2) - 1) := zf_isInN hj (by omega)
  intro p e s m_ below meth cd F ls hF hsz E0
  obtain ⟨S, hr, hlocks, hK, hW, hA, hl⟩ := E0
  have hX_ := S.1
  have hB_ := S.2.1
  have hts := S.2.2.2.2
  have hl : lv_has ls 2 [(0, .ref (d 0)), (1, .int (nI j))] := hl
  have hiX9 : ∀ w ∈ u_ws RX9 TX9 39, w ∈ wsX9_stop := fun _ h => (List.mem_cons_of_mem _ (List.mem_append_right _ h))
  have w0 := hts (.fieldLink RX9 50 "IslandgridModel" "state" "[C") (List.mem_cons_of_mem _ (List.mem_append_left _ (List.mem_of_getElem? (i := 0) rfl)))
  have w1 := hts (.fieldLink RX9 41 "IslandgridModel" "fuel" "[I") (List.mem_cons_of_mem _ (List.mem_append_left _ (List.mem_of_getElem? (i := 1) rfl)))
  refine lv_aload_n hX_ hB_ dX9_stop_0 rfl (lv_at hl 0 rfl) ?_
  refine lv_iload_n hX_ hB_ dX9_stop_1 rfl (lv_at hl 1 rfl) ?_
  refine ze_Vi (As := [.int (nI j)]) (rest := []) (ci := 9) (q0 := 0) (k := (RX9, TX9, 39)) S (zr_isNoGenerator l D c d n A B mk th (nI j)) (cwV 1 hts gX9_stop_X9_isNoGenerator rfl rfl rfl (by decide +kernel) ⟨Nat.le_of_ble_eq_true rfl, Nat.le_of_ble_eq_true rfl⟩) hK hW hA rfl rfl rfl hl.1 rfl (lv_room (Nat.le_of_ble_eq_true rfl)) dX9_stop_2 ⟨Nat.le_of_ble_eq_true rfl, Nat.le_of_ble_eq_true rfl⟩ (fun H locs hW => ?_)
  have hW : ze_W D (ze_wR c d n A B mk (if zf_isIn (nI j) 0 (nI (n 2) - 1) then 0 else 1)) F s.heap _ _ := hW
  refine lv_if_ne (tgt := 32) hX_ hB_ dX9_stop_5 (by decide) (fun c5 => ?_) (fun c5 => ?_)
  · have c5 : ¬ zf_isIn (nI j) 0 (nI (n 2) - 1) := ze_bt c5
    exact absurd hinj c5
  · have c5 : ¬ (¬ zf_isIn (nI j) 0 (nI (n 2) - 1)) := ze_bf c5
    have c5 : zf_isIn (nI j) 0 (nI (n 2) - 1) := Decidable.of_not_not c5
    refine lv_aload_n hX_ hB_ dX9_stop_8 rfl (lv_at hl 0 rfl) ?_
    refine lv_aload_n hX_ hB_ dX9_stop_9 rfl (lv_at hl 0 rfl) ?_
    refine ze_get (ci := 9) (C := RX9) (T := TX9) (N := 39) (v := .ref (d 14)) S hiX9 hK hW 0 rfl rfl 13 (by decide) rfl w0 dX9_stop_10 ?_
    refine lv_iload_n hX_ hB_ dX9_stop_13 rfl (lv_at hl 1 rfl) ?_
    refine ze_caldN hX_ hB_ hK hW 14 (f := A 13) rfl (i := j) (by omega) (by decide) dX9_stop_14 ?_
    refine lv_bipush (v := 111) hX_ hB_ dX9_stop_15 (by decide) ?_
    refine lv_icmp_ne (tgt := 24) hX_ hB_ dX9_stop_17 (by decide) (fun c17 => ?_) (fun c17 => ?_)
    · refine lv_iconst (v := 0) hX_ hB_ dX9_stop_24 (by decide) ?_
      refine lv_iconst (v := 2) hX_ hB_ dX9_stop_25 (by decide) ?_
      refine ze_Vi (As := [.int 0, .int 2]) (rest := []) (ci := 9) (q0 := 0) (k := (RX9, TX9, 39)) S (zr_isThrown l D c d n A B mk (if zf_isIn (nI j) 0 (nI (n 2) - 1) then 0 else 1) 0 2 0 rfl (if_pos rfl)) (cwV 2 hts gX9_stop_X9_isThrown rfl rfl rfl (by decide +kernel) ⟨Nat.le_of_ble_eq_true rfl, Nat.le_of_ble_eq_true rfl⟩) hK hW hA rfl rfl rfl hl.1 rfl (lv_room (Nat.le_of_ble_eq_true rfl)) dX9_stop_26 ⟨Nat.le_of_ble_eq_true rfl, Nat.le_of_ble_eq_true rfl⟩ (fun H locs hW => ?_)
      have hW : ze_W D (ze_wR c d n A B mk 0) F s.heap _ _ := hW
      refine lv_if_eq (tgt := 34) hX_ hB_ dX9_stop_29 (by decide) (fun c29 => ?_) (fun c29 => ?_)
      · refine lv_aload_n hX_ hB_ dX9_stop_34 rfl (lv_at hl 0 rfl) ?_
        refine ze_get (ci := 9) (C := RX9) (T := TX9) (N := 39) (v := .ref (d 14)) S hiX9 hK hW 0 rfl rfl 13 (by decide) rfl w0 dX9_stop_35 ?_
        refine lv_iload_n hX_ hB_ dX9_stop_38 rfl (lv_at hl 1 rfl) ?_
        refine lv_bipush (v := 111) hX_ hB_ dX9_stop_39 (by decide) ?_
        refine ze_castN hX_ hB_ hK hW 14 (f := A 13) rfl (i := j) (by omega) (by decide) rfl dX9_stop_41 (ze_qR13 j 111 _ _ _ _ _ _ _) (fun H locs hW => ?_)
        have hW : ze_W D (ze_wR c d n (ze_sE A 13 j 111) B mk 0) F s.heap _ _ := hW
        refine lv_aload_n hX_ hB_ dX9_stop_42 rfl (lv_at hl 0 rfl) ?_
        refine ze_get (ci := 9) (C := RX9) (T := TX9) (N := 39) (v := .ref (d 11)) S hiX9 hK hW 0 rfl rfl 10 (by decide) rfl w1 dX9_stop_43 ?_
        refine lv_iload_n hX_ hB_ dX9_stop_46 rfl (lv_at hl 1 rfl) ?_
        refine ze_ialdN hX_ hB_ hK hW 11 (f := A 10) rfl (i := j) (by omega) (by decide) dX9_stop_47 ?_
        exact ze_iret S hr hlocks hF hK hW rfl dX9_stop_48 (Nat.le_of_ble_eq_true rfl) (Nat.le_of_ble_eq_true rfl) rfl rfl
      · exact absurd c29 (by decide)
    · exact absurd c17 h
set_option maxHeartbeats 4000000 in
set_option maxRecDepth 100000 in
theorem zr_refuel_t1 (l : Launch) (D : va_G) (c : Nat → ClassId) (d n : Nat → Nat) (A : Nat → Nat → Int32) (B : Nat → Int64) (mk : Nat → Int32) (th : Int32) (x : Int32) (hN : zf_N n) (hx : ¬ zf_isIn x 0 (nI (n 2) - 1)) (y : Int32) : ze_I l yX9_refuel wsX9_refuel 2 43 0 0 D c (ze_wR c d n A B mk th) [.ref (d 0), .int x, .int y] 0 (ze_wR c d n A B mk 1) := by
  intro sz
  refine ze_start (cc := cX9_refuel) (maxL := 3) (ret := (some .int)) (own := RX9) (by decide) rfl rfl (Nat.le_of_ble_eq_true rfl) ?_
  obtain ⟨hn0, hn1, hn2, hn3, hn4⟩ := id hN
  intro p e s m_ below meth cd F ls hF hsz E0
  obtain ⟨S, hr, hlocks, hK, hW, hA, hl⟩ := E0
  have hX_ := S.1
  have hB_ := S.2.1
  have hts := S.2.2.2.2
  have hl : lv_has ls 3 [(0, .ref (d 0)), (1, .int x), (2, .int y)] := hl
  refine lv_aload_n hX_ hB_ dX9_refuel_0 rfl (lv_at hl 0 rfl) ?_
  refine lv_iload_n hX_ hB_ dX9_refuel_1 rfl (lv_at hl 1 rfl) ?_
  refine ze_Vi (As := [.int x]) (rest := []) (ci := 9) (q0 := 0) (k := (RX9, TX9, 39)) S (zr_isNoGenerator l D c d n A B mk th x) (cwV 1 hts gX9_refuel_X9_isNoGenerator rfl rfl rfl (by decide +kernel) ⟨Nat.le_of_ble_eq_true rfl, Nat.le_of_ble_eq_true rfl⟩) hK hW hA rfl rfl rfl hl.1 rfl (lv_room (Nat.le_of_ble_eq_true rfl)) dX9_refuel_2 ⟨Nat.le_of_ble_eq_true rfl, Nat.le_of_ble_eq_true rfl⟩ (fun H locs hW => ?_)
  have hW : ze_W D (ze_wR c d n A B mk (if zf_isIn x 0 (nI (n 2) - 1) then 0 else 1)) F s.heap _ _ := hW
  refine lv_if_ne (tgt := 58) hX_ hB_ dX9_refuel_5 (by decide) (fun c5 => ?_) (fun c5 => ?_)
  · have c5 : ¬ zf_isIn x 0 (nI (n 2) - 1) := ze_bt c5
    refine lv_iconst (v := 0) hX_ hB_ dX9_refuel_58 (by decide) ?_
    exact ze_iret S hr hlocks hF hK hW rfl dX9_refuel_59 (Nat.le_of_ble_eq_true rfl) (Nat.le_of_ble_eq_true rfl) rfl (by simp only [ze_b, eq_false hx, eq_false c5, not_true_eq_false, not_false_eq_true, and_true, true_and, and_false, false_and, or_true, true_or, or_false, false_or, and_self, or_self, Decidable.not_not, if_true, if_false, reduceIte, reduceCtorEq, ne_eq, eq_self, Int32.lt_irrefl, Int32.le_refl, Nat.lt_irrefl])
  · have c5 : ¬ (¬ zf_isIn x 0 (nI (n 2) - 1)) := ze_bf c5
    have c5 : zf_isIn x 0 (nI (n 2) - 1) := Decidable.of_not_not c5
    exact absurd c5 hx
set_option maxHeartbeats 4000000 in
set_option maxRecDepth 100000 in
theorem zr_refuel_t2 (l : Launch) (D : va_G) (c : Nat → ClassId) (d n : Nat → Nat) (A : Nat → Nat → Int32) (B : Nat → Int64) (mk : Nat → Int32) (th : Int32) (j : Nat) (hN : zf_N n) (hj : j < n 2) (y : Int32) (h : ¬ zf_isIn y 1 9999) : ze_I l yX9_refuel wsX9_refuel 2 43 0 0 D c (ze_wR c d n A B mk th) [.ref (d 0), .int (nI j), .int y] 0 (ze_wR c d n A B mk 2) := by
  intro sz
  refine ze_start (cc := cX9_refuel) (maxL := 3) (ret := (some .int)) (own := RX9) (by decide) rfl rfl (Nat.le_of_ble_eq_true rfl) ?_
  obtain ⟨hn0, hn1, hn2, hn3, hn4⟩ := id hN
  have hinj : zf_isIn (nI j) 0 (nI (n 2) - 1) := zf_isInN hj (by omega)
  intro p e s m_ below meth cd F ls hF hsz E0
  obtain ⟨S, hr, hlocks, hK, hW, hA, hl⟩ := E0
  have hX_ := S.1
  have hB_ := S.2.1
  have hts := S.2.2.2.2
  have hl : lv_has ls 3 [(0, .ref (d 0)), (1, .int (nI j)), (2, .int y)] := hl
  refine lv_aload_n hX_ hB_ dX9_refuel_0 rfl (lv_at hl 0 rfl) ?_
  refine lv_iload_n hX_ hB_ dX9_refuel_1 rfl (lv_at hl 1 rfl) ?_
  refine ze_Vi (As := [.int (nI j)]) (rest := []) (ci := 9) (q0 := 0) (k := (RX9, TX9, 39)) S (zr_isNoGenerator l D c d n A B mk th (nI j)) (cwV 1 hts gX9_refuel_X9_isNoGenerator rfl rfl rfl (by decide +kernel) ⟨Nat.le_of_ble_eq_true rfl, Nat.le_of_ble_eq_true rfl⟩) hK hW hA rfl rfl rfl hl.1 rfl (lv_room (Nat.le_of_ble_eq_true rfl)) dX9_refuel_2 ⟨Nat.le_of_ble_eq_true rfl, Nat.le_of_ble_eq_true rfl⟩ (fun H locs hW => ?_)
  have hW : ze_W D (ze_wR c d n A B mk (if zf_isIn (nI j) 0 (nI (n 2) - 1) then 0 else 1)) F s.heap _ _ := hW
  refine lv_if_ne (tgt := 58) hX_ hB_ dX9_refuel_5 (by decide) (fun c5 => ?_) (fun c5 => ?_)
  · have c5 : ¬ zf_isIn (nI j) 0 (nI (n 2) - 1) := ze_bt c5
    exact absurd hinj c5
  · have c5 : ¬ (¬ zf_isIn (nI j) 0 (nI (n 2) - 1)) := ze_bf c5
    have c5 : zf_isIn (nI j) 0 (nI (n 2) - 1) := Decidable.of_not_not c5
    refine lv_aload_n hX_ hB_ dX9_refuel_8 rfl (lv_at hl 0 rfl) ?_
    refine lv_iload_n hX_ hB_ dX9_refuel_9 rfl (lv_at hl 2 rfl) ?_
    refine lv_iconst (v := 1) hX_ hB_ dX9_refuel_10 (by decide) ?_
    refine lv_sipush (v := 9999) hX_ hB_ dX9_refuel_11 (by decide) ?_
    refine ze_Si (As := [.int y, .int 1, .int 9999]) (rest := [.ref (d 0)]) S (zr_isIn l D c (ze_wR c d n A B mk (if zf_isIn (nI j) 0 (nI (n 2) - 1) then 0 else 1)) y 1 9999) (va_cwS 3 hts gX9_refuel_X9_isIn rfl rfl rfl (by decide +kernel) ⟨Nat.le_of_ble_eq_true rfl, Nat.le_of_ble_eq_true rfl⟩) hK hW hA rfl hl.1 rfl (lv_room (Nat.le_of_ble_eq_true rfl)) dX9_refuel_14 ⟨Nat.le_of_ble_eq_true rfl, Nat.le_of_ble_eq_true rfl⟩ (fun H locs hW => ?_)
    refine lv_if_ne (tgt := 24) hX_ hB_ dX9_refuel_17 (by decide) (fun c17 => ?_) (fun c17 => ?_)
    · have c17 : zf_isIn y 1 9999 := ze_bt c17
      exact absurd c17 h
    · have c17 : ¬ (zf_isIn y 1 9999) := ze_bf c17
      refine lv_iconst (v := 1) hX_ hB_ dX9_refuel_20 (by decide) ?_
      refine lv_goto (tgt := 25) hX_ hB_ dX9_refuel_21 (by decide) ?_
      refine lv_iconst (v := 2) hX_ hB_ dX9_refuel_25 (by decide) ?_
      refine ze_Vi (As := [.int 1, .int 2]) (rest := []) (ci := 9) (q0 := 0) (k := (RX9, TX9, 39)) S (zr_isThrown l D c d n A B mk (if zf_isIn (nI j) 0 (nI (n 2) - 1) then 0 else 1) 1 2 2 rfl (if_neg (by decide))) (cwV 2 hts gX9_refuel_X9_isThrown rfl rfl rfl (by decide +kernel) ⟨Nat.le_of_ble_eq_true rfl, Nat.le_of_ble_eq_true rfl⟩) hK hW hA rfl rfl rfl hl.1 rfl (lv_room (Nat.le_of_ble_eq_true rfl)) dX9_refuel_26 ⟨Nat.le_of_ble_eq_true rfl, Nat.le_of_ble_eq_true rfl⟩ (fun H locs hW => ?_)
      have hW : ze_W D (ze_wR c d n A B mk 2) F s.heap _ _ := hW
      refine lv_if_ne (tgt := 58) hX_ hB_ dX9_refuel_29 (by decide) (fun c29 => ?_) (fun c29 => ?_)
      · refine lv_iconst (v := 0) hX_ hB_ dX9_refuel_58 (by decide) ?_
        exact ze_iret S hr hlocks hF hK hW rfl dX9_refuel_59 (Nat.le_of_ble_eq_true rfl) (Nat.le_of_ble_eq_true rfl) rfl rfl
      · exact absurd c29 (by decide)
set_option maxHeartbeats 4000000 in
set_option maxRecDepth 100000 in
theorem zr_refuel_t3 (l : Launch) (D : va_G) (c : Nat → ClassId) (d n : Nat → Nat) (A : Nat → Nat → Int32) (B : Nat → Int64) (mk : Nat → Int32) (th : Int32) (j : Nat) (hN : zf_N n) (hj : j < n 2) (y : Int32) (h : zf_isIn y 1 9999) (h2 : ¬ A 10 j + y ≤ 99999) : ze_I l yX9_refuel wsX9_refuel 2 43 0 0 D c (ze_wR c d n A B mk th) [.ref (d 0), .int (nI j), .int y] 0 (ze_wR c d n A B mk 3) := by
  intro sz
  refine ze_start (cc := cX9_refuel) (maxL := 3) (ret := (some .int)) (own := RX9) (by decide) rfl rfl (Nat.le_of_ble_eq_true rfl) ?_
  obtain ⟨hn0, hn1, hn2, hn3, hn4⟩ := id hN
  have hinj : zf_isIn (nI j) 0 (nI (n 2) - 1) := zf_isInN hj (by omega)
  intro p e s m_ below meth cd F ls hF hsz E0
  obtain ⟨S, hr, hlocks, hK, hW, hA, hl⟩ := E0
  have hX_ := S.1
  have hB_ := S.2.1
  have hts := S.2.2.2.2
  have hl : lv_has ls 3 [(0, .ref (d 0)), (1, .int (nI j)), (2, .int y)] := hl
  have hiX9 : ∀ w ∈ u_ws RX9 TX9 39, w ∈ wsX9_refuel := fun _ h => (List.mem_cons_of_mem _ (List.mem_append_right _ h))
  have w0 := hts (.fieldLink RX9 41 "IslandgridModel" "fuel" "[I") (List.mem_cons_of_mem _ (List.mem_append_left _ (List.mem_of_getElem? (i := 0) rfl)))
  have w1 := hts (.constant RX9 161 (99999)) (List.mem_cons_of_mem _ (List.mem_append_left _ (List.mem_of_getElem? (i := 1) rfl)))
  refine lv_aload_n hX_ hB_ dX9_refuel_0 rfl (lv_at hl 0 rfl) ?_
  refine lv_iload_n hX_ hB_ dX9_refuel_1 rfl (lv_at hl 1 rfl) ?_
  refine ze_Vi (As := [.int (nI j)]) (rest := []) (ci := 9) (q0 := 0) (k := (RX9, TX9, 39)) S (zr_isNoGenerator l D c d n A B mk th (nI j)) (cwV 1 hts gX9_refuel_X9_isNoGenerator rfl rfl rfl (by decide +kernel) ⟨Nat.le_of_ble_eq_true rfl, Nat.le_of_ble_eq_true rfl⟩) hK hW hA rfl rfl rfl hl.1 rfl (lv_room (Nat.le_of_ble_eq_true rfl)) dX9_refuel_2 ⟨Nat.le_of_ble_eq_true rfl, Nat.le_of_ble_eq_true rfl⟩ (fun H locs hW => ?_)
  have hW : ze_W D (ze_wR c d n A B mk (if zf_isIn (nI j) 0 (nI (n 2) - 1) then 0 else 1)) F s.heap _ _ := hW
  refine lv_if_ne (tgt := 58) hX_ hB_ dX9_refuel_5 (by decide) (fun c5 => ?_) (fun c5 => ?_)
  · have c5 : ¬ zf_isIn (nI j) 0 (nI (n 2) - 1) := ze_bt c5
    exact absurd hinj c5
  · have c5 : ¬ (¬ zf_isIn (nI j) 0 (nI (n 2) - 1)) := ze_bf c5
    have c5 : zf_isIn (nI j) 0 (nI (n 2) - 1) := Decidable.of_not_not c5
    refine lv_aload_n hX_ hB_ dX9_refuel_8 rfl (lv_at hl 0 rfl) ?_
    refine lv_iload_n hX_ hB_ dX9_refuel_9 rfl (lv_at hl 2 rfl) ?_
    refine lv_iconst (v := 1) hX_ hB_ dX9_refuel_10 (by decide) ?_
    refine lv_sipush (v := 9999) hX_ hB_ dX9_refuel_11 (by decide) ?_
    refine ze_Si (As := [.int y, .int 1, .int 9999]) (rest := [.ref (d 0)]) S (zr_isIn l D c (ze_wR c d n A B mk (if zf_isIn (nI j) 0 (nI (n 2) - 1) then 0 else 1)) y 1 9999) (va_cwS 3 hts gX9_refuel_X9_isIn rfl rfl rfl (by decide +kernel) ⟨Nat.le_of_ble_eq_true rfl, Nat.le_of_ble_eq_true rfl⟩) hK hW hA rfl hl.1 rfl (lv_room (Nat.le_of_ble_eq_true rfl)) dX9_refuel_14 ⟨Nat.le_of_ble_eq_true rfl, Nat.le_of_ble_eq_true rfl⟩ (fun H locs hW => ?_)
    refine lv_if_ne (tgt := 24) hX_ hB_ dX9_refuel_17 (by decide) (fun c17 => ?_) (fun c17 => ?_)
    · have c17 : zf_isIn y 1 9999 := ze_bt c17
      refine lv_iconst (v := 0) hX_ hB_ dX9_refuel_24 (by decide) ?_
      refine lv_iconst (v := 2) hX_ hB_ dX9_refuel_25 (by decide) ?_
      refine ze_Vi (As := [.int 0, .int 2]) (rest := []) (ci := 9) (q0 := 0) (k := (RX9, TX9, 39)) S (zr_isThrown l D c d n A B mk (if zf_isIn (nI j) 0 (nI (n 2) - 1) then 0 else 1) 0 2 0 rfl (if_pos rfl)) (cwV 2 hts gX9_refuel_X9_isThrown rfl rfl rfl (by decide +kernel) ⟨Nat.le_of_ble_eq_true rfl, Nat.le_of_ble_eq_true rfl⟩) hK hW hA rfl rfl rfl hl.1 rfl (lv_room (Nat.le_of_ble_eq_true rfl)) dX9_refuel_26 ⟨Nat.le_of_ble_eq_true rfl, Nat.le_of_ble_eq_true rfl⟩ (fun H locs hW => ?_)
      have hW : ze_W D (ze_wR c d n A B mk 0) F s.heap _ _ := hW
      refine lv_if_ne (tgt := 58) hX_ hB_ dX9_refuel_29 (by decide) (fun c29 => ?_) (fun c29 => ?_)
      · exact absurd c29 (by decide)
      · refine lv_aload_n hX_ hB_ dX9_refuel_32 rfl (lv_at hl 0 rfl) ?_
        refine lv_aload_n hX_ hB_ dX9_refuel_33 rfl (lv_at hl 0 rfl) ?_
        refine ze_get (ci := 9) (C := RX9) (T := TX9) (N := 39) (v := .ref (d 11)) S hiX9 hK hW 0 rfl rfl 10 (by decide) rfl w0 dX9_refuel_34 ?_
        refine lv_iload_n hX_ hB_ dX9_refuel_37 rfl (lv_at hl 1 rfl) ?_
        refine ze_ialdN hX_ hB_ hK hW 11 (f := A 10) rfl (i := j) (by omega) (by decide) dX9_refuel_38 ?_
        refine lv_iload_n hX_ hB_ dX9_refuel_39 rfl (lv_at hl 2 rfl) ?_
        refine lv_iadd hX_ hB_ dX9_refuel_40 ?_
        refine lv_ldc (own := RX9) (v := 99999) hX_ hB_ S.2.2.2.1 w1 dX9_refuel_41 ?_
        refine lv_icmp_le (tgt := 50) hX_ hB_ dX9_refuel_43 (by decide) (fun c43 => ?_) (fun c43 => ?_)
        · exact absurd c43 h2
        · refine lv_iconst (v := 1) hX_ hB_ dX9_refuel_46 (by decide) ?_
          refine lv_goto (tgt := 51) hX_ hB_ dX9_refuel_47 (by decide) ?_
          refine lv_iconst (v := 3) hX_ hB_ dX9_refuel_51 (by decide) ?_
          refine ze_Vi (As := [.int 1, .int 3]) (rest := []) (ci := 9) (q0 := 0) (k := (RX9, TX9, 39)) S (zr_isThrown l D c d n A B mk 0 1 3 3 rfl (if_neg (by decide))) (cwV 2 hts gX9_refuel_X9_isThrown rfl rfl rfl (by decide +kernel) ⟨Nat.le_of_ble_eq_true rfl, Nat.le_of_ble_eq_true rfl⟩) hK hW hA rfl rfl rfl hl.1 rfl (lv_room (Nat.le_of_ble_eq_true rfl)) dX9_refuel_52 ⟨Nat.le_of_ble_eq_true rfl, Nat.le_of_ble_eq_true rfl⟩ (fun H locs hW => ?_)
          have hW : ze_W D (ze_wR c d n A B mk 3) F s.heap _ _ := hW
          refine lv_if_eq (tgt := 60) hX_ hB_ dX9_refuel_55 (by decide) (fun c55 => ?_) (fun c55 => ?_)
          · exact absurd c55 (by decide)
          · refine lv_iconst (v := 0) hX_ hB_ dX9_refuel_58 (by decide) ?_
            exact ze_iret S hr hlocks hF hK hW rfl dX9_refuel_59 (Nat.le_of_ble_eq_true rfl) (Nat.le_of_ble_eq_true rfl) rfl rfl
    · have c17 : ¬ (zf_isIn y 1 9999) := ze_bf c17
      exact absurd h c17
set_option maxHeartbeats 4000000 in
set_option maxRecDepth 100000 in
theorem zr_refuel_f (l : Launch) (D : va_G) (c : Nat → ClassId) (d n : Nat → Nat) (A : Nat → Nat → Int32) (B : Nat → Int64) (mk : Nat → Int32) (th : Int32) (j : Nat) (hN : zf_N n) (hj : j < n 2) (y : Int32) (h : zf_isIn y 1 9999) (h2 : A 10 j + y ≤ 99999) : ze_I l yX9_refuel wsX9_refuel 2 43 0 0 D c (ze_wR c d n A B mk th) [.ref (d 0), .int (nI j), .int y] (A 10 j + y) (ze_wR c d n (ze_sE A 10 j (A 10 j + y)) B mk 0) := by
  intro sz
  refine ze_start (cc := cX9_refuel) (maxL := 3) (ret := (some .int)) (own := RX9) (by decide) rfl rfl (Nat.le_of_ble_eq_true rfl) ?_
  obtain ⟨hn0, hn1, hn2, hn3, hn4⟩ := id hN
  have hinj : zf_isIn (nI j) 0 (nI (n 2) - 1) := zf_isInN hj (by omega)
  intro p e s m_ below meth cd F ls hF hsz E0
  obtain ⟨S, hr, hlocks, hK, hW, hA, hl⟩ := E0
  have hX_ := S.1
  have hB_ := S.2.1
  have hts := S.2.2.2.2
  have hl : lv_has ls 3 [(0, .ref (d 0)), (1, .int (nI j)), (2, .int y)] := hl
  have hiX9 : ∀ w ∈ u_ws RX9 TX9 39, w ∈ wsX9_refuel := fun _ h => (List.mem_cons_of_mem _ (List.mem_append_right _ h))
  have w0 := hts (.fieldLink RX9 41 "IslandgridModel" "fuel" "[I") (List.mem_cons_of_mem _ (List.mem_append_left _ (List.mem_of_getElem? (i := 0) rfl)))
  have w1 := hts (.constant RX9 161 (99999)) (List.mem_cons_of_mem _ (List.mem_append_left _ (List.mem_of_getElem? (i := 1) rfl)))
  refine lv_aload_n hX_ hB_ dX9_refuel_0 rfl (lv_at hl 0 rfl) ?_
  refine lv_iload_n hX_ hB_ dX9_refuel_1 rfl (lv_at hl 1 rfl) ?_
  refine ze_Vi (As := [.int (nI j)]) (rest := []) (ci := 9) (q0 := 0) (k := (RX9, TX9, 39)) S (zr_isNoGenerator l D c d n A B mk th (nI j)) (cwV 1 hts gX9_refuel_X9_isNoGenerator rfl rfl rfl (by decide +kernel) ⟨Nat.le_of_ble_eq_true rfl, Nat.le_of_ble_eq_true rfl⟩) hK hW hA rfl rfl rfl hl.1 rfl (lv_room (Nat.le_of_ble_eq_true rfl)) dX9_refuel_2 ⟨Nat.le_of_ble_eq_true rfl, Nat.le_of_ble_eq_true rfl⟩ (fun H locs hW => ?_)
  have hW : ze_W D (ze_wR c d n A B mk (if zf_isIn (nI j) 0 (nI (n 2) - 1) then 0 else 1)) F s.heap _ _ := hW
  refine lv_if_ne (tgt := 58) hX_ hB_ dX9_refuel_5 (by decide) (fun c5 => ?_) (fun c5 => ?_)
  · have c5 : ¬ zf_isIn (nI j) 0 (nI (n 2) - 1) := ze_bt c5
    exact absurd hinj c5
  · have c5 : ¬ (¬ zf_isIn (nI j) 0 (nI (n 2) - 1)) := ze_bf c5
    have c5 : zf_isIn (nI j) 0 (nI (n 2) - 1) := Decidable.of_not_not c5
    refine lv_aload_n hX_ hB_ dX9_refuel_8 rfl (lv_at hl 0 rfl) ?_
    refine lv_iload_n hX_ hB_ dX9_refuel_9 rfl (lv_at hl 2 rfl) ?_
    refine lv_iconst (v := 1) hX_ hB_ dX9_refuel_10 (by decide) ?_
    refine lv_sipush (v := 9999) hX_ hB_ dX9_refuel_11 (by decide) ?_
    refine ze_Si (As := [.int y, .int 1, .int 9999]) (rest := [.ref (d 0)]) S (zr_isIn l D c (ze_wR c d n A B mk (if zf_isIn (nI j) 0 (nI (n 2) - 1) then 0 else 1)) y 1 9999) (va_cwS 3 hts gX9_refuel_X9_isIn rfl rfl rfl (by decide +kernel) ⟨Nat.le_of_ble_eq_true rfl, Nat.le_of_ble_eq_true rfl⟩) hK hW hA rfl hl.1 rfl (lv_room (Nat.le_of_ble_eq_true rfl)) dX9_refuel_14 ⟨Nat.le_of_ble_eq_true rfl, Nat.le_of_ble_eq_true rfl⟩ (fun H locs hW => ?_)
    refine lv_if_ne (tgt := 24) hX_ hB_ dX9_refuel_17 (by decide) (fun c17 => ?_) (fun c17 => ?_)
    · have c17 : zf_isIn y 1 9999 := ze_bt c17
      refine lv_iconst (v := 0) hX_ hB_ dX9_refuel_24 (by decide) ?_
      refine lv_iconst (v := 2) hX_ hB_ dX9_refuel_25 (by decide) ?_
      refine ze_Vi (As := [.int 0, .int 2]) (rest := []) (ci := 9) (q0 := 0) (k := (RX9, TX9, 39)) S (zr_isThrown l D c d n A B mk (if zf_isIn (nI j) 0 (nI (n 2) - 1) then 0 else 1) 0 2 0 rfl (if_pos rfl)) (cwV 2 hts gX9_refuel_X9_isThrown rfl rfl rfl (by decide +kernel) ⟨Nat.le_of_ble_eq_true rfl, Nat.le_of_ble_eq_true rfl⟩) hK hW hA rfl rfl rfl hl.1 rfl (lv_room (Nat.le_of_ble_eq_true rfl)) dX9_refuel_26 ⟨Nat.le_of_ble_eq_true rfl, Nat.le_of_ble_eq_true rfl⟩ (fun H locs hW => ?_)
      have hW : ze_W D (ze_wR c d n A B mk 0) F s.heap _ _ := hW
      refine lv_if_ne (tgt := 58) hX_ hB_ dX9_refuel_29 (by decide) (fun c29 => ?_) (fun c29 => ?_)
      · exact absurd c29 (by decide)
      · refine lv_aload_n hX_ hB_ dX9_refuel_32 rfl (lv_at hl 0 rfl) ?_
        refine lv_aload_n hX_ hB_ dX9_refuel_33 rfl (lv_at hl 0 rfl) ?_
        refine ze_get (ci := 9) (C := RX9) (T := TX9) (N := 39) (v := .ref (d 11)) S hiX9 hK hW 0 rfl rfl 10 (by decide) rfl w0 dX9_refuel_34 ?_
        refine lv_iload_n hX_ hB_ dX9_refuel_37 rfl (lv_at hl 1 rfl) ?_
        refine ze_ialdN hX_ hB_ hK hW 11 (f := A 10) rfl (i := j) (by omega) (by decide) dX9_refuel_38 ?_
        refine lv_iload_n hX_ hB_ dX9_refuel_39 rfl (lv_at hl 2 rfl) ?_
        refine lv_iadd hX_ hB_ dX9_refuel_40 ?_
        refine lv_ldc (own := RX9) (v := 99999) hX_ hB_ S.2.2.2.1 w1 dX9_refuel_41 ?_
        refine lv_icmp_le (tgt := 50) hX_ hB_ dX9_refuel_43 (by decide) (fun c43 => ?_) (fun c43 => ?_)
        · refine lv_iconst (v := 0) hX_ hB_ dX9_refuel_50 (by decide) ?_
          refine lv_iconst (v := 3) hX_ hB_ dX9_refuel_51 (by decide) ?_
          refine ze_Vi (As := [.int 0, .int 3]) (rest := []) (ci := 9) (q0 := 0) (k := (RX9, TX9, 39)) S (zr_isThrown l D c d n A B mk 0 0 3 0 rfl (if_pos rfl)) (cwV 2 hts gX9_refuel_X9_isThrown rfl rfl rfl (by decide +kernel) ⟨Nat.le_of_ble_eq_true rfl, Nat.le_of_ble_eq_true rfl⟩) hK hW hA rfl rfl rfl hl.1 rfl (lv_room (Nat.le_of_ble_eq_true rfl)) dX9_refuel_52 ⟨Nat.le_of_ble_eq_true rfl, Nat.le_of_ble_eq_true rfl⟩ (fun H locs hW => ?_)
          refine lv_if_eq (tgt := 60) hX_ hB_ dX9_refuel_55 (by decide) (fun c55 => ?_) (fun c55 => ?_)
          · refine lv_aload_n hX_ hB_ dX9_refuel_60 rfl (lv_at hl 0 rfl) ?_
            refine ze_get (ci := 9) (C := RX9) (T := TX9) (N := 39) (v := .ref (d 11)) S hiX9 hK hW 0 rfl rfl 10 (by decide) rfl w0 dX9_refuel_61 ?_
            refine lv_iload_n hX_ hB_ dX9_refuel_64 rfl (lv_at hl 1 rfl) ?_
            refine lv_dup2_11 hX_ hB_ dX9_refuel_65 rfl rfl ?_
            refine ze_ialdN hX_ hB_ hK hW 11 (f := A 10) rfl (i := j) (by omega) (by decide) dX9_refuel_66 ?_
            refine lv_iload_n hX_ hB_ dX9_refuel_67 rfl (lv_at hl 2 rfl) ?_
            refine lv_iadd hX_ hB_ dX9_refuel_68 ?_
            refine ze_iastN hX_ hB_ hK hW 11 (f := A 10) rfl (i := j) (by omega) (by decide) dX9_refuel_69 (ze_qR10 j (A 10 j + y) _ _ _ _ _ _ _) (fun H locs hW => ?_)
            have hW : ze_W D (ze_wR c d n (ze_sE A 10 j (A 10 j + y)) B mk 0) F s.heap _ _ := hW
            refine lv_aload_n hX_ hB_ dX9_refuel_70 rfl (lv_at hl 0 rfl) ?_
            refine ze_get (ci := 9) (C := RX9) (T := TX9) (N := 39) (v := .ref (d 11)) S hiX9 hK hW 0 rfl rfl 10 (by decide) rfl w0 dX9_refuel_71 ?_
            refine lv_iload_n hX_ hB_ dX9_refuel_74 rfl (lv_at hl 1 rfl) ?_
            refine ze_ialdN hX_ hB_ hK hW 11 (f := (upd (A 10) j (A 10 j + y))) rfl (i := j) (by omega) (by decide) dX9_refuel_75 ?_
            refine ze_top (ze_updat _ _ _) ?_
            exact ze_iret S hr hlocks hF hK hW rfl dX9_refuel_76 (Nat.le_of_ble_eq_true rfl) (Nat.le_of_ble_eq_true rfl) rfl rfl
          · exact absurd c55 (by decide)
        · exact absurd h2 c43
    · have c17 : ¬ (zf_isIn y 1 9999) := ze_bf c17
      exact absurd h c17
set_option maxHeartbeats 4000000 in
set_option maxRecDepth 100000 in
theorem zr_state_t1 (l : Launch) (D : va_G) (c : Nat → ClassId) (d n : Nat → Nat) (A : Nat → Nat → Int32) (B : Nat → Int64) (mk : Nat → Int32) (th : Int32) (x : Int32) (hN : zf_N n) (hx : ¬ zf_isIn x 0 (nI (n 2) - 1)) : ze_I l yX9_state wsX9_state 2 43 0 0 D c (ze_wR c d n A B mk th) [.ref (d 0), .int x] 45 (ze_wR c d n A B mk 1) := by
  intro sz
  refine ze_start (cc := cX9_state) (maxL := 2) (ret := (some .char)) (own := RX9) (by decide) rfl rfl (Nat.le_of_ble_eq_true rfl) ?_
  obtain ⟨hn0, hn1, hn2, hn3, hn4⟩ := id hN
  intro p e s m_ below meth cd F ls hF hsz E0
  obtain ⟨S, hr, hlocks, hK, hW, hA, hl⟩ := E0
  have hX_ := S.1
  have hB_ := S.2.1
  have hts := S.2.2.2.2
  have hl : lv_has ls 2 [(0, .ref (d 0)), (1, .int x)] := hl
  refine lv_aload_n hX_ hB_ dX9_state_0 rfl (lv_at hl 0 rfl) ?_
  refine lv_iload_n hX_ hB_ dX9_state_1 rfl (lv_at hl 1 rfl) ?_
  refine ze_Vi (As := [.int x]) (rest := []) (ci := 9) (q0 := 0) (k := (RX9, TX9, 39)) S (zr_isNoGenerator l D c d n A B mk th x) (cwV 1 hts gX9_state_X9_isNoGenerator rfl rfl rfl (by decide +kernel) ⟨Nat.le_of_ble_eq_true rfl, Nat.le_of_ble_eq_true rfl⟩) hK hW hA rfl rfl rfl hl.1 rfl (lv_room (Nat.le_of_ble_eq_true rfl)) dX9_state_2 ⟨Nat.le_of_ble_eq_true rfl, Nat.le_of_ble_eq_true rfl⟩ (fun H locs hW => ?_)
  have hW : ze_W D (ze_wR c d n A B mk (if zf_isIn x 0 (nI (n 2) - 1) then 0 else 1)) F s.heap _ _ := hW
  refine lv_if_eq (tgt := 13) hX_ hB_ dX9_state_5 (by decide) (fun c5 => ?_) (fun c5 => ?_)
  · have c5 : ¬ (¬ zf_isIn x 0 (nI (n 2) - 1)) := ze_bf c5
    have c5 : zf_isIn x 0 (nI (n 2) - 1) := Decidable.of_not_not c5
    exact absurd c5 hx
  · have c5 : ¬ zf_isIn x 0 (nI (n 2) - 1) := ze_bt c5
    refine lv_bipush (v := 45) hX_ hB_ dX9_state_8 (by decide) ?_
    refine lv_goto (tgt := 19) hX_ hB_ dX9_state_10 (by decide) ?_
    exact ze_iret S hr hlocks hF hK hW rfl dX9_state_19 (Nat.le_of_ble_eq_true rfl) (Nat.le_of_ble_eq_true rfl) rfl (by simp only [ze_b, eq_false hx, eq_false c5, not_true_eq_false, not_false_eq_true, and_true, true_and, and_false, false_and, or_true, true_or, or_false, false_or, and_self, or_self, Decidable.not_not, if_true, if_false, reduceIte, reduceCtorEq, ne_eq, eq_self, Int32.lt_irrefl, Int32.le_refl, Nat.lt_irrefl])
set_option maxHeartbeats 4000000 in
set_option maxRecDepth 100000 in
theorem zr_state_f (l : Launch) (D : va_G) (c : Nat → ClassId) (d n : Nat → Nat) (A : Nat → Nat → Int32) (B : Nat → Int64) (mk : Nat → Int32) (th : Int32) (j : Nat) (hN : zf_N n) (hj : j < n 2) (hC : zf_chr (A 13 j)) : ze_I l yX9_state wsX9_state 2 43 0 0 D c (ze_wR c d n A B mk th) [.ref (d 0), .int (nI j)] (A 13 j) (ze_wR c d n A B mk 0) := by
  intro sz
  refine ze_start (cc := cX9_state) (maxL := 2) (ret := (some .char)) (own := RX9) (by decide) rfl rfl (Nat.le_of_ble_eq_true rfl) ?_
  obtain ⟨hn0, hn1, hn2, hn3, hn4⟩ := id hN
  have hinj : zf_isIn (nI j) 0 (nI (n 2) - 1) := zf_isInN hj (by omega)
  intro p e s m_ below meth cd F ls hF hsz E0
  obtain ⟨S, hr, hlocks, hK, hW, hA, hl⟩ := E0
  have hX_ := S.1
  have hB_ := S.2.1
  have hts := S.2.2.2.2
  have hl : lv_has ls 2 [(0, .ref (d 0)), (1, .int (nI j))] := hl
  have hiX9 : ∀ w ∈ u_ws RX9 TX9 39, w ∈ wsX9_state := fun _ h => (List.mem_cons_of_mem _ (List.mem_append_right _ h))
  have w0 := hts (.fieldLink RX9 50 "IslandgridModel" "state" "[C") (List.mem_cons_of_mem _ (List.mem_append_left _ (List.mem_of_getElem? (i := 0) rfl)))
  refine lv_aload_n hX_ hB_ dX9_state_0 rfl (lv_at hl 0 rfl) ?_
  refine lv_iload_n hX_ hB_ dX9_state_1 rfl (lv_at hl 1 rfl) ?_
  refine ze_Vi (As := [.int (nI j)]) (rest := []) (ci := 9) (q0 := 0) (k := (RX9, TX9, 39)) S (zr_isNoGenerator l D c d n A B mk th (nI j)) (cwV 1 hts gX9_state_X9_isNoGenerator rfl rfl rfl (by decide +kernel) ⟨Nat.le_of_ble_eq_true rfl, Nat.le_of_ble_eq_true rfl⟩) hK hW hA rfl rfl rfl hl.1 rfl (lv_room (Nat.le_of_ble_eq_true rfl)) dX9_state_2 ⟨Nat.le_of_ble_eq_true rfl, Nat.le_of_ble_eq_true rfl⟩ (fun H locs hW => ?_)
  have hW : ze_W D (ze_wR c d n A B mk (if zf_isIn (nI j) 0 (nI (n 2) - 1) then 0 else 1)) F s.heap _ _ := hW
  refine lv_if_eq (tgt := 13) hX_ hB_ dX9_state_5 (by decide) (fun c5 => ?_) (fun c5 => ?_)
  · have c5 : ¬ (¬ zf_isIn (nI j) 0 (nI (n 2) - 1)) := ze_bf c5
    have c5 : zf_isIn (nI j) 0 (nI (n 2) - 1) := Decidable.of_not_not c5
    refine lv_aload_n hX_ hB_ dX9_state_13 rfl (lv_at hl 0 rfl) ?_
    refine ze_get (ci := 9) (C := RX9) (T := TX9) (N := 39) (v := .ref (d 14)) S hiX9 hK hW 0 rfl rfl 13 (by decide) rfl w0 dX9_state_14 ?_
    refine lv_iload_n hX_ hB_ dX9_state_17 rfl (lv_at hl 1 rfl) ?_
    refine ze_caldN hX_ hB_ hK hW 14 (f := A 13) rfl (i := j) (by omega) (by decide) dX9_state_18 ?_
    exact ze_iret S hr hlocks hF hK hW (zf_narc hC) dX9_state_19 (Nat.le_of_ble_eq_true rfl) (Nat.le_of_ble_eq_true rfl) rfl (by simp only [ze_b, eq_true hinj, eq_true c5, not_true_eq_false, not_false_eq_true, and_true, true_and, and_false, false_and, or_true, true_or, or_false, false_or, and_self, or_self, Decidable.not_not, if_true, if_false, reduceIte, reduceCtorEq, ne_eq, eq_self, Int32.lt_irrefl, Int32.le_refl, Nat.lt_irrefl])
  · have c5 : ¬ zf_isIn (nI j) 0 (nI (n 2) - 1) := ze_bt c5
    exact absurd hinj c5
set_option maxHeartbeats 4000000 in
set_option maxRecDepth 100000 in
theorem zr_fuel_t1 (l : Launch) (D : va_G) (c : Nat → ClassId) (d n : Nat → Nat) (A : Nat → Nat → Int32) (B : Nat → Int64) (mk : Nat → Int32) (th : Int32) (x : Int32) (hN : zf_N n) (hx : ¬ zf_isIn x 0 (nI (n 2) - 1)) : ze_I l yX9_fuel wsX9_fuel 2 43 0 0 D c (ze_wR c d n A B mk th) [.ref (d 0), .int x] 0 (ze_wR c d n A B mk 1) := by
  intro sz
  refine ze_start (cc := cX9_fuel) (maxL := 2) (ret := (some .int)) (own := RX9) (by decide) rfl rfl (Nat.le_of_ble_eq_true rfl) ?_
  obtain ⟨hn0, hn1, hn2, hn3, hn4⟩ := id hN
  intro p e s m_ below meth cd F ls hF hsz E0
  obtain ⟨S, hr, hlocks, hK, hW, hA, hl⟩ := E0
  have hX_ := S.1
  have hB_ := S.2.1
  have hts := S.2.2.2.2
  have hl : lv_has ls 2 [(0, .ref (d 0)), (1, .int x)] := hl
  refine lv_aload_n hX_ hB_ dX9_fuel_0 rfl (lv_at hl 0 rfl) ?_
  refine lv_iload_n hX_ hB_ dX9_fuel_1 rfl (lv_at hl 1 rfl) ?_
  refine ze_Vi (As := [.int x]) (rest := []) (ci := 9) (q0 := 0) (k := (RX9, TX9, 39)) S (zr_isNoGenerator l D c d n A B mk th x) (cwV 1 hts gX9_fuel_X9_isNoGenerator rfl rfl rfl (by decide +kernel) ⟨Nat.le_of_ble_eq_true rfl, Nat.le_of_ble_eq_true rfl⟩) hK hW hA rfl rfl rfl hl.1 rfl (lv_room (Nat.le_of_ble_eq_true rfl)) dX9_fuel_2 ⟨Nat.le_of_ble_eq_true rfl, Nat.le_of_ble_eq_true rfl⟩ (fun H locs hW => ?_)
  have hW : ze_W D (ze_wR c d n A B mk (if zf_isIn x 0 (nI (n 2) - 1) then 0 else 1)) F s.heap _ _ := hW
  refine lv_if_eq (tgt := 12) hX_ hB_ dX9_fuel_5 (by decide) (fun c5 => ?_) (fun c5 => ?_)
  · have c5 : ¬ (¬ zf_isIn x 0 (nI (n 2) - 1)) := ze_bf c5
    have c5 : zf_isIn x 0 (nI (n 2) - 1) := Decidable.of_not_not c5
    exact absurd c5 hx
  · have c5 : ¬ zf_isIn x 0 (nI (n 2) - 1) := ze_bt c5
    refine lv_iconst (v := 0) hX_ hB_ dX9_fuel_8 (by decide) ?_
    refine lv_goto (tgt := 18) hX_ hB_ dX9_fuel_9 (by decide) ?_
    exact ze_iret S hr hlocks hF hK hW rfl dX9_fuel_18 (Nat.le_of_ble_eq_true rfl) (Nat.le_of_ble_eq_true rfl) rfl (by simp only [ze_b, eq_false hx, eq_false c5, not_true_eq_false, not_false_eq_true, and_true, true_and, and_false, false_and, or_true, true_or, or_false, false_or, and_self, or_self, Decidable.not_not, if_true, if_false, reduceIte, reduceCtorEq, ne_eq, eq_self, Int32.lt_irrefl, Int32.le_refl, Nat.lt_irrefl])
set_option maxHeartbeats 4000000 in
set_option maxRecDepth 100000 in
theorem zr_fuel_f (l : Launch) (D : va_G) (c : Nat → ClassId) (d n : Nat → Nat) (A : Nat → Nat → Int32) (B : Nat → Int64) (mk : Nat → Int32) (th : Int32) (j : Nat) (hN : zf_N n) (hj : j < n 2) : ze_I l yX9_fuel wsX9_fuel 2 43 0 0 D c (ze_wR c d n A B mk th) [.ref (d 0), .int (nI j)] (A 10 j) (ze_wR c d n A B mk 0) := by
  intro sz
  refine ze_start (cc := cX9_fuel) (maxL := 2) (ret := (some .int)) (own := RX9) (by decide) rfl rfl (Nat.le_of_ble_eq_true rfl) ?_
  obtain ⟨hn0, hn1, hn2, hn3, hn4⟩ := id hN
  have hinj : zf_isIn (nI j) 0 (nI (n 2) - 1) := zf_isInN hj (by omega)
  intro p e s m_ below meth cd F ls hF hsz E0
  obtain ⟨S, hr, hlocks, hK, hW, hA, hl⟩ := E0
  have hX_ := S.1
  have hB_ := S.2.1
  have hts := S.2.2.2.2
  have hl : lv_has ls 2 [(0, .ref (d 0)), (1, .int (nI j))] := hl
  have hiX9 : ∀ w ∈ u_ws RX9 TX9 39, w ∈ wsX9_fuel := fun _ h => (List.mem_cons_of_mem _ (List.mem_append_right _ h))
  have w0 := hts (.fieldLink RX9 41 "IslandgridModel" "fuel" "[I") (List.mem_cons_of_mem _ (List.mem_append_left _ (List.mem_of_getElem? (i := 0) rfl)))
  refine lv_aload_n hX_ hB_ dX9_fuel_0 rfl (lv_at hl 0 rfl) ?_
  refine lv_iload_n hX_ hB_ dX9_fuel_1 rfl (lv_at hl 1 rfl) ?_
  refine ze_Vi (As := [.int (nI j)]) (rest := []) (ci := 9) (q0 := 0) (k := (RX9, TX9, 39)) S (zr_isNoGenerator l D c d n A B mk th (nI j)) (cwV 1 hts gX9_fuel_X9_isNoGenerator rfl rfl rfl (by decide +kernel) ⟨Nat.le_of_ble_eq_true rfl, Nat.le_of_ble_eq_true rfl⟩) hK hW hA rfl rfl rfl hl.1 rfl (lv_room (Nat.le_of_ble_eq_true rfl)) dX9_fuel_2 ⟨Nat.le_of_ble_eq_true rfl, Nat.le_of_ble_eq_true rfl⟩ (fun H locs hW => ?_)
  have hW : ze_W D (ze_wR c d n A B mk (if zf_isIn (nI j) 0 (nI (n 2) - 1) then 0 else 1)) F s.heap _ _ := hW
  refine lv_if_eq (tgt := 12) hX_ hB_ dX9_fuel_5 (by decide) (fun c5 => ?_) (fun c5 => ?_)
  · have c5 : ¬ (¬ zf_isIn (nI j) 0 (nI (n 2) - 1)) := ze_bf c5
    have c5 : zf_isIn (nI j) 0 (nI (n 2) - 1) := Decidable.of_not_not c5
    refine lv_aload_n hX_ hB_ dX9_fuel_12 rfl (lv_at hl 0 rfl) ?_
    refine ze_get (ci := 9) (C := RX9) (T := TX9) (N := 39) (v := .ref (d 11)) S hiX9 hK hW 0 rfl rfl 10 (by decide) rfl w0 dX9_fuel_13 ?_
    refine lv_iload_n hX_ hB_ dX9_fuel_16 rfl (lv_at hl 1 rfl) ?_
    refine ze_ialdN hX_ hB_ hK hW 11 (f := A 10) rfl (i := j) (by omega) (by decide) dX9_fuel_17 ?_
    exact ze_iret S hr hlocks hF hK hW rfl dX9_fuel_18 (Nat.le_of_ble_eq_true rfl) (Nat.le_of_ble_eq_true rfl) rfl (by simp only [ze_b, eq_true hinj, eq_true c5, not_true_eq_false, not_false_eq_true, and_true, true_and, and_false, false_and, or_true, true_or, or_false, false_or, and_self, or_self, Decidable.not_not, if_true, if_false, reduceIte, reduceCtorEq, ne_eq, eq_self, Int32.lt_irrefl, Int32.le_refl, Nat.lt_irrefl])
  · have c5 : ¬ zf_isIn (nI j) 0 (nI (n 2) - 1) := ze_bt c5
    exact absurd hinj c5
set_option maxHeartbeats 4000000 in
set_option maxRecDepth 100000 in
theorem zr_given_t1 (l : Launch) (D : va_G) (c : Nat → ClassId) (d n : Nat → Nat) (A : Nat → Nat → Int32) (B : Nat → Int64) (mk : Nat → Int32) (th : Int32) (x : Int32) (hN : zf_N n) (hx : ¬ zf_isIn x 0 (nI (n 2) - 1)) : ze_I l yX9_given wsX9_given 2 43 0 0 D c (ze_wR c d n A B mk th) [.ref (d 0), .int x] 0 (ze_wR c d n A B mk 1) := by
  intro sz
  refine ze_start (cc := cX9_given) (maxL := 2) (ret := (some .int)) (own := RX9) (by decide) rfl rfl (Nat.le_of_ble_eq_true rfl) ?_
  obtain ⟨hn0, hn1, hn2, hn3, hn4⟩ := id hN
  intro p e s m_ below meth cd F ls hF hsz E0
  obtain ⟨S, hr, hlocks, hK, hW, hA, hl⟩ := E0
  have hX_ := S.1
  have hB_ := S.2.1
  have hts := S.2.2.2.2
  have hl : lv_has ls 2 [(0, .ref (d 0)), (1, .int x)] := hl
  refine lv_aload_n hX_ hB_ dX9_given_0 rfl (lv_at hl 0 rfl) ?_
  refine lv_iload_n hX_ hB_ dX9_given_1 rfl (lv_at hl 1 rfl) ?_
  refine ze_Vi (As := [.int x]) (rest := []) (ci := 9) (q0 := 0) (k := (RX9, TX9, 39)) S (zr_isNoGenerator l D c d n A B mk th x) (cwV 1 hts gX9_given_X9_isNoGenerator rfl rfl rfl (by decide +kernel) ⟨Nat.le_of_ble_eq_true rfl, Nat.le_of_ble_eq_true rfl⟩) hK hW hA rfl rfl rfl hl.1 rfl (lv_room (Nat.le_of_ble_eq_true rfl)) dX9_given_2 ⟨Nat.le_of_ble_eq_true rfl, Nat.le_of_ble_eq_true rfl⟩ (fun H locs hW => ?_)
  have hW : ze_W D (ze_wR c d n A B mk (if zf_isIn x 0 (nI (n 2) - 1) then 0 else 1)) F s.heap _ _ := hW
  refine lv_if_eq (tgt := 12) hX_ hB_ dX9_given_5 (by decide) (fun c5 => ?_) (fun c5 => ?_)
  · have c5 : ¬ (¬ zf_isIn x 0 (nI (n 2) - 1)) := ze_bf c5
    have c5 : zf_isIn x 0 (nI (n 2) - 1) := Decidable.of_not_not c5
    exact absurd c5 hx
  · have c5 : ¬ zf_isIn x 0 (nI (n 2) - 1) := ze_bt c5
    refine lv_iconst (v := 0) hX_ hB_ dX9_given_8 (by decide) ?_
    refine lv_goto (tgt := 18) hX_ hB_ dX9_given_9 (by decide) ?_
    exact ze_iret S hr hlocks hF hK hW rfl dX9_given_18 (Nat.le_of_ble_eq_true rfl) (Nat.le_of_ble_eq_true rfl) rfl (by simp only [ze_b, eq_false hx, eq_false c5, not_true_eq_false, not_false_eq_true, and_true, true_and, and_false, false_and, or_true, true_or, or_false, false_or, and_self, or_self, Decidable.not_not, if_true, if_false, reduceIte, reduceCtorEq, ne_eq, eq_self, Int32.lt_irrefl, Int32.le_refl, Nat.lt_irrefl])
set_option maxHeartbeats 4000000 in
set_option maxRecDepth 100000 in
theorem zr_given_f (l : Launch) (D : va_G) (c : Nat → ClassId) (d n : Nat → Nat) (A : Nat → Nat → Int32) (B : Nat → Int64) (mk : Nat → Int32) (th : Int32) (j : Nat) (hN : zf_N n) (hj : j < n 2) : ze_I l yX9_given wsX9_given 2 43 0 0 D c (ze_wR c d n A B mk th) [.ref (d 0), .int (nI j)] (A 12 j) (ze_wR c d n A B mk 0) := by
  intro sz
  refine ze_start (cc := cX9_given) (maxL := 2) (ret := (some .int)) (own := RX9) (by decide) rfl rfl (Nat.le_of_ble_eq_true rfl) ?_
  obtain ⟨hn0, hn1, hn2, hn3, hn4⟩ := id hN
  have hinj : zf_isIn (nI j) 0 (nI (n 2) - 1) := zf_isInN hj (by omega)
  intro p e s m_ below meth cd F ls hF hsz E0
  obtain ⟨S, hr, hlocks, hK, hW, hA, hl⟩ := E0
  have hX_ := S.1
  have hB_ := S.2.1
  have hts := S.2.2.2.2
  have hl : lv_has ls 2 [(0, .ref (d 0)), (1, .int (nI j))] := hl
  have hiX9 : ∀ w ∈ u_ws RX9 TX9 39, w ∈ wsX9_given := fun _ h => (List.mem_cons_of_mem _ (List.mem_append_right _ h))
  have w0 := hts (.fieldLink RX9 47 "IslandgridModel" "given" "[I") (List.mem_cons_of_mem _ (List.mem_append_left _ (List.mem_of_getElem? (i := 0) rfl)))
  refine lv_aload_n hX_ hB_ dX9_given_0 rfl (lv_at hl 0 rfl) ?_
  refine lv_iload_n hX_ hB_ dX9_given_1 rfl (lv_at hl 1 rfl) ?_
  refine ze_Vi (As := [.int (nI j)]) (rest := []) (ci := 9) (q0 := 0) (k := (RX9, TX9, 39)) S (zr_isNoGenerator l D c d n A B mk th (nI j)) (cwV 1 hts gX9_given_X9_isNoGenerator rfl rfl rfl (by decide +kernel) ⟨Nat.le_of_ble_eq_true rfl, Nat.le_of_ble_eq_true rfl⟩) hK hW hA rfl rfl rfl hl.1 rfl (lv_room (Nat.le_of_ble_eq_true rfl)) dX9_given_2 ⟨Nat.le_of_ble_eq_true rfl, Nat.le_of_ble_eq_true rfl⟩ (fun H locs hW => ?_)
  have hW : ze_W D (ze_wR c d n A B mk (if zf_isIn (nI j) 0 (nI (n 2) - 1) then 0 else 1)) F s.heap _ _ := hW
  refine lv_if_eq (tgt := 12) hX_ hB_ dX9_given_5 (by decide) (fun c5 => ?_) (fun c5 => ?_)
  · have c5 : ¬ (¬ zf_isIn (nI j) 0 (nI (n 2) - 1)) := ze_bf c5
    have c5 : zf_isIn (nI j) 0 (nI (n 2) - 1) := Decidable.of_not_not c5
    refine lv_aload_n hX_ hB_ dX9_given_12 rfl (lv_at hl 0 rfl) ?_
    refine ze_get (ci := 9) (C := RX9) (T := TX9) (N := 39) (v := .ref (d 13)) S hiX9 hK hW 0 rfl rfl 12 (by decide) rfl w0 dX9_given_13 ?_
    refine lv_iload_n hX_ hB_ dX9_given_16 rfl (lv_at hl 1 rfl) ?_
    refine ze_ialdN hX_ hB_ hK hW 13 (f := A 12) rfl (i := j) (by omega) (by decide) dX9_given_17 ?_
    exact ze_iret S hr hlocks hF hK hW rfl dX9_given_18 (Nat.le_of_ble_eq_true rfl) (Nat.le_of_ble_eq_true rfl) rfl (by simp only [ze_b, eq_true hinj, eq_true c5, not_true_eq_false, not_false_eq_true, and_true, true_and, and_false, false_and, or_true, true_or, or_false, false_or, and_self, or_self, Decidable.not_not, if_true, if_false, reduceIte, reduceCtorEq, ne_eq, eq_self, Int32.lt_irrefl, Int32.le_refl, Nat.lt_irrefl])
  · have c5 : ¬ zf_isIn (nI j) 0 (nI (n 2) - 1) := ze_bt c5
    exact absurd hinj c5
set_option maxHeartbeats 4000000 in
set_option maxRecDepth 100000 in
theorem zr_charge_t1 (l : Launch) (D : va_G) (c : Nat → ClassId) (d n : Nat → Nat) (A : Nat → Nat → Int32) (B : Nat → Int64) (mk : Nat → Int32) (th : Int32) (x : Int32) (hN : zf_N n) (hx : ¬ zf_isIn x 0 (nI (n 3) - 1)) : ze_I l yX9_charge wsX9_charge 2 43 0 0 D c (ze_wR c d n A B mk th) [.ref (d 0), .int x] 0 (ze_wR c d n A B mk 1) := by
  intro sz
  refine ze_start (cc := cX9_charge) (maxL := 2) (ret := (some .int)) (own := RX9) (by decide) rfl rfl (Nat.le_of_ble_eq_true rfl) ?_
  obtain ⟨hn0, hn1, hn2, hn3, hn4⟩ := id hN
  intro p e s m_ below meth cd F ls hF hsz E0
  obtain ⟨S, hr, hlocks, hK, hW, hA, hl⟩ := E0
  have hX_ := S.1
  have hB_ := S.2.1
  have hts := S.2.2.2.2
  have hl : lv_has ls 2 [(0, .ref (d 0)), (1, .int x)] := hl
  refine lv_aload_n hX_ hB_ dX9_charge_0 rfl (lv_at hl 0 rfl) ?_
  refine lv_iload_n hX_ hB_ dX9_charge_1 rfl (lv_at hl 1 rfl) ?_
  refine ze_Vi (As := [.int x]) (rest := []) (ci := 9) (q0 := 0) (k := (RX9, TX9, 39)) S (zr_isNoStore l D c d n A B mk th x) (cwV 1 hts gX9_charge_X9_isNoStore rfl rfl rfl (by decide +kernel) ⟨Nat.le_of_ble_eq_true rfl, Nat.le_of_ble_eq_true rfl⟩) hK hW hA rfl rfl rfl hl.1 rfl (lv_room (Nat.le_of_ble_eq_true rfl)) dX9_charge_2 ⟨Nat.le_of_ble_eq_true rfl, Nat.le_of_ble_eq_true rfl⟩ (fun H locs hW => ?_)
  have hW : ze_W D (ze_wR c d n A B mk (if zf_isIn x 0 (nI (n 3) - 1) then 0 else 1)) F s.heap _ _ := hW
  refine lv_if_eq (tgt := 12) hX_ hB_ dX9_charge_5 (by decide) (fun c5 => ?_) (fun c5 => ?_)
  · have c5 : ¬ (¬ zf_isIn x 0 (nI (n 3) - 1)) := ze_bf c5
    have c5 : zf_isIn x 0 (nI (n 3) - 1) := Decidable.of_not_not c5
    exact absurd c5 hx
  · have c5 : ¬ zf_isIn x 0 (nI (n 3) - 1) := ze_bt c5
    refine lv_iconst (v := 0) hX_ hB_ dX9_charge_8 (by decide) ?_
    refine lv_goto (tgt := 18) hX_ hB_ dX9_charge_9 (by decide) ?_
    exact ze_iret S hr hlocks hF hK hW rfl dX9_charge_18 (Nat.le_of_ble_eq_true rfl) (Nat.le_of_ble_eq_true rfl) rfl (by simp only [ze_b, eq_false hx, eq_false c5, not_true_eq_false, not_false_eq_true, and_true, true_and, and_false, false_and, or_true, true_or, or_false, false_or, and_self, or_self, Decidable.not_not, if_true, if_false, reduceIte, reduceCtorEq, ne_eq, eq_self, Int32.lt_irrefl, Int32.le_refl, Nat.lt_irrefl])
set_option maxHeartbeats 4000000 in
set_option maxRecDepth 100000 in
theorem zr_charge_f (l : Launch) (D : va_G) (c : Nat → ClassId) (d n : Nat → Nat) (A : Nat → Nat → Int32) (B : Nat → Int64) (mk : Nat → Int32) (th : Int32) (j : Nat) (hN : zf_N n) (hj : j < n 3) : ze_I l yX9_charge wsX9_charge 2 43 0 0 D c (ze_wR c d n A B mk th) [.ref (d 0), .int (nI j)] (A 17 j) (ze_wR c d n A B mk 0) := by
  intro sz
  refine ze_start (cc := cX9_charge) (maxL := 2) (ret := (some .int)) (own := RX9) (by decide) rfl rfl (Nat.le_of_ble_eq_true rfl) ?_
  obtain ⟨hn0, hn1, hn2, hn3, hn4⟩ := id hN
  have hinj : zf_isIn (nI j) 0 (nI (n 3) - 1) := zf_isInN hj (by omega)
  intro p e s m_ below meth cd F ls hF hsz E0
  obtain ⟨S, hr, hlocks, hK, hW, hA, hl⟩ := E0
  have hX_ := S.1
  have hB_ := S.2.1
  have hts := S.2.2.2.2
  have hl : lv_has ls 2 [(0, .ref (d 0)), (1, .int (nI j))] := hl
  have hiX9 : ∀ w ∈ u_ws RX9 TX9 39, w ∈ wsX9_charge := fun _ h => (List.mem_cons_of_mem _ (List.mem_append_right _ h))
  have w0 := hts (.fieldLink RX9 63 "IslandgridModel" "charge" "[I") (List.mem_cons_of_mem _ (List.mem_append_left _ (List.mem_of_getElem? (i := 0) rfl)))
  refine lv_aload_n hX_ hB_ dX9_charge_0 rfl (lv_at hl 0 rfl) ?_
  refine lv_iload_n hX_ hB_ dX9_charge_1 rfl (lv_at hl 1 rfl) ?_
  refine ze_Vi (As := [.int (nI j)]) (rest := []) (ci := 9) (q0 := 0) (k := (RX9, TX9, 39)) S (zr_isNoStore l D c d n A B mk th (nI j)) (cwV 1 hts gX9_charge_X9_isNoStore rfl rfl rfl (by decide +kernel) ⟨Nat.le_of_ble_eq_true rfl, Nat.le_of_ble_eq_true rfl⟩) hK hW hA rfl rfl rfl hl.1 rfl (lv_room (Nat.le_of_ble_eq_true rfl)) dX9_charge_2 ⟨Nat.le_of_ble_eq_true rfl, Nat.le_of_ble_eq_true rfl⟩ (fun H locs hW => ?_)
  have hW : ze_W D (ze_wR c d n A B mk (if zf_isIn (nI j) 0 (nI (n 3) - 1) then 0 else 1)) F s.heap _ _ := hW
  refine lv_if_eq (tgt := 12) hX_ hB_ dX9_charge_5 (by decide) (fun c5 => ?_) (fun c5 => ?_)
  · have c5 : ¬ (¬ zf_isIn (nI j) 0 (nI (n 3) - 1)) := ze_bf c5
    have c5 : zf_isIn (nI j) 0 (nI (n 3) - 1) := Decidable.of_not_not c5
    refine lv_aload_n hX_ hB_ dX9_charge_12 rfl (lv_at hl 0 rfl) ?_
    refine ze_get (ci := 9) (C := RX9) (T := TX9) (N := 39) (v := .ref (d 18)) S hiX9 hK hW 0 rfl rfl 17 (by decide) rfl w0 dX9_charge_13 ?_
    refine lv_iload_n hX_ hB_ dX9_charge_16 rfl (lv_at hl 1 rfl) ?_
    refine ze_ialdN hX_ hB_ hK hW 18 (f := A 17) rfl (i := j) (by omega) (by decide) dX9_charge_17 ?_
    exact ze_iret S hr hlocks hF hK hW rfl dX9_charge_18 (Nat.le_of_ble_eq_true rfl) (Nat.le_of_ble_eq_true rfl) rfl (by simp only [ze_b, eq_true hinj, eq_true c5, not_true_eq_false, not_false_eq_true, and_true, true_and, and_false, false_and, or_true, true_or, or_false, false_or, and_self, or_self, Decidable.not_not, if_true, if_false, reduceIte, reduceCtorEq, ne_eq, eq_self, Int32.lt_irrefl, Int32.le_refl, Nat.lt_irrefl])
  · have c5 : ¬ zf_isIn (nI j) 0 (nI (n 3) - 1) := ze_bt c5
    exact absurd hinj c5
set_option maxHeartbeats 4000000 in
set_option maxRecDepth 100000 in
theorem zr_flow_t1 (l : Launch) (D : va_G) (c : Nat → ClassId) (d n : Nat → Nat) (A : Nat → Nat → Int32) (B : Nat → Int64) (mk : Nat → Int32) (th : Int32) (x : Int32) (hN : zf_N n) (hx : ¬ zf_isIn x 0 (nI (n 3) - 1)) : ze_I l yX9_flow wsX9_flow 2 43 0 0 D c (ze_wR c d n A B mk th) [.ref (d 0), .int x] 0 (ze_wR c d n A B mk 1) := by
  intro sz
  refine ze_start (cc := cX9_flow) (maxL := 2) (ret := (some .int)) (own := RX9) (by decide) rfl rfl (Nat.le_of_ble_eq_true rfl) ?_
  obtain ⟨hn0, hn1, hn2, hn3, hn4⟩ := id hN
  intro p e s m_ below meth cd F ls hF hsz E0
  obtain ⟨S, hr, hlocks, hK, hW, hA, hl⟩ := E0
  have hX_ := S.1
  have hB_ := S.2.1
  have hts := S.2.2.2.2
  have hl : lv_has ls 2 [(0, .ref (d 0)), (1, .int x)] := hl
  refine lv_aload_n hX_ hB_ dX9_flow_0 rfl (lv_at hl 0 rfl) ?_
  refine lv_iload_n hX_ hB_ dX9_flow_1 rfl (lv_at hl 1 rfl) ?_
  refine ze_Vi (As := [.int x]) (rest := []) (ci := 9) (q0 := 0) (k := (RX9, TX9, 39)) S (zr_isNoStore l D c d n A B mk th x) (cwV 1 hts gX9_flow_X9_isNoStore rfl rfl rfl (by decide +kernel) ⟨Nat.le_of_ble_eq_true rfl, Nat.le_of_ble_eq_true rfl⟩) hK hW hA rfl rfl rfl hl.1 rfl (lv_room (Nat.le_of_ble_eq_true rfl)) dX9_flow_2 ⟨Nat.le_of_ble_eq_true rfl, Nat.le_of_ble_eq_true rfl⟩ (fun H locs hW => ?_)
  have hW : ze_W D (ze_wR c d n A B mk (if zf_isIn x 0 (nI (n 3) - 1) then 0 else 1)) F s.heap _ _ := hW
  refine lv_if_eq (tgt := 12) hX_ hB_ dX9_flow_5 (by decide) (fun c5 => ?_) (fun c5 => ?_)
  · have c5 : ¬ (¬ zf_isIn x 0 (nI (n 3) - 1)) := ze_bf c5
    have c5 : zf_isIn x 0 (nI (n 3) - 1) := Decidable.of_not_not c5
    exact absurd c5 hx
  · have c5 : ¬ zf_isIn x 0 (nI (n 3) - 1) := ze_bt c5
    refine lv_iconst (v := 0) hX_ hB_ dX9_flow_8 (by decide) ?_
    refine lv_goto (tgt := 18) hX_ hB_ dX9_flow_9 (by decide) ?_
    exact ze_iret S hr hlocks hF hK hW rfl dX9_flow_18 (Nat.le_of_ble_eq_true rfl) (Nat.le_of_ble_eq_true rfl) rfl (by simp only [ze_b, eq_false hx, eq_false c5, not_true_eq_false, not_false_eq_true, and_true, true_and, and_false, false_and, or_true, true_or, or_false, false_or, and_self, or_self, Decidable.not_not, if_true, if_false, reduceIte, reduceCtorEq, ne_eq, eq_self, Int32.lt_irrefl, Int32.le_refl, Nat.lt_irrefl])
set_option maxHeartbeats 4000000 in
set_option maxRecDepth 100000 in
theorem zr_flow_f (l : Launch) (D : va_G) (c : Nat → ClassId) (d n : Nat → Nat) (A : Nat → Nat → Int32) (B : Nat → Int64) (mk : Nat → Int32) (th : Int32) (j : Nat) (hN : zf_N n) (hj : j < n 3) : ze_I l yX9_flow wsX9_flow 2 43 0 0 D c (ze_wR c d n A B mk th) [.ref (d 0), .int (nI j)] (A 18 j) (ze_wR c d n A B mk 0) := by
  intro sz
  refine ze_start (cc := cX9_flow) (maxL := 2) (ret := (some .int)) (own := RX9) (by decide) rfl rfl (Nat.le_of_ble_eq_true rfl) ?_
  obtain ⟨hn0, hn1, hn2, hn3, hn4⟩ := id hN
  have hinj : zf_isIn (nI j) 0 (nI (n 3) - 1) := zf_isInN hj (by omega)
  intro p e s m_ below meth cd F ls hF hsz E0
  obtain ⟨S, hr, hlocks, hK, hW, hA, hl⟩ := E0
  have hX_ := S.1
  have hB_ := S.2.1
  have hts := S.2.2.2.2
  have hl : lv_has ls 2 [(0, .ref (d 0)), (1, .int (nI j))] := hl
  have hiX9 : ∀ w ∈ u_ws RX9 TX9 39, w ∈ wsX9_flow := fun _ h => (List.mem_cons_of_mem _ (List.mem_append_right _ h))
  have w0 := hts (.fieldLink RX9 66 "IslandgridModel" "flow" "[I") (List.mem_cons_of_mem _ (List.mem_append_left _ (List.mem_of_getElem? (i := 0) rfl)))
  refine lv_aload_n hX_ hB_ dX9_flow_0 rfl (lv_at hl 0 rfl) ?_
  refine lv_iload_n hX_ hB_ dX9_flow_1 rfl (lv_at hl 1 rfl) ?_
  refine ze_Vi (As := [.int (nI j)]) (rest := []) (ci := 9) (q0 := 0) (k := (RX9, TX9, 39)) S (zr_isNoStore l D c d n A B mk th (nI j)) (cwV 1 hts gX9_flow_X9_isNoStore rfl rfl rfl (by decide +kernel) ⟨Nat.le_of_ble_eq_true rfl, Nat.le_of_ble_eq_true rfl⟩) hK hW hA rfl rfl rfl hl.1 rfl (lv_room (Nat.le_of_ble_eq_true rfl)) dX9_flow_2 ⟨Nat.le_of_ble_eq_true rfl, Nat.le_of_ble_eq_true rfl⟩ (fun H locs hW => ?_)
  have hW : ze_W D (ze_wR c d n A B mk (if zf_isIn (nI j) 0 (nI (n 3) - 1) then 0 else 1)) F s.heap _ _ := hW
  refine lv_if_eq (tgt := 12) hX_ hB_ dX9_flow_5 (by decide) (fun c5 => ?_) (fun c5 => ?_)
  · have c5 : ¬ (¬ zf_isIn (nI j) 0 (nI (n 3) - 1)) := ze_bf c5
    have c5 : zf_isIn (nI j) 0 (nI (n 3) - 1) := Decidable.of_not_not c5
    refine lv_aload_n hX_ hB_ dX9_flow_12 rfl (lv_at hl 0 rfl) ?_
    refine ze_get (ci := 9) (C := RX9) (T := TX9) (N := 39) (v := .ref (d 19)) S hiX9 hK hW 0 rfl rfl 18 (by decide) rfl w0 dX9_flow_13 ?_
    refine lv_iload_n hX_ hB_ dX9_flow_16 rfl (lv_at hl 1 rfl) ?_
    refine ze_ialdN hX_ hB_ hK hW 19 (f := A 18) rfl (i := j) (by omega) (by decide) dX9_flow_17 ?_
    exact ze_iret S hr hlocks hF hK hW rfl dX9_flow_18 (Nat.le_of_ble_eq_true rfl) (Nat.le_of_ble_eq_true rfl) rfl (by simp only [ze_b, eq_true hinj, eq_true c5, not_true_eq_false, not_false_eq_true, and_true, true_and, and_false, false_and, or_true, true_or, or_false, false_or, and_self, or_self, Decidable.not_not, if_true, if_false, reduceIte, reduceCtorEq, ne_eq, eq_self, Int32.lt_irrefl, Int32.le_refl, Nat.lt_irrefl])
  · have c5 : ¬ zf_isIn (nI j) 0 (nI (n 3) - 1) := ze_bt c5
    exact absurd hinj c5
set_option maxHeartbeats 4000000 in
set_option maxRecDepth 100000 in
theorem zr_toGo_t1 (l : Launch) (D : va_G) (c : Nat → ClassId) (d n : Nat → Nat) (A : Nat → Nat → Int32) (B : Nat → Int64) (mk : Nat → Int32) (th : Int32) (x : Int32) (hN : zf_N n) (hx : ¬ zf_isIn x 0 (nI (n 2) - 1)) : ze_I l yX9_toGo wsX9_toGo 2 43 0 0 D c (ze_wR c d n A B mk th) [.ref (d 0), .int x] 0 (ze_wR c d n A B mk 1) := by
  intro sz
  refine ze_start (cc := cX9_toGo) (maxL := 2) (ret := (some .int)) (own := RX9) (by decide) rfl rfl (Nat.le_of_ble_eq_true rfl) ?_
  obtain ⟨hn0, hn1, hn2, hn3, hn4⟩ := id hN
  intro p e s m_ below meth cd F ls hF hsz E0
  obtain ⟨S, hr, hlocks, hK, hW, hA, hl⟩ := E0
  have hX_ := S.1
  have hB_ := S.2.1
  have hts := S.2.2.2.2
  have hl : lv_has ls 2 [(0, .ref (d 0)), (1, .int x)] := hl
  refine lv_aload_n hX_ hB_ dX9_toGo_0 rfl (lv_at hl 0 rfl) ?_
  refine lv_iload_n hX_ hB_ dX9_toGo_1 rfl (lv_at hl 1 rfl) ?_
  refine ze_Vi (As := [.int x]) (rest := []) (ci := 9) (q0 := 0) (k := (RX9, TX9, 39)) S (zr_isNoGenerator l D c d n A B mk th x) (cwV 1 hts gX9_toGo_X9_isNoGenerator rfl rfl rfl (by decide +kernel) ⟨Nat.le_of_ble_eq_true rfl, Nat.le_of_ble_eq_true rfl⟩) hK hW hA rfl rfl rfl hl.1 rfl (lv_room (Nat.le_of_ble_eq_true rfl)) dX9_toGo_2 ⟨Nat.le_of_ble_eq_true rfl, Nat.le_of_ble_eq_true rfl⟩ (fun H locs hW => ?_)
  have hW : ze_W D (ze_wR c d n A B mk (if zf_isIn x 0 (nI (n 2) - 1) then 0 else 1)) F s.heap _ _ := hW
  refine lv_if_ne (tgt := 32) hX_ hB_ dX9_toGo_5 (by decide) (fun c5 => ?_) (fun c5 => ?_)
  · have c5 : ¬ zf_isIn x 0 (nI (n 2) - 1) := ze_bt c5
    refine lv_iconst (v := 0) hX_ hB_ dX9_toGo_32 (by decide) ?_
    refine lv_goto (tgt := 42) hX_ hB_ dX9_toGo_33 (by decide) ?_
    exact ze_iret S hr hlocks hF hK hW rfl dX9_toGo_42 (Nat.le_of_ble_eq_true rfl) (Nat.le_of_ble_eq_true rfl) rfl (by simp only [ze_b, eq_false hx, eq_false c5, not_true_eq_false, not_false_eq_true, and_true, true_and, and_false, false_and, or_true, true_or, or_false, false_or, and_self, or_self, Decidable.not_not, if_true, if_false, reduceIte, reduceCtorEq, ne_eq, eq_self, Int32.lt_irrefl, Int32.le_refl, Nat.lt_irrefl])
  · have c5 : ¬ (¬ zf_isIn x 0 (nI (n 2) - 1)) := ze_bf c5
    have c5 : zf_isIn x 0 (nI (n 2) - 1) := Decidable.of_not_not c5
    exact absurd c5 hx
set_option maxHeartbeats 4000000 in
set_option maxRecDepth 100000 in
theorem zr_toGo_t2 (l : Launch) (D : va_G) (c : Nat → ClassId) (d n : Nat → Nat) (A : Nat → Nat → Int32) (B : Nat → Int64) (mk : Nat → Int32) (th : Int32) (j : Nat) (hN : zf_N n) (hj : j < n 2) (h : ¬ A 13 j = 119) : ze_I l yX9_toGo wsX9_toGo 2 43 0 0 D c (ze_wR c d n A B mk th) [.ref (d 0), .int (nI j)] 0 (ze_wR c d n A B mk 2) := by
  intro sz
  refine ze_start (cc := cX9_toGo) (maxL := 2) (ret := (some .int)) (own := RX9) (by decide) rfl rfl (Nat.le_of_ble_eq_true rfl) ?_
  obtain ⟨hn0, hn1, hn2, hn3, hn4⟩ := id hN
  have hinj : zf_isIn (nI j) 0 (nI (n 2) - 1) := zf_isInN hj (by omega)
  intro p e s m_ below meth cd F ls hF hsz E0
  obtain ⟨S, hr, hlocks, hK, hW, hA, hl⟩ := E0
  have hX_ := S.1
  have hB_ := S.2.1
  have hts := S.2.2.2.2
  have hl : lv_has ls 2 [(0, .ref (d 0)), (1, .int (nI j))] := hl
  have hiX9 : ∀ w ∈ u_ws RX9 TX9 39, w ∈ wsX9_toGo := fun _ h => (List.mem_cons_of_mem _ (List.mem_append_right _ h))
  have w0 := hts (.fieldLink RX9 50 "IslandgridModel" "state" "[C") (List.mem_cons_of_mem _ (List.mem_append_left _ (List.mem_of_getElem? (i := 0) rfl)))
  refine lv_aload_n hX_ hB_ dX9_toGo_0 rfl (lv_at hl 0 rfl) ?_
  refine lv_iload_n hX_ hB_ dX9_toGo_1 rfl (lv_at hl 1 rfl) ?_
  refine ze_Vi (As := [.int (nI j)]) (rest := []) (ci := 9) (q0 := 0) (k := (RX9, TX9, 39)) S (zr_isNoGenerator l D c d n A B mk th (nI j)) (cwV 1 hts gX9_toGo_X9_isNoGenerator rfl rfl rfl (by decide +kernel) ⟨Nat.le_of_ble_eq_true rfl, Nat.le_of_ble_eq_true rfl⟩) hK hW hA rfl rfl rfl hl.1 rfl (lv_room (Nat.le_of_ble_eq_true rfl)) dX9_toGo_2 ⟨Nat.le_of_ble_eq_true rfl, Nat.le_of_ble_eq_true rfl⟩ (fun H locs hW => ?_)
  have hW : ze_W D (ze_wR c d n A B mk (if zf_isIn (nI j) 0 (nI (n 2) - 1) then 0 else 1)) F s.heap _ _ := hW
  refine lv_if_ne (tgt := 32) hX_ hB_ dX9_toGo_5 (by decide) (fun c5 => ?_) (fun c5 => ?_)
  · have c5 : ¬ zf_isIn (nI j) 0 (nI (n 2) - 1) := ze_bt c5
    exact absurd hinj c5
  · have c5 : ¬ (¬ zf_isIn (nI j) 0 (nI (n 2) - 1)) := ze_bf c5
    have c5 : zf_isIn (nI j) 0 (nI (n 2) - 1) := Decidable.of_not_not c5
    refine lv_aload_n hX_ hB_ dX9_toGo_8 rfl (lv_at hl 0 rfl) ?_
    refine lv_aload_n hX_ hB_ dX9_toGo_9 rfl (lv_at hl 0 rfl) ?_
    refine ze_get (ci := 9) (C := RX9) (T := TX9) (N := 39) (v := .ref (d 14)) S hiX9 hK hW 0 rfl rfl 13 (by decide) rfl w0 dX9_toGo_10 ?_
    refine lv_iload_n hX_ hB_ dX9_toGo_13 rfl (lv_at hl 1 rfl) ?_
    refine ze_caldN hX_ hB_ hK hW 14 (f := A 13) rfl (i := j) (by omega) (by decide) dX9_toGo_14 ?_
    refine lv_bipush (v := 119) hX_ hB_ dX9_toGo_15 (by decide) ?_
    refine lv_icmp_eq (tgt := 24) hX_ hB_ dX9_toGo_17 (by decide) (fun c17 => ?_) (fun c17 => ?_)
    · exact absurd c17 h
    · refine lv_iconst (v := 1) hX_ hB_ dX9_toGo_20 (by decide) ?_
      refine lv_goto (tgt := 25) hX_ hB_ dX9_toGo_21 (by decide) ?_
      refine lv_iconst (v := 2) hX_ hB_ dX9_toGo_25 (by decide) ?_
      refine ze_Vi (As := [.int 1, .int 2]) (rest := []) (ci := 9) (q0 := 0) (k := (RX9, TX9, 39)) S (zr_isThrown l D c d n A B mk (if zf_isIn (nI j) 0 (nI (n 2) - 1) then 0 else 1) 1 2 2 rfl (if_neg (by decide))) (cwV 2 hts gX9_toGo_X9_isThrown rfl rfl rfl (by decide +kernel) ⟨Nat.le_of_ble_eq_true rfl, Nat.le_of_ble_eq_true rfl⟩) hK hW hA rfl rfl rfl hl.1 rfl (lv_room (Nat.le_of_ble_eq_true rfl)) dX9_toGo_26 ⟨Nat.le_of_ble_eq_true rfl, Nat.le_of_ble_eq_true rfl⟩ (fun H locs hW => ?_)
      have hW : ze_W D (ze_wR c d n A B mk 2) F s.heap _ _ := hW
      refine lv_if_eq (tgt := 36) hX_ hB_ dX9_toGo_29 (by decide) (fun c29 => ?_) (fun c29 => ?_)
      · exact absurd c29 (by decide)
      · refine lv_iconst (v := 0) hX_ hB_ dX9_toGo_32 (by decide) ?_
        refine lv_goto (tgt := 42) hX_ hB_ dX9_toGo_33 (by decide) ?_
        exact ze_iret S hr hlocks hF hK hW rfl dX9_toGo_42 (Nat.le_of_ble_eq_true rfl) (Nat.le_of_ble_eq_true rfl) rfl rfl
set_option maxHeartbeats 4000000 in
set_option maxRecDepth 100000 in
theorem zr_toGo_f (l : Launch) (D : va_G) (c : Nat → ClassId) (d n : Nat → Nat) (A : Nat → Nat → Int32) (B : Nat → Int64) (mk : Nat → Int32) (th : Int32) (j : Nat) (hN : zf_N n) (hj : j < n 2) (h : A 13 j = 119) : ze_I l yX9_toGo wsX9_toGo 2 43 0 0 D c (ze_wR c d n A B mk th) [.ref (d 0), .int (nI j)] (A 11 j) (ze_wR c d n A B mk 0) := by
  intro sz
  refine ze_start (cc := cX9_toGo) (maxL := 2) (ret := (some .int)) (own := RX9) (by decide) rfl rfl (Nat.le_of_ble_eq_true rfl) ?_
  obtain ⟨hn0, hn1, hn2, hn3, hn4⟩ := id hN
  have hinj : zf_isIn (nI j) 0 (nI (n 2) - 1) := zf_isInN hj (by omega)
  intro p e s m_ below meth cd F ls hF hsz E0
  obtain ⟨S, hr, hlocks, hK, hW, hA, hl⟩ := E0
  have hX_ := S.1
  have hB_ := S.2.1
  have hts := S.2.2.2.2
  have hl : lv_has ls 2 [(0, .ref (d 0)), (1, .int (nI j))] := hl
  have hiX9 : ∀ w ∈ u_ws RX9 TX9 39, w ∈ wsX9_toGo := fun _ h => (List.mem_cons_of_mem _ (List.mem_append_right _ h))
  have w0 := hts (.fieldLink RX9 50 "IslandgridModel" "state" "[C") (List.mem_cons_of_mem _ (List.mem_append_left _ (List.mem_of_getElem? (i := 0) rfl)))
  have w1 := hts (.fieldLink RX9 44 "IslandgridModel" "toGo" "[I") (List.mem_cons_of_mem _ (List.mem_append_left _ (List.mem_of_getElem? (i := 1) rfl)))
  refine lv_aload_n hX_ hB_ dX9_toGo_0 rfl (lv_at hl 0 rfl) ?_
  refine lv_iload_n hX_ hB_ dX9_toGo_1 rfl (lv_at hl 1 rfl) ?_
  refine ze_Vi (As := [.int (nI j)]) (rest := []) (ci := 9) (q0 := 0) (k := (RX9, TX9, 39)) S (zr_isNoGenerator l D c d n A B mk th (nI j)) (cwV 1 hts gX9_toGo_X9_isNoGenerator rfl rfl rfl (by decide +kernel) ⟨Nat.le_of_ble_eq_true rfl, Nat.le_of_ble_eq_true rfl⟩) hK hW hA rfl rfl rfl hl.1 rfl (lv_room (Nat.le_of_ble_eq_true rfl)) dX9_toGo_2 ⟨Nat.le_of_ble_eq_true rfl, Nat.le_of_ble_eq_true rfl⟩ (fun H locs hW => ?_)
  have hW : ze_W D (ze_wR c d n A B mk (if zf_isIn (nI j) 0 (nI (n 2) - 1) then 0 else 1)) F s.heap _ _ := hW
  refine lv_if_ne (tgt := 32) hX_ hB_ dX9_toGo_5 (by decide) (fun c5 => ?_) (fun c5 => ?_)
  · have c5 : ¬ zf_isIn (nI j) 0 (nI (n 2) - 1) := ze_bt c5
    exact absurd hinj c5
  · have c5 : ¬ (¬ zf_isIn (nI j) 0 (nI (n 2) - 1)) := ze_bf c5
    have c5 : zf_isIn (nI j) 0 (nI (n 2) - 1) := Decidable.of_not_not c5
    refine lv_aload_n hX_ hB_ dX9_toGo_8 rfl (lv_at hl 0 rfl) ?_
    refine lv_aload_n hX_ hB_ dX9_toGo_9 rfl (lv_at hl 0 rfl) ?_
    refine ze_get (ci := 9) (C := RX9) (T := TX9) (N := 39) (v := .ref (d 14)) S hiX9 hK hW 0 rfl rfl 13 (by decide) rfl w0 dX9_toGo_10 ?_
    refine lv_iload_n hX_ hB_ dX9_toGo_13 rfl (lv_at hl 1 rfl) ?_
    refine ze_caldN hX_ hB_ hK hW 14 (f := A 13) rfl (i := j) (by omega) (by decide) dX9_toGo_14 ?_
    refine lv_bipush (v := 119) hX_ hB_ dX9_toGo_15 (by decide) ?_
    refine lv_icmp_eq (tgt := 24) hX_ hB_ dX9_toGo_17 (by decide) (fun c17 => ?_) (fun c17 => ?_)
    · refine lv_iconst (v := 0) hX_ hB_ dX9_toGo_24 (by decide) ?_
      refine lv_iconst (v := 2) hX_ hB_ dX9_toGo_25 (by decide) ?_
      refine ze_Vi (As := [.int 0, .int 2]) (rest := []) (ci := 9) (q0 := 0) (k := (RX9, TX9, 39)) S (zr_isThrown l D c d n A B mk (if zf_isIn (nI j) 0 (nI (n 2) - 1) then 0 else 1) 0 2 0 rfl (if_pos rfl)) (cwV 2 hts gX9_toGo_X9_isThrown rfl rfl rfl (by decide +kernel) ⟨Nat.le_of_ble_eq_true rfl, Nat.le_of_ble_eq_true rfl⟩) hK hW hA rfl rfl rfl hl.1 rfl (lv_room (Nat.le_of_ble_eq_true rfl)) dX9_toGo_26 ⟨Nat.le_of_ble_eq_true rfl, Nat.le_of_ble_eq_true rfl⟩ (fun H locs hW => ?_)
      have hW : ze_W D (ze_wR c d n A B mk 0) F s.heap _ _ := hW
      refine lv_if_eq (tgt := 36) hX_ hB_ dX9_toGo_29 (by decide) (fun c29 => ?_) (fun c29 => ?_)
      · refine lv_aload_n hX_ hB_ dX9_toGo_36 rfl (lv_at hl 0 rfl) ?_
        refine ze_get (ci := 9) (C := RX9) (T := TX9) (N := 39) (v := .ref (d 12)) S hiX9 hK hW 0 rfl rfl 11 (by decide) rfl w1 dX9_toGo_37 ?_
        refine lv_iload_n hX_ hB_ dX9_toGo_40 rfl (lv_at hl 1 rfl) ?_
        refine ze_ialdN hX_ hB_ hK hW 12 (f := A 11) rfl (i := j) (by omega) (by decide) dX9_toGo_41 ?_
        exact ze_iret S hr hlocks hF hK hW rfl dX9_toGo_42 (Nat.le_of_ble_eq_true rfl) (Nat.le_of_ble_eq_true rfl) rfl rfl
      · exact absurd c29 (by decide)
    · exact absurd h c17
set_option maxHeartbeats 4000000 in
set_option maxRecDepth 100000 in
theorem zr_addStore_t1 (l : Launch) (D : va_G) (c : Nat → ClassId) (d n : Nat → Nat) (A : Nat → Nat → Int32) (B : Nat → Int64) (mk : Nat → Int32) (th : Int32) (x : Int32) (hN : zf_N n) (hx : ¬ zf_isIn x 0 (nI (n 0) - 1)) (y z : Int32) : ze_I l yX9_addStore wsX9_addStore 2 43 0 0 D c (ze_wR c d n A B mk th) [.ref (d 0), .int x, .int y, .int z] 0 (ze_wR c d n A B mk 1) := by
  intro sz
  refine ze_start (cc := cX9_addStore) (maxL := 4) (ret := (some .int)) (own := RX9) (by decide) rfl rfl (Nat.le_of_ble_eq_true rfl) ?_
  obtain ⟨hn0, hn1, hn2, hn3, hn4⟩ := id hN
  intro p e s m_ below meth cd F ls hF hsz E0
  obtain ⟨S, hr, hlocks, hK, hW, hA, hl⟩ := E0
  have hX_ := S.1
  have hB_ := S.2.1
  have hts := S.2.2.2.2
  have hl : lv_has ls 4 [(0, .ref (d 0)), (1, .int x), (2, .int y), (3, .int z)] := hl
  refine lv_aload_n hX_ hB_ dX9_addStore_0 rfl (lv_at hl 0 rfl) ?_
  refine lv_iload_n hX_ hB_ dX9_addStore_1 rfl (lv_at hl 1 rfl) ?_
  refine ze_Vi (As := [.int x]) (rest := []) (ci := 9) (q0 := 0) (k := (RX9, TX9, 39)) S (zr_isNoSite l D c d n A B mk th x) (cwV 1 hts gX9_addStore_X9_isNoSite rfl rfl rfl (by decide +kernel) ⟨Nat.le_of_ble_eq_true rfl, Nat.le_of_ble_eq_true rfl⟩) hK hW hA rfl rfl rfl hl.1 rfl (lv_room (Nat.le_of_ble_eq_true rfl)) dX9_addStore_2 ⟨Nat.le_of_ble_eq_true rfl, Nat.le_of_ble_eq_true rfl⟩ (fun H locs hW => ?_)
  have hW : ze_W D (ze_wR c d n A B mk (if zf_isIn x 0 (nI (n 0) - 1) then 0 else 1)) F s.heap _ _ := hW
  refine lv_if_ne (tgt := 63) hX_ hB_ dX9_addStore_5 (by decide) (fun c5 => ?_) (fun c5 => ?_)
  · have c5 : ¬ zf_isIn x 0 (nI (n 0) - 1) := ze_bt c5
    refine lv_iconst (v := 0) hX_ hB_ dX9_addStore_63 (by decide) ?_
    exact ze_iret S hr hlocks hF hK hW rfl dX9_addStore_64 (Nat.le_of_ble_eq_true rfl) (Nat.le_of_ble_eq_true rfl) rfl (by simp only [ze_b, eq_false hx, eq_false c5, not_true_eq_false, not_false_eq_true, and_true, true_and, and_false, false_and, or_true, true_or, or_false, false_or, and_self, or_self, Decidable.not_not, if_true, if_false, reduceIte, reduceCtorEq, ne_eq, eq_self, Int32.lt_irrefl, Int32.le_refl, Nat.lt_irrefl])
  · have c5 : ¬ (¬ zf_isIn x 0 (nI (n 0) - 1)) := ze_bf c5
    have c5 : zf_isIn x 0 (nI (n 0) - 1) := Decidable.of_not_not c5
    exact absurd c5 hx
set_option maxHeartbeats 4000000 in
set_option maxRecDepth 100000 in
theorem zr_addStore_t2a (l : Launch) (D : va_G) (c : Nat → ClassId) (d n : Nat → Nat) (A : Nat → Nat → Int32) (B : Nat → Int64) (mk : Nat → Int32) (th : Int32) (j : Nat) (hN : zf_N n) (hj : j < n 0) (y z : Int32) (h1 : ¬ zf_isIn y 1 999) : ze_I l yX9_addStore wsX9_addStore 2 43 0 0 D c (ze_wR c d n A B mk th) [.ref (d 0), .int (nI j), .int y, .int z] 0 (ze_wR c d n A B mk 2) := by
  intro sz
  refine ze_start (cc := cX9_addStore) (maxL := 4) (ret := (some .int)) (own := RX9) (by decide) rfl rfl (Nat.le_of_ble_eq_true rfl) ?_
  obtain ⟨hn0, hn1, hn2, hn3, hn4⟩ := id hN
  have hinj : zf_isIn (nI j) 0 (nI (n 0) - 1) := zf_isInN hj (by omega)
  intro p e s m_ below meth cd F ls hF hsz E0
  obtain ⟨S, hr, hlocks, hK, hW, hA, hl⟩ := E0
  have hX_ := S.1
  have hB_ := S.2.1
  have hts := S.2.2.2.2
  have hl : lv_has ls 4 [(0, .ref (d 0)), (1, .int (nI j)), (2, .int y), (3, .int z)] := hl
  refine lv_aload_n hX_ hB_ dX9_addStore_0 rfl (lv_at hl 0 rfl) ?_
  refine lv_iload_n hX_ hB_ dX9_addStore_1 rfl (lv_at hl 1 rfl) ?_
  refine ze_Vi (As := [.int (nI j)]) (rest := []) (ci := 9) (q0 := 0) (k := (RX9, TX9, 39)) S (zr_isNoSite l D c d n A B mk th (nI j)) (cwV 1 hts gX9_addStore_X9_isNoSite rfl rfl rfl (by decide +kernel) ⟨Nat.le_of_ble_eq_true rfl, Nat.le_of_ble_eq_true rfl⟩) hK hW hA rfl rfl rfl hl.1 rfl (lv_room (Nat.le_of_ble_eq_true rfl)) dX9_addStore_2 ⟨Nat.le_of_ble_eq_true rfl, Nat.le_of_ble_eq_true rfl⟩ (fun H locs hW => ?_)
  have hW : ze_W D (ze_wR c d n A B mk (if zf_isIn (nI j) 0 (nI (n 0) - 1) then 0 else 1)) F s.heap _ _ := hW
  refine lv_if_ne (tgt := 63) hX_ hB_ dX9_addStore_5 (by decide) (fun c5 => ?_) (fun c5 => ?_)
  · have c5 : ¬ zf_isIn (nI j) 0 (nI (n 0) - 1) := ze_bt c5
    exact absurd hinj c5
  · have c5 : ¬ (¬ zf_isIn (nI j) 0 (nI (n 0) - 1)) := ze_bf c5
    have c5 : zf_isIn (nI j) 0 (nI (n 0) - 1) := Decidable.of_not_not c5
    refine lv_aload_n hX_ hB_ dX9_addStore_8 rfl (lv_at hl 0 rfl) ?_
    refine lv_iload_n hX_ hB_ dX9_addStore_9 rfl (lv_at hl 2 rfl) ?_
    refine lv_iconst (v := 1) hX_ hB_ dX9_addStore_10 (by decide) ?_
    refine lv_sipush (v := 999) hX_ hB_ dX9_addStore_11 (by decide) ?_
    refine ze_Si (As := [.int y, .int 1, .int 999]) (rest := [.ref (d 0)]) S (zr_isIn l D c (ze_wR c d n A B mk (if zf_isIn (nI j) 0 (nI (n 0) - 1) then 0 else 1)) y 1 999) (va_cwS 3 hts gX9_addStore_X9_isIn rfl rfl rfl (by decide +kernel) ⟨Nat.le_of_ble_eq_true rfl, Nat.le_of_ble_eq_true rfl⟩) hK hW hA rfl hl.1 rfl (lv_room (Nat.le_of_ble_eq_true rfl)) dX9_addStore_14 ⟨Nat.le_of_ble_eq_true rfl, Nat.le_of_ble_eq_true rfl⟩ (fun H locs hW => ?_)
    refine lv_if_eq (tgt := 30) hX_ hB_ dX9_addStore_17 (by decide) (fun c17 => ?_) (fun c17 => ?_)
    · have c17 : ¬ (zf_isIn y 1 999) := ze_bf c17
      refine lv_iconst (v := 1) hX_ hB_ dX9_addStore_30 (by decide) ?_
      refine lv_goto (tgt := 35) hX_ hB_ dX9_addStore_31 (by decide) ?_
      refine lv_iconst (v := 2) hX_ hB_ dX9_addStore_35 (by decide) ?_
      refine ze_Vi (As := [.int 1, .int 2]) (rest := []) (ci := 9) (q0 := 0) (k := (RX9, TX9, 39)) S (zr_isThrown l D c d n A B mk (if zf_isIn (nI j) 0 (nI (n 0) - 1) then 0 else 1) 1 2 2 rfl (if_neg (by decide))) (cwV 2 hts gX9_addStore_X9_isThrown rfl rfl rfl (by decide +kernel) ⟨Nat.le_of_ble_eq_true rfl, Nat.le_of_ble_eq_true rfl⟩) hK hW hA rfl rfl rfl hl.1 rfl (lv_room (Nat.le_of_ble_eq_true rfl)) dX9_addStore_36 ⟨Nat.le_of_ble_eq_true rfl, Nat.le_of_ble_eq_true rfl⟩ (fun H locs hW => ?_)
      have hW : ze_W D (ze_wR c d n A B mk 2) F s.heap _ _ := hW
      refine lv_if_ne (tgt := 63) hX_ hB_ dX9_addStore_39 (by decide) (fun c39 => ?_) (fun c39 => ?_)
      · refine lv_iconst (v := 0) hX_ hB_ dX9_addStore_63 (by decide) ?_
        exact ze_iret S hr hlocks hF hK hW rfl dX9_addStore_64 (Nat.le_of_ble_eq_true rfl) (Nat.le_of_ble_eq_true rfl) rfl rfl
      · exact absurd c39 (by decide)
    · have c17 : zf_isIn y 1 999 := ze_bt c17
      exact absurd c17 h1
set_option maxHeartbeats 4000000 in
set_option maxRecDepth 100000 in
theorem zr_addStore_t2b (l : Launch) (D : va_G) (c : Nat → ClassId) (d n : Nat → Nat) (A : Nat → Nat → Int32) (B : Nat → Int64) (mk : Nat → Int32) (th : Int32) (j : Nat) (hN : zf_N n) (hj : j < n 0) (y z : Int32) (h1 : zf_isIn y 1 999) (h2 : ¬ zf_isIn z 1 99) : ze_I l yX9_addStore wsX9_addStore 2 43 0 0 D c (ze_wR c d n A B mk th) [.ref (d 0), .int (nI j), .int y, .int z] 0 (ze_wR c d n A B mk 2) := by
  intro sz
  refine ze_start (cc := cX9_addStore) (maxL := 4) (ret := (some .int)) (own := RX9) (by decide) rfl rfl (Nat.le_of_ble_eq_true rfl) ?_
  obtain ⟨hn0, hn1, hn2, hn3, hn4⟩ := id hN
  have hinj : zf_isIn (nI j) 0 (nI (n 0) - 1) := zf_isInN hj (by omega)
  intro p e s m_ below meth cd F ls hF hsz E0
  obtain ⟨S, hr, hlocks, hK, hW, hA, hl⟩ := E0
  have hX_ := S.1
  have hB_ := S.2.1
  have hts := S.2.2.2.2
  have hl : lv_has ls 4 [(0, .ref (d 0)), (1, .int (nI j)), (2, .int y), (3, .int z)] := hl
  refine lv_aload_n hX_ hB_ dX9_addStore_0 rfl (lv_at hl 0 rfl) ?_
  refine lv_iload_n hX_ hB_ dX9_addStore_1 rfl (lv_at hl 1 rfl) ?_
  refine ze_Vi (As := [.int (nI j)]) (rest := []) (ci := 9) (q0 := 0) (k := (RX9, TX9, 39)) S (zr_isNoSite l D c d n A B mk th (nI j)) (cwV 1 hts gX9_addStore_X9_isNoSite rfl rfl rfl (by decide +kernel) ⟨Nat.le_of_ble_eq_true rfl, Nat.le_of_ble_eq_true rfl⟩) hK hW hA rfl rfl rfl hl.1 rfl (lv_room (Nat.le_of_ble_eq_true rfl)) dX9_addStore_2 ⟨Nat.le_of_ble_eq_true rfl, Nat.le_of_ble_eq_true rfl⟩ (fun H locs hW => ?_)
  have hW : ze_W D (ze_wR c d n A B mk (if zf_isIn (nI j) 0 (nI (n 0) - 1) then 0 else 1)) F s.heap _ _ := hW
  refine lv_if_ne (tgt := 63) hX_ hB_ dX9_addStore_5 (by decide) (fun c5 => ?_) (fun c5 => ?_)
  · have c5 : ¬ zf_isIn (nI j) 0 (nI (n 0) - 1) := ze_bt c5
    exact absurd hinj c5
  · have c5 : ¬ (¬ zf_isIn (nI j) 0 (nI (n 0) - 1)) := ze_bf c5
    have c5 : zf_isIn (nI j) 0 (nI (n 0) - 1) := Decidable.of_not_not c5
    refine lv_aload_n hX_ hB_ dX9_addStore_8 rfl (lv_at hl 0 rfl) ?_
    refine lv_iload_n hX_ hB_ dX9_addStore_9 rfl (lv_at hl 2 rfl) ?_
    refine lv_iconst (v := 1) hX_ hB_ dX9_addStore_10 (by decide) ?_
    refine lv_sipush (v := 999) hX_ hB_ dX9_addStore_11 (by decide) ?_
    refine ze_Si (As := [.int y, .int 1, .int 999]) (rest := [.ref (d 0)]) S (zr_isIn l D c (ze_wR c d n A B mk (if zf_isIn (nI j) 0 (nI (n 0) - 1) then 0 else 1)) y 1 999) (va_cwS 3 hts gX9_addStore_X9_isIn rfl rfl rfl (by decide +kernel) ⟨Nat.le_of_ble_eq_true rfl, Nat.le_of_ble_eq_true rfl⟩) hK hW hA rfl hl.1 rfl (lv_room (Nat.le_of_ble_eq_true rfl)) dX9_addStore_14 ⟨Nat.le_of_ble_eq_true rfl, Nat.le_of_ble_eq_true rfl⟩ (fun H locs hW => ?_)
    refine lv_if_eq (tgt := 30) hX_ hB_ dX9_addStore_17 (by decide) (fun c17 => ?_) (fun c17 => ?_)
    · have c17 : ¬ (zf_isIn y 1 999) := ze_bf c17
      exact absurd h1 c17
    · have c17 : zf_isIn y 1 999 := ze_bt c17
      refine lv_iload_n hX_ hB_ dX9_addStore_20 rfl (lv_at hl 3 rfl) ?_
      refine lv_iconst (v := 1) hX_ hB_ dX9_addStore_21 (by decide) ?_
      refine lv_bipush (v := 99) hX_ hB_ dX9_addStore_22 (by decide) ?_
      refine ze_Si (As := [.int z, .int 1, .int 99]) (rest := [.ref (d 0)]) S (zr_isIn l D c (ze_wR c d n A B mk (if zf_isIn (nI j) 0 (nI (n 0) - 1) then 0 else 1)) z 1 99) (va_cwS 3 hts gX9_addStore_X9_isIn rfl rfl rfl (by decide +kernel) ⟨Nat.le_of_ble_eq_true rfl, Nat.le_of_ble_eq_true rfl⟩) hK hW hA rfl hl.1 rfl (lv_room (Nat.le_of_ble_eq_true rfl)) dX9_addStore_24 ⟨Nat.le_of_ble_eq_true rfl, Nat.le_of_ble_eq_true rfl⟩ (fun H locs hW => ?_)
      refine lv_if_ne (tgt := 34) hX_ hB_ dX9_addStore_27 (by decide) (fun c27 => ?_) (fun c27 => ?_)
      · have c27 : zf_isIn z 1 99 := ze_bt c27
        exact absurd c27 h2
      · have c27 : ¬ (zf_isIn z 1 99) := ze_bf c27
        refine lv_iconst (v := 1) hX_ hB_ dX9_addStore_30 (by decide) ?_
        refine lv_goto (tgt := 35) hX_ hB_ dX9_addStore_31 (by decide) ?_
        refine lv_iconst (v := 2) hX_ hB_ dX9_addStore_35 (by decide) ?_
        refine ze_Vi (As := [.int 1, .int 2]) (rest := []) (ci := 9) (q0 := 0) (k := (RX9, TX9, 39)) S (zr_isThrown l D c d n A B mk (if zf_isIn (nI j) 0 (nI (n 0) - 1) then 0 else 1) 1 2 2 rfl (if_neg (by decide))) (cwV 2 hts gX9_addStore_X9_isThrown rfl rfl rfl (by decide +kernel) ⟨Nat.le_of_ble_eq_true rfl, Nat.le_of_ble_eq_true rfl⟩) hK hW hA rfl rfl rfl hl.1 rfl (lv_room (Nat.le_of_ble_eq_true rfl)) dX9_addStore_36 ⟨Nat.le_of_ble_eq_true rfl, Nat.le_of_ble_eq_true rfl⟩ (fun H locs hW => ?_)
        have hW : ze_W D (ze_wR c d n A B mk 2) F s.heap _ _ := hW
        refine lv_if_ne (tgt := 63) hX_ hB_ dX9_addStore_39 (by decide) (fun c39 => ?_) (fun c39 => ?_)
        · refine lv_iconst (v := 0) hX_ hB_ dX9_addStore_63 (by decide) ?_
          exact ze_iret S hr hlocks hF hK hW rfl dX9_addStore_64 (Nat.le_of_ble_eq_true rfl) (Nat.le_of_ble_eq_true rfl) rfl rfl
        · exact absurd c39 (by decide)
set_option maxHeartbeats 4000000 in
set_option maxRecDepth 100000 in
theorem zr_addStore_t3 (l : Launch) (D : va_G) (c : Nat → ClassId) (d n : Nat → Nat) (A : Nat → Nat → Int32) (B : Nat → Int64) (mk : Nat → Int32) (th : Int32) (j : Nat) (hN : zf_N n) (hj : j < n 0) (y z : Int32) (h1 : zf_isIn y 1 999) (h2 : zf_isIn z 1 99) (h3 : n 3 = 4) : ze_I l yX9_addStore wsX9_addStore 2 43 0 0 D c (ze_wR c d n A B mk th) [.ref (d 0), .int (nI j), .int y, .int z] 0 (ze_wR c d n A B mk 3) := by
  intro sz
  refine ze_start (cc := cX9_addStore) (maxL := 4) (ret := (some .int)) (own := RX9) (by decide) rfl rfl (Nat.le_of_ble_eq_true rfl) ?_
  obtain ⟨hn0, hn1, hn2, hn3, hn4⟩ := id hN
  have hinj : zf_isIn (nI j) 0 (nI (n 0) - 1) := zf_isInN hj (by omega)
  intro p e s m_ below meth cd F ls hF hsz E0
  obtain ⟨S, hr, hlocks, hK, hW, hA, hl⟩ := E0
  have hX_ := S.1
  have hB_ := S.2.1
  have hts := S.2.2.2.2
  have hl : lv_has ls 4 [(0, .ref (d 0)), (1, .int (nI j)), (2, .int y), (3, .int z)] := hl
  have hiX9 : ∀ w ∈ u_ws RX9 TX9 39, w ∈ wsX9_addStore := fun _ h => (List.mem_cons_of_mem _ (List.mem_append_right _ h))
  have w0 := hts (.fieldLink RX9 105 "IslandgridModel" "stores" "I") (List.mem_cons_of_mem _ (List.mem_append_left _ (List.mem_of_getElem? (i := 0) rfl)))
  refine lv_aload_n hX_ hB_ dX9_addStore_0 rfl (lv_at hl 0 rfl) ?_
  refine lv_iload_n hX_ hB_ dX9_addStore_1 rfl (lv_at hl 1 rfl) ?_
  refine ze_Vi (As := [.int (nI j)]) (rest := []) (ci := 9) (q0 := 0) (k := (RX9, TX9, 39)) S (zr_isNoSite l D c d n A B mk th (nI j)) (cwV 1 hts gX9_addStore_X9_isNoSite rfl rfl rfl (by decide +kernel) ⟨Nat.le_of_ble_eq_true rfl, Nat.le_of_ble_eq_true rfl⟩) hK hW hA rfl rfl rfl hl.1 rfl (lv_room (Nat.le_of_ble_eq_true rfl)) dX9_addStore_2 ⟨Nat.le_of_ble_eq_true rfl, Nat.le_of_ble_eq_true rfl⟩ (fun H locs hW => ?_)
  have hW : ze_W D (ze_wR c d n A B mk (if zf_isIn (nI j) 0 (nI (n 0) - 1) then 0 else 1)) F s.heap _ _ := hW
  refine lv_if_ne (tgt := 63) hX_ hB_ dX9_addStore_5 (by decide) (fun c5 => ?_) (fun c5 => ?_)
  · have c5 : ¬ zf_isIn (nI j) 0 (nI (n 0) - 1) := ze_bt c5
    exact absurd hinj c5
  · have c5 : ¬ (¬ zf_isIn (nI j) 0 (nI (n 0) - 1)) := ze_bf c5
    have c5 : zf_isIn (nI j) 0 (nI (n 0) - 1) := Decidable.of_not_not c5
    refine lv_aload_n hX_ hB_ dX9_addStore_8 rfl (lv_at hl 0 rfl) ?_
    refine lv_iload_n hX_ hB_ dX9_addStore_9 rfl (lv_at hl 2 rfl) ?_
    refine lv_iconst (v := 1) hX_ hB_ dX9_addStore_10 (by decide) ?_
    refine lv_sipush (v := 999) hX_ hB_ dX9_addStore_11 (by decide) ?_
    refine ze_Si (As := [.int y, .int 1, .int 999]) (rest := [.ref (d 0)]) S (zr_isIn l D c (ze_wR c d n A B mk (if zf_isIn (nI j) 0 (nI (n 0) - 1) then 0 else 1)) y 1 999) (va_cwS 3 hts gX9_addStore_X9_isIn rfl rfl rfl (by decide +kernel) ⟨Nat.le_of_ble_eq_true rfl, Nat.le_of_ble_eq_true rfl⟩) hK hW hA rfl hl.1 rfl (lv_room (Nat.le_of_ble_eq_true rfl)) dX9_addStore_14 ⟨Nat.le_of_ble_eq_true rfl, Nat.le_of_ble_eq_true rfl⟩ (fun H locs hW => ?_)
    refine lv_if_eq (tgt := 30) hX_ hB_ dX9_addStore_17 (by decide) (fun c17 => ?_) (fun c17 => ?_)
    · have c17 : ¬ (zf_isIn y 1 999) := ze_bf c17
      exact absurd h1 c17
    · have c17 : zf_isIn y 1 999 := ze_bt c17
      refine lv_iload_n hX_ hB_ dX9_addStore_20 rfl (lv_at hl 3 rfl) ?_
      refine lv_iconst (v := 1) hX_ hB_ dX9_addStore_21 (by decide) ?_
      refine lv_bipush (v := 99) hX_ hB_ dX9_addStore_22 (by decide) ?_
      refine ze_Si (As := [.int z, .int 1, .int 99]) (rest := [.ref (d 0)]) S (zr_isIn l D c (ze_wR c d n A B mk (if zf_isIn (nI j) 0 (nI (n 0) - 1) then 0 else 1)) z 1 99) (va_cwS 3 hts gX9_addStore_X9_isIn rfl rfl rfl (by decide +kernel) ⟨Nat.le_of_ble_eq_true rfl, Nat.le_of_ble_eq_true rfl⟩) hK hW hA rfl hl.1 rfl (lv_room (Nat.le_of_ble_eq_true rfl)) dX9_addStore_24 ⟨Nat.le_of_ble_eq_true rfl, Nat.le_of_ble_eq_true rfl⟩ (fun H locs hW => ?_)
      refine lv_if_ne (tgt := 34) hX_ hB_ dX9_addStore_27 (by decide) (fun c27 => ?_) (fun c27 => ?_)
      · have c27 : zf_isIn z 1 99 := ze_bt c27
        refine lv_iconst (v := 0) hX_ hB_ dX9_addStore_34 (by decide) ?_
        refine lv_iconst (v := 2) hX_ hB_ dX9_addStore_35 (by decide) ?_
        refine ze_Vi (As := [.int 0, .int 2]) (rest := []) (ci := 9) (q0 := 0) (k := (RX9, TX9, 39)) S (zr_isThrown l D c d n A B mk (if zf_isIn (nI j) 0 (nI (n 0) - 1) then 0 else 1) 0 2 0 rfl (if_pos rfl)) (cwV 2 hts gX9_addStore_X9_isThrown rfl rfl rfl (by decide +kernel) ⟨Nat.le_of_ble_eq_true rfl, Nat.le_of_ble_eq_true rfl⟩) hK hW hA rfl rfl rfl hl.1 rfl (lv_room (Nat.le_of_ble_eq_true rfl)) dX9_addStore_36 ⟨Nat.le_of_ble_eq_true rfl, Nat.le_of_ble_eq_true rfl⟩ (fun H locs hW => ?_)
        have hW : ze_W D (ze_wR c d n A B mk 0) F s.heap _ _ := hW
        refine lv_if_ne (tgt := 63) hX_ hB_ dX9_addStore_39 (by decide) (fun c39 => ?_) (fun c39 => ?_)
        · exact absurd c39 (by decide)
        · refine lv_aload_n hX_ hB_ dX9_addStore_42 rfl (lv_at hl 0 rfl) ?_
          refine lv_aload_n hX_ hB_ dX9_addStore_43 rfl (lv_at hl 0 rfl) ?_
          refine ze_get (ci := 9) (C := RX9) (T := TX9) (N := 39) (v := .int (nI (n 3))) S hiX9 hK hW 0 rfl rfl 26 (by decide) rfl w0 dX9_addStore_44 ?_
          refine lv_iconst (v := 4) hX_ hB_ dX9_addStore_47 (by decide) ?_
          refine lv_icmp_ne (tgt := 55) hX_ hB_ dX9_addStore_48 (by decide) (fun c48 => ?_) (fun c48 => ?_)
          · have c48 : ¬ (n 3) = 4 := fun h9 => c48 ((nI_eq (a := (n 3)) (b := 4) (by omega) (by omega)).mpr h9)
            exact absurd h3 c48
          · have c48 : (n 3) = 4 := (nI_eq (a := (n 3)) (b := 4) (by omega) (by omega)).mp c48
            refine lv_iconst (v := 1) hX_ hB_ dX9_addStore_51 (by decide) ?_
            refine lv_goto (tgt := 56) hX_ hB_ dX9_addStore_52 (by decide) ?_
            refine lv_iconst (v := 3) hX_ hB_ dX9_addStore_56 (by decide) ?_
            refine ze_Vi (As := [.int 1, .int 3]) (rest := []) (ci := 9) (q0 := 0) (k := (RX9, TX9, 39)) S (zr_isThrown l D c d n A B mk 0 1 3 3 rfl (if_neg (by decide))) (cwV 2 hts gX9_addStore_X9_isThrown rfl rfl rfl (by decide +kernel) ⟨Nat.le_of_ble_eq_true rfl, Nat.le_of_ble_eq_true rfl⟩) hK hW hA rfl rfl rfl hl.1 rfl (lv_room (Nat.le_of_ble_eq_true rfl)) dX9_addStore_57 ⟨Nat.le_of_ble_eq_true rfl, Nat.le_of_ble_eq_true rfl⟩ (fun H locs hW => ?_)
            have hW : ze_W D (ze_wR c d n A B mk 3) F s.heap _ _ := hW
            refine lv_if_eq (tgt := 65) hX_ hB_ dX9_addStore_60 (by decide) (fun c60 => ?_) (fun c60 => ?_)
            · exact absurd c60 (by decide)
            · refine lv_iconst (v := 0) hX_ hB_ dX9_addStore_63 (by decide) ?_
              exact ze_iret S hr hlocks hF hK hW rfl dX9_addStore_64 (Nat.le_of_ble_eq_true rfl) (Nat.le_of_ble_eq_true rfl) rfl rfl
      · have c27 : ¬ (zf_isIn z 1 99) := ze_bf c27
        exact absurd h2 c27
set_option maxHeartbeats 4000000 in
set_option maxRecDepth 100000 in
theorem zr_addStore_f (l : Launch) (D : va_G) (c : Nat → ClassId) (d n : Nat → Nat) (A : Nat → Nat → Int32) (B : Nat → Int64) (mk : Nat → Int32) (th : Int32) (j : Nat) (hN : zf_N n) (hj : j < n 0) (y z : Int32) (h1 : zf_isIn y 1 999) (h2 : zf_isIn z 1 99) (h3 : ¬ n 3 = 4) : ze_I l yX9_addStore wsX9_addStore 2 43 0 0 D c (ze_wR c d n A B mk th) [.ref (d 0), .int (nI j), .int y, .int z] (nI (n 3)) (ze_wR c d (ze_sn n 3 (n 3 + 1)) (ze_sE (ze_sE (ze_sE A 14 (n 3) (nI j)) 15 (n 3) y) 16 (n 3) z) B mk 0) := by
  intro sz
  refine ze_start (cc := cX9_addStore) (maxL := 4) (ret := (some .int)) (own := RX9) (by decide) rfl rfl (Nat.le_of_ble_eq_true rfl) ?_
  obtain ⟨hn0, hn1, hn2, hn3, hn4⟩ := id hN
  have hinj : zf_isIn (nI j) 0 (nI (n 0) - 1) := zf_isInN hj (by omega)
  intro p e s m_ below meth cd F ls hF hsz E0
  obtain ⟨S, hr, hlocks, hK, hW, hA, hl⟩ := E0
  have hX_ := S.1
  have hB_ := S.2.1
  have hts := S.2.2.2.2
  have hl : lv_has ls 4 [(0, .ref (d 0)), (1, .int (nI j)), (2, .int y), (3, .int z)] := hl
  have hiX9 : ∀ w ∈ u_ws RX9 TX9 39, w ∈ wsX9_addStore := fun _ h => (List.mem_cons_of_mem _ (List.mem_append_right _ h))
  have w0 := hts (.fieldLink RX9 105 "IslandgridModel" "stores" "I") (List.mem_cons_of_mem _ (List.mem_append_left _ (List.mem_of_getElem? (i := 0) rfl)))
  have w1 := hts (.fieldLink RX9 54 "IslandgridModel" "storeSite" "[I") (List.mem_cons_of_mem _ (List.mem_append_left _ (List.mem_of_getElem? (i := 1) rfl)))
  have w2 := hts (.fieldLink RX9 57 "IslandgridModel" "capacity" "[I") (List.mem_cons_of_mem _ (List.mem_append_left _ (List.mem_of_getElem? (i := 2) rfl)))
  have w3 := hts (.fieldLink RX9 60 "IslandgridModel" "rate" "[I") (List.mem_cons_of_mem _ (List.mem_append_left _ (List.mem_of_getElem? (i := 3) rfl)))
  refine lv_aload_n hX_ hB_ dX9_addStore_0 rfl (lv_at hl 0 rfl) ?_
  refine lv_iload_n hX_ hB_ dX9_addStore_1 rfl (lv_at hl 1 rfl) ?_
  refine ze_Vi (As := [.int (nI j)]) (rest := []) (ci := 9) (q0 := 0) (k := (RX9, TX9, 39)) S (zr_isNoSite l D c d n A B mk th (nI j)) (cwV 1 hts gX9_addStore_X9_isNoSite rfl rfl rfl (by decide +kernel) ⟨Nat.le_of_ble_eq_true rfl, Nat.le_of_ble_eq_true rfl⟩) hK hW hA rfl rfl rfl hl.1 rfl (lv_room (Nat.le_of_ble_eq_true rfl)) dX9_addStore_2 ⟨Nat.le_of_ble_eq_true rfl, Nat.le_of_ble_eq_true rfl⟩ (fun H locs hW => ?_)
  have hW : ze_W D (ze_wR c d n A B mk (if zf_isIn (nI j) 0 (nI (n 0) - 1) then 0 else 1)) F s.heap _ _ := hW
  refine lv_if_ne (tgt := 63) hX_ hB_ dX9_addStore_5 (by decide) (fun c5 => ?_) (fun c5 => ?_)
  · have c5 : ¬ zf_isIn (nI j) 0 (nI (n 0) - 1) := ze_bt c5
    exact absurd hinj c5
  · have c5 : ¬ (¬ zf_isIn (nI j) 0 (nI (n 0) - 1)) := ze_bf c5
    have c5 : zf_isIn (nI j) 0 (nI (n 0) - 1) := Decidable.of_not_not c5
    refine lv_aload_n hX_ hB_ dX9_addStore_8 rfl (lv_at hl 0 rfl) ?_
    refine lv_iload_n hX_ hB_ dX9_addStore_9 rfl (lv_at hl 2 rfl) ?_
    refine lv_iconst (v := 1) hX_ hB_ dX9_addStore_10 (by decide) ?_
    refine lv_sipush (v := 999) hX_ hB_ dX9_addStore_11 (by decide) ?_
    refine ze_Si (As := [.int y, .int 1, .int 999]) (rest := [.ref (d 0)]) S (zr_isIn l D c (ze_wR c d n A B mk (if zf_isIn (nI j) 0 (nI (n 0) - 1) then 0 else 1)) y 1 999) (va_cwS 3 hts gX9_addStore_X9_isIn rfl rfl rfl (by decide +kernel) ⟨Nat.le_of_ble_eq_true rfl, Nat.le_of_ble_eq_true rfl⟩) hK hW hA rfl hl.1 rfl (lv_room (Nat.le_of_ble_eq_true rfl)) dX9_addStore_14 ⟨Nat.le_of_ble_eq_true rfl, Nat.le_of_ble_eq_true rfl⟩ (fun H locs hW => ?_)
    refine lv_if_eq (tgt := 30) hX_ hB_ dX9_addStore_17 (by decide) (fun c17 => ?_) (fun c17 => ?_)
    · have c17 : ¬ (zf_isIn y 1 999) := ze_bf c17
      exact absurd h1 c17
    · have c17 : zf_isIn y 1 999 := ze_bt c17
      refine lv_iload_n hX_ hB_ dX9_addStore_20 rfl (lv_at hl 3 rfl) ?_
      refine lv_iconst (v := 1) hX_ hB_ dX9_addStore_21 (by decide) ?_
      refine lv_bipush (v := 99) hX_ hB_ dX9_addStore_22 (by decide) ?_
      refine ze_Si (As := [.int z, .int 1, .int 99]) (rest := [.ref (d 0)]) S (zr_isIn l D c (ze_wR c d n A B mk (if zf_isIn (nI j) 0 (nI (n 0) - 1) then 0 else 1)) z 1 99) (va_cwS 3 hts gX9_addStore_X9_isIn rfl rfl rfl (by decide +kernel) ⟨Nat.le_of_ble_eq_true rfl, Nat.le_of_ble_eq_true rfl⟩) hK hW hA rfl hl.1 rfl (lv_room (Nat.le_of_ble_eq_true rfl)) dX9_addStore_24 ⟨Nat.le_of_ble_eq_true rfl, Nat.le_of_ble_eq_true rfl⟩ (fun H locs hW => ?_)
      refine lv_if_ne (tgt := 34) hX_ hB_ dX9_addStore_27 (by decide) (fun c27 => ?_) (fun c27 => ?_)
      · have c27 : zf_isIn z 1 99 := ze_bt c27
        refine lv_iconst (v := 0) hX_ hB_ dX9_addStore_34 (by decide) ?_
        refine lv_iconst (v := 2) hX_ hB_ dX9_addStore_35 (by decide) ?_
        refine ze_Vi (As := [.int 0, .int 2]) (rest := []) (ci := 9) (q0 := 0) (k := (RX9, TX9, 39)) S (zr_isThrown l D c d n A B mk (if zf_isIn (nI j) 0 (nI (n 0) - 1) then 0 else 1) 0 2 0 rfl (if_pos rfl)) (cwV 2 hts gX9_addStore_X9_isThrown rfl rfl rfl (by decide +kernel) ⟨Nat.le_of_ble_eq_true rfl, Nat.le_of_ble_eq_true rfl⟩) hK hW hA rfl rfl rfl hl.1 rfl (lv_room (Nat.le_of_ble_eq_true rfl)) dX9_addStore_36 ⟨Nat.le_of_ble_eq_true rfl, Nat.le_of_ble_eq_true rfl⟩ (fun H locs hW => ?_)
        have hW : ze_W D (ze_wR c d n A B mk 0) F s.heap _ _ := hW
        refine lv_if_ne (tgt := 63) hX_ hB_ dX9_addStore_39 (by decide) (fun c39 => ?_) (fun c39 => ?_)
        · exact absurd c39 (by decide)
        · refine lv_aload_n hX_ hB_ dX9_addStore_42 rfl (lv_at hl 0 rfl) ?_
          refine lv_aload_n hX_ hB_ dX9_addStore_43 rfl (lv_at hl 0 rfl) ?_
          refine ze_get (ci := 9) (C := RX9) (T := TX9) (N := 39) (v := .int (nI (n 3))) S hiX9 hK hW 0 rfl rfl 26 (by decide) rfl w0 dX9_addStore_44 ?_
          refine lv_iconst (v := 4) hX_ hB_ dX9_addStore_47 (by decide) ?_
          refine lv_icmp_ne (tgt := 55) hX_ hB_ dX9_addStore_48 (by decide) (fun c48 => ?_) (fun c48 => ?_)
          · have c48 : ¬ (n 3) = 4 := fun h9 => c48 ((nI_eq (a := (n 3)) (b := 4) (by omega) (by omega)).mpr h9)
            refine lv_iconst (v := 0) hX_ hB_ dX9_addStore_55 (by decide) ?_
            refine lv_iconst (v := 3) hX_ hB_ dX9_addStore_56 (by decide) ?_
            refine ze_Vi (As := [.int 0, .int 3]) (rest := []) (ci := 9) (q0 := 0) (k := (RX9, TX9, 39)) S (zr_isThrown l D c d n A B mk 0 0 3 0 rfl (if_pos rfl)) (cwV 2 hts gX9_addStore_X9_isThrown rfl rfl rfl (by decide +kernel) ⟨Nat.le_of_ble_eq_true rfl, Nat.le_of_ble_eq_true rfl⟩) hK hW hA rfl rfl rfl hl.1 rfl (lv_room (Nat.le_of_ble_eq_true rfl)) dX9_addStore_57 ⟨Nat.le_of_ble_eq_true rfl, Nat.le_of_ble_eq_true rfl⟩ (fun H locs hW => ?_)
            refine lv_if_eq (tgt := 65) hX_ hB_ dX9_addStore_60 (by decide) (fun c60 => ?_) (fun c60 => ?_)
            · refine lv_aload_n hX_ hB_ dX9_addStore_65 rfl (lv_at hl 0 rfl) ?_
              refine ze_get (ci := 9) (C := RX9) (T := TX9) (N := 39) (v := .ref (d 15)) S hiX9 hK hW 0 rfl rfl 14 (by decide) rfl w1 dX9_addStore_66 ?_
              refine lv_aload_n hX_ hB_ dX9_addStore_69 rfl (lv_at hl 0 rfl) ?_
              refine ze_get (ci := 9) (C := RX9) (T := TX9) (N := 39) (v := .int (nI (n 3))) S hiX9 hK hW 0 rfl rfl 26 (by decide) rfl w0 dX9_addStore_70 ?_
              refine lv_iload_n hX_ hB_ dX9_addStore_73 rfl (lv_at hl 1 rfl) ?_
              refine ze_iastN hX_ hB_ hK hW 15 (f := A 14) rfl (i := n 3) (by omega) (by decide) dX9_addStore_74 (ze_qR14 (n 3) (nI j) _ _ _ _ _ _ _) (fun H locs hW => ?_)
              have hW : ze_W D (ze_wR c d n (ze_sE A 14 (n 3) (nI j)) B mk 0) F s.heap _ _ := hW
              refine lv_aload_n hX_ hB_ dX9_addStore_75 rfl (lv_at hl 0 rfl) ?_
              refine ze_get (ci := 9) (C := RX9) (T := TX9) (N := 39) (v := .ref (d 16)) S hiX9 hK hW 0 rfl rfl 15 (by decide) rfl w2 dX9_addStore_76 ?_
              refine lv_aload_n hX_ hB_ dX9_addStore_79 rfl (lv_at hl 0 rfl) ?_
              refine ze_get (ci := 9) (C := RX9) (T := TX9) (N := 39) (v := .int (nI (n 3))) S hiX9 hK hW 0 rfl rfl 26 (by decide) rfl w0 dX9_addStore_80 ?_
              refine lv_iload_n hX_ hB_ dX9_addStore_83 rfl (lv_at hl 2 rfl) ?_
              refine ze_iastN hX_ hB_ hK hW 16 (f := A 15) rfl (i := n 3) (by omega) (by decide) dX9_addStore_84 (ze_qR15 (n 3) y _ _ _ _ _ _ _) (fun H locs hW => ?_)
              have hW : ze_W D (ze_wR c d n (ze_sE (ze_sE A 14 (n 3) (nI j)) 15 (n 3) y) B mk 0) F s.heap _ _ := hW
              refine lv_aload_n hX_ hB_ dX9_addStore_85 rfl (lv_at hl 0 rfl) ?_
              refine ze_get (ci := 9) (C := RX9) (T := TX9) (N := 39) (v := .ref (d 17)) S hiX9 hK hW 0 rfl rfl 16 (by decide) rfl w3 dX9_addStore_86 ?_
              refine lv_aload_n hX_ hB_ dX9_addStore_89 rfl (lv_at hl 0 rfl) ?_
              refine ze_get (ci := 9) (C := RX9) (T := TX9) (N := 39) (v := .int (nI (n 3))) S hiX9 hK hW 0 rfl rfl 26 (by decide) rfl w0 dX9_addStore_90 ?_
              refine lv_iload_n hX_ hB_ dX9_addStore_93 rfl (lv_at hl 3 rfl) ?_
              refine ze_iastN hX_ hB_ hK hW 17 (f := A 16) rfl (i := n 3) (by omega) (by decide) dX9_addStore_94 (ze_qR16 (n 3) z _ _ _ _ _ _ _) (fun H locs hW => ?_)
              have hW : ze_W D (ze_wR c d n (ze_sE (ze_sE (ze_sE A 14 (n 3) (nI j)) 15 (n 3) y) 16 (n 3) z) B mk 0) F s.heap _ _ := hW
              refine lv_aload_n hX_ hB_ dX9_addStore_95 rfl (lv_at hl 0 rfl) ?_
              refine lv_dup hX_ hB_ dX9_addStore_96 rfl ?_
              refine ze_get (ci := 9) (C := RX9) (T := TX9) (N := 39) (v := .int (nI (n 3))) S hiX9 hK hW 0 rfl rfl 26 (by decide) rfl w0 dX9_addStore_97 ?_
              refine lv_iconst (v := 1) hX_ hB_ dX9_addStore_100 (by decide) ?_
              refine lv_iadd hX_ hB_ dX9_addStore_101 ?_
              refine ze_top (nI_add (n 3) 1) ?_
              refine ze_put (ci := 9) (C := RX9) (T := TX9) (N := 39) (v := .int (nI (n 3 + 1))) S hiX9 tyX9 tyX9_ok nmX9 hK hW 0 rfl rfl 26 (by decide) (Nat.le_of_ble_eq_true rfl) rfl rfl rfl w0 dX9_addStore_102 (ze_pR26 (n 3 + 1) _ _ _ _ _ _ _) (fun H locs hW => ?_)
              have hW : ze_W D (ze_wR c d (ze_sn n 3 (n 3 + 1)) (ze_sE (ze_sE (ze_sE A 14 (n 3) (nI j)) 15 (n 3) y) 16 (n 3) z) B mk 0) F s.heap _ _ := hW
              refine lv_aload_n hX_ hB_ dX9_addStore_105 rfl (lv_at hl 0 rfl) ?_
              refine ze_get (ci := 9) (C := RX9) (T := TX9) (N := 39) (v := .int (nI (n 3 + 1))) S hiX9 hK hW 0 rfl rfl 26 (by decide) rfl w0 dX9_addStore_106 ?_
              refine lv_iconst (v := 1) hX_ hB_ dX9_addStore_109 (by decide) ?_
              refine lv_isub hX_ hB_ dX9_addStore_110 ?_
              refine ze_top (nI_pred (n 3)) ?_
              exact ze_iret S hr hlocks hF hK hW rfl dX9_addStore_111 (Nat.le_of_ble_eq_true rfl) (Nat.le_of_ble_eq_true rfl) rfl rfl
            · exact absurd c60 (by decide)
          · have c48 : (n 3) = 4 := (nI_eq (a := (n 3)) (b := 4) (by omega) (by omega)).mp c48
            exact absurd c48 h3
      · have c27 : ¬ (zf_isIn z 1 99) := ze_bf c27
        exact absurd h2 c27
set_option maxHeartbeats 4000000 in
set_option maxRecDepth 100000 in
theorem zr_addLoad_t1 (l : Launch) (D : va_G) (c : Nat → ClassId) (d n : Nat → Nat) (A : Nat → Nat → Int32) (B : Nat → Int64) (mk : Nat → Int32) (th : Int32) (x : Int32) (hN : zf_N n) (hx : ¬ zf_isIn x 0 (nI (n 0) - 1)) (y z : Int32) : ze_I l yX9_addLoad wsX9_addLoad 2 43 0 0 D c (ze_wR c d n A B mk th) [.ref (d 0), .int x, .int y, .int z] 0 (ze_wR c d n A B mk 1) := by
  intro sz
  refine ze_start (cc := cX9_addLoad) (maxL := 4) (ret := (some .int)) (own := RX9) (by decide) rfl rfl (Nat.le_of_ble_eq_true rfl) ?_
  obtain ⟨hn0, hn1, hn2, hn3, hn4⟩ := id hN
  intro p e s m_ below meth cd F ls hF hsz E0
  obtain ⟨S, hr, hlocks, hK, hW, hA, hl⟩ := E0
  have hX_ := S.1
  have hB_ := S.2.1
  have hts := S.2.2.2.2
  have hl : lv_has ls 4 [(0, .ref (d 0)), (1, .int x), (2, .int y), (3, .int z)] := hl
  refine lv_aload_n hX_ hB_ dX9_addLoad_0 rfl (lv_at hl 0 rfl) ?_
  refine lv_iload_n hX_ hB_ dX9_addLoad_1 rfl (lv_at hl 1 rfl) ?_
  refine ze_Vi (As := [.int x]) (rest := []) (ci := 9) (q0 := 0) (k := (RX9, TX9, 39)) S (zr_isNoSite l D c d n A B mk th x) (cwV 1 hts gX9_addLoad_X9_isNoSite rfl rfl rfl (by decide +kernel) ⟨Nat.le_of_ble_eq_true rfl, Nat.le_of_ble_eq_true rfl⟩) hK hW hA rfl rfl rfl hl.1 rfl (lv_room (Nat.le_of_ble_eq_true rfl)) dX9_addLoad_2 ⟨Nat.le_of_ble_eq_true rfl, Nat.le_of_ble_eq_true rfl⟩ (fun H locs hW => ?_)
  have hW : ze_W D (ze_wR c d n A B mk (if zf_isIn x 0 (nI (n 0) - 1) then 0 else 1)) F s.heap _ _ := hW
  refine lv_if_ne (tgt := 64) hX_ hB_ dX9_addLoad_5 (by decide) (fun c5 => ?_) (fun c5 => ?_)
  · have c5 : ¬ zf_isIn x 0 (nI (n 0) - 1) := ze_bt c5
    refine lv_iconst (v := 0) hX_ hB_ dX9_addLoad_64 (by decide) ?_
    exact ze_iret S hr hlocks hF hK hW rfl dX9_addLoad_65 (Nat.le_of_ble_eq_true rfl) (Nat.le_of_ble_eq_true rfl) rfl (by simp only [ze_b, eq_false hx, eq_false c5, not_true_eq_false, not_false_eq_true, and_true, true_and, and_false, false_and, or_true, true_or, or_false, false_or, and_self, or_self, Decidable.not_not, if_true, if_false, reduceIte, reduceCtorEq, ne_eq, eq_self, Int32.lt_irrefl, Int32.le_refl, Nat.lt_irrefl])
  · have c5 : ¬ (¬ zf_isIn x 0 (nI (n 0) - 1)) := ze_bf c5
    have c5 : zf_isIn x 0 (nI (n 0) - 1) := Decidable.of_not_not c5
    exact absurd c5 hx
set_option maxHeartbeats 4000000 in
set_option maxRecDepth 100000 in
theorem zr_addLoad_t2a (l : Launch) (D : va_G) (c : Nat → ClassId) (d n : Nat → Nat) (A : Nat → Nat → Int32) (B : Nat → Int64) (mk : Nat → Int32) (th : Int32) (j : Nat) (hN : zf_N n) (hj : j < n 0) (y z : Int32) (h1 : ¬ zf_isIn y 1 200) : ze_I l yX9_addLoad wsX9_addLoad 2 43 0 0 D c (ze_wR c d n A B mk th) [.ref (d 0), .int (nI j), .int y, .int z] 0 (ze_wR c d n A B mk 2) := by
  intro sz
  refine ze_start (cc := cX9_addLoad) (maxL := 4) (ret := (some .int)) (own := RX9) (by decide) rfl rfl (Nat.le_of_ble_eq_true rfl) ?_
  obtain ⟨hn0, hn1, hn2, hn3, hn4⟩ := id hN
  have hinj : zf_isIn (nI j) 0 (nI (n 0) - 1) := zf_isInN hj (by omega)
  intro p e s m_ below meth cd F ls hF hsz E0
  obtain ⟨S, hr, hlocks, hK, hW, hA, hl⟩ := E0
  have hX_ := S.1
  have hB_ := S.2.1
  have hts := S.2.2.2.2
  have hl : lv_has ls 4 [(0, .ref (d 0)), (1, .int (nI j)), (2, .int y), (3, .int z)] := hl
  refine lv_aload_n hX_ hB_ dX9_addLoad_0 rfl (lv_at hl 0 rfl) ?_
  refine lv_iload_n hX_ hB_ dX9_addLoad_1 rfl (lv_at hl 1 rfl) ?_
  refine ze_Vi (As := [.int (nI j)]) (rest := []) (ci := 9) (q0 := 0) (k := (RX9, TX9, 39)) S (zr_isNoSite l D c d n A B mk th (nI j)) (cwV 1 hts gX9_addLoad_X9_isNoSite rfl rfl rfl (by decide +kernel) ⟨Nat.le_of_ble_eq_true rfl, Nat.le_of_ble_eq_true rfl⟩) hK hW hA rfl rfl rfl hl.1 rfl (lv_room (Nat.le_of_ble_eq_true rfl)) dX9_addLoad_2 ⟨Nat.le_of_ble_eq_true rfl, Nat.le_of_ble_eq_true rfl⟩ (fun H locs hW => ?_)
  have hW : ze_W D (ze_wR c d n A B mk (if zf_isIn (nI j) 0 (nI (n 0) - 1) then 0 else 1)) F s.heap _ _ := hW
  refine lv_if_ne (tgt := 64) hX_ hB_ dX9_addLoad_5 (by decide) (fun c5 => ?_) (fun c5 => ?_)
  · have c5 : ¬ zf_isIn (nI j) 0 (nI (n 0) - 1) := ze_bt c5
    exact absurd hinj c5
  · have c5 : ¬ (¬ zf_isIn (nI j) 0 (nI (n 0) - 1)) := ze_bf c5
    have c5 : zf_isIn (nI j) 0 (nI (n 0) - 1) := Decidable.of_not_not c5
    refine lv_aload_n hX_ hB_ dX9_addLoad_8 rfl (lv_at hl 0 rfl) ?_
    refine lv_iload_n hX_ hB_ dX9_addLoad_9 rfl (lv_at hl 2 rfl) ?_
    refine lv_iconst (v := 1) hX_ hB_ dX9_addLoad_10 (by decide) ?_
    refine lv_sipush (v := 200) hX_ hB_ dX9_addLoad_11 (by decide) ?_
    refine ze_Si (As := [.int y, .int 1, .int 200]) (rest := [.ref (d 0)]) S (zr_isIn l D c (ze_wR c d n A B mk (if zf_isIn (nI j) 0 (nI (n 0) - 1) then 0 else 1)) y 1 200) (va_cwS 3 hts gX9_addLoad_X9_isIn rfl rfl rfl (by decide +kernel) ⟨Nat.le_of_ble_eq_true rfl, Nat.le_of_ble_eq_true rfl⟩) hK hW hA rfl hl.1 rfl (lv_room (Nat.le_of_ble_eq_true rfl)) dX9_addLoad_14 ⟨Nat.le_of_ble_eq_true rfl, Nat.le_of_ble_eq_true rfl⟩ (fun H locs hW => ?_)
    refine lv_if_eq (tgt := 30) hX_ hB_ dX9_addLoad_17 (by decide) (fun c17 => ?_) (fun c17 => ?_)
    · have c17 : ¬ (zf_isIn y 1 200) := ze_bf c17
      refine lv_iconst (v := 1) hX_ hB_ dX9_addLoad_30 (by decide) ?_
      refine lv_goto (tgt := 35) hX_ hB_ dX9_addLoad_31 (by decide) ?_
      refine lv_iconst (v := 2) hX_ hB_ dX9_addLoad_35 (by decide) ?_
      refine ze_Vi (As := [.int 1, .int 2]) (rest := []) (ci := 9) (q0 := 0) (k := (RX9, TX9, 39)) S (zr_isThrown l D c d n A B mk (if zf_isIn (nI j) 0 (nI (n 0) - 1) then 0 else 1) 1 2 2 rfl (if_neg (by decide))) (cwV 2 hts gX9_addLoad_X9_isThrown rfl rfl rfl (by decide +kernel) ⟨Nat.le_of_ble_eq_true rfl, Nat.le_of_ble_eq_true rfl⟩) hK hW hA rfl rfl rfl hl.1 rfl (lv_room (Nat.le_of_ble_eq_true rfl)) dX9_addLoad_36 ⟨Nat.le_of_ble_eq_true rfl, Nat.le_of_ble_eq_true rfl⟩ (fun H locs hW => ?_)
      have hW : ze_W D (ze_wR c d n A B mk 2) F s.heap _ _ := hW
      refine lv_if_ne (tgt := 64) hX_ hB_ dX9_addLoad_39 (by decide) (fun c39 => ?_) (fun c39 => ?_)
      · refine lv_iconst (v := 0) hX_ hB_ dX9_addLoad_64 (by decide) ?_
        exact ze_iret S hr hlocks hF hK hW rfl dX9_addLoad_65 (Nat.le_of_ble_eq_true rfl) (Nat.le_of_ble_eq_true rfl) rfl rfl
      · exact absurd c39 (by decide)
    · have c17 : zf_isIn y 1 200 := ze_bt c17
      exact absurd c17 h1
set_option maxHeartbeats 4000000 in
set_option maxRecDepth 100000 in
theorem zr_addLoad_t2b (l : Launch) (D : va_G) (c : Nat → ClassId) (d n : Nat → Nat) (A : Nat → Nat → Int32) (B : Nat → Int64) (mk : Nat → Int32) (th : Int32) (j : Nat) (hN : zf_N n) (hj : j < n 0) (y z : Int32) (h1 : zf_isIn y 1 200) (h2 : ¬ zf_isIn z 1 9) : ze_I l yX9_addLoad wsX9_addLoad 2 43 0 0 D c (ze_wR c d n A B mk th) [.ref (d 0), .int (nI j), .int y, .int z] 0 (ze_wR c d n A B mk 2) := by
  intro sz
  refine ze_start (cc := cX9_addLoad) (maxL := 4) (ret := (some .int)) (own := RX9) (by decide) rfl rfl (Nat.le_of_ble_eq_true rfl) ?_
  obtain ⟨hn0, hn1, hn2, hn3, hn4⟩ := id hN
  have hinj : zf_isIn (nI j) 0 (nI (n 0) - 1) := zf_isInN hj (by omega)
  intro p e s m_ below meth cd F ls hF hsz E0
  obtain ⟨S, hr, hlocks, hK, hW, hA, hl⟩ := E0
  have hX_ := S.1
  have hB_ := S.2.1
  have hts := S.2.2.2.2
  have hl : lv_has ls 4 [(0, .ref (d 0)), (1, .int (nI j)), (2, .int y), (3, .int z)] := hl
  refine lv_aload_n hX_ hB_ dX9_addLoad_0 rfl (lv_at hl 0 rfl) ?_
  refine lv_iload_n hX_ hB_ dX9_addLoad_1 rfl (lv_at hl 1 rfl) ?_
  refine ze_Vi (As := [.int (nI j)]) (rest := []) (ci := 9) (q0 := 0) (k := (RX9, TX9, 39)) S (zr_isNoSite l D c d n A B mk th (nI j)) (cwV 1 hts gX9_addLoad_X9_isNoSite rfl rfl rfl (by decide +kernel) ⟨Nat.le_of_ble_eq_true rfl, Nat.le_of_ble_eq_true rfl⟩) hK hW hA rfl rfl rfl hl.1 rfl (lv_room (Nat.le_of_ble_eq_true rfl)) dX9_addLoad_2 ⟨Nat.le_of_ble_eq_true rfl, Nat.le_of_ble_eq_true rfl⟩ (fun H locs hW => ?_)
  have hW : ze_W D (ze_wR c d n A B mk (if zf_isIn (nI j) 0 (nI (n 0) - 1) then 0 else 1)) F s.heap _ _ := hW
  refine lv_if_ne (tgt := 64) hX_ hB_ dX9_addLoad_5 (by decide) (fun c5 => ?_) (fun c5 => ?_)
  · have c5 : ¬ zf_isIn (nI j) 0 (nI (n 0) - 1) := ze_bt c5
    exact absurd hinj c5
  · have c5 : ¬ (¬ zf_isIn (nI j) 0 (nI (n 0) - 1)) := ze_bf c5
    have c5 : zf_isIn (nI j) 0 (nI (n 0) - 1) := Decidable.of_not_not c5
    refine lv_aload_n hX_ hB_ dX9_addLoad_8 rfl (lv_at hl 0 rfl) ?_
    refine lv_iload_n hX_ hB_ dX9_addLoad_9 rfl (lv_at hl 2 rfl) ?_
    refine lv_iconst (v := 1) hX_ hB_ dX9_addLoad_10 (by decide) ?_
    refine lv_sipush (v := 200) hX_ hB_ dX9_addLoad_11 (by decide) ?_
    refine ze_Si (As := [.int y, .int 1, .int 200]) (rest := [.ref (d 0)]) S (zr_isIn l D c (ze_wR c d n A B mk (if zf_isIn (nI j) 0 (nI (n 0) - 1) then 0 else 1)) y 1 200) (va_cwS 3 hts gX9_addLoad_X9_isIn rfl rfl rfl (by decide +kernel) ⟨Nat.le_of_ble_eq_true rfl, Nat.le_of_ble_eq_true rfl⟩) hK hW hA rfl hl.1 rfl (lv_room (Nat.le_of_ble_eq_true rfl)) dX9_addLoad_14 ⟨Nat.le_of_ble_eq_true rfl, Nat.le_of_ble_eq_true rfl⟩ (fun H locs hW => ?_)
    refine lv_if_eq (tgt := 30) hX_ hB_ dX9_addLoad_17 (by decide) (fun c17 => ?_) (fun c17 => ?_)
    · have c17 : ¬ (zf_isIn y 1 200) := ze_bf c17
      exact absurd h1 c17
    · have c17 : zf_isIn y 1 200 := ze_bt c17
      refine lv_iload_n hX_ hB_ dX9_addLoad_20 rfl (lv_at hl 3 rfl) ?_
      refine lv_iconst (v := 1) hX_ hB_ dX9_addLoad_21 (by decide) ?_
      refine lv_bipush (v := 9) hX_ hB_ dX9_addLoad_22 (by decide) ?_
      refine ze_Si (As := [.int z, .int 1, .int 9]) (rest := [.ref (d 0)]) S (zr_isIn l D c (ze_wR c d n A B mk (if zf_isIn (nI j) 0 (nI (n 0) - 1) then 0 else 1)) z 1 9) (va_cwS 3 hts gX9_addLoad_X9_isIn rfl rfl rfl (by decide +kernel) ⟨Nat.le_of_ble_eq_true rfl, Nat.le_of_ble_eq_true rfl⟩) hK hW hA rfl hl.1 rfl (lv_room (Nat.le_of_ble_eq_true rfl)) dX9_addLoad_24 ⟨Nat.le_of_ble_eq_true rfl, Nat.le_of_ble_eq_true rfl⟩ (fun H locs hW => ?_)
      refine lv_if_ne (tgt := 34) hX_ hB_ dX9_addLoad_27 (by decide) (fun c27 => ?_) (fun c27 => ?_)
      · have c27 : zf_isIn z 1 9 := ze_bt c27
        exact absurd c27 h2
      · have c27 : ¬ (zf_isIn z 1 9) := ze_bf c27
        refine lv_iconst (v := 1) hX_ hB_ dX9_addLoad_30 (by decide) ?_
        refine lv_goto (tgt := 35) hX_ hB_ dX9_addLoad_31 (by decide) ?_
        refine lv_iconst (v := 2) hX_ hB_ dX9_addLoad_35 (by decide) ?_
        refine ze_Vi (As := [.int 1, .int 2]) (rest := []) (ci := 9) (q0 := 0) (k := (RX9, TX9, 39)) S (zr_isThrown l D c d n A B mk (if zf_isIn (nI j) 0 (nI (n 0) - 1) then 0 else 1) 1 2 2 rfl (if_neg (by decide))) (cwV 2 hts gX9_addLoad_X9_isThrown rfl rfl rfl (by decide +kernel) ⟨Nat.le_of_ble_eq_true rfl, Nat.le_of_ble_eq_true rfl⟩) hK hW hA rfl rfl rfl hl.1 rfl (lv_room (Nat.le_of_ble_eq_true rfl)) dX9_addLoad_36 ⟨Nat.le_of_ble_eq_true rfl, Nat.le_of_ble_eq_true rfl⟩ (fun H locs hW => ?_)
        have hW : ze_W D (ze_wR c d n A B mk 2) F s.heap _ _ := hW
        refine lv_if_ne (tgt := 64) hX_ hB_ dX9_addLoad_39 (by decide) (fun c39 => ?_) (fun c39 => ?_)
        · refine lv_iconst (v := 0) hX_ hB_ dX9_addLoad_64 (by decide) ?_
          exact ze_iret S hr hlocks hF hK hW rfl dX9_addLoad_65 (Nat.le_of_ble_eq_true rfl) (Nat.le_of_ble_eq_true rfl) rfl rfl
        · exact absurd c39 (by decide)
set_option maxHeartbeats 4000000 in
set_option maxRecDepth 100000 in
theorem zr_addLoad_t3 (l : Launch) (D : va_G) (c : Nat → ClassId) (d n : Nat → Nat) (A : Nat → Nat → Int32) (B : Nat → Int64) (mk : Nat → Int32) (th : Int32) (j : Nat) (hN : zf_N n) (hj : j < n 0) (y z : Int32) (h1 : zf_isIn y 1 200) (h2 : zf_isIn z 1 9) (h3 : n 4 = 10) : ze_I l yX9_addLoad wsX9_addLoad 2 43 0 0 D c (ze_wR c d n A B mk th) [.ref (d 0), .int (nI j), .int y, .int z] 0 (ze_wR c d n A B mk 3) := by
  intro sz
  refine ze_start (cc := cX9_addLoad) (maxL := 4) (ret := (some .int)) (own := RX9) (by decide) rfl rfl (Nat.le_of_ble_eq_true rfl) ?_
  obtain ⟨hn0, hn1, hn2, hn3, hn4⟩ := id hN
  have hinj : zf_isIn (nI j) 0 (nI (n 0) - 1) := zf_isInN hj (by omega)
  intro p e s m_ below meth cd F ls hF hsz E0
  obtain ⟨S, hr, hlocks, hK, hW, hA, hl⟩ := E0
  have hX_ := S.1
  have hB_ := S.2.1
  have hts := S.2.2.2.2
  have hl : lv_has ls 4 [(0, .ref (d 0)), (1, .int (nI j)), (2, .int y), (3, .int z)] := hl
  have hiX9 : ∀ w ∈ u_ws RX9 TX9 39, w ∈ wsX9_addLoad := fun _ h => (List.mem_cons_of_mem _ (List.mem_append_right _ h))
  have w0 := hts (.fieldLink RX9 108 "IslandgridModel" "loads" "I") (List.mem_cons_of_mem _ (List.mem_append_left _ (List.mem_of_getElem? (i := 0) rfl)))
  refine lv_aload_n hX_ hB_ dX9_addLoad_0 rfl (lv_at hl 0 rfl) ?_
  refine lv_iload_n hX_ hB_ dX9_addLoad_1 rfl (lv_at hl 1 rfl) ?_
  refine ze_Vi (As := [.int (nI j)]) (rest := []) (ci := 9) (q0 := 0) (k := (RX9, TX9, 39)) S (zr_isNoSite l D c d n A B mk th (nI j)) (cwV 1 hts gX9_addLoad_X9_isNoSite rfl rfl rfl (by decide +kernel) ⟨Nat.le_of_ble_eq_true rfl, Nat.le_of_ble_eq_true rfl⟩) hK hW hA rfl rfl rfl hl.1 rfl (lv_room (Nat.le_of_ble_eq_true rfl)) dX9_addLoad_2 ⟨Nat.le_of_ble_eq_true rfl, Nat.le_of_ble_eq_true rfl⟩ (fun H locs hW => ?_)
  have hW : ze_W D (ze_wR c d n A B mk (if zf_isIn (nI j) 0 (nI (n 0) - 1) then 0 else 1)) F s.heap _ _ := hW
  refine lv_if_ne (tgt := 64) hX_ hB_ dX9_addLoad_5 (by decide) (fun c5 => ?_) (fun c5 => ?_)
  · have c5 : ¬ zf_isIn (nI j) 0 (nI (n 0) - 1) := ze_bt c5
    exact absurd hinj c5
  · have c5 : ¬ (¬ zf_isIn (nI j) 0 (nI (n 0) - 1)) := ze_bf c5
    have c5 : zf_isIn (nI j) 0 (nI (n 0) - 1) := Decidable.of_not_not c5
    refine lv_aload_n hX_ hB_ dX9_addLoad_8 rfl (lv_at hl 0 rfl) ?_
    refine lv_iload_n hX_ hB_ dX9_addLoad_9 rfl (lv_at hl 2 rfl) ?_
    refine lv_iconst (v := 1) hX_ hB_ dX9_addLoad_10 (by decide) ?_
    refine lv_sipush (v := 200) hX_ hB_ dX9_addLoad_11 (by decide) ?_
    refine ze_Si (As := [.int y, .int 1, .int 200]) (rest := [.ref (d 0)]) S (zr_isIn l D c (ze_wR c d n A B mk (if zf_isIn (nI j) 0 (nI (n 0) - 1) then 0 else 1)) y 1 200) (va_cwS 3 hts gX9_addLoad_X9_isIn rfl rfl rfl (by decide +kernel) ⟨Nat.le_of_ble_eq_true rfl, Nat.le_of_ble_eq_true rfl⟩) hK hW hA rfl hl.1 rfl (lv_room (Nat.le_of_ble_eq_true rfl)) dX9_addLoad_14 ⟨Nat.le_of_ble_eq_true rfl, Nat.le_of_ble_eq_true rfl⟩ (fun H locs hW => ?_)
    refine lv_if_eq (tgt := 30) hX_ hB_ dX9_addLoad_17 (by decide) (fun c17 => ?_) (fun c17 => ?_)
    · have c17 : ¬ (zf_isIn y 1 200) := ze_bf c17
      exact absurd h1 c17
    · have c17 : zf_isIn y 1 200 := ze_bt c17
      refine lv_iload_n hX_ hB_ dX9_addLoad_20 rfl (lv_at hl 3 rfl) ?_
      refine lv_iconst (v := 1) hX_ hB_ dX9_addLoad_21 (by decide) ?_
      refine lv_bipush (v := 9) hX_ hB_ dX9_addLoad_22 (by decide) ?_
      refine ze_Si (As := [.int z, .int 1, .int 9]) (rest := [.ref (d 0)]) S (zr_isIn l D c (ze_wR c d n A B mk (if zf_isIn (nI j) 0 (nI (n 0) - 1) then 0 else 1)) z 1 9) (va_cwS 3 hts gX9_addLoad_X9_isIn rfl rfl rfl (by decide +kernel) ⟨Nat.le_of_ble_eq_true rfl, Nat.le_of_ble_eq_true rfl⟩) hK hW hA rfl hl.1 rfl (lv_room (Nat.le_of_ble_eq_true rfl)) dX9_addLoad_24 ⟨Nat.le_of_ble_eq_true rfl, Nat.le_of_ble_eq_true rfl⟩ (fun H locs hW => ?_)
      refine lv_if_ne (tgt := 34) hX_ hB_ dX9_addLoad_27 (by decide) (fun c27 => ?_) (fun c27 => ?_)
      · have c27 : zf_isIn z 1 9 := ze_bt c27
        refine lv_iconst (v := 0) hX_ hB_ dX9_addLoad_34 (by decide) ?_
        refine lv_iconst (v := 2) hX_ hB_ dX9_addLoad_35 (by decide) ?_
        refine ze_Vi (As := [.int 0, .int 2]) (rest := []) (ci := 9) (q0 := 0) (k := (RX9, TX9, 39)) S (zr_isThrown l D c d n A B mk (if zf_isIn (nI j) 0 (nI (n 0) - 1) then 0 else 1) 0 2 0 rfl (if_pos rfl)) (cwV 2 hts gX9_addLoad_X9_isThrown rfl rfl rfl (by decide +kernel) ⟨Nat.le_of_ble_eq_true rfl, Nat.le_of_ble_eq_true rfl⟩) hK hW hA rfl rfl rfl hl.1 rfl (lv_room (Nat.le_of_ble_eq_true rfl)) dX9_addLoad_36 ⟨Nat.le_of_ble_eq_true rfl, Nat.le_of_ble_eq_true rfl⟩ (fun H locs hW => ?_)
        have hW : ze_W D (ze_wR c d n A B mk 0) F s.heap _ _ := hW
        refine lv_if_ne (tgt := 64) hX_ hB_ dX9_addLoad_39 (by decide) (fun c39 => ?_) (fun c39 => ?_)
        · exact absurd c39 (by decide)
        · refine lv_aload_n hX_ hB_ dX9_addLoad_42 rfl (lv_at hl 0 rfl) ?_
          refine lv_aload_n hX_ hB_ dX9_addLoad_43 rfl (lv_at hl 0 rfl) ?_
          refine ze_get (ci := 9) (C := RX9) (T := TX9) (N := 39) (v := .int (nI (n 4))) S hiX9 hK hW 0 rfl rfl 27 (by decide) rfl w0 dX9_addLoad_44 ?_
          refine lv_bipush (v := 10) hX_ hB_ dX9_addLoad_47 (by decide) ?_
          refine lv_icmp_ne (tgt := 56) hX_ hB_ dX9_addLoad_49 (by decide) (fun c49 => ?_) (fun c49 => ?_)
          · have c49 : ¬ (n 4) = 10 := fun h9 => c49 ((nI_eq (a := (n 4)) (b := 10) (by omega) (by omega)).mpr h9)
            exact absurd h3 c49
          · have c49 : (n 4) = 10 := (nI_eq (a := (n 4)) (b := 10) (by omega) (by omega)).mp c49
            refine lv_iconst (v := 1) hX_ hB_ dX9_addLoad_52 (by decide) ?_
            refine lv_goto (tgt := 57) hX_ hB_ dX9_addLoad_53 (by decide) ?_
            refine lv_iconst (v := 3) hX_ hB_ dX9_addLoad_57 (by decide) ?_
            refine ze_Vi (As := [.int 1, .int 3]) (rest := []) (ci := 9) (q0 := 0) (k := (RX9, TX9, 39)) S (zr_isThrown l D c d n A B mk 0 1 3 3 rfl (if_neg (by decide))) (cwV 2 hts gX9_addLoad_X9_isThrown rfl rfl rfl (by decide +kernel) ⟨Nat.le_of_ble_eq_true rfl, Nat.le_of_ble_eq_true rfl⟩) hK hW hA rfl rfl rfl hl.1 rfl (lv_room (Nat.le_of_ble_eq_true rfl)) dX9_addLoad_58 ⟨Nat.le_of_ble_eq_true rfl, Nat.le_of_ble_eq_true rfl⟩ (fun H locs hW => ?_)
            have hW : ze_W D (ze_wR c d n A B mk 3) F s.heap _ _ := hW
            refine lv_if_eq (tgt := 66) hX_ hB_ dX9_addLoad_61 (by decide) (fun c61 => ?_) (fun c61 => ?_)
            · exact absurd c61 (by decide)
            · refine lv_iconst (v := 0) hX_ hB_ dX9_addLoad_64 (by decide) ?_
              exact ze_iret S hr hlocks hF hK hW rfl dX9_addLoad_65 (Nat.le_of_ble_eq_true rfl) (Nat.le_of_ble_eq_true rfl) rfl rfl
      · have c27 : ¬ (zf_isIn z 1 9) := ze_bf c27
        exact absurd h2 c27
set_option maxHeartbeats 4000000 in
set_option maxRecDepth 100000 in
theorem zr_addLoad_f (l : Launch) (D : va_G) (c : Nat → ClassId) (d n : Nat → Nat) (A : Nat → Nat → Int32) (B : Nat → Int64) (mk : Nat → Int32) (th : Int32) (j : Nat) (hN : zf_N n) (hj : j < n 0) (y z : Int32) (h1 : zf_isIn y 1 200) (h2 : zf_isIn z 1 9) (h3 : ¬ n 4 = 10) : ze_I l yX9_addLoad wsX9_addLoad 2 43 0 0 D c (ze_wR c d n A B mk th) [.ref (d 0), .int (nI j), .int y, .int z] (nI (n 4)) (ze_wR c d (ze_sn n 4 (n 4 + 1)) (ze_sE (ze_sE (ze_sE A 19 (n 4) (nI j)) 20 (n 4) y) 21 (n 4) z) B mk 0) := by
  intro sz
  refine ze_start (cc := cX9_addLoad) (maxL := 4) (ret := (some .int)) (own := RX9) (by decide) rfl rfl (Nat.le_of_ble_eq_true rfl) ?_
  obtain ⟨hn0, hn1, hn2, hn3, hn4⟩ := id hN
  have hinj : zf_isIn (nI j) 0 (nI (n 0) - 1) := zf_isInN hj (by omega)
  intro p e s m_ below meth cd F ls hF hsz E0
  obtain ⟨S, hr, hlocks, hK, hW, hA, hl⟩ := E0
  have hX_ := S.1
  have hB_ := S.2.1
  have hts := S.2.2.2.2
  have hl : lv_has ls 4 [(0, .ref (d 0)), (1, .int (nI j)), (2, .int y), (3, .int z)] := hl
  have hiX9 : ∀ w ∈ u_ws RX9 TX9 39, w ∈ wsX9_addLoad := fun _ h => (List.mem_cons_of_mem _ (List.mem_append_right _ h))
  have w0 := hts (.fieldLink RX9 108 "IslandgridModel" "loads" "I") (List.mem_cons_of_mem _ (List.mem_append_left _ (List.mem_of_getElem? (i := 0) rfl)))
  have w1 := hts (.fieldLink RX9 69 "IslandgridModel" "loadSite" "[I") (List.mem_cons_of_mem _ (List.mem_append_left _ (List.mem_of_getElem? (i := 1) rfl)))
  have w2 := hts (.fieldLink RX9 72 "IslandgridModel" "power" "[I") (List.mem_cons_of_mem _ (List.mem_append_left _ (List.mem_of_getElem? (i := 2) rfl)))
  have w3 := hts (.fieldLink RX9 75 "IslandgridModel" "rank" "[I") (List.mem_cons_of_mem _ (List.mem_append_left _ (List.mem_of_getElem? (i := 3) rfl)))
  refine lv_aload_n hX_ hB_ dX9_addLoad_0 rfl (lv_at hl 0 rfl) ?_
  refine lv_iload_n hX_ hB_ dX9_addLoad_1 rfl (lv_at hl 1 rfl) ?_
  refine ze_Vi (As := [.int (nI j)]) (rest := []) (ci := 9) (q0 := 0) (k := (RX9, TX9, 39)) S (zr_isNoSite l D c d n A B mk th (nI j)) (cwV 1 hts gX9_addLoad_X9_isNoSite rfl rfl rfl (by decide +kernel) ⟨Nat.le_of_ble_eq_true rfl, Nat.le_of_ble_eq_true rfl⟩) hK hW hA rfl rfl rfl hl.1 rfl (lv_room (Nat.le_of_ble_eq_true rfl)) dX9_addLoad_2 ⟨Nat.le_of_ble_eq_true rfl, Nat.le_of_ble_eq_true rfl⟩ (fun H locs hW => ?_)
  have hW : ze_W D (ze_wR c d n A B mk (if zf_isIn (nI j) 0 (nI (n 0) - 1) then 0 else 1)) F s.heap _ _ := hW
  refine lv_if_ne (tgt := 64) hX_ hB_ dX9_addLoad_5 (by decide) (fun c5 => ?_) (fun c5 => ?_)
  · have c5 : ¬ zf_isIn (nI j) 0 (nI (n 0) - 1) := ze_bt c5
    exact absurd hinj c5
  · have c5 : ¬ (¬ zf_isIn (nI j) 0 (nI (n 0) - 1)) := ze_bf c5
    have c5 : zf_isIn (nI j) 0 (nI (n 0) - 1) := Decidable.of_not_not c5
    refine lv_aload_n hX_ hB_ dX9_addLoad_8 rfl (lv_at hl 0 rfl) ?_
    refine lv_iload_n hX_ hB_ dX9_addLoad_9 rfl (lv_at hl 2 rfl) ?_
    refine lv_iconst (v := 1) hX_ hB_ dX9_addLoad_10 (by decide) ?_
    refine lv_sipush (v := 200) hX_ hB_ dX9_addLoad_11 (by decide) ?_
    refine ze_Si (As := [.int y, .int 1, .int 200]) (rest := [.ref (d 0)]) S (zr_isIn l D c (ze_wR c d n A B mk (if zf_isIn (nI j) 0 (nI (n 0) - 1) then 0 else 1)) y 1 200) (va_cwS 3 hts gX9_addLoad_X9_isIn rfl rfl rfl (by decide +kernel) ⟨Nat.le_of_ble_eq_true rfl, Nat.le_of_ble_eq_true rfl⟩) hK hW hA rfl hl.1 rfl (lv_room (Nat.le_of_ble_eq_true rfl)) dX9_addLoad_14 ⟨Nat.le_of_ble_eq_true rfl, Nat.le_of_ble_eq_true rfl⟩ (fun H locs hW => ?_)
    refine lv_if_eq (tgt := 30) hX_ hB_ dX9_addLoad_17 (by decide) (fun c17 => ?_) (fun c17 => ?_)
    · have c17 : ¬ (zf_isIn y 1 200) := ze_bf c17
      exact absurd h1 c17
    · have c17 : zf_isIn y 1 200 := ze_bt c17
      refine lv_iload_n hX_ hB_ dX9_addLoad_20 rfl (lv_at hl 3 rfl) ?_
      refine lv_iconst (v := 1) hX_ hB_ dX9_addLoad_21 (by decide) ?_
      refine lv_bipush (v := 9) hX_ hB_ dX9_addLoad_22 (by decide) ?_
      refine ze_Si (As := [.int z, .int 1, .int 9]) (rest := [.ref (d 0)]) S (zr_isIn l D c (ze_wR c d n A B mk (if zf_isIn (nI j) 0 (nI (n 0) - 1) then 0 else 1)) z 1 9) (va_cwS 3 hts gX9_addLoad_X9_isIn rfl rfl rfl (by decide +kernel) ⟨Nat.le_of_ble_eq_true rfl, Nat.le_of_ble_eq_true rfl⟩) hK hW hA rfl hl.1 rfl (lv_room (Nat.le_of_ble_eq_true rfl)) dX9_addLoad_24 ⟨Nat.le_of_ble_eq_true rfl, Nat.le_of_ble_eq_true rfl⟩ (fun H locs hW => ?_)
      refine lv_if_ne (tgt := 34) hX_ hB_ dX9_addLoad_27 (by decide) (fun c27 => ?_) (fun c27 => ?_)
      · have c27 : zf_isIn z 1 9 := ze_bt c27
        refine lv_iconst (v := 0) hX_ hB_ dX9_addLoad_34 (by decide) ?_
        refine lv_iconst (v := 2) hX_ hB_ dX9_addLoad_35 (by decide) ?_
        refine ze_Vi (As := [.int 0, .int 2]) (rest := []) (ci := 9) (q0 := 0) (k := (RX9, TX9, 39)) S (zr_isThrown l D c d n A B mk (if zf_isIn (nI j) 0 (nI (n 0) - 1) then 0 else 1) 0 2 0 rfl (if_pos rfl)) (cwV 2 hts gX9_addLoad_X9_isThrown rfl rfl rfl (by decide +kernel) ⟨Nat.le_of_ble_eq_true rfl, Nat.le_of_ble_eq_true rfl⟩) hK hW hA rfl rfl rfl hl.1 rfl (lv_room (Nat.le_of_ble_eq_true rfl)) dX9_addLoad_36 ⟨Nat.le_of_ble_eq_true rfl, Nat.le_of_ble_eq_true rfl⟩ (fun H locs hW => ?_)
        have hW : ze_W D (ze_wR c d n A B mk 0) F s.heap _ _ := hW
        refine lv_if_ne (tgt := 64) hX_ hB_ dX9_addLoad_39 (by decide) (fun c39 => ?_) (fun c39 => ?_)
        · exact absurd c39 (by decide)
        · refine lv_aload_n hX_ hB_ dX9_addLoad_42 rfl (lv_at hl 0 rfl) ?_
          refine lv_aload_n hX_ hB_ dX9_addLoad_43 rfl (lv_at hl 0 rfl) ?_
          refine ze_get (ci := 9) (C := RX9) (T := TX9) (N := 39) (v := .int (nI (n 4))) S hiX9 hK hW 0 rfl rfl 27 (by decide) rfl w0 dX9_addLoad_44 ?_
          refine lv_bipush (v := 10) hX_ hB_ dX9_addLoad_47 (by decide) ?_
          refine lv_icmp_ne (tgt := 56) hX_ hB_ dX9_addLoad_49 (by decide) (fun c49 => ?_) (fun c49 => ?_)
          · have c49 : ¬ (n 4) = 10 := fun h9 => c49 ((nI_eq (a := (n 4)) (b := 10) (by omega) (by omega)).mpr h9)
            refine lv_iconst (v := 0) hX_ hB_ dX9_addLoad_56 (by decide) ?_
            refine lv_iconst (v := 3) hX_ hB_ dX9_addLoad_57 (by decide) ?_
            refine ze_Vi (As := [.int 0, .int 3]) (rest := []) (ci := 9) (q0 := 0) (k := (RX9, TX9, 39)) S (zr_isThrown l D c d n A B mk 0 0 3 0 rfl (if_pos rfl)) (cwV 2 hts gX9_addLoad_X9_isThrown rfl rfl rfl (by decide +kernel) ⟨Nat.le_of_ble_eq_true rfl, Nat.le_of_ble_eq_true rfl⟩) hK hW hA rfl rfl rfl hl.1 rfl (lv_room (Nat.le_of_ble_eq_true rfl)) dX9_addLoad_58 ⟨Nat.le_of_ble_eq_true rfl, Nat.le_of_ble_eq_true rfl⟩ (fun H locs hW => ?_)
            refine lv_if_eq (tgt := 66) hX_ hB_ dX9_addLoad_61 (by decide) (fun c61 => ?_) (fun c61 => ?_)
            · refine lv_aload_n hX_ hB_ dX9_addLoad_66 rfl (lv_at hl 0 rfl) ?_
              refine ze_get (ci := 9) (C := RX9) (T := TX9) (N := 39) (v := .ref (d 20)) S hiX9 hK hW 0 rfl rfl 19 (by decide) rfl w1 dX9_addLoad_67 ?_
              refine lv_aload_n hX_ hB_ dX9_addLoad_70 rfl (lv_at hl 0 rfl) ?_
              refine ze_get (ci := 9) (C := RX9) (T := TX9) (N := 39) (v := .int (nI (n 4))) S hiX9 hK hW 0 rfl rfl 27 (by decide) rfl w0 dX9_addLoad_71 ?_
              refine lv_iload_n hX_ hB_ dX9_addLoad_74 rfl (lv_at hl 1 rfl) ?_
              refine ze_iastN hX_ hB_ hK hW 20 (f := A 19) rfl (i := n 4) (by omega) (by decide) dX9_addLoad_75 (ze_qR19 (n 4) (nI j) _ _ _ _ _ _ _) (fun H locs hW => ?_)
              have hW : ze_W D (ze_wR c d n (ze_sE A 19 (n 4) (nI j)) B mk 0) F s.heap _ _ := hW
              refine lv_aload_n hX_ hB_ dX9_addLoad_76 rfl (lv_at hl 0 rfl) ?_
              refine ze_get (ci := 9) (C := RX9) (T := TX9) (N := 39) (v := .ref (d 21)) S hiX9 hK hW 0 rfl rfl 20 (by decide) rfl w2 dX9_addLoad_77 ?_
              refine lv_aload_n hX_ hB_ dX9_addLoad_80 rfl (lv_at hl 0 rfl) ?_
              refine ze_get (ci := 9) (C := RX9) (T := TX9) (N := 39) (v := .int (nI (n 4))) S hiX9 hK hW 0 rfl rfl 27 (by decide) rfl w0 dX9_addLoad_81 ?_
              refine lv_iload_n hX_ hB_ dX9_addLoad_84 rfl (lv_at hl 2 rfl) ?_
              refine ze_iastN hX_ hB_ hK hW 21 (f := A 20) rfl (i := n 4) (by omega) (by decide) dX9_addLoad_85 (ze_qR20 (n 4) y _ _ _ _ _ _ _) (fun H locs hW => ?_)
              have hW : ze_W D (ze_wR c d n (ze_sE (ze_sE A 19 (n 4) (nI j)) 20 (n 4) y) B mk 0) F s.heap _ _ := hW
              refine lv_aload_n hX_ hB_ dX9_addLoad_86 rfl (lv_at hl 0 rfl) ?_
              refine ze_get (ci := 9) (C := RX9) (T := TX9) (N := 39) (v := .ref (d 22)) S hiX9 hK hW 0 rfl rfl 21 (by decide) rfl w3 dX9_addLoad_87 ?_
              refine lv_aload_n hX_ hB_ dX9_addLoad_90 rfl (lv_at hl 0 rfl) ?_
              refine ze_get (ci := 9) (C := RX9) (T := TX9) (N := 39) (v := .int (nI (n 4))) S hiX9 hK hW 0 rfl rfl 27 (by decide) rfl w0 dX9_addLoad_91 ?_
              refine lv_iload_n hX_ hB_ dX9_addLoad_94 rfl (lv_at hl 3 rfl) ?_
              refine ze_iastN hX_ hB_ hK hW 22 (f := A 21) rfl (i := n 4) (by omega) (by decide) dX9_addLoad_95 (ze_qR21 (n 4) z _ _ _ _ _ _ _) (fun H locs hW => ?_)
              have hW : ze_W D (ze_wR c d n (ze_sE (ze_sE (ze_sE A 19 (n 4) (nI j)) 20 (n 4) y) 21 (n 4) z) B mk 0) F s.heap _ _ := hW
              refine lv_aload_n hX_ hB_ dX9_addLoad_96 rfl (lv_at hl 0 rfl) ?_
              refine lv_dup hX_ hB_ dX9_addLoad_97 rfl ?_
              refine ze_get (ci := 9) (C := RX9) (T := TX9) (N := 39) (v := .int (nI (n 4))) S hiX9 hK hW 0 rfl rfl 27 (by decide) rfl w0 dX9_addLoad_98 ?_
              refine lv_iconst (v := 1) hX_ hB_ dX9_addLoad_101 (by decide) ?_
              refine lv_iadd hX_ hB_ dX9_addLoad_102 ?_
              refine ze_top (nI_add (n 4) 1) ?_
              refine ze_put (ci := 9) (C := RX9) (T := TX9) (N := 39) (v := .int (nI (n 4 + 1))) S hiX9 tyX9 tyX9_ok nmX9 hK hW 0 rfl rfl 27 (by decide) (Nat.le_of_ble_eq_true rfl) rfl rfl rfl w0 dX9_addLoad_103 (ze_pR27 (n 4 + 1) _ _ _ _ _ _ _) (fun H locs hW => ?_)
              have hW : ze_W D (ze_wR c d (ze_sn n 4 (n 4 + 1)) (ze_sE (ze_sE (ze_sE A 19 (n 4) (nI j)) 20 (n 4) y) 21 (n 4) z) B mk 0) F s.heap _ _ := hW
              refine lv_aload_n hX_ hB_ dX9_addLoad_106 rfl (lv_at hl 0 rfl) ?_
              refine ze_get (ci := 9) (C := RX9) (T := TX9) (N := 39) (v := .int (nI (n 4 + 1))) S hiX9 hK hW 0 rfl rfl 27 (by decide) rfl w0 dX9_addLoad_107 ?_
              refine lv_iconst (v := 1) hX_ hB_ dX9_addLoad_110 (by decide) ?_
              refine lv_isub hX_ hB_ dX9_addLoad_111 ?_
              refine ze_top (nI_pred (n 4)) ?_
              exact ze_iret S hr hlocks hF hK hW rfl dX9_addLoad_112 (Nat.le_of_ble_eq_true rfl) (Nat.le_of_ble_eq_true rfl) rfl rfl
            · exact absurd c61 (by decide)
          · have c49 : (n 4) = 10 := (nI_eq (a := (n 4)) (b := 10) (by omega) (by omega)).mp c49
            exact absurd c49 h3
      · have c27 : ¬ (zf_isIn z 1 9) := ze_bf c27
        exact absurd h2 c27
set_option maxHeartbeats 4000000 in
set_option maxRecDepth 100000 in
theorem zr_setRank_t1 (l : Launch) (D : va_G) (c : Nat → ClassId) (d n : Nat → Nat) (A : Nat → Nat → Int32) (B : Nat → Int64) (mk : Nat → Int32) (th : Int32) (x : Int32) (hN : zf_N n) (hx : ¬ zf_isIn x 0 (nI (n 4) - 1)) (y : Int32) : ze_I l yX9_setRank wsX9_setRank 2 43 0 0 D c (ze_wR c d n A B mk th) [.ref (d 0), .int x, .int y] 0 (ze_wR c d n A B mk 1) := by
  intro sz
  refine ze_start (cc := cX9_setRank) (maxL := 4) (ret := (some .int)) (own := RX9) (by decide) rfl rfl (Nat.le_of_ble_eq_true rfl) ?_
  obtain ⟨hn0, hn1, hn2, hn3, hn4⟩ := id hN
  intro p e s m_ below meth cd F ls hF hsz E0
  obtain ⟨S, hr, hlocks, hK, hW, hA, hl⟩ := E0
  have hX_ := S.1
  have hB_ := S.2.1
  have hts := S.2.2.2.2
  have hl : lv_has ls 4 [(0, .ref (d 0)), (1, .int x), (2, .int y)] := hl
  refine lv_aload_n hX_ hB_ dX9_setRank_0 rfl (lv_at hl 0 rfl) ?_
  refine lv_iload_n hX_ hB_ dX9_setRank_1 rfl (lv_at hl 1 rfl) ?_
  refine ze_Vi (As := [.int x]) (rest := []) (ci := 9) (q0 := 0) (k := (RX9, TX9, 39)) S (zr_isNoLoad l D c d n A B mk th x) (cwV 1 hts gX9_setRank_X9_isNoLoad rfl rfl rfl (by decide +kernel) ⟨Nat.le_of_ble_eq_true rfl, Nat.le_of_ble_eq_true rfl⟩) hK hW hA rfl rfl rfl hl.1 rfl (lv_room (Nat.le_of_ble_eq_true rfl)) dX9_setRank_2 ⟨Nat.le_of_ble_eq_true rfl, Nat.le_of_ble_eq_true rfl⟩ (fun H locs hW => ?_)
  have hW : ze_W D (ze_wR c d n A B mk (if zf_isIn x 0 (nI (n 4) - 1) then 0 else 1)) F s.heap _ _ := hW
  refine lv_if_ne (tgt := 31) hX_ hB_ dX9_setRank_5 (by decide) (fun c5 => ?_) (fun c5 => ?_)
  · have c5 : ¬ zf_isIn x 0 (nI (n 4) - 1) := ze_bt c5
    refine lv_iconst (v := 0) hX_ hB_ dX9_setRank_31 (by decide) ?_
    exact ze_iret S hr hlocks hF hK hW rfl dX9_setRank_32 (Nat.le_of_ble_eq_true rfl) (Nat.le_of_ble_eq_true rfl) rfl (by simp only [ze_b, eq_false hx, eq_false c5, not_true_eq_false, not_false_eq_true, and_true, true_and, and_false, false_and, or_true, true_or, or_false, false_or, and_self, or_self, Decidable.not_not, if_true, if_false, reduceIte, reduceCtorEq, ne_eq, eq_self, Int32.lt_irrefl, Int32.le_refl, Nat.lt_irrefl])
  · have c5 : ¬ (¬ zf_isIn x 0 (nI (n 4) - 1)) := ze_bf c5
    have c5 : zf_isIn x 0 (nI (n 4) - 1) := Decidable.of_not_not c5
    exact absurd c5 hx
set_option maxHeartbeats 4000000 in
set_option maxRecDepth 100000 in
theorem zr_setRank_t2 (l : Launch) (D : va_G) (c : Nat → ClassId) (d n : Nat → Nat) (A : Nat → Nat → Int32) (B : Nat → Int64) (mk : Nat → Int32) (th : Int32) (j : Nat) (hN : zf_N n) (hj : j < n 4) (y : Int32) (h : ¬ zf_isIn y 1 9) : ze_I l yX9_setRank wsX9_setRank 2 43 0 0 D c (ze_wR c d n A B mk th) [.ref (d 0), .int (nI j), .int y] 0 (ze_wR c d n A B mk 2) := by
  intro sz
  refine ze_start (cc := cX9_setRank) (maxL := 4) (ret := (some .int)) (own := RX9) (by decide) rfl rfl (Nat.le_of_ble_eq_true rfl) ?_
  obtain ⟨hn0, hn1, hn2, hn3, hn4⟩ := id hN
  have hinj : zf_isIn (nI j) 0 (nI (n 4) - 1) := zf_isInN hj (by omega)
  intro p e s m_ below meth cd F ls hF hsz E0
  obtain ⟨S, hr, hlocks, hK, hW, hA, hl⟩ := E0
  have hX_ := S.1
  have hB_ := S.2.1
  have hts := S.2.2.2.2
  have hl : lv_has ls 4 [(0, .ref (d 0)), (1, .int (nI j)), (2, .int y)] := hl
  refine lv_aload_n hX_ hB_ dX9_setRank_0 rfl (lv_at hl 0 rfl) ?_
  refine lv_iload_n hX_ hB_ dX9_setRank_1 rfl (lv_at hl 1 rfl) ?_
  refine ze_Vi (As := [.int (nI j)]) (rest := []) (ci := 9) (q0 := 0) (k := (RX9, TX9, 39)) S (zr_isNoLoad l D c d n A B mk th (nI j)) (cwV 1 hts gX9_setRank_X9_isNoLoad rfl rfl rfl (by decide +kernel) ⟨Nat.le_of_ble_eq_true rfl, Nat.le_of_ble_eq_true rfl⟩) hK hW hA rfl rfl rfl hl.1 rfl (lv_room (Nat.le_of_ble_eq_true rfl)) dX9_setRank_2 ⟨Nat.le_of_ble_eq_true rfl, Nat.le_of_ble_eq_true rfl⟩ (fun H locs hW => ?_)
  have hW : ze_W D (ze_wR c d n A B mk (if zf_isIn (nI j) 0 (nI (n 4) - 1) then 0 else 1)) F s.heap _ _ := hW
  refine lv_if_ne (tgt := 31) hX_ hB_ dX9_setRank_5 (by decide) (fun c5 => ?_) (fun c5 => ?_)
  · have c5 : ¬ zf_isIn (nI j) 0 (nI (n 4) - 1) := ze_bt c5
    exact absurd hinj c5
  · have c5 : ¬ (¬ zf_isIn (nI j) 0 (nI (n 4) - 1)) := ze_bf c5
    have c5 : zf_isIn (nI j) 0 (nI (n 4) - 1) := Decidable.of_not_not c5
    refine lv_aload_n hX_ hB_ dX9_setRank_8 rfl (lv_at hl 0 rfl) ?_
    refine lv_iload_n hX_ hB_ dX9_setRank_9 rfl (lv_at hl 2 rfl) ?_
    refine lv_iconst (v := 1) hX_ hB_ dX9_setRank_10 (by decide) ?_
    refine lv_bipush (v := 9) hX_ hB_ dX9_setRank_11 (by decide) ?_
    refine ze_Si (As := [.int y, .int 1, .int 9]) (rest := [.ref (d 0)]) S (zr_isIn l D c (ze_wR c d n A B mk (if zf_isIn (nI j) 0 (nI (n 4) - 1) then 0 else 1)) y 1 9) (va_cwS 3 hts gX9_setRank_X9_isIn rfl rfl rfl (by decide +kernel) ⟨Nat.le_of_ble_eq_true rfl, Nat.le_of_ble_eq_true rfl⟩) hK hW hA rfl hl.1 rfl (lv_room (Nat.le_of_ble_eq_true rfl)) dX9_setRank_13 ⟨Nat.le_of_ble_eq_true rfl, Nat.le_of_ble_eq_true rfl⟩ (fun H locs hW => ?_)
    refine lv_if_ne (tgt := 23) hX_ hB_ dX9_setRank_16 (by decide) (fun c16 => ?_) (fun c16 => ?_)
    · have c16 : zf_isIn y 1 9 := ze_bt c16
      exact absurd c16 h
    · have c16 : ¬ (zf_isIn y 1 9) := ze_bf c16
      refine lv_iconst (v := 1) hX_ hB_ dX9_setRank_19 (by decide) ?_
      refine lv_goto (tgt := 24) hX_ hB_ dX9_setRank_20 (by decide) ?_
      refine lv_iconst (v := 2) hX_ hB_ dX9_setRank_24 (by decide) ?_
      refine ze_Vi (As := [.int 1, .int 2]) (rest := []) (ci := 9) (q0 := 0) (k := (RX9, TX9, 39)) S (zr_isThrown l D c d n A B mk (if zf_isIn (nI j) 0 (nI (n 4) - 1) then 0 else 1) 1 2 2 rfl (if_neg (by decide))) (cwV 2 hts gX9_setRank_X9_isThrown rfl rfl rfl (by decide +kernel) ⟨Nat.le_of_ble_eq_true rfl, Nat.le_of_ble_eq_true rfl⟩) hK hW hA rfl rfl rfl hl.1 rfl (lv_room (Nat.le_of_ble_eq_true rfl)) dX9_setRank_25 ⟨Nat.le_of_ble_eq_true rfl, Nat.le_of_ble_eq_true rfl⟩ (fun H locs hW => ?_)
      have hW : ze_W D (ze_wR c d n A B mk 2) F s.heap _ _ := hW
      refine lv_if_eq (tgt := 33) hX_ hB_ dX9_setRank_28 (by decide) (fun c28 => ?_) (fun c28 => ?_)
      · exact absurd c28 (by decide)
      · refine lv_iconst (v := 0) hX_ hB_ dX9_setRank_31 (by decide) ?_
        exact ze_iret S hr hlocks hF hK hW rfl dX9_setRank_32 (Nat.le_of_ble_eq_true rfl) (Nat.le_of_ble_eq_true rfl) rfl rfl
set_option maxHeartbeats 4000000 in
set_option maxRecDepth 100000 in
theorem zr_setRank_f (l : Launch) (D : va_G) (c : Nat → ClassId) (d n : Nat → Nat) (A : Nat → Nat → Int32) (B : Nat → Int64) (mk : Nat → Int32) (th : Int32) (j : Nat) (hN : zf_N n) (hj : j < n 4) (y : Int32) (h : zf_isIn y 1 9) : ze_I l yX9_setRank wsX9_setRank 2 43 0 0 D c (ze_wR c d n A B mk th) [.ref (d 0), .int (nI j), .int y] (A 21 j) (ze_wR c d n (ze_sE A 21 j y) B mk 0) := by
  intro sz
  refine ze_start (cc := cX9_setRank) (maxL := 4) (ret := (some .int)) (own := RX9) (by decide) rfl rfl (Nat.le_of_ble_eq_true rfl) ?_
  obtain ⟨hn0, hn1, hn2, hn3, hn4⟩ := id hN
  have hinj : zf_isIn (nI j) 0 (nI (n 4) - 1) := zf_isInN hj (by omega)
  intro p e s m_ below meth cd F ls hF hsz E0
  obtain ⟨S, hr, hlocks, hK, hW, hA, hl⟩ := E0
  have hX_ := S.1
  have hB_ := S.2.1
  have hts := S.2.2.2.2
  have hl : lv_has ls 4 [(0, .ref (d 0)), (1, .int (nI j)), (2, .int y)] := hl
  have hiX9 : ∀ w ∈ u_ws RX9 TX9 39, w ∈ wsX9_setRank := fun _ h => (List.mem_cons_of_mem _ (List.mem_append_right _ h))
  have w0 := hts (.fieldLink RX9 75 "IslandgridModel" "rank" "[I") (List.mem_cons_of_mem _ (List.mem_append_left _ (List.mem_of_getElem? (i := 0) rfl)))
  refine lv_aload_n hX_ hB_ dX9_setRank_0 rfl (lv_at hl 0 rfl) ?_
  refine lv_iload_n hX_ hB_ dX9_setRank_1 rfl (lv_at hl 1 rfl) ?_
  refine ze_Vi (As := [.int (nI j)]) (rest := []) (ci := 9) (q0 := 0) (k := (RX9, TX9, 39)) S (zr_isNoLoad l D c d n A B mk th (nI j)) (cwV 1 hts gX9_setRank_X9_isNoLoad rfl rfl rfl (by decide +kernel) ⟨Nat.le_of_ble_eq_true rfl, Nat.le_of_ble_eq_true rfl⟩) hK hW hA rfl rfl rfl hl.1 rfl (lv_room (Nat.le_of_ble_eq_true rfl)) dX9_setRank_2 ⟨Nat.le_of_ble_eq_true rfl, Nat.le_of_ble_eq_true rfl⟩ (fun H locs hW => ?_)
  have hW : ze_W D (ze_wR c d n A B mk (if zf_isIn (nI j) 0 (nI (n 4) - 1) then 0 else 1)) F s.heap _ _ := hW
  refine lv_if_ne (tgt := 31) hX_ hB_ dX9_setRank_5 (by decide) (fun c5 => ?_) (fun c5 => ?_)
  · have c5 : ¬ zf_isIn (nI j) 0 (nI (n 4) - 1) := ze_bt c5
    exact absurd hinj c5
  · have c5 : ¬ (¬ zf_isIn (nI j) 0 (nI (n 4) - 1)) := ze_bf c5
    have c5 : zf_isIn (nI j) 0 (nI (n 4) - 1) := Decidable.of_not_not c5
    refine lv_aload_n hX_ hB_ dX9_setRank_8 rfl (lv_at hl 0 rfl) ?_
    refine lv_iload_n hX_ hB_ dX9_setRank_9 rfl (lv_at hl 2 rfl) ?_
    refine lv_iconst (v := 1) hX_ hB_ dX9_setRank_10 (by decide) ?_
    refine lv_bipush (v := 9) hX_ hB_ dX9_setRank_11 (by decide) ?_
    refine ze_Si (As := [.int y, .int 1, .int 9]) (rest := [.ref (d 0)]) S (zr_isIn l D c (ze_wR c d n A B mk (if zf_isIn (nI j) 0 (nI (n 4) - 1) then 0 else 1)) y 1 9) (va_cwS 3 hts gX9_setRank_X9_isIn rfl rfl rfl (by decide +kernel) ⟨Nat.le_of_ble_eq_true rfl, Nat.le_of_ble_eq_true rfl⟩) hK hW hA rfl hl.1 rfl (lv_room (Nat.le_of_ble_eq_true rfl)) dX9_setRank_13 ⟨Nat.le_of_ble_eq_true rfl, Nat.le_of_ble_eq_true rfl⟩ (fun H locs hW => ?_)
    refine lv_if_ne (tgt := 23) hX_ hB_ dX9_setRank_16 (by decide) (fun c16 => ?_) (fun c16 => ?_)
    · have c16 : zf_isIn y 1 9 := ze_bt c16
      refine lv_iconst (v := 0) hX_ hB_ dX9_setRank_23 (by decide) ?_
      refine lv_iconst (v := 2) hX_ hB_ dX9_setRank_24 (by decide) ?_
      refine ze_Vi (As := [.int 0, .int 2]) (rest := []) (ci := 9) (q0 := 0) (k := (RX9, TX9, 39)) S (zr_isThrown l D c d n A B mk (if zf_isIn (nI j) 0 (nI (n 4) - 1) then 0 else 1) 0 2 0 rfl (if_pos rfl)) (cwV 2 hts gX9_setRank_X9_isThrown rfl rfl rfl (by decide +kernel) ⟨Nat.le_of_ble_eq_true rfl, Nat.le_of_ble_eq_true rfl⟩) hK hW hA rfl rfl rfl hl.1 rfl (lv_room (Nat.le_of_ble_eq_true rfl)) dX9_setRank_25 ⟨Nat.le_of_ble_eq_true rfl, Nat.le_of_ble_eq_true rfl⟩ (fun H locs hW => ?_)
      have hW : ze_W D (ze_wR c d n A B mk 0) F s.heap _ _ := hW
      refine lv_if_eq (tgt := 33) hX_ hB_ dX9_setRank_28 (by decide) (fun c28 => ?_) (fun c28 => ?_)
      · refine lv_aload_n hX_ hB_ dX9_setRank_33 rfl (lv_at hl 0 rfl) ?_
        refine ze_get (ci := 9) (C := RX9) (T := TX9) (N := 39) (v := .ref (d 22)) S hiX9 hK hW 0 rfl rfl 21 (by decide) rfl w0 dX9_setRank_34 ?_
        refine lv_iload_n hX_ hB_ dX9_setRank_37 rfl (lv_at hl 1 rfl) ?_
        refine ze_ialdN hX_ hB_ hK hW 22 (f := A 21) rfl (i := j) (by omega) (by decide) dX9_setRank_38 ?_
        refine lv_istore_n (lv' := [(3, .int (A 21 j)), (0, .ref (d 0)), (1, .int (nI j)), (2, .int y)]) hX_ hB_ dX9_setRank_39 rfl hl (by decide) rfl (fun ls hl => ?_)
        refine lv_aload_n hX_ hB_ dX9_setRank_40 rfl (lv_at hl 1 rfl) ?_
        refine ze_get (ci := 9) (C := RX9) (T := TX9) (N := 39) (v := .ref (d 22)) S hiX9 hK hW 0 rfl rfl 21 (by decide) rfl w0 dX9_setRank_41 ?_
        refine lv_iload_n hX_ hB_ dX9_setRank_44 rfl (lv_at hl 2 rfl) ?_
        refine lv_iload_n hX_ hB_ dX9_setRank_45 rfl (lv_at hl 3 rfl) ?_
        refine ze_iastN hX_ hB_ hK hW 22 (f := A 21) rfl (i := j) (by omega) (by decide) dX9_setRank_46 (ze_qR21 j y _ _ _ _ _ _ _) (fun H locs hW => ?_)
        have hW : ze_W D (ze_wR c d n (ze_sE A 21 j y) B mk 0) F s.heap _ _ := hW
        refine lv_iload_n hX_ hB_ dX9_setRank_47 rfl (lv_at hl 0 rfl) ?_
        exact ze_iret S hr hlocks hF hK hW rfl dX9_setRank_48 (Nat.le_of_ble_eq_true rfl) (Nat.le_of_ble_eq_true rfl) rfl rfl
      · exact absurd c28 (by decide)
    · have c16 : ¬ (zf_isIn y 1 9) := ze_bf c16
      exact absurd h c16
set_option maxHeartbeats 4000000 in
set_option maxRecDepth 100000 in
theorem zr_isLit_t1 (l : Launch) (D : va_G) (c : Nat → ClassId) (d n : Nat → Nat) (A : Nat → Nat → Int32) (B : Nat → Int64) (mk : Nat → Int32) (th : Int32) (x : Int32) (hN : zf_N n) (hx : ¬ zf_isIn x 0 (nI (n 4) - 1)) : ze_I l yX9_isLit wsX9_isLit 2 43 0 0 D c (ze_wR c d n A B mk th) [.ref (d 0), .int x] 0 (ze_wR c d n A B mk 1) := by
  intro sz
  refine ze_start (cc := cX9_isLit) (maxL := 2) (ret := (some .boolean)) (own := RX9) (by decide) rfl rfl (Nat.le_of_ble_eq_true rfl) ?_
  obtain ⟨hn0, hn1, hn2, hn3, hn4⟩ := id hN
  intro p e s m_ below meth cd F ls hF hsz E0
  obtain ⟨S, hr, hlocks, hK, hW, hA, hl⟩ := E0
  have hX_ := S.1
  have hB_ := S.2.1
  have hts := S.2.2.2.2
  have hl : lv_has ls 2 [(0, .ref (d 0)), (1, .int x)] := hl
  refine lv_aload_n hX_ hB_ dX9_isLit_0 rfl (lv_at hl 0 rfl) ?_
  refine lv_iload_n hX_ hB_ dX9_isLit_1 rfl (lv_at hl 1 rfl) ?_
  refine ze_Vi (As := [.int x]) (rest := []) (ci := 9) (q0 := 0) (k := (RX9, TX9, 39)) S (zr_isNoLoad l D c d n A B mk th x) (cwV 1 hts gX9_isLit_X9_isNoLoad rfl rfl rfl (by decide +kernel) ⟨Nat.le_of_ble_eq_true rfl, Nat.le_of_ble_eq_true rfl⟩) hK hW hA rfl rfl rfl hl.1 rfl (lv_room (Nat.le_of_ble_eq_true rfl)) dX9_isLit_2 ⟨Nat.le_of_ble_eq_true rfl, Nat.le_of_ble_eq_true rfl⟩ (fun H locs hW => ?_)
  have hW : ze_W D (ze_wR c d n A B mk (if zf_isIn x 0 (nI (n 4) - 1) then 0 else 1)) F s.heap _ _ := hW
  refine lv_if_ne (tgt := 21) hX_ hB_ dX9_isLit_5 (by decide) (fun c5 => ?_) (fun c5 => ?_)
  · have c5 : ¬ zf_isIn x 0 (nI (n 4) - 1) := ze_bt c5
    refine lv_iconst (v := 0) hX_ hB_ dX9_isLit_21 (by decide) ?_
    exact ze_iret S hr hlocks hF hK hW rfl dX9_isLit_22 (Nat.le_of_ble_eq_true rfl) (Nat.le_of_ble_eq_true rfl) rfl (by simp only [ze_b, eq_false hx, eq_false c5, not_true_eq_false, not_false_eq_true, and_true, true_and, and_false, false_and, or_true, true_or, or_false, false_or, and_self, or_self, Decidable.not_not, if_true, if_false, reduceIte, reduceCtorEq, ne_eq, eq_self, Int32.lt_irrefl, Int32.le_refl, Nat.lt_irrefl])
  · have c5 : ¬ (¬ zf_isIn x 0 (nI (n 4) - 1)) := ze_bf c5
    have c5 : zf_isIn x 0 (nI (n 4) - 1) := Decidable.of_not_not c5
    exact absurd c5 hx
set_option maxHeartbeats 4000000 in
set_option maxRecDepth 100000 in
theorem zr_isLit_f (l : Launch) (D : va_G) (c : Nat → ClassId) (d n : Nat → Nat) (A : Nat → Nat → Int32) (B : Nat → Int64) (mk : Nat → Int32) (th : Int32) (j : Nat) (hN : zf_N n) (hj : j < n 4) : ze_I l yX9_isLit wsX9_isLit 2 43 0 0 D c (ze_wR c d n A B mk th) [.ref (d 0), .int (nI j)] (ze_b (A 5 j = 0)) (ze_wR c d n A B mk 0) := by
  intro sz
  refine ze_start (cc := cX9_isLit) (maxL := 2) (ret := (some .boolean)) (own := RX9) (by decide) rfl rfl (Nat.le_of_ble_eq_true rfl) ?_
  obtain ⟨hn0, hn1, hn2, hn3, hn4⟩ := id hN
  have hinj : zf_isIn (nI j) 0 (nI (n 4) - 1) := zf_isInN hj (by omega)
  intro p e s m_ below meth cd F ls hF hsz E0
  obtain ⟨S, hr, hlocks, hK, hW, hA, hl⟩ := E0
  have hX_ := S.1
  have hB_ := S.2.1
  have hts := S.2.2.2.2
  have hl : lv_has ls 2 [(0, .ref (d 0)), (1, .int (nI j))] := hl
  have hiX9 : ∀ w ∈ u_ws RX9 TX9 39, w ∈ wsX9_isLit := fun _ h => (List.mem_cons_of_mem _ (List.mem_append_right _ h))
  have w0 := hts (.fieldLink RX9 26 "IslandgridModel" "isDark" "[Z") (List.mem_cons_of_mem _ (List.mem_append_left _ (List.mem_of_getElem? (i := 0) rfl)))
  refine lv_aload_n hX_ hB_ dX9_isLit_0 rfl (lv_at hl 0 rfl) ?_
  refine lv_iload_n hX_ hB_ dX9_isLit_1 rfl (lv_at hl 1 rfl) ?_
  refine ze_Vi (As := [.int (nI j)]) (rest := []) (ci := 9) (q0 := 0) (k := (RX9, TX9, 39)) S (zr_isNoLoad l D c d n A B mk th (nI j)) (cwV 1 hts gX9_isLit_X9_isNoLoad rfl rfl rfl (by decide +kernel) ⟨Nat.le_of_ble_eq_true rfl, Nat.le_of_ble_eq_true rfl⟩) hK hW hA rfl rfl rfl hl.1 rfl (lv_room (Nat.le_of_ble_eq_true rfl)) dX9_isLit_2 ⟨Nat.le_of_ble_eq_true rfl, Nat.le_of_ble_eq_true rfl⟩ (fun H locs hW => ?_)
  have hW : ze_W D (ze_wR c d n A B mk (if zf_isIn (nI j) 0 (nI (n 4) - 1) then 0 else 1)) F s.heap _ _ := hW
  refine lv_if_ne (tgt := 21) hX_ hB_ dX9_isLit_5 (by decide) (fun c5 => ?_) (fun c5 => ?_)
  · have c5 : ¬ zf_isIn (nI j) 0 (nI (n 4) - 1) := ze_bt c5
    exact absurd hinj c5
  · have c5 : ¬ (¬ zf_isIn (nI j) 0 (nI (n 4) - 1)) := ze_bf c5
    have c5 : zf_isIn (nI j) 0 (nI (n 4) - 1) := Decidable.of_not_not c5
    refine lv_aload_n hX_ hB_ dX9_isLit_8 rfl (lv_at hl 0 rfl) ?_
    refine ze_get (ci := 9) (C := RX9) (T := TX9) (N := 39) (v := .ref (d 6)) S hiX9 hK hW 0 rfl rfl 5 (by decide) rfl w0 dX9_isLit_9 ?_
    refine lv_iload_n hX_ hB_ dX9_isLit_12 rfl (lv_at hl 1 rfl) ?_
    refine ze_zaldN hX_ hB_ hK hW 6 (f := A 5) rfl (i := j) (by omega) (by decide) dX9_isLit_13 ?_
    refine lv_if_ne (tgt := 21) hX_ hB_ dX9_isLit_14 (by decide) (fun c14 => ?_) (fun c14 => ?_)
    · refine lv_iconst (v := 0) hX_ hB_ dX9_isLit_21 (by decide) ?_
      exact ze_iret S hr hlocks hF hK hW rfl dX9_isLit_22 (Nat.le_of_ble_eq_true rfl) (Nat.le_of_ble_eq_true rfl) (by simp only [ze_b, eq_true hinj, eq_true c5, eq_false c14, not_true_eq_false, not_false_eq_true, and_true, true_and, and_false, false_and, or_true, true_or, or_false, false_or, and_self, or_self, Decidable.not_not, if_true, if_false, reduceIte, reduceCtorEq, ne_eq, eq_self, Int32.lt_irrefl, Int32.le_refl, Nat.lt_irrefl]) (by simp only [ze_b, eq_true hinj, eq_true c5, eq_false c14, not_true_eq_false, not_false_eq_true, and_true, true_and, and_false, false_and, or_true, true_or, or_false, false_or, and_self, or_self, Decidable.not_not, if_true, if_false, reduceIte, reduceCtorEq, ne_eq, eq_self, Int32.lt_irrefl, Int32.le_refl, Nat.lt_irrefl])
    · refine lv_iconst (v := 1) hX_ hB_ dX9_isLit_17 (by decide) ?_
      refine lv_goto (tgt := 22) hX_ hB_ dX9_isLit_18 (by decide) ?_
      exact ze_iret S hr hlocks hF hK hW rfl dX9_isLit_22 (Nat.le_of_ble_eq_true rfl) (Nat.le_of_ble_eq_true rfl) (by simp only [ze_b, eq_true hinj, eq_true c5, eq_true c14, not_true_eq_false, not_false_eq_true, and_true, true_and, and_false, false_and, or_true, true_or, or_false, false_or, and_self, or_self, Decidable.not_not, if_true, if_false, reduceIte, reduceCtorEq, ne_eq, eq_self, Int32.lt_irrefl, Int32.le_refl, Nat.lt_irrefl]) (by simp only [ze_b, eq_true hinj, eq_true c5, eq_true c14, not_true_eq_false, not_false_eq_true, and_true, true_and, and_false, false_and, or_true, true_or, or_false, false_or, and_self, or_self, Decidable.not_not, if_true, if_false, reduceIte, reduceCtorEq, ne_eq, eq_self, Int32.lt_irrefl, Int32.le_refl, Nat.lt_irrefl])
set_option maxHeartbeats 4000000 in
set_option maxRecDepth 100000 in
theorem zr_waits_t1 (l : Launch) (D : va_G) (c : Nat → ClassId) (d n : Nat → Nat) (A : Nat → Nat → Int32) (B : Nat → Int64) (mk : Nat → Int32) (th : Int32) (x : Int32) (hN : zf_N n) (hx : ¬ zf_isIn x 0 (nI (n 4) - 1)) : ze_I l yX9_waits wsX9_waits 2 43 0 0 D c (ze_wR c d n A B mk th) [.ref (d 0), .int x] 0 (ze_wR c d n A B mk 1) := by
  intro sz
  refine ze_start (cc := cX9_waits) (maxL := 2) (ret := (some .int)) (own := RX9) (by decide) rfl rfl (Nat.le_of_ble_eq_true rfl) ?_
  obtain ⟨hn0, hn1, hn2, hn3, hn4⟩ := id hN
  intro p e s m_ below meth cd F ls hF hsz E0
  obtain ⟨S, hr, hlocks, hK, hW, hA, hl⟩ := E0
  have hX_ := S.1
  have hB_ := S.2.1
  have hts := S.2.2.2.2
  have hl : lv_has ls 2 [(0, .ref (d 0)), (1, .int x)] := hl
  refine lv_aload_n hX_ hB_ dX9_waits_0 rfl (lv_at hl 0 rfl) ?_
  refine lv_iload_n hX_ hB_ dX9_waits_1 rfl (lv_at hl 1 rfl) ?_
  refine ze_Vi (As := [.int x]) (rest := []) (ci := 9) (q0 := 0) (k := (RX9, TX9, 39)) S (zr_isNoLoad l D c d n A B mk th x) (cwV 1 hts gX9_waits_X9_isNoLoad rfl rfl rfl (by decide +kernel) ⟨Nat.le_of_ble_eq_true rfl, Nat.le_of_ble_eq_true rfl⟩) hK hW hA rfl rfl rfl hl.1 rfl (lv_room (Nat.le_of_ble_eq_true rfl)) dX9_waits_2 ⟨Nat.le_of_ble_eq_true rfl, Nat.le_of_ble_eq_true rfl⟩ (fun H locs hW => ?_)
  have hW : ze_W D (ze_wR c d n A B mk (if zf_isIn x 0 (nI (n 4) - 1) then 0 else 1)) F s.heap _ _ := hW
  refine lv_if_ne (tgt := 30) hX_ hB_ dX9_waits_5 (by decide) (fun c5 => ?_) (fun c5 => ?_)
  · have c5 : ¬ zf_isIn x 0 (nI (n 4) - 1) := ze_bt c5
    refine lv_iconst (v := 0) hX_ hB_ dX9_waits_30 (by decide) ?_
    refine lv_goto (tgt := 40) hX_ hB_ dX9_waits_31 (by decide) ?_
    exact ze_iret S hr hlocks hF hK hW rfl dX9_waits_40 (Nat.le_of_ble_eq_true rfl) (Nat.le_of_ble_eq_true rfl) rfl (by simp only [ze_b, eq_false hx, eq_false c5, not_true_eq_false, not_false_eq_true, and_true, true_and, and_false, false_and, or_true, true_or, or_false, false_or, and_self, or_self, Decidable.not_not, if_true, if_false, reduceIte, reduceCtorEq, ne_eq, eq_self, Int32.lt_irrefl, Int32.le_refl, Nat.lt_irrefl])
  · have c5 : ¬ (¬ zf_isIn x 0 (nI (n 4) - 1)) := ze_bf c5
    have c5 : zf_isIn x 0 (nI (n 4) - 1) := Decidable.of_not_not c5
    exact absurd c5 hx
set_option maxHeartbeats 4000000 in
set_option maxRecDepth 100000 in
theorem zr_waits_t2 (l : Launch) (D : va_G) (c : Nat → ClassId) (d n : Nat → Nat) (A : Nat → Nat → Int32) (B : Nat → Int64) (mk : Nat → Int32) (th : Int32) (j : Nat) (hN : zf_N n) (hj : j < n 4) (h : A 5 j = 0) : ze_I l yX9_waits wsX9_waits 2 43 0 0 D c (ze_wR c d n A B mk th) [.ref (d 0), .int (nI j)] 0 (ze_wR c d n A B mk 2) := by
  intro sz
  refine ze_start (cc := cX9_waits) (maxL := 2) (ret := (some .int)) (own := RX9) (by decide) rfl rfl (Nat.le_of_ble_eq_true rfl) ?_
  obtain ⟨hn0, hn1, hn2, hn3, hn4⟩ := id hN
  have hinj : zf_isIn (nI j) 0 (nI (n 4) - 1) := zf_isInN hj (by omega)
  intro p e s m_ below meth cd F ls hF hsz E0
  obtain ⟨S, hr, hlocks, hK, hW, hA, hl⟩ := E0
  have hX_ := S.1
  have hB_ := S.2.1
  have hts := S.2.2.2.2
  have hl : lv_has ls 2 [(0, .ref (d 0)), (1, .int (nI j))] := hl
  have hiX9 : ∀ w ∈ u_ws RX9 TX9 39, w ∈ wsX9_waits := fun _ h => (List.mem_cons_of_mem _ (List.mem_append_right _ h))
  have w0 := hts (.fieldLink RX9 26 "IslandgridModel" "isDark" "[Z") (List.mem_cons_of_mem _ (List.mem_append_left _ (List.mem_of_getElem? (i := 0) rfl)))
  refine lv_aload_n hX_ hB_ dX9_waits_0 rfl (lv_at hl 0 rfl) ?_
  refine lv_iload_n hX_ hB_ dX9_waits_1 rfl (lv_at hl 1 rfl) ?_
  refine ze_Vi (As := [.int (nI j)]) (rest := []) (ci := 9) (q0 := 0) (k := (RX9, TX9, 39)) S (zr_isNoLoad l D c d n A B mk th (nI j)) (cwV 1 hts gX9_waits_X9_isNoLoad rfl rfl rfl (by decide +kernel) ⟨Nat.le_of_ble_eq_true rfl, Nat.le_of_ble_eq_true rfl⟩) hK hW hA rfl rfl rfl hl.1 rfl (lv_room (Nat.le_of_ble_eq_true rfl)) dX9_waits_2 ⟨Nat.le_of_ble_eq_true rfl, Nat.le_of_ble_eq_true rfl⟩ (fun H locs hW => ?_)
  have hW : ze_W D (ze_wR c d n A B mk (if zf_isIn (nI j) 0 (nI (n 4) - 1) then 0 else 1)) F s.heap _ _ := hW
  refine lv_if_ne (tgt := 30) hX_ hB_ dX9_waits_5 (by decide) (fun c5 => ?_) (fun c5 => ?_)
  · have c5 : ¬ zf_isIn (nI j) 0 (nI (n 4) - 1) := ze_bt c5
    exact absurd hinj c5
  · have c5 : ¬ (¬ zf_isIn (nI j) 0 (nI (n 4) - 1)) := ze_bf c5
    have c5 : zf_isIn (nI j) 0 (nI (n 4) - 1) := Decidable.of_not_not c5
    refine lv_aload_n hX_ hB_ dX9_waits_8 rfl (lv_at hl 0 rfl) ?_
    refine lv_aload_n hX_ hB_ dX9_waits_9 rfl (lv_at hl 0 rfl) ?_
    refine ze_get (ci := 9) (C := RX9) (T := TX9) (N := 39) (v := .ref (d 6)) S hiX9 hK hW 0 rfl rfl 5 (by decide) rfl w0 dX9_waits_10 ?_
    refine lv_iload_n hX_ hB_ dX9_waits_13 rfl (lv_at hl 1 rfl) ?_
    refine ze_zaldN hX_ hB_ hK hW 6 (f := A 5) rfl (i := j) (by omega) (by decide) dX9_waits_14 ?_
    refine lv_if_ne (tgt := 22) hX_ hB_ dX9_waits_15 (by decide) (fun c15 => ?_) (fun c15 => ?_)
    · exact absurd h c15
    · refine lv_iconst (v := 1) hX_ hB_ dX9_waits_18 (by decide) ?_
      refine lv_goto (tgt := 23) hX_ hB_ dX9_waits_19 (by decide) ?_
      refine lv_iconst (v := 2) hX_ hB_ dX9_waits_23 (by decide) ?_
      refine ze_Vi (As := [.int 1, .int 2]) (rest := []) (ci := 9) (q0 := 0) (k := (RX9, TX9, 39)) S (zr_isThrown l D c d n A B mk (if zf_isIn (nI j) 0 (nI (n 4) - 1) then 0 else 1) 1 2 2 rfl (if_neg (by decide))) (cwV 2 hts gX9_waits_X9_isThrown rfl rfl rfl (by decide +kernel) ⟨Nat.le_of_ble_eq_true rfl, Nat.le_of_ble_eq_true rfl⟩) hK hW hA rfl rfl rfl hl.1 rfl (lv_room (Nat.le_of_ble_eq_true rfl)) dX9_waits_24 ⟨Nat.le_of_ble_eq_true rfl, Nat.le_of_ble_eq_true rfl⟩ (fun H locs hW => ?_)
      have hW : ze_W D (ze_wR c d n A B mk 2) F s.heap _ _ := hW
      refine lv_if_eq (tgt := 34) hX_ hB_ dX9_waits_27 (by decide) (fun c27 => ?_) (fun c27 => ?_)
      · exact absurd c27 (by decide)
      · refine lv_iconst (v := 0) hX_ hB_ dX9_waits_30 (by decide) ?_
        refine lv_goto (tgt := 40) hX_ hB_ dX9_waits_31 (by decide) ?_
        exact ze_iret S hr hlocks hF hK hW rfl dX9_waits_40 (Nat.le_of_ble_eq_true rfl) (Nat.le_of_ble_eq_true rfl) rfl rfl
set_option maxHeartbeats 4000000 in
set_option maxRecDepth 100000 in
theorem zr_waits_f (l : Launch) (D : va_G) (c : Nat → ClassId) (d n : Nat → Nat) (A : Nat → Nat → Int32) (B : Nat → Int64) (mk : Nat → Int32) (th : Int32) (j : Nat) (hN : zf_N n) (hj : j < n 4) (h : ¬ A 5 j = 0) : ze_I l yX9_waits wsX9_waits 2 43 0 0 D c (ze_wR c d n A B mk th) [.ref (d 0), .int (nI j)] (A 22 j) (ze_wR c d n A B mk 0) := by
  intro sz
  refine ze_start (cc := cX9_waits) (maxL := 2) (ret := (some .int)) (own := RX9) (by decide) rfl rfl (Nat.le_of_ble_eq_true rfl) ?_
  obtain ⟨hn0, hn1, hn2, hn3, hn4⟩ := id hN
  have hinj : zf_isIn (nI j) 0 (nI (n 4) - 1) := zf_isInN hj (by omega)
  intro p e s m_ below meth cd F ls hF hsz E0
  obtain ⟨S, hr, hlocks, hK, hW, hA, hl⟩ := E0
  have hX_ := S.1
  have hB_ := S.2.1
  have hts := S.2.2.2.2
  have hl : lv_has ls 2 [(0, .ref (d 0)), (1, .int (nI j))] := hl
  have hiX9 : ∀ w ∈ u_ws RX9 TX9 39, w ∈ wsX9_waits := fun _ h => (List.mem_cons_of_mem _ (List.mem_append_right _ h))
  have w0 := hts (.fieldLink RX9 26 "IslandgridModel" "isDark" "[Z") (List.mem_cons_of_mem _ (List.mem_append_left _ (List.mem_of_getElem? (i := 0) rfl)))
  have w1 := hts (.fieldLink RX9 78 "IslandgridModel" "wait" "[I") (List.mem_cons_of_mem _ (List.mem_append_left _ (List.mem_of_getElem? (i := 1) rfl)))
  refine lv_aload_n hX_ hB_ dX9_waits_0 rfl (lv_at hl 0 rfl) ?_
  refine lv_iload_n hX_ hB_ dX9_waits_1 rfl (lv_at hl 1 rfl) ?_
  refine ze_Vi (As := [.int (nI j)]) (rest := []) (ci := 9) (q0 := 0) (k := (RX9, TX9, 39)) S (zr_isNoLoad l D c d n A B mk th (nI j)) (cwV 1 hts gX9_waits_X9_isNoLoad rfl rfl rfl (by decide +kernel) ⟨Nat.le_of_ble_eq_true rfl, Nat.le_of_ble_eq_true rfl⟩) hK hW hA rfl rfl rfl hl.1 rfl (lv_room (Nat.le_of_ble_eq_true rfl)) dX9_waits_2 ⟨Nat.le_of_ble_eq_true rfl, Nat.le_of_ble_eq_true rfl⟩ (fun H locs hW => ?_)
  have hW : ze_W D (ze_wR c d n A B mk (if zf_isIn (nI j) 0 (nI (n 4) - 1) then 0 else 1)) F s.heap _ _ := hW
  refine lv_if_ne (tgt := 30) hX_ hB_ dX9_waits_5 (by decide) (fun c5 => ?_) (fun c5 => ?_)
  · have c5 : ¬ zf_isIn (nI j) 0 (nI (n 4) - 1) := ze_bt c5
    exact absurd hinj c5
  · have c5 : ¬ (¬ zf_isIn (nI j) 0 (nI (n 4) - 1)) := ze_bf c5
    have c5 : zf_isIn (nI j) 0 (nI (n 4) - 1) := Decidable.of_not_not c5
    refine lv_aload_n hX_ hB_ dX9_waits_8 rfl (lv_at hl 0 rfl) ?_
    refine lv_aload_n hX_ hB_ dX9_waits_9 rfl (lv_at hl 0 rfl) ?_
    refine ze_get (ci := 9) (C := RX9) (T := TX9) (N := 39) (v := .ref (d 6)) S hiX9 hK hW 0 rfl rfl 5 (by decide) rfl w0 dX9_waits_10 ?_
    refine lv_iload_n hX_ hB_ dX9_waits_13 rfl (lv_at hl 1 rfl) ?_
    refine ze_zaldN hX_ hB_ hK hW 6 (f := A 5) rfl (i := j) (by omega) (by decide) dX9_waits_14 ?_
    refine lv_if_ne (tgt := 22) hX_ hB_ dX9_waits_15 (by decide) (fun c15 => ?_) (fun c15 => ?_)
    · refine lv_iconst (v := 0) hX_ hB_ dX9_waits_22 (by decide) ?_
      refine lv_iconst (v := 2) hX_ hB_ dX9_waits_23 (by decide) ?_
      refine ze_Vi (As := [.int 0, .int 2]) (rest := []) (ci := 9) (q0 := 0) (k := (RX9, TX9, 39)) S (zr_isThrown l D c d n A B mk (if zf_isIn (nI j) 0 (nI (n 4) - 1) then 0 else 1) 0 2 0 rfl (if_pos rfl)) (cwV 2 hts gX9_waits_X9_isThrown rfl rfl rfl (by decide +kernel) ⟨Nat.le_of_ble_eq_true rfl, Nat.le_of_ble_eq_true rfl⟩) hK hW hA rfl rfl rfl hl.1 rfl (lv_room (Nat.le_of_ble_eq_true rfl)) dX9_waits_24 ⟨Nat.le_of_ble_eq_true rfl, Nat.le_of_ble_eq_true rfl⟩ (fun H locs hW => ?_)
      have hW : ze_W D (ze_wR c d n A B mk 0) F s.heap _ _ := hW
      refine lv_if_eq (tgt := 34) hX_ hB_ dX9_waits_27 (by decide) (fun c27 => ?_) (fun c27 => ?_)
      · refine lv_aload_n hX_ hB_ dX9_waits_34 rfl (lv_at hl 0 rfl) ?_
        refine ze_get (ci := 9) (C := RX9) (T := TX9) (N := 39) (v := .ref (d 23)) S hiX9 hK hW 0 rfl rfl 22 (by decide) rfl w1 dX9_waits_35 ?_
        refine lv_iload_n hX_ hB_ dX9_waits_38 rfl (lv_at hl 1 rfl) ?_
        refine ze_ialdN hX_ hB_ hK hW 23 (f := A 22) rfl (i := j) (by omega) (by decide) dX9_waits_39 ?_
        exact ze_iret S hr hlocks hF hK hW rfl dX9_waits_40 (Nat.le_of_ble_eq_true rfl) (Nat.le_of_ble_eq_true rfl) rfl rfl
      · exact absurd c27 (by decide)
    · exact absurd c15 h
set_option maxHeartbeats 4000000 in
set_option maxRecDepth 100000 in
theorem zr_setReserve_t1 (l : Launch) (D : va_G) (c : Nat → ClassId) (d n : Nat → Nat) (A : Nat → Nat → Int32) (B : Nat → Int64) (mk : Nat → Int32) (th : Int32) (y : Int32) (h : ¬ zf_isIn y 0 999) : ze_I l yX9_setReserve wsX9_setReserve 1 22 0 0 D c (ze_wR c d n A B mk th) [.ref (d 0), .int y] 0 (ze_wR c d n A B mk 1) := by
  intro sz
  refine ze_start (cc := cX9_setReserve) (maxL := 3) (ret := (some .int)) (own := RX9) (by decide) rfl rfl (Nat.le_of_ble_eq_true rfl) ?_
  intro p e s m_ below meth cd F ls hF hsz E0
  obtain ⟨S, hr, hlocks, hK, hW, hA, hl⟩ := E0
  have hX_ := S.1
  have hB_ := S.2.1
  have hts := S.2.2.2.2
  have hl : lv_has ls 3 [(0, .ref (d 0)), (1, .int y)] := hl
  refine lv_aload_n hX_ hB_ dX9_setReserve_0 rfl (lv_at hl 0 rfl) ?_
  refine lv_iload_n hX_ hB_ dX9_setReserve_1 rfl (lv_at hl 1 rfl) ?_
  refine lv_iconst (v := 0) hX_ hB_ dX9_setReserve_2 (by decide) ?_
  refine lv_sipush (v := 999) hX_ hB_ dX9_setReserve_3 (by decide) ?_
  refine ze_Si (As := [.int y, .int 0, .int 999]) (rest := [.ref (d 0)]) S (zr_isIn l D c (ze_wR c d n A B mk th) y 0 999) (va_cwS 3 hts gX9_setReserve_X9_isIn rfl rfl rfl (by decide +kernel) ⟨Nat.le_of_ble_eq_true rfl, Nat.le_of_ble_eq_true rfl⟩) hK hW hA rfl hl.1 rfl (lv_room (Nat.le_of_ble_eq_true rfl)) dX9_setReserve_6 ⟨Nat.le_of_ble_eq_true rfl, Nat.le_of_ble_eq_true rfl⟩ (fun H locs hW => ?_)
  refine lv_if_ne (tgt := 16) hX_ hB_ dX9_setReserve_9 (by decide) (fun c9 => ?_) (fun c9 => ?_)
  · have c9 : zf_isIn y 0 999 := ze_bt c9
    exact absurd c9 h
  · have c9 : ¬ (zf_isIn y 0 999) := ze_bf c9
    refine lv_iconst (v := 1) hX_ hB_ dX9_setReserve_12 (by decide) ?_
    refine lv_goto (tgt := 17) hX_ hB_ dX9_setReserve_13 (by decide) ?_
    refine lv_iconst (v := 1) hX_ hB_ dX9_setReserve_17 (by decide) ?_
    refine ze_Vi (As := [.int 1, .int 1]) (rest := []) (ci := 9) (q0 := 0) (k := (RX9, TX9, 39)) S (zr_isThrown l D c d n A B mk th 1 1 1 rfl (if_neg (by decide))) (cwV 2 hts gX9_setReserve_X9_isThrown rfl rfl rfl (by decide +kernel) ⟨Nat.le_of_ble_eq_true rfl, Nat.le_of_ble_eq_true rfl⟩) hK hW hA rfl rfl rfl hl.1 rfl (lv_room (Nat.le_of_ble_eq_true rfl)) dX9_setReserve_18 ⟨Nat.le_of_ble_eq_true rfl, Nat.le_of_ble_eq_true rfl⟩ (fun H locs hW => ?_)
    have hW : ze_W D (ze_wR c d n A B mk 1) F s.heap _ _ := hW
    refine lv_if_eq (tgt := 26) hX_ hB_ dX9_setReserve_21 (by decide) (fun c21 => ?_) (fun c21 => ?_)
    · exact absurd c21 (by decide)
    · refine lv_iconst (v := 0) hX_ hB_ dX9_setReserve_24 (by decide) ?_
      exact ze_iret S hr hlocks hF hK hW rfl dX9_setReserve_25 (Nat.le_of_ble_eq_true rfl) (Nat.le_of_ble_eq_true rfl) rfl rfl
set_option maxHeartbeats 4000000 in
set_option maxRecDepth 100000 in
theorem zr_setReserve_f (l : Launch) (D : va_G) (c : Nat → ClassId) (d n : Nat → Nat) (A : Nat → Nat → Int32) (B : Nat → Int64) (mk : Nat → Int32) (th : Int32) (y : Int32) (h : zf_isIn y 0 999) : ze_I l yX9_setReserve wsX9_setReserve 1 22 0 0 D c (ze_wR c d n A B mk th) [.ref (d 0), .int y] (A 28 0) (ze_wR c d n (ze_sC A 28 y) B mk 0) := by
  intro sz
  refine ze_start (cc := cX9_setReserve) (maxL := 3) (ret := (some .int)) (own := RX9) (by decide) rfl rfl (Nat.le_of_ble_eq_true rfl) ?_
  intro p e s m_ below meth cd F ls hF hsz E0
  obtain ⟨S, hr, hlocks, hK, hW, hA, hl⟩ := E0
  have hX_ := S.1
  have hB_ := S.2.1
  have hts := S.2.2.2.2
  have hl : lv_has ls 3 [(0, .ref (d 0)), (1, .int y)] := hl
  have hiX9 : ∀ w ∈ u_ws RX9 TX9 39, w ∈ wsX9_setReserve := fun _ h => (List.mem_cons_of_mem _ (List.mem_append_right _ h))
  have w0 := hts (.fieldLink RX9 168 "IslandgridModel" "reserve" "I") (List.mem_cons_of_mem _ (List.mem_append_left _ (List.mem_of_getElem? (i := 0) rfl)))
  refine lv_aload_n hX_ hB_ dX9_setReserve_0 rfl (lv_at hl 0 rfl) ?_
  refine lv_iload_n hX_ hB_ dX9_setReserve_1 rfl (lv_at hl 1 rfl) ?_
  refine lv_iconst (v := 0) hX_ hB_ dX9_setReserve_2 (by decide) ?_
  refine lv_sipush (v := 999) hX_ hB_ dX9_setReserve_3 (by decide) ?_
  refine ze_Si (As := [.int y, .int 0, .int 999]) (rest := [.ref (d 0)]) S (zr_isIn l D c (ze_wR c d n A B mk th) y 0 999) (va_cwS 3 hts gX9_setReserve_X9_isIn rfl rfl rfl (by decide +kernel) ⟨Nat.le_of_ble_eq_true rfl, Nat.le_of_ble_eq_true rfl⟩) hK hW hA rfl hl.1 rfl (lv_room (Nat.le_of_ble_eq_true rfl)) dX9_setReserve_6 ⟨Nat.le_of_ble_eq_true rfl, Nat.le_of_ble_eq_true rfl⟩ (fun H locs hW => ?_)
  refine lv_if_ne (tgt := 16) hX_ hB_ dX9_setReserve_9 (by decide) (fun c9 => ?_) (fun c9 => ?_)
  · have c9 : zf_isIn y 0 999 := ze_bt c9
    refine lv_iconst (v := 0) hX_ hB_ dX9_setReserve_16 (by decide) ?_
    refine lv_iconst (v := 1) hX_ hB_ dX9_setReserve_17 (by decide) ?_
    refine ze_Vi (As := [.int 0, .int 1]) (rest := []) (ci := 9) (q0 := 0) (k := (RX9, TX9, 39)) S (zr_isThrown l D c d n A B mk th 0 1 0 rfl (if_pos rfl)) (cwV 2 hts gX9_setReserve_X9_isThrown rfl rfl rfl (by decide +kernel) ⟨Nat.le_of_ble_eq_true rfl, Nat.le_of_ble_eq_true rfl⟩) hK hW hA rfl rfl rfl hl.1 rfl (lv_room (Nat.le_of_ble_eq_true rfl)) dX9_setReserve_18 ⟨Nat.le_of_ble_eq_true rfl, Nat.le_of_ble_eq_true rfl⟩ (fun H locs hW => ?_)
    have hW : ze_W D (ze_wR c d n A B mk 0) F s.heap _ _ := hW
    refine lv_if_eq (tgt := 26) hX_ hB_ dX9_setReserve_21 (by decide) (fun c21 => ?_) (fun c21 => ?_)
    · refine lv_aload_n hX_ hB_ dX9_setReserve_26 rfl (lv_at hl 0 rfl) ?_
      refine ze_get (ci := 9) (C := RX9) (T := TX9) (N := 39) (v := .int (A 28 0)) S hiX9 hK hW 0 rfl rfl 28 (by decide) rfl w0 dX9_setReserve_27 ?_
      refine lv_istore_n (lv' := [(2, .int (A 28 0)), (0, .ref (d 0)), (1, .int y)]) hX_ hB_ dX9_setReserve_30 rfl hl (by decide) rfl (fun ls hl => ?_)
      refine lv_aload_n hX_ hB_ dX9_setReserve_31 rfl (lv_at hl 1 rfl) ?_
      refine lv_iload_n hX_ hB_ dX9_setReserve_32 rfl (lv_at hl 2 rfl) ?_
      refine ze_put (ci := 9) (C := RX9) (T := TX9) (N := 39) (v := .int y) S hiX9 tyX9 tyX9_ok nmX9 hK hW 0 rfl rfl 28 (by decide) (Nat.le_of_ble_eq_true rfl) rfl rfl rfl w0 dX9_setReserve_33 (ze_pR28 y _ _ _ _ _ _ _) (fun H locs hW => ?_)
      have hW : ze_W D (ze_wR c d n (ze_sC A 28 y) B mk 0) F s.heap _ _ := hW
      refine lv_iload_n hX_ hB_ dX9_setReserve_36 rfl (lv_at hl 0 rfl) ?_
      exact ze_iret S hr hlocks hF hK hW rfl dX9_setReserve_37 (Nat.le_of_ble_eq_true rfl) (Nat.le_of_ble_eq_true rfl) rfl rfl
    · exact absurd c21 (by decide)
  · have c9 : ¬ (zf_isIn y 0 999) := ze_bf c9
    exact absurd h c9
set_option maxHeartbeats 4000000 in
set_option maxRecDepth 100000 in
theorem zr_setDelay_t1 (l : Launch) (D : va_G) (c : Nat → ClassId) (d n : Nat → Nat) (A : Nat → Nat → Int32) (B : Nat → Int64) (mk : Nat → Int32) (th : Int32) (y : Int32) (h : ¬ zf_isIn y 0 9) : ze_I l yX9_setDelay wsX9_setDelay 1 22 0 0 D c (ze_wR c d n A B mk th) [.ref (d 0), .int y] 0 (ze_wR c d n A B mk 1) := by
  intro sz
  refine ze_start (cc := cX9_setDelay) (maxL := 3) (ret := (some .int)) (own := RX9) (by decide) rfl rfl (Nat.le_of_ble_eq_true rfl) ?_
  intro p e s m_ below meth cd F ls hF hsz E0
  obtain ⟨S, hr, hlocks, hK, hW, hA, hl⟩ := E0
  have hX_ := S.1
  have hB_ := S.2.1
  have hts := S.2.2.2.2
  have hl : lv_has ls 3 [(0, .ref (d 0)), (1, .int y)] := hl
  refine lv_aload_n hX_ hB_ dX9_setDelay_0 rfl (lv_at hl 0 rfl) ?_
  refine lv_iload_n hX_ hB_ dX9_setDelay_1 rfl (lv_at hl 1 rfl) ?_
  refine lv_iconst (v := 0) hX_ hB_ dX9_setDelay_2 (by decide) ?_
  refine lv_bipush (v := 9) hX_ hB_ dX9_setDelay_3 (by decide) ?_
  refine ze_Si (As := [.int y, .int 0, .int 9]) (rest := [.ref (d 0)]) S (zr_isIn l D c (ze_wR c d n A B mk th) y 0 9) (va_cwS 3 hts gX9_setDelay_X9_isIn rfl rfl rfl (by decide +kernel) ⟨Nat.le_of_ble_eq_true rfl, Nat.le_of_ble_eq_true rfl⟩) hK hW hA rfl hl.1 rfl (lv_room (Nat.le_of_ble_eq_true rfl)) dX9_setDelay_5 ⟨Nat.le_of_ble_eq_true rfl, Nat.le_of_ble_eq_true rfl⟩ (fun H locs hW => ?_)
  refine lv_if_ne (tgt := 15) hX_ hB_ dX9_setDelay_8 (by decide) (fun c8 => ?_) (fun c8 => ?_)
  · have c8 : zf_isIn y 0 9 := ze_bt c8
    exact absurd c8 h
  · have c8 : ¬ (zf_isIn y 0 9) := ze_bf c8
    refine lv_iconst (v := 1) hX_ hB_ dX9_setDelay_11 (by decide) ?_
    refine lv_goto (tgt := 16) hX_ hB_ dX9_setDelay_12 (by decide) ?_
    refine lv_iconst (v := 1) hX_ hB_ dX9_setDelay_16 (by decide) ?_
    refine ze_Vi (As := [.int 1, .int 1]) (rest := []) (ci := 9) (q0 := 0) (k := (RX9, TX9, 39)) S (zr_isThrown l D c d n A B mk th 1 1 1 rfl (if_neg (by decide))) (cwV 2 hts gX9_setDelay_X9_isThrown rfl rfl rfl (by decide +kernel) ⟨Nat.le_of_ble_eq_true rfl, Nat.le_of_ble_eq_true rfl⟩) hK hW hA rfl rfl rfl hl.1 rfl (lv_room (Nat.le_of_ble_eq_true rfl)) dX9_setDelay_17 ⟨Nat.le_of_ble_eq_true rfl, Nat.le_of_ble_eq_true rfl⟩ (fun H locs hW => ?_)
    have hW : ze_W D (ze_wR c d n A B mk 1) F s.heap _ _ := hW
    refine lv_if_eq (tgt := 25) hX_ hB_ dX9_setDelay_20 (by decide) (fun c20 => ?_) (fun c20 => ?_)
    · exact absurd c20 (by decide)
    · refine lv_iconst (v := 0) hX_ hB_ dX9_setDelay_23 (by decide) ?_
      exact ze_iret S hr hlocks hF hK hW rfl dX9_setDelay_24 (Nat.le_of_ble_eq_true rfl) (Nat.le_of_ble_eq_true rfl) rfl rfl
set_option maxHeartbeats 4000000 in
set_option maxRecDepth 100000 in
theorem zr_setDelay_f (l : Launch) (D : va_G) (c : Nat → ClassId) (d n : Nat → Nat) (A : Nat → Nat → Int32) (B : Nat → Int64) (mk : Nat → Int32) (th : Int32) (y : Int32) (h : zf_isIn y 0 9) : ze_I l yX9_setDelay wsX9_setDelay 1 22 0 0 D c (ze_wR c d n A B mk th) [.ref (d 0), .int y] (A 29 0) (ze_wR c d n (ze_sC A 29 y) B mk 0) := by
  intro sz
  refine ze_start (cc := cX9_setDelay) (maxL := 3) (ret := (some .int)) (own := RX9) (by decide) rfl rfl (Nat.le_of_ble_eq_true rfl) ?_
  intro p e s m_ below meth cd F ls hF hsz E0
  obtain ⟨S, hr, hlocks, hK, hW, hA, hl⟩ := E0
  have hX_ := S.1
  have hB_ := S.2.1
  have hts := S.2.2.2.2
  have hl : lv_has ls 3 [(0, .ref (d 0)), (1, .int y)] := hl
  have hiX9 : ∀ w ∈ u_ws RX9 TX9 39, w ∈ wsX9_setDelay := fun _ h => (List.mem_cons_of_mem _ (List.mem_append_right _ h))
  have w0 := hts (.fieldLink RX9 81 "IslandgridModel" "delay" "I") (List.mem_cons_of_mem _ (List.mem_append_left _ (List.mem_of_getElem? (i := 0) rfl)))
  refine lv_aload_n hX_ hB_ dX9_setDelay_0 rfl (lv_at hl 0 rfl) ?_
  refine lv_iload_n hX_ hB_ dX9_setDelay_1 rfl (lv_at hl 1 rfl) ?_
  refine lv_iconst (v := 0) hX_ hB_ dX9_setDelay_2 (by decide) ?_
  refine lv_bipush (v := 9) hX_ hB_ dX9_setDelay_3 (by decide) ?_
  refine ze_Si (As := [.int y, .int 0, .int 9]) (rest := [.ref (d 0)]) S (zr_isIn l D c (ze_wR c d n A B mk th) y 0 9) (va_cwS 3 hts gX9_setDelay_X9_isIn rfl rfl rfl (by decide +kernel) ⟨Nat.le_of_ble_eq_true rfl, Nat.le_of_ble_eq_true rfl⟩) hK hW hA rfl hl.1 rfl (lv_room (Nat.le_of_ble_eq_true rfl)) dX9_setDelay_5 ⟨Nat.le_of_ble_eq_true rfl, Nat.le_of_ble_eq_true rfl⟩ (fun H locs hW => ?_)
  refine lv_if_ne (tgt := 15) hX_ hB_ dX9_setDelay_8 (by decide) (fun c8 => ?_) (fun c8 => ?_)
  · have c8 : zf_isIn y 0 9 := ze_bt c8
    refine lv_iconst (v := 0) hX_ hB_ dX9_setDelay_15 (by decide) ?_
    refine lv_iconst (v := 1) hX_ hB_ dX9_setDelay_16 (by decide) ?_
    refine ze_Vi (As := [.int 0, .int 1]) (rest := []) (ci := 9) (q0 := 0) (k := (RX9, TX9, 39)) S (zr_isThrown l D c d n A B mk th 0 1 0 rfl (if_pos rfl)) (cwV 2 hts gX9_setDelay_X9_isThrown rfl rfl rfl (by decide +kernel) ⟨Nat.le_of_ble_eq_true rfl, Nat.le_of_ble_eq_true rfl⟩) hK hW hA rfl rfl rfl hl.1 rfl (lv_room (Nat.le_of_ble_eq_true rfl)) dX9_setDelay_17 ⟨Nat.le_of_ble_eq_true rfl, Nat.le_of_ble_eq_true rfl⟩ (fun H locs hW => ?_)
    have hW : ze_W D (ze_wR c d n A B mk 0) F s.heap _ _ := hW
    refine lv_if_eq (tgt := 25) hX_ hB_ dX9_setDelay_20 (by decide) (fun c20 => ?_) (fun c20 => ?_)
    · refine lv_aload_n hX_ hB_ dX9_setDelay_25 rfl (lv_at hl 0 rfl) ?_
      refine ze_get (ci := 9) (C := RX9) (T := TX9) (N := 39) (v := .int (A 29 0)) S hiX9 hK hW 0 rfl rfl 29 (by decide) rfl w0 dX9_setDelay_26 ?_
      refine lv_istore_n (lv' := [(2, .int (A 29 0)), (0, .ref (d 0)), (1, .int y)]) hX_ hB_ dX9_setDelay_29 rfl hl (by decide) rfl (fun ls hl => ?_)
      refine lv_aload_n hX_ hB_ dX9_setDelay_30 rfl (lv_at hl 1 rfl) ?_
      refine lv_iload_n hX_ hB_ dX9_setDelay_31 rfl (lv_at hl 2 rfl) ?_
      refine ze_put (ci := 9) (C := RX9) (T := TX9) (N := 39) (v := .int y) S hiX9 tyX9 tyX9_ok nmX9 hK hW 0 rfl rfl 29 (by decide) (Nat.le_of_ble_eq_true rfl) rfl rfl rfl w0 dX9_setDelay_32 (ze_pR29 y _ _ _ _ _ _ _) (fun H locs hW => ?_)
      have hW : ze_W D (ze_wR c d n (ze_sC A 29 y) B mk 0) F s.heap _ _ := hW
      refine lv_iload_n hX_ hB_ dX9_setDelay_35 rfl (lv_at hl 0 rfl) ?_
      exact ze_iret S hr hlocks hF hK hW rfl dX9_setDelay_36 (Nat.le_of_ble_eq_true rfl) (Nat.le_of_ble_eq_true rfl) rfl rfl
    · exact absurd c20 (by decide)
  · have c8 : ¬ (zf_isIn y 0 9) := ze_bf c8
    exact absurd h c8
set_option maxHeartbeats 4000000 in
set_option maxRecDepth 100000 in
theorem zr_bound_t1 (l : Launch) (D : va_G) (c : Nat → ClassId) (d n : Nat → Nat) (A : Nat → Nat → Int32) (B : Nat → Int64) (mk : Nat → Int32) (th : Int32) (x : Int32) (hN : zf_N n) (hx : ¬ zf_isIn x 0 (nI (n 0) - 1)) : ze_I l yX9_bound wsX9_bound 2 43 0 0 D c (ze_wR c d n A B mk th) [.ref (d 0), .int x] 0 (ze_wR c d n A B mk 1) := by
  intro sz
  refine ze_start (cc := cX9_bound) (maxL := 3) (ret := (some .int)) (own := RX9) (by decide) rfl rfl (Nat.le_of_ble_eq_true rfl) ?_
  obtain ⟨hn0, hn1, hn2, hn3, hn4⟩ := id hN
  intro p e s m_ below meth cd F ls hF hsz E0
  obtain ⟨S, hr, hlocks, hK, hW, hA, hl⟩ := E0
  have hX_ := S.1
  have hB_ := S.2.1
  have hts := S.2.2.2.2
  have hl : lv_has ls 3 [(0, .ref (d 0)), (1, .int x)] := hl
  refine lv_aload_n hX_ hB_ dX9_bound_0 rfl (lv_at hl 0 rfl) ?_
  refine lv_iload_n hX_ hB_ dX9_bound_1 rfl (lv_at hl 1 rfl) ?_
  refine ze_Vi (As := [.int x]) (rest := []) (ci := 9) (q0 := 0) (k := (RX9, TX9, 39)) S (zr_isNoSite l D c d n A B mk th x) (cwV 1 hts gX9_bound_X9_isNoSite rfl rfl rfl (by decide +kernel) ⟨Nat.le_of_ble_eq_true rfl, Nat.le_of_ble_eq_true rfl⟩) hK hW hA rfl rfl rfl hl.1 rfl (lv_room (Nat.le_of_ble_eq_true rfl)) dX9_bound_2 ⟨Nat.le_of_ble_eq_true rfl, Nat.le_of_ble_eq_true rfl⟩ (fun H locs hW => ?_)
  have hW : ze_W D (ze_wR c d n A B mk (if zf_isIn x 0 (nI (n 0) - 1) then 0 else 1)) F s.heap _ _ := hW
  refine lv_if_eq (tgt := 10) hX_ hB_ dX9_bound_5 (by decide) (fun c5 => ?_) (fun c5 => ?_)
  · have c5 : ¬ (¬ zf_isIn x 0 (nI (n 0) - 1)) := ze_bf c5
    have c5 : zf_isIn x 0 (nI (n 0) - 1) := Decidable.of_not_not c5
    exact absurd c5 hx
  · have c5 : ¬ zf_isIn x 0 (nI (n 0) - 1) := ze_bt c5
    refine lv_iconst (v := 0) hX_ hB_ dX9_bound_8 (by decide) ?_
    exact ze_iret S hr hlocks hF hK hW rfl dX9_bound_9 (Nat.le_of_ble_eq_true rfl) (Nat.le_of_ble_eq_true rfl) rfl (by simp only [ze_b, eq_false hx, eq_false c5, not_true_eq_false, not_false_eq_true, and_true, true_and, and_false, false_and, or_true, true_or, or_false, false_or, and_self, or_self, Decidable.not_not, if_true, if_false, reduceIte, reduceCtorEq, ne_eq, eq_self, Int32.lt_irrefl, Int32.le_refl, Nat.lt_irrefl])
set_option maxHeartbeats 4000000 in
set_option maxRecDepth 100000 in
theorem zr_bound_f (l : Launch) (D : va_G) (c : Nat → ClassId) (d n : Nat → Nat) (A : Nat → Nat → Int32) (B : Nat → Int64) (mk : Nat → Int32) (th : Int32) (j : Nat) (hN : zf_N n) (hj : j < n 0) (hS : zf_S n A) (hz : ∀ s, n 0 ≤ s → mk s = 0) : ze_I l yX9_bound wsX9_bound 3 57 0 0 D c (ze_wR c d n A B mk th) [.ref (d 0), .int (nI j)] (if zf_tied A (zf_CI n A j) then -1 else zf_bounded n A (zf_CI n A) (zf_CI n A j)) (ze_wR c d n A B (zf_CI n A) 0) := by
  intro sz
  refine ze_start (cc := cX9_bound) (maxL := 3) (ret := (some .int)) (own := RX9) (by decide) rfl rfl (Nat.le_of_ble_eq_true rfl) ?_
  obtain ⟨hn0, hn1, hn2, hn3, hn4⟩ := id hN
  have hinj : zf_isIn (nI j) 0 (nI (n 0) - 1) := zf_isInN hj (by omega)
  intro p e s m_ below meth cd F ls hF hsz E0
  obtain ⟨S, hr, hlocks, hK, hW, hA, hl⟩ := E0
  have hX_ := S.1
  have hB_ := S.2.1
  have hts := S.2.2.2.2
  have hl : lv_has ls 3 [(0, .ref (d 0)), (1, .int (nI j))] := hl
  refine lv_aload_n hX_ hB_ dX9_bound_0 rfl (lv_at hl 0 rfl) ?_
  refine lv_iload_n hX_ hB_ dX9_bound_1 rfl (lv_at hl 1 rfl) ?_
  refine ze_Vi (As := [.int (nI j)]) (rest := []) (ci := 9) (q0 := 0) (k := (RX9, TX9, 39)) S (zr_isNoSite l D c d n A B mk th (nI j)) (cwV 1 hts gX9_bound_X9_isNoSite rfl rfl rfl (by decide +kernel) ⟨Nat.le_of_ble_eq_true rfl, Nat.le_of_ble_eq_true rfl⟩) hK hW hA rfl rfl rfl hl.1 rfl (lv_room (Nat.le_of_ble_eq_true rfl)) dX9_bound_2 ⟨Nat.le_of_ble_eq_true rfl, Nat.le_of_ble_eq_true rfl⟩ (fun H locs hW => ?_)
  have hW : ze_W D (ze_wR c d n A B mk (if zf_isIn (nI j) 0 (nI (n 0) - 1) then 0 else 1)) F s.heap _ _ := hW
  refine lv_if_eq (tgt := 10) hX_ hB_ dX9_bound_5 (by decide) (fun c5 => ?_) (fun c5 => ?_)
  · have c5 : ¬ (¬ zf_isIn (nI j) 0 (nI (n 0) - 1)) := ze_bf c5
    have c5 : zf_isIn (nI j) 0 (nI (n 0) - 1) := Decidable.of_not_not c5
    refine lv_aload_n hX_ hB_ dX9_bound_10 rfl (lv_at hl 0 rfl) ?_
    refine lv_iload_n hX_ hB_ dX9_bound_11 rfl (lv_at hl 1 rfl) ?_
    refine ze_Vi (As := [.int (nI j)]) (rest := []) (ci := 9) (q0 := 0) (k := (RX9, TX9, 39)) S (zr_islandOf l D c d n A B mk (if zf_isIn (nI j) 0 (nI (n 0) - 1) then 0 else 1) (nI j) hN hS hz ⟨j, by omega, rfl⟩) (cwV 1 hts gX9_bound_X9_islandOf rfl rfl rfl (by decide +kernel) ⟨Nat.le_of_ble_eq_true rfl, Nat.le_of_ble_eq_true rfl⟩) hK hW hA rfl rfl rfl hl.1 rfl (lv_room (Nat.le_of_ble_eq_true rfl)) dX9_bound_12 ⟨Nat.le_of_ble_eq_true rfl, Nat.le_of_ble_eq_true rfl⟩ (fun H locs hW => ?_)
    have hW : ze_W D (ze_wR c d n A B (zf_CI n A) (if zf_isIn (nI j) 0 (nI (n 0) - 1) then 0 else 1)) F s.heap _ _ := hW
    refine ze_top (congrArg (zf_CI n A) (zf_ixN (j := j) (by omega))) ?_
    refine lv_istore_n (lv' := [(2, .int (zf_CI n A j)), (0, .ref (d 0)), (1, .int (nI j))]) hX_ hB_ dX9_bound_15 rfl hl (by decide) rfl (fun ls hl => ?_)
    refine lv_aload_n hX_ hB_ dX9_bound_16 rfl (lv_at hl 1 rfl) ?_
    refine lv_iload_n hX_ hB_ dX9_bound_17 rfl (lv_at hl 0 rfl) ?_
    refine ze_Vi (As := [.int (zf_CI n A j)]) (rest := []) (ci := 9) (q0 := 0) (k := (RX9, TX9, 39)) S (zr_isTiedOne l D c d n A B (zf_CI n A) (if zf_isIn (nI j) 0 (nI (n 0) - 1) then 0 else 1) (zf_CI n A j)) (cwV 1 hts gX9_bound_X9_isTiedOne rfl rfl rfl (by decide +kernel) ⟨Nat.le_of_ble_eq_true rfl, Nat.le_of_ble_eq_true rfl⟩) hK hW hA rfl rfl rfl hl.1 rfl (lv_room (Nat.le_of_ble_eq_true rfl)) dX9_bound_18 ⟨Nat.le_of_ble_eq_true rfl, Nat.le_of_ble_eq_true rfl⟩ (fun H locs hW => ?_)
    refine lv_if_eq (tgt := 28) hX_ hB_ dX9_bound_21 (by decide) (fun c21 => ?_) (fun c21 => ?_)
    · have c21 : ¬ (zf_tied A (zf_CI n A j)) := ze_bf c21
      refine lv_aload_n hX_ hB_ dX9_bound_28 rfl (lv_at hl 1 rfl) ?_
      refine lv_iload_n hX_ hB_ dX9_bound_29 rfl (lv_at hl 0 rfl) ?_
      refine ze_Vi (As := [.int (zf_CI n A j)]) (rest := []) (ci := 9) (q0 := 0) (k := (RX9, TX9, 39)) S (zr_bounded l D c d n A B (zf_CI n A) (if zf_isIn (nI j) 0 (nI (n 0) - 1) then 0 else 1) (zf_CI n A j) hN hS) (cwV 1 hts gX9_bound_X9_bounded rfl rfl rfl (by decide +kernel) ⟨Nat.le_of_ble_eq_true rfl, Nat.le_of_ble_eq_true rfl⟩) hK hW hA rfl rfl rfl hl.1 rfl (lv_room (Nat.le_of_ble_eq_true rfl)) dX9_bound_30 ⟨Nat.le_of_ble_eq_true rfl, Nat.le_of_ble_eq_true rfl⟩ (fun H locs hW => ?_)
      exact ze_iret S hr hlocks hF hK hW rfl dX9_bound_33 (Nat.le_of_ble_eq_true rfl) (Nat.le_of_ble_eq_true rfl) (by simp only [ze_b, eq_true hinj, eq_true c5, eq_false c21, not_true_eq_false, not_false_eq_true, and_true, true_and, and_false, false_and, or_true, true_or, or_false, false_or, and_self, or_self, Decidable.not_not, if_true, if_false, reduceIte, reduceCtorEq, ne_eq, eq_self, Int32.lt_irrefl, Int32.le_refl, Nat.lt_irrefl]) (by simp only [ze_b, eq_true hinj, eq_true c5, eq_false c21, not_true_eq_false, not_false_eq_true, and_true, true_and, and_false, false_and, or_true, true_or, or_false, false_or, and_self, or_self, Decidable.not_not, if_true, if_false, reduceIte, reduceCtorEq, ne_eq, eq_self, Int32.lt_irrefl, Int32.le_refl, Nat.lt_irrefl])
    · have c21 : zf_tied A (zf_CI n A j) := ze_bt c21
      refine lv_iconst (v := (-1)) hX_ hB_ dX9_bound_24 (by decide) ?_
      refine lv_goto (tgt := 33) hX_ hB_ dX9_bound_25 (by decide) ?_
      exact ze_iret S hr hlocks hF hK hW rfl dX9_bound_33 (Nat.le_of_ble_eq_true rfl) (Nat.le_of_ble_eq_true rfl) (by simp only [ze_b, eq_true hinj, eq_true c5, eq_true c21, not_true_eq_false, not_false_eq_true, and_true, true_and, and_false, false_and, or_true, true_or, or_false, false_or, and_self, or_self, Decidable.not_not, if_true, if_false, reduceIte, reduceCtorEq, ne_eq, eq_self, Int32.lt_irrefl, Int32.le_refl, Nat.lt_irrefl]) (by simp only [ze_b, eq_true hinj, eq_true c5, eq_true c21, not_true_eq_false, not_false_eq_true, and_true, true_and, and_false, false_and, or_true, true_or, or_false, false_or, and_self, or_self, Decidable.not_not, if_true, if_false, reduceIte, reduceCtorEq, ne_eq, eq_self, Int32.lt_irrefl, Int32.le_refl, Nat.lt_irrefl])
  · have c5 : ¬ zf_isIn (nI j) 0 (nI (n 0) - 1) := ze_bt c5
    exact absurd hinj c5
set_option maxHeartbeats 4000000 in
set_option maxRecDepth 100000 in
theorem zr_demand_t1 (l : Launch) (D : va_G) (c : Nat → ClassId) (d n : Nat → Nat) (A : Nat → Nat → Int32) (B : Nat → Int64) (mk : Nat → Int32) (th : Int32) (x : Int32) (hN : zf_N n) (hx : ¬ zf_isIn x 0 (nI (n 0) - 1)) : ze_I l yX9_demand wsX9_demand 2 43 0 0 D c (ze_wR c d n A B mk th) [.ref (d 0), .int x] 0 (ze_wR c d n A B mk 1) := by
  intro sz
  refine ze_start (cc := cX9_demand) (maxL := 2) (ret := (some .int)) (own := RX9) (by decide) rfl rfl (Nat.le_of_ble_eq_true rfl) ?_
  obtain ⟨hn0, hn1, hn2, hn3, hn4⟩ := id hN
  intro p e s m_ below meth cd F ls hF hsz E0
  obtain ⟨S, hr, hlocks, hK, hW, hA, hl⟩ := E0
  have hX_ := S.1
  have hB_ := S.2.1
  have hts := S.2.2.2.2
  have hl : lv_has ls 2 [(0, .ref (d 0)), (1, .int x)] := hl
  refine lv_aload_n hX_ hB_ dX9_demand_0 rfl (lv_at hl 0 rfl) ?_
  refine lv_iload_n hX_ hB_ dX9_demand_1 rfl (lv_at hl 1 rfl) ?_
  refine ze_Vi (As := [.int x]) (rest := []) (ci := 9) (q0 := 0) (k := (RX9, TX9, 39)) S (zr_isNoSite l D c d n A B mk th x) (cwV 1 hts gX9_demand_X9_isNoSite rfl rfl rfl (by decide +kernel) ⟨Nat.le_of_ble_eq_true rfl, Nat.le_of_ble_eq_true rfl⟩) hK hW hA rfl rfl rfl hl.1 rfl (lv_room (Nat.le_of_ble_eq_true rfl)) dX9_demand_2 ⟨Nat.le_of_ble_eq_true rfl, Nat.le_of_ble_eq_true rfl⟩ (fun H locs hW => ?_)
  have hW : ze_W D (ze_wR c d n A B mk (if zf_isIn x 0 (nI (n 0) - 1) then 0 else 1)) F s.heap _ _ := hW
  refine lv_if_eq (tgt := 12) hX_ hB_ dX9_demand_5 (by decide) (fun c5 => ?_) (fun c5 => ?_)
  · have c5 : ¬ (¬ zf_isIn x 0 (nI (n 0) - 1)) := ze_bf c5
    have c5 : zf_isIn x 0 (nI (n 0) - 1) := Decidable.of_not_not c5
    exact absurd c5 hx
  · have c5 : ¬ zf_isIn x 0 (nI (n 0) - 1) := ze_bt c5
    refine lv_iconst (v := 0) hX_ hB_ dX9_demand_8 (by decide) ?_
    refine lv_goto (tgt := 21) hX_ hB_ dX9_demand_9 (by decide) ?_
    exact ze_iret S hr hlocks hF hK hW rfl dX9_demand_21 (Nat.le_of_ble_eq_true rfl) (Nat.le_of_ble_eq_true rfl) rfl (by simp only [ze_b, eq_false hx, eq_false c5, not_true_eq_false, not_false_eq_true, and_true, true_and, and_false, false_and, or_true, true_or, or_false, false_or, and_self, or_self, Decidable.not_not, if_true, if_false, reduceIte, reduceCtorEq, ne_eq, eq_self, Int32.lt_irrefl, Int32.le_refl, Nat.lt_irrefl])
set_option maxHeartbeats 4000000 in
set_option maxRecDepth 100000 in
theorem zr_demand_f (l : Launch) (D : va_G) (c : Nat → ClassId) (d n : Nat → Nat) (A : Nat → Nat → Int32) (B : Nat → Int64) (mk : Nat → Int32) (th : Int32) (j : Nat) (hN : zf_N n) (hj : j < n 0) (hS : zf_S n A) (hz : ∀ s, n 0 ≤ s → mk s = 0) : ze_I l yX9_demand wsX9_demand 3 57 0 0 D c (ze_wR c d n A B mk th) [.ref (d 0), .int (nI j)] (zf_demanded A (zf_CI n A) (zf_CI n A j) (n 4)) (ze_wR c d n A B (zf_CI n A) 0) := by
  intro sz
  refine ze_start (cc := cX9_demand) (maxL := 2) (ret := (some .int)) (own := RX9) (by decide) rfl rfl (Nat.le_of_ble_eq_true rfl) ?_
  obtain ⟨hn0, hn1, hn2, hn3, hn4⟩ := id hN
  have hinj : zf_isIn (nI j) 0 (nI (n 0) - 1) := zf_isInN hj (by omega)
  intro p e s m_ below meth cd F ls hF hsz E0
  obtain ⟨S, hr, hlocks, hK, hW, hA, hl⟩ := E0
  have hX_ := S.1
  have hB_ := S.2.1
  have hts := S.2.2.2.2
  have hl : lv_has ls 2 [(0, .ref (d 0)), (1, .int (nI j))] := hl
  refine lv_aload_n hX_ hB_ dX9_demand_0 rfl (lv_at hl 0 rfl) ?_
  refine lv_iload_n hX_ hB_ dX9_demand_1 rfl (lv_at hl 1 rfl) ?_
  refine ze_Vi (As := [.int (nI j)]) (rest := []) (ci := 9) (q0 := 0) (k := (RX9, TX9, 39)) S (zr_isNoSite l D c d n A B mk th (nI j)) (cwV 1 hts gX9_demand_X9_isNoSite rfl rfl rfl (by decide +kernel) ⟨Nat.le_of_ble_eq_true rfl, Nat.le_of_ble_eq_true rfl⟩) hK hW hA rfl rfl rfl hl.1 rfl (lv_room (Nat.le_of_ble_eq_true rfl)) dX9_demand_2 ⟨Nat.le_of_ble_eq_true rfl, Nat.le_of_ble_eq_true rfl⟩ (fun H locs hW => ?_)
  have hW : ze_W D (ze_wR c d n A B mk (if zf_isIn (nI j) 0 (nI (n 0) - 1) then 0 else 1)) F s.heap _ _ := hW
  refine lv_if_eq (tgt := 12) hX_ hB_ dX9_demand_5 (by decide) (fun c5 => ?_) (fun c5 => ?_)
  · have c5 : ¬ (¬ zf_isIn (nI j) 0 (nI (n 0) - 1)) := ze_bf c5
    have c5 : zf_isIn (nI j) 0 (nI (n 0) - 1) := Decidable.of_not_not c5
    refine lv_aload_n hX_ hB_ dX9_demand_12 rfl (lv_at hl 0 rfl) ?_
    refine lv_aload_n hX_ hB_ dX9_demand_13 rfl (lv_at hl 0 rfl) ?_
    refine lv_iload_n hX_ hB_ dX9_demand_14 rfl (lv_at hl 1 rfl) ?_
    refine ze_Vi (As := [.int (nI j)]) (rest := [.ref (d 0)]) (ci := 9) (q0 := 0) (k := (RX9, TX9, 39)) S (zr_islandOf l D c d n A B mk (if zf_isIn (nI j) 0 (nI (n 0) - 1) then 0 else 1) (nI j) hN hS hz ⟨j, by omega, rfl⟩) (cwV 1 hts gX9_demand_X9_islandOf rfl rfl rfl (by decide +kernel) ⟨Nat.le_of_ble_eq_true rfl, Nat.le_of_ble_eq_true rfl⟩) hK hW hA rfl rfl rfl hl.1 rfl (lv_room (Nat.le_of_ble_eq_true rfl)) dX9_demand_15 ⟨Nat.le_of_ble_eq_true rfl, Nat.le_of_ble_eq_true rfl⟩ (fun H locs hW => ?_)
    have hW : ze_W D (ze_wR c d n A B (zf_CI n A) (if zf_isIn (nI j) 0 (nI (n 0) - 1) then 0 else 1)) F s.heap _ _ := hW
    refine ze_top (congrArg (zf_CI n A) (zf_ixN (j := j) (by omega))) ?_
    refine ze_Vi (As := [.int (zf_CI n A j)]) (rest := []) (ci := 9) (q0 := 0) (k := (RX9, TX9, 39)) S (zr_demanded l D c d n A B (zf_CI n A) (if zf_isIn (nI j) 0 (nI (n 0) - 1) then 0 else 1) (zf_CI n A j) hN hS) (cwV 1 hts gX9_demand_X9_demanded rfl rfl rfl (by decide +kernel) ⟨Nat.le_of_ble_eq_true rfl, Nat.le_of_ble_eq_true rfl⟩) hK hW hA rfl rfl rfl hl.1 rfl (lv_room (Nat.le_of_ble_eq_true rfl)) dX9_demand_18 ⟨Nat.le_of_ble_eq_true rfl, Nat.le_of_ble_eq_true rfl⟩ (fun H locs hW => ?_)
    exact ze_iret S hr hlocks hF hK hW rfl dX9_demand_21 (Nat.le_of_ble_eq_true rfl) (Nat.le_of_ble_eq_true rfl) rfl (by simp only [ze_b, eq_true hinj, eq_true c5, not_true_eq_false, not_false_eq_true, and_true, true_and, and_false, false_and, or_true, true_or, or_false, false_or, and_self, or_self, Decidable.not_not, if_true, if_false, reduceIte, reduceCtorEq, ne_eq, eq_self, Int32.lt_irrefl, Int32.le_refl, Nat.lt_irrefl])
  · have c5 : ¬ zf_isIn (nI j) 0 (nI (n 0) - 1) := ze_bt c5
    exact absurd hinj c5
set_option maxHeartbeats 4000000 in
set_option maxRecDepth 100000 in
theorem zr_isKept_t1 (l : Launch) (D : va_G) (c : Nat → ClassId) (d n : Nat → Nat) (A : Nat → Nat → Int32) (B : Nat → Int64) (mk : Nat → Int32) (th : Int32) (x : Int32) (hN : zf_N n) (hx : ¬ zf_isIn x 0 (nI (n 4) - 1)) (hS : zf_S n A) (hz : ∀ s, n 0 ≤ s → mk s = 0) : ze_I l yX9_isKept wsX9_isKept 2 43 0 0 D c (ze_wR c d n A B mk th) [.ref (d 0), .int x] 0 (ze_wR c d n A B (zf_CI n A) 1) := by
  intro sz
  refine ze_start (cc := cX9_isKept) (maxL := 2) (ret := (some .boolean)) (own := RX9) (by decide) rfl rfl (Nat.le_of_ble_eq_true rfl) ?_
  obtain ⟨hn0, hn1, hn2, hn3, hn4⟩ := id hN
  intro p e s m_ below meth cd F ls hF hsz E0
  obtain ⟨S, hr, hlocks, hK, hW, hA, hl⟩ := E0
  have hX_ := S.1
  have hB_ := S.2.1
  have hts := S.2.2.2.2
  have hl : lv_has ls 2 [(0, .ref (d 0)), (1, .int x)] := hl
  refine lv_aload_n hX_ hB_ dX9_isKept_0 rfl (lv_at hl 0 rfl) ?_
  refine ze_Vv (As := []) (rest := []) (ci := 9) (q0 := 0) (k := (RX9, TX9, 39)) S (zr_marks l D c d n A B mk th hN hS hz) (cwV 0 hts gX9_isKept_X9_marks rfl rfl rfl (by decide +kernel) ⟨Nat.le_of_ble_eq_true rfl, Nat.le_of_ble_eq_true rfl⟩) hK hW hA rfl rfl rfl hl.1 rfl (lv_room (Nat.le_of_ble_eq_true rfl)) dX9_isKept_1 ⟨Nat.le_of_ble_eq_true rfl, Nat.le_of_ble_eq_true rfl⟩ (fun H locs hW => ?_)
  have hW : ze_W D (ze_wR c d n A B (zf_CI n A) th) F s.heap _ _ := hW
  refine lv_aload_n hX_ hB_ dX9_isKept_4 rfl (lv_at hl 0 rfl) ?_
  refine lv_iload_n hX_ hB_ dX9_isKept_5 rfl (lv_at hl 1 rfl) ?_
  refine ze_Vi (As := [.int x]) (rest := []) (ci := 9) (q0 := 0) (k := (RX9, TX9, 39)) S (zr_isNoLoad l D c d n A B (zf_CI n A) th x) (cwV 1 hts gX9_isKept_X9_isNoLoad rfl rfl rfl (by decide +kernel) ⟨Nat.le_of_ble_eq_true rfl, Nat.le_of_ble_eq_true rfl⟩) hK hW hA rfl rfl rfl hl.1 rfl (lv_room (Nat.le_of_ble_eq_true rfl)) dX9_isKept_6 ⟨Nat.le_of_ble_eq_true rfl, Nat.le_of_ble_eq_true rfl⟩ (fun H locs hW => ?_)
  have hW : ze_W D (ze_wR c d n A B (zf_CI n A) (if zf_isIn x 0 (nI (n 4) - 1) then 0 else 1)) F s.heap _ _ := hW
  refine lv_if_ne (tgt := 24) hX_ hB_ dX9_isKept_9 (by decide) (fun c9 => ?_) (fun c9 => ?_)
  · have c9 : ¬ zf_isIn x 0 (nI (n 4) - 1) := ze_bt c9
    refine lv_iconst (v := 0) hX_ hB_ dX9_isKept_24 (by decide) ?_
    exact ze_iret S hr hlocks hF hK hW rfl dX9_isKept_25 (Nat.le_of_ble_eq_true rfl) (Nat.le_of_ble_eq_true rfl) rfl (by simp only [ze_b, eq_false hx, eq_false c9, not_true_eq_false, not_false_eq_true, and_true, true_and, and_false, false_and, or_true, true_or, or_false, false_or, and_self, or_self, Decidable.not_not, if_true, if_false, reduceIte, reduceCtorEq, ne_eq, eq_self, Int32.lt_irrefl, Int32.le_refl, Nat.lt_irrefl])
  · have c9 : ¬ (¬ zf_isIn x 0 (nI (n 4) - 1)) := ze_bf c9
    have c9 : zf_isIn x 0 (nI (n 4) - 1) := Decidable.of_not_not c9
    exact absurd c9 hx
set_option maxHeartbeats 4000000 in
set_option maxRecDepth 100000 in
theorem zr_isKept_f (l : Launch) (D : va_G) (c : Nat → ClassId) (d n : Nat → Nat) (A : Nat → Nat → Int32) (B : Nat → Int64) (mk : Nat → Int32) (th : Int32) (j : Nat) (hN : zf_N n) (hj : j < n 4) (hS : zf_S n A) (hz : ∀ s, n 0 ≤ s → mk s = 0) : ze_I l yX9_isKept wsX9_isKept 3 69 0 0 D c (ze_wR c d n A B mk th) [.ref (d 0), .int (nI j)] (ze_b (zf_keeps n A (zf_CI n A) j)) (ze_wR c d n A B (zf_CI n A) 0) := by
  intro sz
  refine ze_start (cc := cX9_isKept) (maxL := 2) (ret := (some .boolean)) (own := RX9) (by decide) rfl rfl (Nat.le_of_ble_eq_true rfl) ?_
  obtain ⟨hn0, hn1, hn2, hn3, hn4⟩ := id hN
  have hinj : zf_isIn (nI j) 0 (nI (n 4) - 1) := zf_isInN hj (by omega)
  intro p e s m_ below meth cd F ls hF hsz E0
  obtain ⟨S, hr, hlocks, hK, hW, hA, hl⟩ := E0
  have hX_ := S.1
  have hB_ := S.2.1
  have hts := S.2.2.2.2
  have hl : lv_has ls 2 [(0, .ref (d 0)), (1, .int (nI j))] := hl
  refine lv_aload_n hX_ hB_ dX9_isKept_0 rfl (lv_at hl 0 rfl) ?_
  refine ze_Vv (As := []) (rest := []) (ci := 9) (q0 := 0) (k := (RX9, TX9, 39)) S (zr_marks l D c d n A B mk th hN hS hz) (cwV 0 hts gX9_isKept_X9_marks rfl rfl rfl (by decide +kernel) ⟨Nat.le_of_ble_eq_true rfl, Nat.le_of_ble_eq_true rfl⟩) hK hW hA rfl rfl rfl hl.1 rfl (lv_room (Nat.le_of_ble_eq_true rfl)) dX9_isKept_1 ⟨Nat.le_of_ble_eq_true rfl, Nat.le_of_ble_eq_true rfl⟩ (fun H locs hW => ?_)
  have hW : ze_W D (ze_wR c d n A B (zf_CI n A) th) F s.heap _ _ := hW
  refine lv_aload_n hX_ hB_ dX9_isKept_4 rfl (lv_at hl 0 rfl) ?_
  refine lv_iload_n hX_ hB_ dX9_isKept_5 rfl (lv_at hl 1 rfl) ?_
  refine ze_Vi (As := [.int (nI j)]) (rest := []) (ci := 9) (q0 := 0) (k := (RX9, TX9, 39)) S (zr_isNoLoad l D c d n A B (zf_CI n A) th (nI j)) (cwV 1 hts gX9_isKept_X9_isNoLoad rfl rfl rfl (by decide +kernel) ⟨Nat.le_of_ble_eq_true rfl, Nat.le_of_ble_eq_true rfl⟩) hK hW hA rfl rfl rfl hl.1 rfl (lv_room (Nat.le_of_ble_eq_true rfl)) dX9_isKept_6 ⟨Nat.le_of_ble_eq_true rfl, Nat.le_of_ble_eq_true rfl⟩ (fun H locs hW => ?_)
  have hW : ze_W D (ze_wR c d n A B (zf_CI n A) (if zf_isIn (nI j) 0 (nI (n 4) - 1) then 0 else 1)) F s.heap _ _ := hW
  refine lv_if_ne (tgt := 24) hX_ hB_ dX9_isKept_9 (by decide) (fun c9 => ?_) (fun c9 => ?_)
  · have c9 : ¬ zf_isIn (nI j) 0 (nI (n 4) - 1) := ze_bt c9
    exact absurd hinj c9
  · have c9 : ¬ (¬ zf_isIn (nI j) 0 (nI (n 4) - 1)) := ze_bf c9
    have c9 : zf_isIn (nI j) 0 (nI (n 4) - 1) := Decidable.of_not_not c9
    refine lv_aload_n hX_ hB_ dX9_isKept_12 rfl (lv_at hl 0 rfl) ?_
    refine lv_iload_n hX_ hB_ dX9_isKept_13 rfl (lv_at hl 1 rfl) ?_
    refine ze_Vi (As := [.int (nI j)]) (rest := []) (ci := 9) (q0 := 0) (k := (RX9, TX9, 39)) S (zr_keeps l D c d n A B (zf_CI n A) (if zf_isIn (nI j) 0 (nI (n 4) - 1) then 0 else 1) j hN hS (by omega)) (cwV 1 hts gX9_isKept_X9_keeps rfl rfl rfl (by decide +kernel) ⟨Nat.le_of_ble_eq_true rfl, Nat.le_of_ble_eq_true rfl⟩) hK hW hA rfl rfl rfl hl.1 rfl (lv_room (Nat.le_of_ble_eq_true rfl)) dX9_isKept_14 ⟨Nat.le_of_ble_eq_true rfl, Nat.le_of_ble_eq_true rfl⟩ (fun H locs hW => ?_)
    refine lv_if_eq (tgt := 24) hX_ hB_ dX9_isKept_17 (by decide) (fun c17 => ?_) (fun c17 => ?_)
    · have c17 : ¬ (zf_keeps n A (zf_CI n A) j) := ze_bf c17
      refine lv_iconst (v := 0) hX_ hB_ dX9_isKept_24 (by decide) ?_
      exact ze_iret S hr hlocks hF hK hW rfl dX9_isKept_25 (Nat.le_of_ble_eq_true rfl) (Nat.le_of_ble_eq_true rfl) (by simp only [ze_b, eq_true hinj, eq_true c9, eq_false c17, not_true_eq_false, not_false_eq_true, and_true, true_and, and_false, false_and, or_true, true_or, or_false, false_or, and_self, or_self, Decidable.not_not, if_true, if_false, reduceIte, reduceCtorEq, ne_eq, eq_self, Int32.lt_irrefl, Int32.le_refl, Nat.lt_irrefl]) (by simp only [ze_b, eq_true hinj, eq_true c9, eq_false c17, not_true_eq_false, not_false_eq_true, and_true, true_and, and_false, false_and, or_true, true_or, or_false, false_or, and_self, or_self, Decidable.not_not, if_true, if_false, reduceIte, reduceCtorEq, ne_eq, eq_self, Int32.lt_irrefl, Int32.le_refl, Nat.lt_irrefl])
    · have c17 : zf_keeps n A (zf_CI n A) j := ze_bt c17
      refine lv_iconst (v := 1) hX_ hB_ dX9_isKept_20 (by decide) ?_
      refine lv_goto (tgt := 25) hX_ hB_ dX9_isKept_21 (by decide) ?_
      exact ze_iret S hr hlocks hF hK hW rfl dX9_isKept_25 (Nat.le_of_ble_eq_true rfl) (Nat.le_of_ble_eq_true rfl) (by simp only [ze_b, eq_true hinj, eq_true c9, eq_true c17, not_true_eq_false, not_false_eq_true, and_true, true_and, and_false, false_and, or_true, true_or, or_false, false_or, and_self, or_self, Decidable.not_not, if_true, if_false, reduceIte, reduceCtorEq, ne_eq, eq_self, Int32.lt_irrefl, Int32.le_refl, Nat.lt_irrefl]) (by simp only [ze_b, eq_true hinj, eq_true c9, eq_true c17, not_true_eq_false, not_false_eq_true, and_true, true_and, and_false, false_and, or_true, true_or, or_false, false_or, and_self, or_self, Decidable.not_not, if_true, if_false, reduceIte, reduceCtorEq, ne_eq, eq_self, Int32.lt_irrefl, Int32.le_refl, Nat.lt_irrefl])
set_option maxHeartbeats 4000000 in
set_option maxRecDepth 100000 in
theorem zr_barrier_t1 (l : Launch) (D : va_G) (c : Nat → ClassId) (d n : Nat → Nat) (A : Nat → Nat → Int32) (B : Nat → Int64) (mk : Nat → Int32) (th : Int32) (x : Int32) (hN : zf_N n) (hx : ¬ zf_isIn x 0 (nI (n 4) - 1)) (hS : zf_S n A) (hz : ∀ s, n 0 ≤ s → mk s = 0) : ze_I l yX9_barrier wsX9_barrier 2 43 0 0 D c (ze_wR c d n A B mk th) [.ref (d 0), .int x] 0 (ze_wR c d n A B (zf_CI n A) 1) := by
  intro sz
  refine ze_start (cc := cX9_barrier) (maxL := 2) (ret := (some .int)) (own := RX9) (by decide) rfl rfl (Nat.le_of_ble_eq_true rfl) ?_
  obtain ⟨hn0, hn1, hn2, hn3, hn4⟩ := id hN
  intro p e s m_ below meth cd F ls hF hsz E0
  obtain ⟨S, hr, hlocks, hK, hW, hA, hl⟩ := E0
  have hX_ := S.1
  have hB_ := S.2.1
  have hts := S.2.2.2.2
  have hl : lv_has ls 2 [(0, .ref (d 0)), (1, .int x)] := hl
  refine lv_aload_n hX_ hB_ dX9_barrier_0 rfl (lv_at hl 0 rfl) ?_
  refine ze_Vv (As := []) (rest := []) (ci := 9) (q0 := 0) (k := (RX9, TX9, 39)) S (zr_marks l D c d n A B mk th hN hS hz) (cwV 0 hts gX9_barrier_X9_marks rfl rfl rfl (by decide +kernel) ⟨Nat.le_of_ble_eq_true rfl, Nat.le_of_ble_eq_true rfl⟩) hK hW hA rfl rfl rfl hl.1 rfl (lv_room (Nat.le_of_ble_eq_true rfl)) dX9_barrier_1 ⟨Nat.le_of_ble_eq_true rfl, Nat.le_of_ble_eq_true rfl⟩ (fun H locs hW => ?_)
  have hW : ze_W D (ze_wR c d n A B (zf_CI n A) th) F s.heap _ _ := hW
  refine lv_aload_n hX_ hB_ dX9_barrier_4 rfl (lv_at hl 0 rfl) ?_
  refine lv_iload_n hX_ hB_ dX9_barrier_5 rfl (lv_at hl 1 rfl) ?_
  refine ze_Vi (As := [.int x]) (rest := []) (ci := 9) (q0 := 0) (k := (RX9, TX9, 39)) S (zr_isNoLoad l D c d n A B (zf_CI n A) th x) (cwV 1 hts gX9_barrier_X9_isNoLoad rfl rfl rfl (by decide +kernel) ⟨Nat.le_of_ble_eq_true rfl, Nat.le_of_ble_eq_true rfl⟩) hK hW hA rfl rfl rfl hl.1 rfl (lv_room (Nat.le_of_ble_eq_true rfl)) dX9_barrier_6 ⟨Nat.le_of_ble_eq_true rfl, Nat.le_of_ble_eq_true rfl⟩ (fun H locs hW => ?_)
  have hW : ze_W D (ze_wR c d n A B (zf_CI n A) (if zf_isIn x 0 (nI (n 4) - 1) then 0 else 1)) F s.heap _ _ := hW
  refine lv_if_ne (tgt := 25) hX_ hB_ dX9_barrier_9 (by decide) (fun c9 => ?_) (fun c9 => ?_)
  · have c9 : ¬ zf_isIn x 0 (nI (n 4) - 1) := ze_bt c9
    refine lv_iconst (v := 0) hX_ hB_ dX9_barrier_25 (by decide) ?_
    refine lv_goto (tgt := 34) hX_ hB_ dX9_barrier_26 (by decide) ?_
    exact ze_iret S hr hlocks hF hK hW rfl dX9_barrier_34 (Nat.le_of_ble_eq_true rfl) (Nat.le_of_ble_eq_true rfl) rfl (by simp only [ze_b, eq_false hx, eq_false c9, not_true_eq_false, not_false_eq_true, and_true, true_and, and_false, false_and, or_true, true_or, or_false, false_or, and_self, or_self, Decidable.not_not, if_true, if_false, reduceIte, reduceCtorEq, ne_eq, eq_self, Int32.lt_irrefl, Int32.le_refl, Nat.lt_irrefl])
  · have c9 : ¬ (¬ zf_isIn x 0 (nI (n 4) - 1)) := ze_bf c9
    have c9 : zf_isIn x 0 (nI (n 4) - 1) := Decidable.of_not_not c9
    exact absurd c9 hx
set_option maxHeartbeats 4000000 in
set_option maxRecDepth 100000 in
theorem zr_barrier_t2 (l : Launch) (D : va_G) (c : Nat → ClassId) (d n : Nat → Nat) (A : Nat → Nat → Int32) (B : Nat → Int64) (mk : Nat → Int32) (th : Int32) (j : Nat) (hN : zf_N n) (hj : j < n 4) (hS : zf_S n A) (hz : ∀ s, n 0 ≤ s → mk s = 0) (h : zf_keeps n A (zf_CI n A) j) : ze_I l yX9_barrier wsX9_barrier 3 69 0 0 D c (ze_wR c d n A B mk th) [.ref (d 0), .int (nI j)] 0 (ze_wR c d n A B (zf_CI n A) 2) := by
  intro sz
  refine ze_start (cc := cX9_barrier) (maxL := 2) (ret := (some .int)) (own := RX9) (by decide) rfl rfl (Nat.le_of_ble_eq_true rfl) ?_
  obtain ⟨hn0, hn1, hn2, hn3, hn4⟩ := id hN
  have hinj : zf_isIn (nI j) 0 (nI (n 4) - 1) := zf_isInN hj (by omega)
  intro p e s m_ below meth cd F ls hF hsz E0
  obtain ⟨S, hr, hlocks, hK, hW, hA, hl⟩ := E0
  have hX_ := S.1
  have hB_ := S.2.1
  have hts := S.2.2.2.2
  have hl : lv_has ls 2 [(0, .ref (d 0)), (1, .int (nI j))] := hl
  refine lv_aload_n hX_ hB_ dX9_barrier_0 rfl (lv_at hl 0 rfl) ?_
  refine ze_Vv (As := []) (rest := []) (ci := 9) (q0 := 0) (k := (RX9, TX9, 39)) S (zr_marks l D c d n A B mk th hN hS hz) (cwV 0 hts gX9_barrier_X9_marks rfl rfl rfl (by decide +kernel) ⟨Nat.le_of_ble_eq_true rfl, Nat.le_of_ble_eq_true rfl⟩) hK hW hA rfl rfl rfl hl.1 rfl (lv_room (Nat.le_of_ble_eq_true rfl)) dX9_barrier_1 ⟨Nat.le_of_ble_eq_true rfl, Nat.le_of_ble_eq_true rfl⟩ (fun H locs hW => ?_)
  have hW : ze_W D (ze_wR c d n A B (zf_CI n A) th) F s.heap _ _ := hW
  refine lv_aload_n hX_ hB_ dX9_barrier_4 rfl (lv_at hl 0 rfl) ?_
  refine lv_iload_n hX_ hB_ dX9_barrier_5 rfl (lv_at hl 1 rfl) ?_
  refine ze_Vi (As := [.int (nI j)]) (rest := []) (ci := 9) (q0 := 0) (k := (RX9, TX9, 39)) S (zr_isNoLoad l D c d n A B (zf_CI n A) th (nI j)) (cwV 1 hts gX9_barrier_X9_isNoLoad rfl rfl rfl (by decide +kernel) ⟨Nat.le_of_ble_eq_true rfl, Nat.le_of_ble_eq_true rfl⟩) hK hW hA rfl rfl rfl hl.1 rfl (lv_room (Nat.le_of_ble_eq_true rfl)) dX9_barrier_6 ⟨Nat.le_of_ble_eq_true rfl, Nat.le_of_ble_eq_true rfl⟩ (fun H locs hW => ?_)
  have hW : ze_W D (ze_wR c d n A B (zf_CI n A) (if zf_isIn (nI j) 0 (nI (n 4) - 1) then 0 else 1)) F s.heap _ _ := hW
  refine lv_if_ne (tgt := 25) hX_ hB_ dX9_barrier_9 (by decide) (fun c9 => ?_) (fun c9 => ?_)
  · have c9 : ¬ zf_isIn (nI j) 0 (nI (n 4) - 1) := ze_bt c9
    exact absurd hinj c9
  · have c9 : ¬ (¬ zf_isIn (nI j) 0 (nI (n 4) - 1)) := ze_bf c9
    have c9 : zf_isIn (nI j) 0 (nI (n 4) - 1) := Decidable.of_not_not c9
    refine lv_aload_n hX_ hB_ dX9_barrier_12 rfl (lv_at hl 0 rfl) ?_
    refine lv_aload_n hX_ hB_ dX9_barrier_13 rfl (lv_at hl 0 rfl) ?_
    refine lv_iload_n hX_ hB_ dX9_barrier_14 rfl (lv_at hl 1 rfl) ?_
    refine ze_Vi (As := [.int (nI j)]) (rest := [.ref (d 0)]) (ci := 9) (q0 := 0) (k := (RX9, TX9, 39)) S (zr_keeps l D c d n A B (zf_CI n A) (if zf_isIn (nI j) 0 (nI (n 4) - 1) then 0 else 1) j hN hS (by omega)) (cwV 1 hts gX9_barrier_X9_keeps rfl rfl rfl (by decide +kernel) ⟨Nat.le_of_ble_eq_true rfl, Nat.le_of_ble_eq_true rfl⟩) hK hW hA rfl rfl rfl hl.1 rfl (lv_room (Nat.le_of_ble_eq_true rfl)) dX9_barrier_15 ⟨Nat.le_of_ble_eq_true rfl, Nat.le_of_ble_eq_true rfl⟩ (fun H locs hW => ?_)
    refine lv_iconst (v := 2) hX_ hB_ dX9_barrier_18 (by decide) ?_
    refine ze_Vi (As := [.int (ze_b (zf_keeps n A (zf_CI n A) j)), .int 2]) (rest := []) (ci := 9) (q0 := 0) (k := (RX9, TX9, 39)) S (zr_isThrown l D c d n A B (zf_CI n A) (if zf_isIn (nI j) 0 (nI (n 4) - 1) then 0 else 1) (ze_b (zf_keeps n A (zf_CI n A) j)) 2 (if zf_keeps n A (zf_CI n A) j then 2 else 0) ze_narb ze_thP) (cwV 2 hts gX9_barrier_X9_isThrown rfl rfl rfl (by decide +kernel) ⟨Nat.le_of_ble_eq_true rfl, Nat.le_of_ble_eq_true rfl⟩) hK hW hA rfl rfl rfl hl.1 rfl (lv_room (Nat.le_of_ble_eq_true rfl)) dX9_barrier_19 ⟨Nat.le_of_ble_eq_true rfl, Nat.le_of_ble_eq_true rfl⟩ (fun H locs hW => ?_)
    have hW : ze_W D (ze_wR c d n A B (zf_CI n A) (if zf_keeps n A (zf_CI n A) j then 2 else 0)) F s.heap _ _ := hW
    refine lv_if_eq (tgt := 29) hX_ hB_ dX9_barrier_22 (by decide) (fun c22 => ?_) (fun c22 => ?_)
    · have c22 : ¬ (zf_keeps n A (zf_CI n A) j) := ze_bf c22
      exact absurd h c22
    · have c22 : zf_keeps n A (zf_CI n A) j := ze_bt c22
      refine lv_iconst (v := 0) hX_ hB_ dX9_barrier_25 (by decide) ?_
      refine lv_goto (tgt := 34) hX_ hB_ dX9_barrier_26 (by decide) ?_
      exact ze_iret S hr hlocks hF hK hW rfl dX9_barrier_34 (Nat.le_of_ble_eq_true rfl) (Nat.le_of_ble_eq_true rfl) rfl (by simp only [ze_b, eq_true hinj, eq_true h, eq_true c9, eq_true c22, not_true_eq_false, not_false_eq_true, and_true, true_and, and_false, false_and, or_true, true_or, or_false, false_or, and_self, or_self, Decidable.not_not, if_true, if_false, reduceIte, reduceCtorEq, ne_eq, eq_self, Int32.lt_irrefl, Int32.le_refl, Nat.lt_irrefl])
set_option maxHeartbeats 4000000 in
set_option maxRecDepth 100000 in
theorem zr_barrier_f (l : Launch) (D : va_G) (c : Nat → ClassId) (d n : Nat → Nat) (A : Nat → Nat → Int32) (B : Nat → Int64) (mk : Nat → Int32) (th : Int32) (j : Nat) (hN : zf_N n) (hj : j < n 4) (hS : zf_S n A) (hz : ∀ s, n 0 ≤ s → mk s = 0) (h : ¬ zf_keeps n A (zf_CI n A) j) : ze_I l yX9_barrier wsX9_barrier 4 92 0 0 D c (ze_wR c d n A B mk th) [.ref (d 0), .int (nI j)] (nI (zf_off n A (zf_CI n A) j (n 4))) (ze_wR c d n A B (zf_CI n A) 0) := by
  intro sz
  refine ze_start (cc := cX9_barrier) (maxL := 2) (ret := (some .int)) (own := RX9) (by decide) rfl rfl (Nat.le_of_ble_eq_true rfl) ?_
  obtain ⟨hn0, hn1, hn2, hn3, hn4⟩ := id hN
  have hinj : zf_isIn (nI j) 0 (nI (n 4) - 1) := zf_isInN hj (by omega)
  intro p e s m_ below meth cd F ls hF hsz E0
  obtain ⟨S, hr, hlocks, hK, hW, hA, hl⟩ := E0
  have hX_ := S.1
  have hB_ := S.2.1
  have hts := S.2.2.2.2
  have hl : lv_has ls 2 [(0, .ref (d 0)), (1, .int (nI j))] := hl
  refine lv_aload_n hX_ hB_ dX9_barrier_0 rfl (lv_at hl 0 rfl) ?_
  refine ze_Vv (As := []) (rest := []) (ci := 9) (q0 := 0) (k := (RX9, TX9, 39)) S (zr_marks l D c d n A B mk th hN hS hz) (cwV 0 hts gX9_barrier_X9_marks rfl rfl rfl (by decide +kernel) ⟨Nat.le_of_ble_eq_true rfl, Nat.le_of_ble_eq_true rfl⟩) hK hW hA rfl rfl rfl hl.1 rfl (lv_room (Nat.le_of_ble_eq_true rfl)) dX9_barrier_1 ⟨Nat.le_of_ble_eq_true rfl, Nat.le_of_ble_eq_true rfl⟩ (fun H locs hW => ?_)
  have hW : ze_W D (ze_wR c d n A B (zf_CI n A) th) F s.heap _ _ := hW
  refine lv_aload_n hX_ hB_ dX9_barrier_4 rfl (lv_at hl 0 rfl) ?_
  refine lv_iload_n hX_ hB_ dX9_barrier_5 rfl (lv_at hl 1 rfl) ?_
  refine ze_Vi (As := [.int (nI j)]) (rest := []) (ci := 9) (q0 := 0) (k := (RX9, TX9, 39)) S (zr_isNoLoad l D c d n A B (zf_CI n A) th (nI j)) (cwV 1 hts gX9_barrier_X9_isNoLoad rfl rfl rfl (by decide +kernel) ⟨Nat.le_of_ble_eq_true rfl, Nat.le_of_ble_eq_true rfl⟩) hK hW hA rfl rfl rfl hl.1 rfl (lv_room (Nat.le_of_ble_eq_true rfl)) dX9_barrier_6 ⟨Nat.le_of_ble_eq_true rfl, Nat.le_of_ble_eq_true rfl⟩ (fun H locs hW => ?_)
  have hW : ze_W D (ze_wR c d n A B (zf_CI n A) (if zf_isIn (nI j) 0 (nI (n 4) - 1) then 0 else 1)) F s.heap _ _ := hW
  refine lv_if_ne (tgt := 25) hX_ hB_ dX9_barrier_9 (by decide) (fun c9 => ?_) (fun c9 => ?_)
  · have c9 : ¬ zf_isIn (nI j) 0 (nI (n 4) - 1) := ze_bt c9
    exact absurd hinj c9
  · have c9 : ¬ (¬ zf_isIn (nI j) 0 (nI (n 4) - 1)) := ze_bf c9
    have c9 : zf_isIn (nI j) 0 (nI (n 4) - 1) := Decidable.of_not_not c9
    refine lv_aload_n hX_ hB_ dX9_barrier_12 rfl (lv_at hl 0 rfl) ?_
    refine lv_aload_n hX_ hB_ dX9_barrier_13 rfl (lv_at hl 0 rfl) ?_
    refine lv_iload_n hX_ hB_ dX9_barrier_14 rfl (lv_at hl 1 rfl) ?_
    refine ze_Vi (As := [.int (nI j)]) (rest := [.ref (d 0)]) (ci := 9) (q0 := 0) (k := (RX9, TX9, 39)) S (zr_keeps l D c d n A B (zf_CI n A) (if zf_isIn (nI j) 0 (nI (n 4) - 1) then 0 else 1) j hN hS (by omega)) (cwV 1 hts gX9_barrier_X9_keeps rfl rfl rfl (by decide +kernel) ⟨Nat.le_of_ble_eq_true rfl, Nat.le_of_ble_eq_true rfl⟩) hK hW hA rfl rfl rfl hl.1 rfl (lv_room (Nat.le_of_ble_eq_true rfl)) dX9_barrier_15 ⟨Nat.le_of_ble_eq_true rfl, Nat.le_of_ble_eq_true rfl⟩ (fun H locs hW => ?_)
    refine lv_iconst (v := 2) hX_ hB_ dX9_barrier_18 (by decide) ?_
    refine ze_Vi (As := [.int (ze_b (zf_keeps n A (zf_CI n A) j)), .int 2]) (rest := []) (ci := 9) (q0 := 0) (k := (RX9, TX9, 39)) S (zr_isThrown l D c d n A B (zf_CI n A) (if zf_isIn (nI j) 0 (nI (n 4) - 1) then 0 else 1) (ze_b (zf_keeps n A (zf_CI n A) j)) 2 (if zf_keeps n A (zf_CI n A) j then 2 else 0) ze_narb ze_thP) (cwV 2 hts gX9_barrier_X9_isThrown rfl rfl rfl (by decide +kernel) ⟨Nat.le_of_ble_eq_true rfl, Nat.le_of_ble_eq_true rfl⟩) hK hW hA rfl rfl rfl hl.1 rfl (lv_room (Nat.le_of_ble_eq_true rfl)) dX9_barrier_19 ⟨Nat.le_of_ble_eq_true rfl, Nat.le_of_ble_eq_true rfl⟩ (fun H locs hW => ?_)
    have hW : ze_W D (ze_wR c d n A B (zf_CI n A) (if zf_keeps n A (zf_CI n A) j then 2 else 0)) F s.heap _ _ := hW
    refine lv_if_eq (tgt := 29) hX_ hB_ dX9_barrier_22 (by decide) (fun c22 => ?_) (fun c22 => ?_)
    · have c22 : ¬ (zf_keeps n A (zf_CI n A) j) := ze_bf c22
      refine lv_aload_n hX_ hB_ dX9_barrier_29 rfl (lv_at hl 0 rfl) ?_
      refine lv_iload_n hX_ hB_ dX9_barrier_30 rfl (lv_at hl 1 rfl) ?_
      refine ze_Vi (As := [.int (nI j)]) (rest := []) (ci := 9) (q0 := 0) (k := (RX9, TX9, 39)) S (zr_firstOff l D c d n A B (zf_CI n A) (if zf_keeps n A (zf_CI n A) j then 2 else 0) j hN hS (by omega)) (cwV 1 hts gX9_barrier_X9_firstOff rfl rfl rfl (by decide +kernel) ⟨Nat.le_of_ble_eq_true rfl, Nat.le_of_ble_eq_true rfl⟩) hK hW hA rfl rfl rfl hl.1 rfl (lv_room (Nat.le_of_ble_eq_true rfl)) dX9_barrier_31 ⟨Nat.le_of_ble_eq_true rfl, Nat.le_of_ble_eq_true rfl⟩ (fun H locs hW => ?_)
      exact ze_iret S hr hlocks hF hK hW rfl dX9_barrier_34 (Nat.le_of_ble_eq_true rfl) (Nat.le_of_ble_eq_true rfl) rfl (by simp only [ze_b, eq_true hinj, eq_false h, eq_true c9, eq_false c22, not_true_eq_false, not_false_eq_true, and_true, true_and, and_false, false_and, or_true, true_or, or_false, false_or, and_self, or_self, Decidable.not_not, if_true, if_false, reduceIte, reduceCtorEq, ne_eq, eq_self, Int32.lt_irrefl, Int32.le_refl, Nat.lt_irrefl])
    · have c22 : zf_keeps n A (zf_CI n A) j := ze_bt c22
      exact absurd c22 h
set_option maxHeartbeats 4000000 in
set_option maxRecDepth 100000 in
theorem zr_behind_t1 (l : Launch) (D : va_G) (c : Nat → ClassId) (d n : Nat → Nat) (A : Nat → Nat → Int32) (B : Nat → Int64) (mk : Nat → Int32) (th : Int32) (x : Int32) (hN : zf_N n) (hx : ¬ zf_isIn x 0 (nI (n 4) - 1)) (hS : zf_S n A) (hz : ∀ s, n 0 ≤ s → mk s = 0) : ze_I l yX9_behind wsX9_behind 2 43 0 0 D c (ze_wR c d n A B mk th) [.ref (d 0), .int x] 0 (ze_wR c d n A B (zf_CI n A) 1) := by
  intro sz
  refine ze_start (cc := cX9_behind) (maxL := 5) (ret := (some .int)) (own := RX9) (by decide) rfl rfl (Nat.le_of_ble_eq_true rfl) ?_
  obtain ⟨hn0, hn1, hn2, hn3, hn4⟩ := id hN
  intro p e s m_ below meth cd F ls hF hsz E0
  obtain ⟨S, hr, hlocks, hK, hW, hA, hl⟩ := E0
  have hX_ := S.1
  have hB_ := S.2.1
  have hts := S.2.2.2.2
  have hl : lv_has ls 5 [(0, .ref (d 0)), (1, .int x)] := hl
  refine lv_aload_n hX_ hB_ dX9_behind_0 rfl (lv_at hl 0 rfl) ?_
  refine ze_Vv (As := []) (rest := []) (ci := 9) (q0 := 0) (k := (RX9, TX9, 39)) S (zr_marks l D c d n A B mk th hN hS hz) (cwV 0 hts gX9_behind_X9_marks rfl rfl rfl (by decide +kernel) ⟨Nat.le_of_ble_eq_true rfl, Nat.le_of_ble_eq_true rfl⟩) hK hW hA rfl rfl rfl hl.1 rfl (lv_room (Nat.le_of_ble_eq_true rfl)) dX9_behind_1 ⟨Nat.le_of_ble_eq_true rfl, Nat.le_of_ble_eq_true rfl⟩ (fun H locs hW => ?_)
  have hW : ze_W D (ze_wR c d n A B (zf_CI n A) th) F s.heap _ _ := hW
  refine lv_aload_n hX_ hB_ dX9_behind_4 rfl (lv_at hl 0 rfl) ?_
  refine lv_iload_n hX_ hB_ dX9_behind_5 rfl (lv_at hl 1 rfl) ?_
  refine ze_Vi (As := [.int x]) (rest := []) (ci := 9) (q0 := 0) (k := (RX9, TX9, 39)) S (zr_isNoLoad l D c d n A B (zf_CI n A) th x) (cwV 1 hts gX9_behind_X9_isNoLoad rfl rfl rfl (by decide +kernel) ⟨Nat.le_of_ble_eq_true rfl, Nat.le_of_ble_eq_true rfl⟩) hK hW hA rfl rfl rfl hl.1 rfl (lv_room (Nat.le_of_ble_eq_true rfl)) dX9_behind_6 ⟨Nat.le_of_ble_eq_true rfl, Nat.le_of_ble_eq_true rfl⟩ (fun H locs hW => ?_)
  have hW : ze_W D (ze_wR c d n A B (zf_CI n A) (if zf_isIn x 0 (nI (n 4) - 1) then 0 else 1)) F s.heap _ _ := hW
  refine lv_if_ne (tgt := 25) hX_ hB_ dX9_behind_9 (by decide) (fun c9 => ?_) (fun c9 => ?_)
  · have c9 : ¬ zf_isIn x 0 (nI (n 4) - 1) := ze_bt c9
    refine lv_iconst (v := 0) hX_ hB_ dX9_behind_25 (by decide) ?_
    exact ze_iret S hr hlocks hF hK hW rfl dX9_behind_26 (Nat.le_of_ble_eq_true rfl) (Nat.le_of_ble_eq_true rfl) rfl (by simp only [ze_b, eq_false hx, eq_false c9, not_true_eq_false, not_false_eq_true, and_true, true_and, and_false, false_and, or_true, true_or, or_false, false_or, and_self, or_self, Decidable.not_not, if_true, if_false, reduceIte, reduceCtorEq, ne_eq, eq_self, Int32.lt_irrefl, Int32.le_refl, Nat.lt_irrefl])
  · have c9 : ¬ (¬ zf_isIn x 0 (nI (n 4) - 1)) := ze_bf c9
    have c9 : zf_isIn x 0 (nI (n 4) - 1) := Decidable.of_not_not c9
    exact absurd c9 hx
set_option maxHeartbeats 4000000 in
set_option maxRecDepth 100000 in
theorem zr_behind_t2 (l : Launch) (D : va_G) (c : Nat → ClassId) (d n : Nat → Nat) (A : Nat → Nat → Int32) (B : Nat → Int64) (mk : Nat → Int32) (th : Int32) (j : Nat) (hN : zf_N n) (hj : j < n 4) (hS : zf_S n A) (hz : ∀ s, n 0 ≤ s → mk s = 0) (h : zf_keeps n A (zf_CI n A) j) : ze_I l yX9_behind wsX9_behind 3 69 0 0 D c (ze_wR c d n A B mk th) [.ref (d 0), .int (nI j)] 0 (ze_wR c d n A B (zf_CI n A) 2) := by
  intro sz
  refine ze_start (cc := cX9_behind) (maxL := 5) (ret := (some .int)) (own := RX9) (by decide) rfl rfl (Nat.le_of_ble_eq_true rfl) ?_
  obtain ⟨hn0, hn1, hn2, hn3, hn4⟩ := id hN
  have hinj : zf_isIn (nI j) 0 (nI (n 4) - 1) := zf_isInN hj (by omega)
  intro p e s m_ below meth cd F ls hF hsz E0
  obtain ⟨S, hr, hlocks, hK, hW, hA, hl⟩ := E0
  have hX_ := S.1
  have hB_ := S.2.1
  have hts := S.2.2.2.2
  have hl : lv_has ls 5 [(0, .ref (d 0)), (1, .int (nI j))] := hl
  refine lv_aload_n hX_ hB_ dX9_behind_0 rfl (lv_at hl 0 rfl) ?_
  refine ze_Vv (As := []) (rest := []) (ci := 9) (q0 := 0) (k := (RX9, TX9, 39)) S (zr_marks l D c d n A B mk th hN hS hz) (cwV 0 hts gX9_behind_X9_marks rfl rfl rfl (by decide +kernel) ⟨Nat.le_of_ble_eq_true rfl, Nat.le_of_ble_eq_true rfl⟩) hK hW hA rfl rfl rfl hl.1 rfl (lv_room (Nat.le_of_ble_eq_true rfl)) dX9_behind_1 ⟨Nat.le_of_ble_eq_true rfl, Nat.le_of_ble_eq_true rfl⟩ (fun H locs hW => ?_)
  have hW : ze_W D (ze_wR c d n A B (zf_CI n A) th) F s.heap _ _ := hW
  refine lv_aload_n hX_ hB_ dX9_behind_4 rfl (lv_at hl 0 rfl) ?_
  refine lv_iload_n hX_ hB_ dX9_behind_5 rfl (lv_at hl 1 rfl) ?_
  refine ze_Vi (As := [.int (nI j)]) (rest := []) (ci := 9) (q0 := 0) (k := (RX9, TX9, 39)) S (zr_isNoLoad l D c d n A B (zf_CI n A) th (nI j)) (cwV 1 hts gX9_behind_X9_isNoLoad rfl rfl rfl (by decide +kernel) ⟨Nat.le_of_ble_eq_true rfl, Nat.le_of_ble_eq_true rfl⟩) hK hW hA rfl rfl rfl hl.1 rfl (lv_room (Nat.le_of_ble_eq_true rfl)) dX9_behind_6 ⟨Nat.le_of_ble_eq_true rfl, Nat.le_of_ble_eq_true rfl⟩ (fun H locs hW => ?_)
  have hW : ze_W D (ze_wR c d n A B (zf_CI n A) (if zf_isIn (nI j) 0 (nI (n 4) - 1) then 0 else 1)) F s.heap _ _ := hW
  refine lv_if_ne (tgt := 25) hX_ hB_ dX9_behind_9 (by decide) (fun c9 => ?_) (fun c9 => ?_)
  · have c9 : ¬ zf_isIn (nI j) 0 (nI (n 4) - 1) := ze_bt c9
    exact absurd hinj c9
  · have c9 : ¬ (¬ zf_isIn (nI j) 0 (nI (n 4) - 1)) := ze_bf c9
    have c9 : zf_isIn (nI j) 0 (nI (n 4) - 1) := Decidable.of_not_not c9
    refine lv_aload_n hX_ hB_ dX9_behind_12 rfl (lv_at hl 0 rfl) ?_
    refine lv_aload_n hX_ hB_ dX9_behind_13 rfl (lv_at hl 0 rfl) ?_
    refine lv_iload_n hX_ hB_ dX9_behind_14 rfl (lv_at hl 1 rfl) ?_
    refine ze_Vi (As := [.int (nI j)]) (rest := [.ref (d 0)]) (ci := 9) (q0 := 0) (k := (RX9, TX9, 39)) S (zr_keeps l D c d n A B (zf_CI n A) (if zf_isIn (nI j) 0 (nI (n 4) - 1) then 0 else 1) j hN hS (by omega)) (cwV 1 hts gX9_behind_X9_keeps rfl rfl rfl (by decide +kernel) ⟨Nat.le_of_ble_eq_true rfl, Nat.le_of_ble_eq_true rfl⟩) hK hW hA rfl rfl rfl hl.1 rfl (lv_room (Nat.le_of_ble_eq_true rfl)) dX9_behind_15 ⟨Nat.le_of_ble_eq_true rfl, Nat.le_of_ble_eq_true rfl⟩ (fun H locs hW => ?_)
    refine lv_iconst (v := 2) hX_ hB_ dX9_behind_18 (by decide) ?_
    refine ze_Vi (As := [.int (ze_b (zf_keeps n A (zf_CI n A) j)), .int 2]) (rest := []) (ci := 9) (q0 := 0) (k := (RX9, TX9, 39)) S (zr_isThrown l D c d n A B (zf_CI n A) (if zf_isIn (nI j) 0 (nI (n 4) - 1) then 0 else 1) (ze_b (zf_keeps n A (zf_CI n A) j)) 2 (if zf_keeps n A (zf_CI n A) j then 2 else 0) ze_narb ze_thP) (cwV 2 hts gX9_behind_X9_isThrown rfl rfl rfl (by decide +kernel) ⟨Nat.le_of_ble_eq_true rfl, Nat.le_of_ble_eq_true rfl⟩) hK hW hA rfl rfl rfl hl.1 rfl (lv_room (Nat.le_of_ble_eq_true rfl)) dX9_behind_19 ⟨Nat.le_of_ble_eq_true rfl, Nat.le_of_ble_eq_true rfl⟩ (fun H locs hW => ?_)
    have hW : ze_W D (ze_wR c d n A B (zf_CI n A) (if zf_keeps n A (zf_CI n A) j then 2 else 0)) F s.heap _ _ := hW
    refine lv_if_eq (tgt := 27) hX_ hB_ dX9_behind_22 (by decide) (fun c22 => ?_) (fun c22 => ?_)
    · have c22 : ¬ (zf_keeps n A (zf_CI n A) j) := ze_bf c22
      exact absurd h c22
    · have c22 : zf_keeps n A (zf_CI n A) j := ze_bt c22
      refine lv_iconst (v := 0) hX_ hB_ dX9_behind_25 (by decide) ?_
      exact ze_iret S hr hlocks hF hK hW rfl dX9_behind_26 (Nat.le_of_ble_eq_true rfl) (Nat.le_of_ble_eq_true rfl) rfl (by simp only [ze_b, eq_true hinj, eq_true h, eq_true c9, eq_true c22, not_true_eq_false, not_false_eq_true, and_true, true_and, and_false, false_and, or_true, true_or, or_false, false_or, and_self, or_self, Decidable.not_not, if_true, if_false, reduceIte, reduceCtorEq, ne_eq, eq_self, Int32.lt_irrefl, Int32.le_refl, Nat.lt_irrefl])
set_option maxHeartbeats 4000000 in
set_option maxRecDepth 100000 in
theorem zr_behind_f (l : Launch) (D : va_G) (c : Nat → ClassId) (d n : Nat → Nat) (A : Nat → Nat → Int32) (B : Nat → Int64) (mk : Nat → Int32) (th : Int32) (j : Nat) (hN : zf_N n) (hj : j < n 4) (hS : zf_S n A) (hz : ∀ s, n 0 ≤ s → mk s = 0) (h : ¬ zf_keeps n A (zf_CI n A) j) : ze_I l yX9_behind wsX9_behind 4 92 0 0 D c (ze_wR c d n A B mk th) [.ref (d 0), .int (nI j)] (zf_behind n A (zf_CI n A) j (n 4)) (ze_wR c d n A B (zf_CI n A) 0) := by
  intro sz
  refine ze_start (cc := cX9_behind) (maxL := 5) (ret := (some .int)) (own := RX9) (by decide) rfl rfl (Nat.le_of_ble_eq_true rfl) ?_
  obtain ⟨hn0, hn1, hn2, hn3, hn4⟩ := id hN
  have hinj : zf_isIn (nI j) 0 (nI (n 4) - 1) := zf_isInN hj (by omega)
  have hoff : zf_off n A (zf_CI n A) j (n 4) < n 4 := zf_offlt n A _ hj (Nat.le_refl _)
  intro p e s m_ below meth cd F ls hF hsz E0
  obtain ⟨S, hr, hlocks, hK, hW, hA, hl⟩ := E0
  have hX_ := S.1
  have hB_ := S.2.1
  have hts := S.2.2.2.2
  have hl : lv_has ls 5 [(0, .ref (d 0)), (1, .int (nI j))] := hl
  have hiX9 : ∀ w ∈ u_ws RX9 TX9 39, w ∈ wsX9_behind := fun _ h => (List.mem_cons_of_mem _ (List.mem_append_right _ h))
  have w0 := hts (.fieldLink RX9 108 "IslandgridModel" "loads" "I") (List.mem_cons_of_mem _ (List.mem_append_left _ (List.mem_append_left _ (List.mem_of_getElem? (i := 0) rfl))))
  refine lv_aload_n hX_ hB_ dX9_behind_0 rfl (lv_at hl 0 rfl) ?_
  refine ze_Vv (As := []) (rest := []) (ci := 9) (q0 := 0) (k := (RX9, TX9, 39)) S (zr_marks l D c d n A B mk th hN hS hz) (cwV 0 hts gX9_behind_X9_marks rfl rfl rfl (by decide +kernel) ⟨Nat.le_of_ble_eq_true rfl, Nat.le_of_ble_eq_true rfl⟩) hK hW hA rfl rfl rfl hl.1 rfl (lv_room (Nat.le_of_ble_eq_true rfl)) dX9_behind_1 ⟨Nat.le_of_ble_eq_true rfl, Nat.le_of_ble_eq_true rfl⟩ (fun H locs hW => ?_)
  have hW : ze_W D (ze_wR c d n A B (zf_CI n A) th) F s.heap _ _ := hW
  refine lv_aload_n hX_ hB_ dX9_behind_4 rfl (lv_at hl 0 rfl) ?_
  refine lv_iload_n hX_ hB_ dX9_behind_5 rfl (lv_at hl 1 rfl) ?_
  refine ze_Vi (As := [.int (nI j)]) (rest := []) (ci := 9) (q0 := 0) (k := (RX9, TX9, 39)) S (zr_isNoLoad l D c d n A B (zf_CI n A) th (nI j)) (cwV 1 hts gX9_behind_X9_isNoLoad rfl rfl rfl (by decide +kernel) ⟨Nat.le_of_ble_eq_true rfl, Nat.le_of_ble_eq_true rfl⟩) hK hW hA rfl rfl rfl hl.1 rfl (lv_room (Nat.le_of_ble_eq_true rfl)) dX9_behind_6 ⟨Nat.le_of_ble_eq_true rfl, Nat.le_of_ble_eq_true rfl⟩ (fun H locs hW => ?_)
  have hW : ze_W D (ze_wR c d n A B (zf_CI n A) (if zf_isIn (nI j) 0 (nI (n 4) - 1) then 0 else 1)) F s.heap _ _ := hW
  refine lv_if_ne (tgt := 25) hX_ hB_ dX9_behind_9 (by decide) (fun c9 => ?_) (fun c9 => ?_)
  · have c9 : ¬ zf_isIn (nI j) 0 (nI (n 4) - 1) := ze_bt c9
    exact absurd hinj c9
  · have c9 : ¬ (¬ zf_isIn (nI j) 0 (nI (n 4) - 1)) := ze_bf c9
    have c9 : zf_isIn (nI j) 0 (nI (n 4) - 1) := Decidable.of_not_not c9
    refine lv_aload_n hX_ hB_ dX9_behind_12 rfl (lv_at hl 0 rfl) ?_
    refine lv_aload_n hX_ hB_ dX9_behind_13 rfl (lv_at hl 0 rfl) ?_
    refine lv_iload_n hX_ hB_ dX9_behind_14 rfl (lv_at hl 1 rfl) ?_
    refine ze_Vi (As := [.int (nI j)]) (rest := [.ref (d 0)]) (ci := 9) (q0 := 0) (k := (RX9, TX9, 39)) S (zr_keeps l D c d n A B (zf_CI n A) (if zf_isIn (nI j) 0 (nI (n 4) - 1) then 0 else 1) j hN hS (by omega)) (cwV 1 hts gX9_behind_X9_keeps rfl rfl rfl (by decide +kernel) ⟨Nat.le_of_ble_eq_true rfl, Nat.le_of_ble_eq_true rfl⟩) hK hW hA rfl rfl rfl hl.1 rfl (lv_room (Nat.le_of_ble_eq_true rfl)) dX9_behind_15 ⟨Nat.le_of_ble_eq_true rfl, Nat.le_of_ble_eq_true rfl⟩ (fun H locs hW => ?_)
    refine lv_iconst (v := 2) hX_ hB_ dX9_behind_18 (by decide) ?_
    refine ze_Vi (As := [.int (ze_b (zf_keeps n A (zf_CI n A) j)), .int 2]) (rest := []) (ci := 9) (q0 := 0) (k := (RX9, TX9, 39)) S (zr_isThrown l D c d n A B (zf_CI n A) (if zf_isIn (nI j) 0 (nI (n 4) - 1) then 0 else 1) (ze_b (zf_keeps n A (zf_CI n A) j)) 2 (if zf_keeps n A (zf_CI n A) j then 2 else 0) ze_narb ze_thP) (cwV 2 hts gX9_behind_X9_isThrown rfl rfl rfl (by decide +kernel) ⟨Nat.le_of_ble_eq_true rfl, Nat.le_of_ble_eq_true rfl⟩) hK hW hA rfl rfl rfl hl.1 rfl (lv_room (Nat.le_of_ble_eq_true rfl)) dX9_behind_19 ⟨Nat.le_of_ble_eq_true rfl, Nat.le_of_ble_eq_true rfl⟩ (fun H locs hW => ?_)
    have hW : ze_W D (ze_wR c d n A B (zf_CI n A) (if zf_keeps n A (zf_CI n A) j then 2 else 0)) F s.heap _ _ := hW
    refine lv_if_eq (tgt := 27) hX_ hB_ dX9_behind_22 (by decide) (fun c22 => ?_) (fun c22 => ?_)
    · have c22 : ¬ (zf_keeps n A (zf_CI n A) j) := ze_bf c22
      refine lv_aload_n hX_ hB_ dX9_behind_27 rfl (lv_at hl 0 rfl) ?_
      refine lv_iload_n hX_ hB_ dX9_behind_28 rfl (lv_at hl 1 rfl) ?_
      refine ze_Vi (As := [.int (nI j)]) (rest := []) (ci := 9) (q0 := 0) (k := (RX9, TX9, 39)) S (zr_firstOff l D c d n A B (zf_CI n A) (if zf_keeps n A (zf_CI n A) j then 2 else 0) j hN hS (by omega)) (cwV 1 hts gX9_behind_X9_firstOff rfl rfl rfl (by decide +kernel) ⟨Nat.le_of_ble_eq_true rfl, Nat.le_of_ble_eq_true rfl⟩) hK hW hA rfl rfl rfl hl.1 rfl (lv_room (Nat.le_of_ble_eq_true rfl)) dX9_behind_29 ⟨Nat.le_of_ble_eq_true rfl, Nat.le_of_ble_eq_true rfl⟩ (fun H locs hW => ?_)
      refine lv_istore_n (lv' := [(2, .int (nI (zf_off n A (zf_CI n A) j (n 4)))), (0, .ref (d 0)), (1, .int (nI j))]) hX_ hB_ dX9_behind_32 rfl hl (by decide) rfl (fun ls hl => ?_)
      refine lv_iconst (v := 0) hX_ hB_ dX9_behind_33 (by decide) ?_
      refine lv_istore_n (lv' := [(3, .int 0), (2, .int (nI (zf_off n A (zf_CI n A) j (n 4)))), (0, .ref (d 0)), (1, .int (nI j))]) hX_ hB_ dX9_behind_34 rfl hl (by decide) rfl (fun ls hl => ?_)
      refine lv_iconst (v := 0) hX_ hB_ dX9_behind_35 (by decide) ?_
      refine lv_istore (lv' := [(4, .int 0), (3, .int 0), (2, .int (nI (zf_off n A (zf_CI n A) j (n 4)))), (0, .ref (d 0)), (1, .int (nI j))]) hX_ hB_ dX9_behind_36 hl (by decide) rfl (fun ls hl => ?_)
      have L38 : ∀ (k38 : Nat) (i38 : Nat), (i38 ≤ n 4) → (n 4 - i38) < k38 → ∀ (H : Heap) (locs : List Loc) (ls : Array Slot), ze_W D (ze_wR c d n A B (zf_CI n A) (if zf_keeps n A (zf_CI n A) j then 2 else 0)) F s.heap H locs → lv_has ls 5 [(4, .int (nI i38)), (3, .int (zf_behind n A (zf_CI n A) j i38)), (2, .int (nI (zf_off n A (zf_CI n A) j (n 4)))), (0, .ref (d 0)), (1, .int (nI j))] → W p l e { frames := 4, cells := 0, slots := 0, locals := 92 } s m_ ([.ref (d 0), .int (nI j)] : List Value).toArray below meth cd H locs 0 0 (MQ below (ze_Qi D c (ze_wR c d n A B mk th) sz (zf_behind n A (zf_CI n A) j (n 4)) (ze_wR c d n A B (zf_CI n A) 0)) ([.ref (d 0), .int (nI j)] : List Value).toArray s 0 0 F) (F0 m_ 38 ls []) := by
        intro k38
        induction k38 with
        | zero =>
          intro i38 h38 hk38
          exact absurd hk38 (Nat.not_lt_zero _)
        | succ k38 ih38 =>
          intro i38 h38 hk38 H locs ls hW hl
          refine lv_iload hX_ hB_ dX9_behind_38 (lv_at hl 0 rfl) ?_
          refine lv_aload_n hX_ hB_ dX9_behind_40 rfl (lv_at hl 3 rfl) ?_
          refine ze_get (ci := 9) (C := RX9) (T := TX9) (N := 39) (v := .int (nI (n 4))) S hiX9 hK hW 0 rfl rfl 27 (by decide) rfl w0 dX9_behind_41 ?_
          refine lv_icmp_ge (tgt := 81) hX_ hB_ dX9_behind_44 (by decide) (fun c44 => ?_) (fun c44 => ?_)
          · have c44 : ¬ i38 < (n 4) := Nat.not_lt.mpr ((nI_leI (a := (n 4)) (b := i38) (by omega) (by omega)).mp c44)
            have e38 : i38 = n 4 := by omega
            subst e38
            refine lv_iload_n hX_ hB_ dX9_behind_81 rfl (lv_at hl 1 rfl) ?_
            exact ze_iret S hr hlocks hF hK hW rfl dX9_behind_82 (Nat.le_of_ble_eq_true rfl) (Nat.le_of_ble_eq_true rfl) rfl (by simp only [ze_b, eq_true hinj, eq_false h, eq_true c9, eq_false c22, eq_false c44, not_true_eq_false, not_false_eq_true, and_true, true_and, and_false, false_and, or_true, true_or, or_false, false_or, and_self, or_self, Decidable.not_not, if_true, if_false, reduceIte, reduceCtorEq, ne_eq, eq_self, Int32.lt_irrefl, Int32.le_refl, Nat.lt_irrefl])
          · have c44 : i38 < (n 4) := Nat.lt_of_not_le (fun h9 => c44 ((nI_leI (a := (n 4)) (b := i38) (by omega) (by omega)).mpr h9))
            refine lv_iload_n hX_ hB_ dX9_behind_47 rfl (lv_at hl 1 rfl) ?_
            refine lv_aload_n hX_ hB_ dX9_behind_48 rfl (lv_at hl 3 rfl) ?_
            refine lv_iload hX_ hB_ dX9_behind_49 (lv_at hl 0 rfl) ?_
            refine lv_iload_n hX_ hB_ dX9_behind_51 rfl (lv_at hl 4 rfl) ?_
            refine ze_Vi (As := [.int (nI i38), .int (nI j)]) (rest := [.int (zf_behind n A (zf_CI n A) j i38)]) (ci := 9) (q0 := 0) (k := (RX9, TX9, 39)) S (zr_isAhead l D c d n A B (zf_CI n A) (if zf_keeps n A (zf_CI n A) j then 2 else 0) i38 j hN hS (by omega) (by omega)) (cwV 2 hts gX9_behind_X9_isAhead rfl rfl rfl (by decide +kernel) ⟨Nat.le_of_ble_eq_true rfl, Nat.le_of_ble_eq_true rfl⟩) hK hW hA rfl rfl rfl hl.1 rfl (lv_room (Nat.le_of_ble_eq_true rfl)) dX9_behind_52 ⟨Nat.le_of_ble_eq_true rfl, Nat.le_of_ble_eq_true rfl⟩ (fun H locs hW => ?_)
            refine lv_if_eq (tgt := 72) hX_ hB_ dX9_behind_55 (by decide) (fun c55 => ?_) (fun c55 => ?_)
            · have c55 : ¬ (zf_ahead A (zf_CI n A) i38 j) := ze_bf c55
              refine lv_iconst (v := 0) hX_ hB_ dX9_behind_72 (by decide) ?_
              refine lv_iadd hX_ hB_ dX9_behind_73 ?_
              refine lv_istore_n (lv' := [(3, .int (zf_behind n A (zf_CI n A) j i38 + 0)), (4, .int (nI i38)), (2, .int (nI (zf_off n A (zf_CI n A) j (n 4)))), (0, .ref (d 0)), (1, .int (nI j))]) hX_ hB_ dX9_behind_74 rfl hl (by decide) rfl (fun ls hl => ?_)
              refine lv_iinc (v := nI (i38 + 1)) (lv' := [(4, .int (nI (i38 + 1))), (3, .int (zf_behind n A (zf_CI n A) j i38 + 0)), (2, .int (nI (zf_off n A (zf_CI n A) j (n 4)))), (0, .ref (d 0)), (1, .int (nI j))]) hX_ hB_ dX9_behind_75 hl (k := 1) rfl (ze_inc _) (by decide) rfl (fun ls hl => ?_)
              refine lv_goto (tgt := 38) hX_ hB_ dX9_behind_78 (by decide) ?_
              have eL3 : zf_behind n A (zf_CI n A) j i38 + 0 = zf_behind n A (zf_CI n A) j (i38 + 1) := (by simp only [ze_b, zf_behind, ze_sum, eq_true hinj, eq_false h, eq_true c9, eq_false c22, eq_true c44, eq_false c55, not_true_eq_false, not_false_eq_true, and_true, true_and, and_false, false_and, or_true, true_or, or_false, false_or, and_self, or_self, Decidable.not_not, if_true, if_false, reduceIte, reduceCtorEq, ne_eq, eq_self, Int32.lt_irrefl, Int32.le_refl, Nat.lt_irrefl])
              have hl : lv_has ls 5 [(4, .int (nI (i38 + 1))), (3, .int (zf_behind n A (zf_CI n A) j (i38 + 1))), (2, .int (nI (zf_off n A (zf_CI n A) j (n 4)))), (0, .ref (d 0)), (1, .int (nI j))] := by
                first | (rw [← eL3]; exact hl) | (simp only [← eL3]; exact hl)
              exact ih38 (i38 + 1) (by omega) (by omega) _ _ ls hW (lv_sub hl [0, 1, 2, 3, 4] rfl)
            · have c55 : zf_ahead A (zf_CI n A) i38 j := ze_bt c55
              refine lv_aload_n hX_ hB_ dX9_behind_58 rfl (lv_at hl 3 rfl) ?_
              refine lv_iload hX_ hB_ dX9_behind_59 (lv_at hl 0 rfl) ?_
              refine lv_iload_n hX_ hB_ dX9_behind_61 rfl (lv_at hl 2 rfl) ?_
              refine ze_Vi (As := [.int (nI i38), .int (nI (zf_off n A (zf_CI n A) j (n 4)))]) (rest := [.int (zf_behind n A (zf_CI n A) j i38)]) (ci := 9) (q0 := 0) (k := (RX9, TX9, 39)) S (zr_isAhead l D c d n A B (zf_CI n A) (if zf_keeps n A (zf_CI n A) j then 2 else 0) i38 (zf_off n A (zf_CI n A) j (n 4)) hN hS (by omega) (by omega)) (cwV 2 hts gX9_behind_X9_isAhead rfl rfl rfl (by decide +kernel) ⟨Nat.le_of_ble_eq_true rfl, Nat.le_of_ble_eq_true rfl⟩) hK hW hA rfl rfl rfl hl.1 rfl (lv_room (Nat.le_of_ble_eq_true rfl)) dX9_behind_62 ⟨Nat.le_of_ble_eq_true rfl, Nat.le_of_ble_eq_true rfl⟩ (fun H locs hW => ?_)
              refine lv_if_ne (tgt := 72) hX_ hB_ dX9_behind_65 (by decide) (fun c65 => ?_) (fun c65 => ?_)
              · have c65 : zf_ahead A (zf_CI n A) i38 (zf_off n A (zf_CI n A) j (n 4)) := ze_bt c65
                refine lv_iconst (v := 0) hX_ hB_ dX9_behind_72 (by decide) ?_
                refine lv_iadd hX_ hB_ dX9_behind_73 ?_
                refine lv_istore_n (lv' := [(3, .int (zf_behind n A (zf_CI n A) j i38 + 0)), (4, .int (nI i38)), (2, .int (nI (zf_off n A (zf_CI n A) j (n 4)))), (0, .ref (d 0)), (1, .int (nI j))]) hX_ hB_ dX9_behind_74 rfl hl (by decide) rfl (fun ls hl => ?_)
                refine lv_iinc (v := nI (i38 + 1)) (lv' := [(4, .int (nI (i38 + 1))), (3, .int (zf_behind n A (zf_CI n A) j i38 + 0)), (2, .int (nI (zf_off n A (zf_CI n A) j (n 4)))), (0, .ref (d 0)), (1, .int (nI j))]) hX_ hB_ dX9_behind_75 hl (k := 1) rfl (ze_inc _) (by decide) rfl (fun ls hl => ?_)
                refine lv_goto (tgt := 38) hX_ hB_ dX9_behind_78 (by decide) ?_
                have eL3 : zf_behind n A (zf_CI n A) j i38 + 0 = zf_behind n A (zf_CI n A) j (i38 + 1) := (by simp only [ze_b, zf_behind, ze_sum, eq_true hinj, eq_false h, eq_true c9, eq_false c22, eq_true c44, eq_true c55, eq_true c65, not_true_eq_false, not_false_eq_true, and_true, true_and, and_false, false_and, or_true, true_or, or_false, false_or, and_self, or_self, Decidable.not_not, if_true, if_false, reduceIte, reduceCtorEq, ne_eq, eq_self, Int32.lt_irrefl, Int32.le_refl, Nat.lt_irrefl])
                have hl : lv_has ls 5 [(4, .int (nI (i38 + 1))), (3, .int (zf_behind n A (zf_CI n A) j (i38 + 1))), (2, .int (nI (zf_off n A (zf_CI n A) j (n 4)))), (0, .ref (d 0)), (1, .int (nI j))] := by
                  first | (rw [← eL3]; exact hl) | (simp only [← eL3]; exact hl)
                exact ih38 (i38 + 1) (by omega) (by omega) _ _ ls hW (lv_sub hl [0, 1, 2, 3, 4] rfl)
              · have c65 : ¬ (zf_ahead A (zf_CI n A) i38 (zf_off n A (zf_CI n A) j (n 4))) := ze_bf c65
                refine lv_iconst (v := 1) hX_ hB_ dX9_behind_68 (by decide) ?_
                refine lv_goto (tgt := 73) hX_ hB_ dX9_behind_69 (by decide) ?_
                refine lv_iadd hX_ hB_ dX9_behind_73 ?_
                refine lv_istore_n (lv' := [(3, .int (zf_behind n A (zf_CI n A) j i38 + 1)), (4, .int (nI i38)), (2, .int (nI (zf_off n A (zf_CI n A) j (n 4)))), (0, .ref (d 0)), (1, .int (nI j))]) hX_ hB_ dX9_behind_74 rfl hl (by decide) rfl (fun ls hl => ?_)
                refine lv_iinc (v := nI (i38 + 1)) (lv' := [(4, .int (nI (i38 + 1))), (3, .int (zf_behind n A (zf_CI n A) j i38 + 1)), (2, .int (nI (zf_off n A (zf_CI n A) j (n 4)))), (0, .ref (d 0)), (1, .int (nI j))]) hX_ hB_ dX9_behind_75 hl (k := 1) rfl (ze_inc _) (by decide) rfl (fun ls hl => ?_)
                refine lv_goto (tgt := 38) hX_ hB_ dX9_behind_78 (by decide) ?_
                have eL3 : zf_behind n A (zf_CI n A) j i38 + 1 = zf_behind n A (zf_CI n A) j (i38 + 1) := (by simp only [ze_b, zf_behind, ze_sum, eq_true hinj, eq_false h, eq_true c9, eq_false c22, eq_true c44, eq_true c55, eq_false c65, not_true_eq_false, not_false_eq_true, and_true, true_and, and_false, false_and, or_true, true_or, or_false, false_or, and_self, or_self, Decidable.not_not, if_true, if_false, reduceIte, reduceCtorEq, ne_eq, eq_self, Int32.lt_irrefl, Int32.le_refl, Nat.lt_irrefl])
                have hl : lv_has ls 5 [(4, .int (nI (i38 + 1))), (3, .int (zf_behind n A (zf_CI n A) j (i38 + 1))), (2, .int (nI (zf_off n A (zf_CI n A) j (n 4)))), (0, .ref (d 0)), (1, .int (nI j))] := by
                  first | (rw [← eL3]; exact hl) | (simp only [← eL3]; exact hl)
                exact ih38 (i38 + 1) (by omega) (by omega) _ _ ls hW (lv_sub hl [0, 1, 2, 3, 4] rfl)
      have hl : lv_has ls 5 [(4, .int (nI 0)), (3, .int (zf_behind n A (zf_CI n A) j 0)), (2, .int (nI (zf_off n A (zf_CI n A) j (n 4)))), (0, .ref (d 0)), (1, .int (nI j))] := hl
      have hW : ze_W D (ze_wR c d n A B (zf_CI n A) (if zf_keeps n A (zf_CI n A) j then 2 else 0)) F s.heap _ _ := hW
      exact L38 _ 0 (by omega) (Nat.lt_succ_self _) _ _ ls hW (lv_sub hl [0, 1, 2, 3, 4] rfl)
    · have c22 : zf_keeps n A (zf_CI n A) j := ze_bt c22
      exact absurd c22 h
set_option maxHeartbeats 4000000 in
set_option maxRecDepth 100000 in
theorem zr_now_f (l : Launch) (D : va_G) (c : Nat → ClassId) (d n : Nat → Nat) (A : Nat → Nat → Int32) (B : Nat → Int64) (mk : Nat → Int32) (th : Int32)  : ze_I l yX9_now wsX9_now 0 0 0 0 D c (ze_wR c d n A B mk th) [.ref (d 0)] (A 30 0) (ze_wR c d n A B mk 0) := by
  intro sz
  refine ze_start (cc := cX9_now) (maxL := 1) (ret := (some .int)) (own := RX9) (by decide) rfl rfl (Nat.le_of_ble_eq_true rfl) ?_
  intro p e s m_ below meth cd F ls hF hsz E0
  obtain ⟨S, hr, hlocks, hK, hW, hA, hl⟩ := E0
  have hX_ := S.1
  have hB_ := S.2.1
  have hts := S.2.2.2.2
  have hl : lv_has ls 1 [(0, .ref (d 0))] := hl
  have hiX9 : ∀ w ∈ u_ws RX9 TX9 39, w ∈ wsX9_now := fun _ h => (List.mem_cons_of_mem _ (List.mem_append_right _ h))
  have w0 := hts (.fieldLink RX9 85 "IslandgridModel" "thrown" "I") (List.mem_cons_of_mem _ (List.mem_append_left _ (List.mem_of_getElem? (i := 0) rfl)))
  have w1 := hts (.fieldLink RX9 228 "IslandgridModel" "now" "I") (List.mem_cons_of_mem _ (List.mem_append_left _ (List.mem_of_getElem? (i := 1) rfl)))
  refine lv_aload_n hX_ hB_ dX9_now_0 rfl (lv_at hl 0 rfl) ?_
  refine lv_iconst (v := 0) hX_ hB_ dX9_now_1 (by decide) ?_
  refine ze_put (ci := 9) (C := RX9) (T := TX9) (N := 39) (v := .int 0) S hiX9 tyX9 tyX9_ok nmX9 hK hW 0 rfl rfl 32 (by decide) (Nat.le_of_ble_eq_true rfl) rfl rfl rfl w0 dX9_now_2 (ze_pR32 0 _ _ _ _ _ _ _) (fun H locs hW => ?_)
  have hW : ze_W D (ze_wR c d n A B mk 0) F s.heap _ _ := hW
  refine lv_aload_n hX_ hB_ dX9_now_5 rfl (lv_at hl 0 rfl) ?_
  refine ze_get (ci := 9) (C := RX9) (T := TX9) (N := 39) (v := .int (A 30 0)) S hiX9 hK hW 0 rfl rfl 30 (by decide) rfl w1 dX9_now_6 ?_
  exact ze_iret S hr hlocks hF hK hW rfl dX9_now_9 (Nat.le_of_ble_eq_true rfl) (Nat.le_of_ble_eq_true rfl) rfl rfl
set_option maxHeartbeats 4000000 in
set_option maxRecDepth 100000 in
theorem zr_grid_f (l : Launch) (D : va_G) (c : Nat → ClassId) (d n : Nat → Nat) (A : Nat → Nat → Int32) (B : Nat → Int64) (mk : Nat → Int32) (th : Int32)  : ze_I l yX9_grid wsX9_grid 0 0 0 0 D c (ze_wR c d n A B mk th) [.ref (d 0)] (A 31 0) (ze_wR c d n A B mk 0) := by
  intro sz
  refine ze_start (cc := cX9_grid) (maxL := 1) (ret := (some .int)) (own := RX9) (by decide) rfl rfl (Nat.le_of_ble_eq_true rfl) ?_
  intro p e s m_ below meth cd F ls hF hsz E0
  obtain ⟨S, hr, hlocks, hK, hW, hA, hl⟩ := E0
  have hX_ := S.1
  have hB_ := S.2.1
  have hts := S.2.2.2.2
  have hl : lv_has ls 1 [(0, .ref (d 0))] := hl
  have hiX9 : ∀ w ∈ u_ws RX9 TX9 39, w ∈ wsX9_grid := fun _ h => (List.mem_cons_of_mem _ (List.mem_append_right _ h))
  have w0 := hts (.fieldLink RX9 85 "IslandgridModel" "thrown" "I") (List.mem_cons_of_mem _ (List.mem_append_left _ (List.mem_of_getElem? (i := 0) rfl)))
  have w1 := hts (.fieldLink RX9 219 "IslandgridModel" "grid" "I") (List.mem_cons_of_mem _ (List.mem_append_left _ (List.mem_of_getElem? (i := 1) rfl)))
  refine lv_aload_n hX_ hB_ dX9_grid_0 rfl (lv_at hl 0 rfl) ?_
  refine lv_iconst (v := 0) hX_ hB_ dX9_grid_1 (by decide) ?_
  refine ze_put (ci := 9) (C := RX9) (T := TX9) (N := 39) (v := .int 0) S hiX9 tyX9 tyX9_ok nmX9 hK hW 0 rfl rfl 32 (by decide) (Nat.le_of_ble_eq_true rfl) rfl rfl rfl w0 dX9_grid_2 (ze_pR32 0 _ _ _ _ _ _ _) (fun H locs hW => ?_)
  have hW : ze_W D (ze_wR c d n A B mk 0) F s.heap _ _ := hW
  refine lv_aload_n hX_ hB_ dX9_grid_5 rfl (lv_at hl 0 rfl) ?_
  refine ze_get (ci := 9) (C := RX9) (T := TX9) (N := 39) (v := .int (A 31 0)) S hiX9 hK hW 0 rfl rfl 31 (by decide) rfl w1 dX9_grid_6 ?_
  exact ze_iret S hr hlocks hF hK hW rfl dX9_grid_9 (Nat.le_of_ble_eq_true rfl) (Nat.le_of_ble_eq_true rfl) rfl rfl
set_option maxHeartbeats 4000000 in
set_option maxRecDepth 100000 in
theorem zr_burnt_f (l : Launch) (D : va_G) (c : Nat → ClassId) (d n : Nat → Nat) (A : Nat → Nat → Int32) (B : Nat → Int64) (mk : Nat → Int32) (th : Int32)  : ze_L l yX9_burnt wsX9_burnt 0 0 0 0 D c (ze_wR c d n A B mk th) [.ref (d 0)] (B 33) (ze_wR c d n A B mk 0) := by
  intro sz
  refine ze_start (cc := cX9_burnt) (maxL := 1) (ret := (some .long)) (own := RX9) (by decide) rfl rfl (Nat.le_of_ble_eq_true rfl) ?_
  intro p e s m_ below meth cd F ls hF hsz E0
  obtain ⟨S, hr, hlocks, hK, hW, hA, hl⟩ := E0
  have hX_ := S.1
  have hB_ := S.2.1
  have hts := S.2.2.2.2
  have hl : lv_has ls 1 [(0, .ref (d 0))] := hl
  have hiX9 : ∀ w ∈ u_ws RX9 TX9 39, w ∈ wsX9_burnt := fun _ h => (List.mem_cons_of_mem _ (List.mem_append_right _ h))
  have w0 := hts (.fieldLink RX9 85 "IslandgridModel" "thrown" "I") (List.mem_cons_of_mem _ (List.mem_append_left _ (List.mem_of_getElem? (i := 0) rfl)))
  have w1 := hts (.fieldLink RX9 213 "IslandgridModel" "burnt" "J") (List.mem_cons_of_mem _ (List.mem_append_left _ (List.mem_of_getElem? (i := 1) rfl)))
  refine lv_aload_n hX_ hB_ dX9_burnt_0 rfl (lv_at hl 0 rfl) ?_
  refine lv_iconst (v := 0) hX_ hB_ dX9_burnt_1 (by decide) ?_
  refine ze_put (ci := 9) (C := RX9) (T := TX9) (N := 39) (v := .int 0) S hiX9 tyX9 tyX9_ok nmX9 hK hW 0 rfl rfl 32 (by decide) (Nat.le_of_ble_eq_true rfl) rfl rfl rfl w0 dX9_burnt_2 (ze_pR32 0 _ _ _ _ _ _ _) (fun H locs hW => ?_)
  have hW : ze_W D (ze_wR c d n A B mk 0) F s.heap _ _ := hW
  refine lv_aload_n hX_ hB_ dX9_burnt_5 rfl (lv_at hl 0 rfl) ?_
  refine ze_get (ci := 9) (C := RX9) (T := TX9) (N := 39) (v := .long (B 33)) S hiX9 hK hW 0 rfl rfl 33 (by decide) rfl w1 dX9_burnt_6 ?_
  exact ze_lret S hr hlocks hF hK hW dX9_burnt_9 (Nat.le_of_ble_eq_true rfl) (Nat.le_of_ble_eq_true rfl) rfl rfl
set_option maxHeartbeats 4000000 in
set_option maxRecDepth 100000 in
theorem zr_served_f (l : Launch) (D : va_G) (c : Nat → ClassId) (d n : Nat → Nat) (A : Nat → Nat → Int32) (B : Nat → Int64) (mk : Nat → Int32) (th : Int32)  : ze_L l yX9_served wsX9_served 0 0 0 0 D c (ze_wR c d n A B mk th) [.ref (d 0)] (B 34) (ze_wR c d n A B mk 0) := by
  intro sz
  refine ze_start (cc := cX9_served) (maxL := 1) (ret := (some .long)) (own := RX9) (by decide) rfl rfl (Nat.le_of_ble_eq_true rfl) ?_
  intro p e s m_ below meth cd F ls hF hsz E0
  obtain ⟨S, hr, hlocks, hK, hW, hA, hl⟩ := E0
  have hX_ := S.1
  have hB_ := S.2.1
  have hts := S.2.2.2.2
  have hl : lv_has ls 1 [(0, .ref (d 0))] := hl
  have hiX9 : ∀ w ∈ u_ws RX9 TX9 39, w ∈ wsX9_served := fun _ h => (List.mem_cons_of_mem _ (List.mem_append_right _ h))
  have w0 := hts (.fieldLink RX9 85 "IslandgridModel" "thrown" "I") (List.mem_cons_of_mem _ (List.mem_append_left _ (List.mem_of_getElem? (i := 0) rfl)))
  have w1 := hts (.fieldLink RX9 209 "IslandgridModel" "served" "J") (List.mem_cons_of_mem _ (List.mem_append_left _ (List.mem_of_getElem? (i := 1) rfl)))
  refine lv_aload_n hX_ hB_ dX9_served_0 rfl (lv_at hl 0 rfl) ?_
  refine lv_iconst (v := 0) hX_ hB_ dX9_served_1 (by decide) ?_
  refine ze_put (ci := 9) (C := RX9) (T := TX9) (N := 39) (v := .int 0) S hiX9 tyX9 tyX9_ok nmX9 hK hW 0 rfl rfl 32 (by decide) (Nat.le_of_ble_eq_true rfl) rfl rfl rfl w0 dX9_served_2 (ze_pR32 0 _ _ _ _ _ _ _) (fun H locs hW => ?_)
  have hW : ze_W D (ze_wR c d n A B mk 0) F s.heap _ _ := hW
  refine lv_aload_n hX_ hB_ dX9_served_5 rfl (lv_at hl 0 rfl) ?_
  refine ze_get (ci := 9) (C := RX9) (T := TX9) (N := 39) (v := .long (B 34)) S hiX9 hK hW 0 rfl rfl 34 (by decide) rfl w1 dX9_served_6 ?_
  exact ze_lret S hr hlocks hF hK hW dX9_served_9 (Nat.le_of_ble_eq_true rfl) (Nat.le_of_ble_eq_true rfl) rfl rfl
set_option maxHeartbeats 4000000 in
set_option maxRecDepth 100000 in
theorem zr_lost_f (l : Launch) (D : va_G) (c : Nat → ClassId) (d n : Nat → Nat) (A : Nat → Nat → Int32) (B : Nat → Int64) (mk : Nat → Int32) (th : Int32)  : ze_L l yX9_lost wsX9_lost 0 0 0 0 D c (ze_wR c d n A B mk th) [.ref (d 0)] (B 35) (ze_wR c d n A B mk 0) := by
  intro sz
  refine ze_start (cc := cX9_lost) (maxL := 1) (ret := (some .long)) (own := RX9) (by decide) rfl rfl (Nat.le_of_ble_eq_true rfl) ?_
  intro p e s m_ below meth cd F ls hF hsz E0
  obtain ⟨S, hr, hlocks, hK, hW, hA, hl⟩ := E0
  have hX_ := S.1
  have hB_ := S.2.1
  have hts := S.2.2.2.2
  have hl : lv_has ls 1 [(0, .ref (d 0))] := hl
  have hiX9 : ∀ w ∈ u_ws RX9 TX9 39, w ∈ wsX9_lost := fun _ h => (List.mem_cons_of_mem _ (List.mem_append_right _ h))
  have w0 := hts (.fieldLink RX9 85 "IslandgridModel" "thrown" "I") (List.mem_cons_of_mem _ (List.mem_append_left _ (List.mem_of_getElem? (i := 0) rfl)))
  have w1 := hts (.fieldLink RX9 225 "IslandgridModel" "lost" "J") (List.mem_cons_of_mem _ (List.mem_append_left _ (List.mem_of_getElem? (i := 1) rfl)))
  refine lv_aload_n hX_ hB_ dX9_lost_0 rfl (lv_at hl 0 rfl) ?_
  refine lv_iconst (v := 0) hX_ hB_ dX9_lost_1 (by decide) ?_
  refine ze_put (ci := 9) (C := RX9) (T := TX9) (N := 39) (v := .int 0) S hiX9 tyX9 tyX9_ok nmX9 hK hW 0 rfl rfl 32 (by decide) (Nat.le_of_ble_eq_true rfl) rfl rfl rfl w0 dX9_lost_2 (ze_pR32 0 _ _ _ _ _ _ _) (fun H locs hW => ?_)
  have hW : ze_W D (ze_wR c d n A B mk 0) F s.heap _ _ := hW
  refine lv_aload_n hX_ hB_ dX9_lost_5 rfl (lv_at hl 0 rfl) ?_
  refine ze_get (ci := 9) (C := RX9) (T := TX9) (N := 39) (v := .long (B 35)) S hiX9 hK hW 0 rfl rfl 35 (by decide) rfl w1 dX9_lost_6 ?_
  exact ze_lret S hr hlocks hF hK hW dX9_lost_9 (Nat.le_of_ble_eq_true rfl) (Nat.le_of_ble_eq_true rfl) rfl rfl
set_option maxHeartbeats 4000000 in
set_option maxRecDepth 100000 in
theorem zr_isBalanced_f (l : Launch) (D : va_G) (c : Nat → ClassId) (d n : Nat → Nat) (A : Nat → Nat → Int32) (B : Nat → Int64) (mk : Nat → Int32) (th : Int32) (hN : zf_N n) : ze_I l yX9_isBalanced wsX9_isBalanced 0 0 0 0 D c (ze_wR c d n A B mk th) [.ref (d 0)] (ze_b (lg_cmp (B 33 + B 36) (B 34 + B 35 + B 37 + zf_st64 A (n 3)) = 0)) (ze_wR c d n A B mk 0) := by
  intro sz
  refine ze_start (cc := cX9_isBalanced) (maxL := 4) (ret := (some .boolean)) (own := RX9) (by decide) rfl rfl (Nat.le_of_ble_eq_true rfl) ?_
  obtain ⟨hn0, hn1, hn2, hn3, hn4⟩ := id hN
  intro p e s m_ below meth cd F ls hF hsz E0
  obtain ⟨S, hr, hlocks, hK, hW, hA, hl⟩ := E0
  have hX_ := S.1
  have hB_ := S.2.1
  have hts := S.2.2.2.2
  have hl : lv_has ls 4 [(0, .ref (d 0))] := hl
  have hiX9 : ∀ w ∈ u_ws RX9 TX9 39, w ∈ wsX9_isBalanced := fun _ h => (List.mem_cons_of_mem _ (List.mem_append_right _ h))
  have w0 := hts (.fieldLink RX9 85 "IslandgridModel" "thrown" "I") (List.mem_cons_of_mem _ (List.mem_append_left _ (List.mem_of_getElem? (i := 0) rfl)))
  have w1 := hts (.fieldLink RX9 105 "IslandgridModel" "stores" "I") (List.mem_cons_of_mem _ (List.mem_append_left _ (List.mem_of_getElem? (i := 1) rfl)))
  have w2 := hts (.fieldLink RX9 213 "IslandgridModel" "burnt" "J") (List.mem_cons_of_mem _ (List.mem_append_left _ (List.mem_of_getElem? (i := 3) rfl)))
  have w3 := hts (.fieldLink RX9 216 "IslandgridModel" "came" "J") (List.mem_cons_of_mem _ (List.mem_append_left _ (List.mem_of_getElem? (i := 4) rfl)))
  have w4 := hts (.fieldLink RX9 209 "IslandgridModel" "served" "J") (List.mem_cons_of_mem _ (List.mem_append_left _ (List.mem_of_getElem? (i := 5) rfl)))
  have w5 := hts (.fieldLink RX9 225 "IslandgridModel" "lost" "J") (List.mem_cons_of_mem _ (List.mem_append_left _ (List.mem_of_getElem? (i := 6) rfl)))
  have w6 := hts (.fieldLink RX9 222 "IslandgridModel" "went" "J") (List.mem_cons_of_mem _ (List.mem_append_left _ (List.mem_of_getElem? (i := 7) rfl)))
  have w7 := hts (.fieldLink RX9 63 "IslandgridModel" "charge" "[I") (List.mem_cons_of_mem _ (List.mem_append_left _ (List.mem_of_getElem? (i := 2) rfl)))
  refine lv_aload_n hX_ hB_ dX9_isBalanced_0 rfl (lv_at hl 0 rfl) ?_
  refine lv_iconst (v := 0) hX_ hB_ dX9_isBalanced_1 (by decide) ?_
  refine ze_put (ci := 9) (C := RX9) (T := TX9) (N := 39) (v := .int 0) S hiX9 tyX9 tyX9_ok nmX9 hK hW 0 rfl rfl 32 (by decide) (Nat.le_of_ble_eq_true rfl) rfl rfl rfl w0 dX9_isBalanced_2 (ze_pR32 0 _ _ _ _ _ _ _) (fun H locs hW => ?_)
  have hW : ze_W D (ze_wR c d n A B mk 0) F s.heap _ _ := hW
  refine lv_lconst (v := 0) hX_ hB_ dX9_isBalanced_5 (by decide) ?_
  refine lv_lstore_n (lv' := [(1, .long 0), (0, .ref (d 0))]) hX_ hB_ dX9_isBalanced_6 rfl hl (by decide) rfl (fun ls hl => ?_)
  refine lv_iconst (v := 0) hX_ hB_ dX9_isBalanced_7 (by decide) ?_
  refine lv_istore_n (lv' := [(3, .int 0), (1, .long 0), (0, .ref (d 0))]) hX_ hB_ dX9_isBalanced_8 rfl hl (by decide) rfl (fun ls hl => ?_)
  have L9 : ∀ (k9 : Nat) (i9 : Nat), (i9 ≤ n 3) → (n 3 - i9) < k9 → ∀ (H : Heap) (locs : List Loc) (ls : Array Slot), ze_W D (ze_wR c d n A B mk 0) F s.heap H locs → lv_has ls 4 [(3, .int (nI i9)), (1, .long (zf_st64 A i9)), (0, .ref (d 0))] → W p l e { frames := 0, cells := 0, slots := 0, locals := 0 } s m_ ([.ref (d 0)] : List Value).toArray below meth cd H locs 0 0 (MQ below (ze_Qi D c (ze_wR c d n A B mk th) sz (ze_b (lg_cmp (B 33 + B 36) (B 34 + B 35 + B 37 + zf_st64 A (n 3)) = 0)) (ze_wR c d n A B mk 0)) ([.ref (d 0)] : List Value).toArray s 0 0 F) (F0 m_ 9 ls []) := by
    intro k9
    induction k9 with
    | zero =>
      intro i9 h9 hk9
      exact absurd hk9 (Nat.not_lt_zero _)
    | succ k9 ih9 =>
      intro i9 h9 hk9 H locs ls hW hl
      refine lv_iload_n hX_ hB_ dX9_isBalanced_9 rfl (lv_at hl 0 rfl) ?_
      refine lv_aload_n hX_ hB_ dX9_isBalanced_10 rfl (lv_at hl 2 rfl) ?_
      refine ze_get (ci := 9) (C := RX9) (T := TX9) (N := 39) (v := .int (nI (n 3))) S hiX9 hK hW 0 rfl rfl 26 (by decide) rfl w1 dX9_isBalanced_11 ?_
      refine lv_icmp_ge (tgt := 33) hX_ hB_ dX9_isBalanced_14 (by decide) (fun c14 => ?_) (fun c14 => ?_)
      · have c14 : ¬ i9 < (n 3) := Nat.not_lt.mpr ((nI_leI (a := (n 3)) (b := i9) (by omega) (by omega)).mp c14)
        have e9 : i9 = n 3 := by omega
        subst e9
        refine lv_aload_n hX_ hB_ dX9_isBalanced_33 rfl (lv_at hl 2 rfl) ?_
        refine ze_get (ci := 9) (C := RX9) (T := TX9) (N := 39) (v := .long (B 33)) S hiX9 hK hW 0 rfl rfl 33 (by decide) rfl w2 dX9_isBalanced_34 ?_
        refine lv_aload_n hX_ hB_ dX9_isBalanced_37 rfl (lv_at hl 2 rfl) ?_
        refine ze_get (ci := 9) (C := RX9) (T := TX9) (N := 39) (v := .long (B 36)) S hiX9 hK hW 0 rfl rfl 36 (by decide) rfl w3 dX9_isBalanced_38 ?_
        refine lv_ladd hX_ hB_ dX9_isBalanced_41 ?_
        refine lv_aload_n hX_ hB_ dX9_isBalanced_42 rfl (lv_at hl 2 rfl) ?_
        refine ze_get (ci := 9) (C := RX9) (T := TX9) (N := 39) (v := .long (B 34)) S hiX9 hK hW 0 rfl rfl 34 (by decide) rfl w4 dX9_isBalanced_43 ?_
        refine lv_aload_n hX_ hB_ dX9_isBalanced_46 rfl (lv_at hl 2 rfl) ?_
        refine ze_get (ci := 9) (C := RX9) (T := TX9) (N := 39) (v := .long (B 35)) S hiX9 hK hW 0 rfl rfl 35 (by decide) rfl w5 dX9_isBalanced_47 ?_
        refine lv_ladd hX_ hB_ dX9_isBalanced_50 ?_
        refine lv_aload_n hX_ hB_ dX9_isBalanced_51 rfl (lv_at hl 2 rfl) ?_
        refine ze_get (ci := 9) (C := RX9) (T := TX9) (N := 39) (v := .long (B 37)) S hiX9 hK hW 0 rfl rfl 37 (by decide) rfl w6 dX9_isBalanced_52 ?_
        refine lv_ladd hX_ hB_ dX9_isBalanced_55 ?_
        refine lv_lload_n hX_ hB_ dX9_isBalanced_56 rfl (lv_at hl 1 rfl) ?_
        refine lv_ladd hX_ hB_ dX9_isBalanced_57 ?_
        refine W.lcmp hX_ hB_ dX9_isBalanced_58 ?_
        refine lv_if_ne (tgt := 66) hX_ hB_ dX9_isBalanced_59 (by decide) (fun c59 => ?_) (fun c59 => ?_)
        · refine lv_iconst (v := 0) hX_ hB_ dX9_isBalanced_66 (by decide) ?_
          exact ze_iret S hr hlocks hF hK hW rfl dX9_isBalanced_67 (Nat.le_of_ble_eq_true rfl) (Nat.le_of_ble_eq_true rfl) (by simp only [ze_b, eq_false c14, eq_false c59, not_true_eq_false, not_false_eq_true, and_true, true_and, and_false, false_and, or_true, true_or, or_false, false_or, and_self, or_self, Decidable.not_not, if_true, if_false, reduceIte, reduceCtorEq, ne_eq, eq_self, Int32.lt_irrefl, Int32.le_refl, Nat.lt_irrefl]) rfl
        · refine lv_iconst (v := 1) hX_ hB_ dX9_isBalanced_62 (by decide) ?_
          refine lv_goto (tgt := 67) hX_ hB_ dX9_isBalanced_63 (by decide) ?_
          exact ze_iret S hr hlocks hF hK hW rfl dX9_isBalanced_67 (Nat.le_of_ble_eq_true rfl) (Nat.le_of_ble_eq_true rfl) (by simp only [ze_b, eq_false c14, eq_true c59, not_true_eq_false, not_false_eq_true, and_true, true_and, and_false, false_and, or_true, true_or, or_false, false_or, and_self, or_self, Decidable.not_not, if_true, if_false, reduceIte, reduceCtorEq, ne_eq, eq_self, Int32.lt_irrefl, Int32.le_refl, Nat.lt_irrefl]) rfl
      · have c14 : i9 < (n 3) := Nat.lt_of_not_le (fun h9 => c14 ((nI_leI (a := (n 3)) (b := i9) (by omega) (by omega)).mpr h9))
        refine lv_lload_n hX_ hB_ dX9_isBalanced_17 rfl (lv_at hl 1 rfl) ?_
        refine lv_aload_n hX_ hB_ dX9_isBalanced_18 rfl (lv_at hl 2 rfl) ?_
        refine ze_get (ci := 9) (C := RX9) (T := TX9) (N := 39) (v := .ref (d 18)) S hiX9 hK hW 0 rfl rfl 17 (by decide) rfl w7 dX9_isBalanced_19 ?_
        refine lv_iload_n hX_ hB_ dX9_isBalanced_22 rfl (lv_at hl 0 rfl) ?_
        refine ze_ialdN hX_ hB_ hK hW 18 (f := A 17) rfl (i := i9) (by omega) (by decide) dX9_isBalanced_23 ?_
        refine lv_i2l (v := (A 17 i9).toInt64) hX_ hB_ dX9_isBalanced_24 rfl ?_
        refine lv_ladd hX_ hB_ dX9_isBalanced_25 ?_
        refine lv_lstore_n (lv' := [(1, .long (zf_st64 A i9 + (A 17 i9).toInt64)), (3, .int (nI i9)), (0, .ref (d 0))]) hX_ hB_ dX9_isBalanced_26 rfl hl (by decide) rfl (fun ls hl => ?_)
        refine lv_iinc (v := nI (i9 + 1)) (lv' := [(3, .int (nI (i9 + 1))), (1, .long (zf_st64 A i9 + (A 17 i9).toInt64)), (0, .ref (d 0))]) hX_ hB_ dX9_isBalanced_27 hl (k := 1) rfl (ze_inc _) (by decide) rfl (fun ls hl => ?_)
        refine lv_goto (tgt := 9) hX_ hB_ dX9_isBalanced_30 (by decide) ?_
        have eL1 : zf_st64 A i9 + (A 17 i9).toInt64 = zf_st64 A (i9 + 1) := rfl
        have hl : lv_has ls 4 [(3, .int (nI (i9 + 1))), (1, .long (zf_st64 A (i9 + 1))), (0, .ref (d 0))] := by
          first | (rw [← eL1]; exact hl) | (simp only [← eL1]; exact hl)
        exact ih9 (i9 + 1) (by omega) (by omega) _ _ ls hW (lv_sub hl [0, 1, 2] rfl)
  have hl : lv_has ls 4 [(3, .int (nI 0)), (1, .long (zf_st64 A 0)), (0, .ref (d 0))] := hl
  have hW : ze_W D (ze_wR c d n A B mk 0) F s.heap _ _ := hW
  exact L9 _ 0 (by omega) (Nat.lt_succ_self _) _ _ ls hW (lv_sub hl [0, 1, 2] rfl)
