set_option maxHeartbeats 4000000 in
set_option maxRecDepth 100000 in
theorem zr_sheds (l : Launch) (D : va_G) (c : Nat → ClassId) (d n : Nat → Nat) (A : Nat → Nat → Int32) (B : Nat → Int64) (mk : Nat → Int32) (th : Int32) (m : Int32) (hN : zf_N n) (hS : zf_S n A) : ze_V l yX9_sheds wsX9_sheds 3 69 0 0 D c (ze_wR c d n A B mk th) [.ref (d 0), .int m] (ze_wR c d n (zf_shed n A mk m (n 4)) B mk th) := by
  intro sz
  refine ze_start (cc := cX9_sheds) (maxL := 3) (ret := none) (own := RX9) (by decide) rfl rfl (Nat.le_of_ble_eq_true rfl) ?_
  obtain ⟨hn0, hn1, hn2, hn3, hn4⟩ := id hN
  intro p e s m_ below meth cd F ls hF hsz E0
  obtain ⟨S, hr, hlocks, hK, hW, hA, hl⟩ := E0
  have hX_ := S.1
  have hB_ := S.2.1
  have hts := S.2.2.2.2
  have hl : lv_has ls 3 [(0, .ref (d 0)), (1, .int m)] := hl
  have hiX9 : ∀ w ∈ u_ws RX9 TX9 39, w ∈ wsX9_sheds := fun _ h => (List.mem_cons_of_mem _ (List.mem_append_right _ h))
  have w0 := hts (.fieldLink RX9 108 "IslandgridModel" "loads" "I") (List.mem_cons_of_mem _ (List.mem_append_left _ (List.mem_append_left _ (List.mem_of_getElem? (i := 0) rfl))))
  have w1 := hts (.fieldLink RX9 13 "IslandgridModel" "mark" "[I") (List.mem_cons_of_mem _ (List.mem_append_left _ (List.mem_append_left _ (List.mem_of_getElem? (i := 1) rfl))))
  have w2 := hts (.fieldLink RX9 69 "IslandgridModel" "loadSite" "[I") (List.mem_cons_of_mem _ (List.mem_append_left _ (List.mem_append_left _ (List.mem_of_getElem? (i := 2) rfl))))
  have w3 := hts (.fieldLink RX9 26 "IslandgridModel" "isDark" "[Z") (List.mem_cons_of_mem _ (List.mem_append_left _ (List.mem_append_left _ (List.mem_of_getElem? (i := 3) rfl))))
  have w4 := hts (.fieldLink RX9 78 "IslandgridModel" "wait" "[I") (List.mem_cons_of_mem _ (List.mem_append_left _ (List.mem_append_left _ (List.mem_of_getElem? (i := 4) rfl))))
  have w5 := hts (.fieldLink RX9 81 "IslandgridModel" "delay" "I") (List.mem_cons_of_mem _ (List.mem_append_left _ (List.mem_append_left _ (List.mem_of_getElem? (i := 5) rfl))))
  refine lv_iconst (v := 0) hX_ hB_ dX9_sheds_0 (by decide) ?_
  refine lv_istore_n (lv' := [(2, .int 0), (0, .ref (d 0)), (1, .int m)]) hX_ hB_ dX9_sheds_1 rfl hl (by decide) rfl (fun ls hl => ?_)
  have L2 : ∀ (k2 : Nat) (i2 : Nat), (i2 ≤ n 4) → (n 4 - i2) < k2 → ∀ (H : Heap) (locs : List Loc) (ls : Array Slot), ze_W D (ze_wR c d n (ze_sA (ze_sA A 5 (ze_up (zf_sD n A mk m) (A 5) i2)) 22 (ze_up (zf_sW n A mk m) (A 22) i2)) B mk th) F s.heap H locs → lv_has ls 3 [(2, .int (nI i2)), (0, .ref (d 0)), (1, .int m)] → W p l e { frames := 3, cells := 0, slots := 0, locals := 69 } s m_ ([.ref (d 0), .int m] : List Value).toArray below meth cd H locs 0 0 (MQ below (ze_Qv D c (ze_wR c d n A B mk th) sz (ze_wR c d n (zf_shed n A mk m (n 4)) B mk th)) ([.ref (d 0), .int m] : List Value).toArray s 0 0 F) (F0 m_ 2 ls []) := by
    intro k2
    induction k2 with
    | zero =>
      intro i2 h2 hk2
      exact absurd hk2 (Nat.not_lt_zero _)
    | succ k2 ih2 =>
      intro i2 h2 hk2 H locs ls hW hl
      refine lv_iload_n hX_ hB_ dX9_sheds_2 rfl (lv_at hl 0 rfl) ?_
      refine lv_aload_n hX_ hB_ dX9_sheds_3 rfl (lv_at hl 1 rfl) ?_
      refine ze_get (ci := 9) (C := RX9) (T := TX9) (N := 39) (v := .int (nI (n 4))) S hiX9 hK hW 0 rfl rfl 27 (by decide) rfl w0 dX9_sheds_4 ?_
      refine lv_icmp_ge (tgt := 106) hX_ hB_ dX9_sheds_7 (by decide) (fun c7 => ?_) (fun c7 => ?_)
      · have c7 : ¬ i2 < (n 4) := Nat.not_lt.mpr ((nI_leI (a := (n 4)) (b := i2) (by omega) (by omega)).mp c7)
        have e2 : i2 = n 4 := by omega
        subst e2
        exact ze_vret S hr hlocks hF hK hW dX9_sheds_106 (Nat.le_of_ble_eq_true rfl) (Nat.le_of_ble_eq_true rfl) rfl
      · have c7 : i2 < (n 4) := Nat.lt_of_not_le (fun h9 => c7 ((nI_leI (a := (n 4)) (b := i2) (by omega) (by omega)).mpr h9))
        refine lv_aload_n hX_ hB_ dX9_sheds_10 rfl (lv_at hl 1 rfl) ?_
        refine ze_get (ci := 9) (C := RX9) (T := TX9) (N := 39) (v := .ref (d 2)) S hiX9 hK hW 0 rfl rfl 1 (by decide) rfl w1 dX9_sheds_11 ?_
        refine lv_aload_n hX_ hB_ dX9_sheds_14 rfl (lv_at hl 1 rfl) ?_
        refine ze_get (ci := 9) (C := RX9) (T := TX9) (N := 39) (v := .ref (d 20)) S hiX9 hK hW 0 rfl rfl 19 (by decide) rfl w2 dX9_sheds_15 ?_
        refine lv_iload_n hX_ hB_ dX9_sheds_18 rfl (lv_at hl 0 rfl) ?_
        refine ze_ialdN hX_ hB_ hK hW 20 (f := A 19) rfl (i := i2) (by omega) (by decide) dX9_sheds_19 ?_
        refine ze_iald hX_ hB_ hK hW 2 (f := mk) rfl (zf_in hN (hS.2.2.2 i2 (by omega))) dX9_sheds_20 ?_
        refine lv_iload_n hX_ hB_ dX9_sheds_21 rfl (lv_at hl 2 rfl) ?_
        refine lv_icmp_ne (tgt := 100) hX_ hB_ dX9_sheds_22 (by decide) (fun c22 => ?_) (fun c22 => ?_)
        · refine lv_iinc (v := nI (i2 + 1)) (lv' := [(2, .int (nI (i2 + 1))), (0, .ref (d 0)), (1, .int m)]) hX_ hB_ dX9_sheds_100 hl (k := 0) rfl (ze_inc _) (by decide) rfl (fun ls hl => ?_)
          refine lv_goto (tgt := 2) hX_ hB_ dX9_sheds_103 (by decide) ?_
          have eW : (ze_wR c d n (ze_sA (ze_sA A 5 (ze_up (zf_sD n A mk m) (A 5) i2)) 22 (ze_up (zf_sW n A mk m) (A 22) i2)) B mk th) = (ze_wR c d n (ze_sA (ze_sA A 5 (ze_up (zf_sD n A mk m) (A 5) (i2 + 1))) 22 (ze_up (zf_sW n A mk m) (A 22) (i2 + 1))) B mk th) := (by rw [ze_up_k (f := zf_sD n A mk m) (g := A 5) (i := i2) (by simp only [ze_b, zf_sD, eq_true c7, eq_false c22, not_true_eq_false, not_false_eq_true, and_true, true_and, and_false, false_and, or_true, true_or, or_false, false_or, and_self, or_self, Decidable.not_not, if_true, if_false, reduceIte, reduceCtorEq, ne_eq, eq_self, Int32.lt_irrefl, Int32.le_refl, Nat.lt_irrefl]), ze_up_k (f := zf_sW n A mk m) (g := A 22) (i := i2) (by simp only [ze_b, zf_sW, eq_true c7, eq_false c22, not_true_eq_false, not_false_eq_true, and_true, true_and, and_false, false_and, or_true, true_or, or_false, false_or, and_self, or_self, Decidable.not_not, if_true, if_false, reduceIte, reduceCtorEq, ne_eq, eq_self, Int32.lt_irrefl, Int32.le_refl, Nat.lt_irrefl])])
          rw [eW] at hW
          exact ih2 (i2 + 1) (by omega) (by omega) _ _ ls hW (lv_sub hl [0, 1, 2] rfl)
        · refine lv_aload_n hX_ hB_ dX9_sheds_25 rfl (lv_at hl 1 rfl) ?_
          refine lv_iload_n hX_ hB_ dX9_sheds_26 rfl (lv_at hl 0 rfl) ?_
          refine ze_Vi (As := [.int (nI i2)]) (rest := []) (ci := 9) (q0 := 0) (k := (RX9, TX9, 39)) S (zr_keeps l D c d n (ze_sA (ze_sA A 5 (ze_up (zf_sD n A mk m) (A 5) i2)) 22 (ze_up (zf_sW n A mk m) (A 22) i2)) B mk th i2 hN hS (by omega)) (cwV 1 hts gX9_sheds_X9_keeps rfl rfl rfl (by decide +kernel) ⟨Nat.le_of_ble_eq_true rfl, Nat.le_of_ble_eq_true rfl⟩) hK hW hA rfl rfl rfl hl.1 rfl (lv_room (Nat.le_of_ble_eq_true rfl)) dX9_sheds_27 ⟨Nat.le_of_ble_eq_true rfl, Nat.le_of_ble_eq_true rfl⟩ (fun H locs hW => ?_)
          refine lv_if_ne (tgt := 53) hX_ hB_ dX9_sheds_30 (by decide) (fun c30 => ?_) (fun c30 => ?_)
          · have c30 : zf_keeps n A mk i2 := ze_bt c30
            refine lv_aload_n hX_ hB_ dX9_sheds_53 rfl (lv_at hl 1 rfl) ?_
            refine ze_get (ci := 9) (C := RX9) (T := TX9) (N := 39) (v := .ref (d 6)) S hiX9 hK hW 0 rfl rfl 5 (by decide) rfl w3 dX9_sheds_54 ?_
            refine lv_iload_n hX_ hB_ dX9_sheds_57 rfl (lv_at hl 0 rfl) ?_
            refine ze_zaldN hX_ hB_ hK hW 6 (f := (ze_up (zf_sD n A mk m) (A 5) i2)) rfl (i := i2) (by omega) (by decide) dX9_sheds_58 ?_
            refine ze_top (ze_up_at _ _ _) ?_
            refine lv_if_eq (tgt := 81) hX_ hB_ dX9_sheds_59 (by decide) (fun c59 => ?_) (fun c59 => ?_)
            · refine lv_aload_n hX_ hB_ dX9_sheds_81 rfl (lv_at hl 1 rfl) ?_
              refine ze_get (ci := 9) (C := RX9) (T := TX9) (N := 39) (v := .ref (d 6)) S hiX9 hK hW 0 rfl rfl 5 (by decide) rfl w3 dX9_sheds_82 ?_
              refine lv_iload_n hX_ hB_ dX9_sheds_85 rfl (lv_at hl 0 rfl) ?_
              refine ze_zaldN hX_ hB_ hK hW 6 (f := (ze_up (zf_sD n A mk m) (A 5) i2)) rfl (i := i2) (by omega) (by decide) dX9_sheds_86 ?_
              refine ze_top (ze_up_at _ _ _) ?_
              refine lv_if_eq (tgt := 100) hX_ hB_ dX9_sheds_87 (by decide) (fun c87 => ?_) (fun c87 => ?_)
              · refine lv_iinc (v := nI (i2 + 1)) (lv' := [(2, .int (nI (i2 + 1))), (0, .ref (d 0)), (1, .int m)]) hX_ hB_ dX9_sheds_100 hl (k := 0) rfl (ze_inc _) (by decide) rfl (fun ls hl => ?_)
                refine lv_goto (tgt := 2) hX_ hB_ dX9_sheds_103 (by decide) ?_
                have eW : (ze_wR c d n (ze_sA (ze_sA A 5 (ze_up (zf_sD n A mk m) (A 5) i2)) 22 (ze_up (zf_sW n A mk m) (A 22) i2)) B mk th) = (ze_wR c d n (ze_sA (ze_sA A 5 (ze_up (zf_sD n A mk m) (A 5) (i2 + 1))) 22 (ze_up (zf_sW n A mk m) (A 22) (i2 + 1))) B mk th) := (by rw [ze_up_k (f := zf_sD n A mk m) (g := A 5) (i := i2) (by simp only [ze_b, zf_sD, eq_true c7, eq_true c22, eq_true c30, eq_true c59, eq_true c87, not_true_eq_false, not_false_eq_true, and_true, true_and, and_false, false_and, or_true, true_or, or_false, false_or, and_self, or_self, Decidable.not_not, if_true, if_false, reduceIte, reduceCtorEq, ne_eq, eq_self, Int32.lt_irrefl, Int32.le_refl, Nat.lt_irrefl]), ze_up_k (f := zf_sW n A mk m) (g := A 22) (i := i2) (by simp only [ze_b, zf_sW, eq_true c7, eq_true c22, eq_true c30, eq_true c59, eq_true c87, not_true_eq_false, not_false_eq_true, and_true, true_and, and_false, false_and, or_true, true_or, or_false, false_or, and_self, or_self, Decidable.not_not, if_true, if_false, reduceIte, reduceCtorEq, ne_eq, eq_self, Int32.lt_irrefl, Int32.le_refl, Nat.lt_irrefl])])
                rw [eW] at hW
                exact ih2 (i2 + 1) (by omega) (by omega) _ _ ls hW (lv_sub hl [0, 1, 2] rfl)
              · exact absurd c59 c87
            · refine lv_aload_n hX_ hB_ dX9_sheds_62 rfl (lv_at hl 1 rfl) ?_
              refine ze_get (ci := 9) (C := RX9) (T := TX9) (N := 39) (v := .ref (d 23)) S hiX9 hK hW 0 rfl rfl 22 (by decide) rfl w4 dX9_sheds_63 ?_
              refine lv_iload_n hX_ hB_ dX9_sheds_66 rfl (lv_at hl 0 rfl) ?_
              refine ze_ialdN hX_ hB_ hK hW 23 (f := (ze_up (zf_sW n A mk m) (A 22) i2)) rfl (i := i2) (by omega) (by decide) dX9_sheds_67 ?_
              refine ze_top (ze_up_at _ _ _) ?_
              refine lv_if_ne (tgt := 81) hX_ hB_ dX9_sheds_68 (by decide) (fun c68 => ?_) (fun c68 => ?_)
              · refine lv_aload_n hX_ hB_ dX9_sheds_81 rfl (lv_at hl 1 rfl) ?_
                refine ze_get (ci := 9) (C := RX9) (T := TX9) (N := 39) (v := .ref (d 6)) S hiX9 hK hW 0 rfl rfl 5 (by decide) rfl w3 dX9_sheds_82 ?_
                refine lv_iload_n hX_ hB_ dX9_sheds_85 rfl (lv_at hl 0 rfl) ?_
                refine ze_zaldN hX_ hB_ hK hW 6 (f := (ze_up (zf_sD n A mk m) (A 5) i2)) rfl (i := i2) (by omega) (by decide) dX9_sheds_86 ?_
                refine ze_top (ze_up_at _ _ _) ?_
                refine lv_if_eq (tgt := 100) hX_ hB_ dX9_sheds_87 (by decide) (fun c87 => ?_) (fun c87 => ?_)
                · exact absurd c87 c59
                · refine lv_aload_n hX_ hB_ dX9_sheds_90 rfl (lv_at hl 1 rfl) ?_
                  refine ze_get (ci := 9) (C := RX9) (T := TX9) (N := 39) (v := .ref (d 23)) S hiX9 hK hW 0 rfl rfl 22 (by decide) rfl w4 dX9_sheds_91 ?_
                  refine lv_iload_n hX_ hB_ dX9_sheds_94 rfl (lv_at hl 0 rfl) ?_
                  refine lv_dup2_11 hX_ hB_ dX9_sheds_95 rfl rfl ?_
                  refine ze_ialdN hX_ hB_ hK hW 23 (f := (ze_up (zf_sW n A mk m) (A 22) i2)) rfl (i := i2) (by omega) (by decide) dX9_sheds_96 ?_
                  refine ze_top (ze_up_at _ _ _) ?_
                  refine lv_iconst (v := 1) hX_ hB_ dX9_sheds_97 (by decide) ?_
                  refine lv_isub hX_ hB_ dX9_sheds_98 ?_
                  refine ze_iastN hX_ hB_ hK hW 23 (f := (ze_up (zf_sW n A mk m) (A 22) i2)) rfl (i := i2) (by omega) (by decide) dX9_sheds_99 (ze_qR22 i2 (A 22 i2 - 1) _ _ _ _ _ _ _) (fun H locs hW => ?_)
                  have hW : ze_W D (ze_wR c d n (ze_sE (ze_sA (ze_sA A 5 (ze_up (zf_sD n A mk m) (A 5) i2)) 22 (ze_up (zf_sW n A mk m) (A 22) i2)) 22 i2 (A 22 i2 - 1)) B mk th) F s.heap _ _ := hW
                  refine lv_iinc (v := nI (i2 + 1)) (lv' := [(2, .int (nI (i2 + 1))), (0, .ref (d 0)), (1, .int m)]) hX_ hB_ dX9_sheds_100 hl (k := 0) rfl (ze_inc _) (by decide) rfl (fun ls hl => ?_)
                  refine lv_goto (tgt := 2) hX_ hB_ dX9_sheds_103 (by decide) ?_
                  have eW : (ze_wR c d n (ze_sE (ze_sA (ze_sA A 5 (ze_up (zf_sD n A mk m) (A 5) i2)) 22 (ze_up (zf_sW n A mk m) (A 22) i2)) 22 i2 (A 22 i2 - 1)) B mk th) = (ze_wR c d n (ze_sA (ze_sA A 5 (ze_up (zf_sD n A mk m) (A 5) (i2 + 1))) 22 (ze_up (zf_sW n A mk m) (A 22) (i2 + 1))) B mk th) := (by simp (decide := true) only [ze_e1, ze_e2, ze_upd2]; rw [ze_up_k (f := zf_sD n A mk m) (g := A 5) (i := i2) (by simp only [ze_b, zf_sD, eq_true c7, eq_true c22, eq_true c30, eq_false c59, eq_false c68, eq_false c87, not_true_eq_false, not_false_eq_true, and_true, true_and, and_false, false_and, or_true, true_or, or_false, false_or, and_self, or_self, Decidable.not_not, if_true, if_false, reduceIte, reduceCtorEq, ne_eq, eq_self, Int32.lt_irrefl, Int32.le_refl, Nat.lt_irrefl]), ze_up_s (f := zf_sW n A mk m) (g := A 22) (i := i2) (by simp only [ze_b, zf_sW, eq_true c7, eq_true c22, eq_true c30, eq_false c59, eq_false c68, eq_false c87, not_true_eq_false, not_false_eq_true, and_true, true_and, and_false, false_and, or_true, true_or, or_false, false_or, and_self, or_self, Decidable.not_not, if_true, if_false, reduceIte, reduceCtorEq, ne_eq, eq_self, Int32.lt_irrefl, Int32.le_refl, Nat.lt_irrefl])])
                  rw [eW] at hW
                  exact ih2 (i2 + 1) (by omega) (by omega) _ _ ls hW (lv_sub hl [0, 1, 2] rfl)
              · refine lv_aload_n hX_ hB_ dX9_sheds_71 rfl (lv_at hl 1 rfl) ?_
                refine ze_get (ci := 9) (C := RX9) (T := TX9) (N := 39) (v := .ref (d 6)) S hiX9 hK hW 0 rfl rfl 5 (by decide) rfl w3 dX9_sheds_72 ?_
                refine lv_iload_n hX_ hB_ dX9_sheds_75 rfl (lv_at hl 0 rfl) ?_
                refine lv_iconst (v := 0) hX_ hB_ dX9_sheds_76 (by decide) ?_
                refine ze_zastN hX_ hB_ hK hW 6 (f := (ze_up (zf_sD n A mk m) (A 5) i2)) rfl (i := i2) (by omega) (by decide) rfl dX9_sheds_77 (ze_qR5 i2 0 _ _ _ _ _ _ _) (fun H locs hW => ?_)
                have hW : ze_W D (ze_wR c d n (ze_sE (ze_sA (ze_sA A 5 (ze_up (zf_sD n A mk m) (A 5) i2)) 22 (ze_up (zf_sW n A mk m) (A 22) i2)) 5 i2 0) B mk th) F s.heap _ _ := hW
                refine lv_goto (tgt := 100) hX_ hB_ dX9_sheds_78 (by decide) ?_
                refine lv_iinc (v := nI (i2 + 1)) (lv' := [(2, .int (nI (i2 + 1))), (0, .ref (d 0)), (1, .int m)]) hX_ hB_ dX9_sheds_100 hl (k := 0) rfl (ze_inc _) (by decide) rfl (fun ls hl => ?_)
                refine lv_goto (tgt := 2) hX_ hB_ dX9_sheds_103 (by decide) ?_
                have eW : (ze_wR c d n (ze_sE (ze_sA (ze_sA A 5 (ze_up (zf_sD n A mk m) (A 5) i2)) 22 (ze_up (zf_sW n A mk m) (A 22) i2)) 5 i2 0) B mk th) = (ze_wR c d n (ze_sA (ze_sA A 5 (ze_up (zf_sD n A mk m) (A 5) (i2 + 1))) 22 (ze_up (zf_sW n A mk m) (A 22) (i2 + 1))) B mk th) := (by simp (decide := true) only [ze_e1, ze_e2, ze_upd2]; rw [ze_up_s (f := zf_sD n A mk m) (g := A 5) (i := i2) (by simp only [ze_b, zf_sD, eq_true c7, eq_true c22, eq_true c30, eq_false c59, eq_true c68, not_true_eq_false, not_false_eq_true, and_true, true_and, and_false, false_and, or_true, true_or, or_false, false_or, and_self, or_self, Decidable.not_not, if_true, if_false, reduceIte, reduceCtorEq, ne_eq, eq_self, Int32.lt_irrefl, Int32.le_refl, Nat.lt_irrefl]), ze_up_k (f := zf_sW n A mk m) (g := A 22) (i := i2) (by simp only [ze_b, zf_sW, eq_true c7, eq_true c22, eq_true c30, eq_false c59, eq_true c68, not_true_eq_false, not_false_eq_true, and_true, true_and, and_false, false_and, or_true, true_or, or_false, false_or, and_self, or_self, Decidable.not_not, if_true, if_false, reduceIte, reduceCtorEq, ne_eq, eq_self, Int32.lt_irrefl, Int32.le_refl, Nat.lt_irrefl])])
                rw [eW] at hW
                exact ih2 (i2 + 1) (by omega) (by omega) _ _ ls hW (lv_sub hl [0, 1, 2] rfl)
          · have c30 : ¬ (zf_keeps n A mk i2) := ze_bf c30
            refine lv_aload_n hX_ hB_ dX9_sheds_33 rfl (lv_at hl 1 rfl) ?_
            refine ze_get (ci := 9) (C := RX9) (T := TX9) (N := 39) (v := .ref (d 6)) S hiX9 hK hW 0 rfl rfl 5 (by decide) rfl w3 dX9_sheds_34 ?_
            refine lv_iload_n hX_ hB_ dX9_sheds_37 rfl (lv_at hl 0 rfl) ?_
            refine lv_iconst (v := 1) hX_ hB_ dX9_sheds_38 (by decide) ?_
            refine ze_zastN hX_ hB_ hK hW 6 (f := (ze_up (zf_sD n A mk m) (A 5) i2)) rfl (i := i2) (by omega) (by decide) rfl dX9_sheds_39 (ze_qR5 i2 1 _ _ _ _ _ _ _) (fun H locs hW => ?_)
            have hW : ze_W D (ze_wR c d n (ze_sE (ze_sA (ze_sA A 5 (ze_up (zf_sD n A mk m) (A 5) i2)) 22 (ze_up (zf_sW n A mk m) (A 22) i2)) 5 i2 1) B mk th) F s.heap _ _ := hW
            refine lv_aload_n hX_ hB_ dX9_sheds_40 rfl (lv_at hl 1 rfl) ?_
            refine ze_get (ci := 9) (C := RX9) (T := TX9) (N := 39) (v := .ref (d 23)) S hiX9 hK hW 0 rfl rfl 22 (by decide) rfl w4 dX9_sheds_41 ?_
            refine lv_iload_n hX_ hB_ dX9_sheds_44 rfl (lv_at hl 0 rfl) ?_
            refine lv_aload_n hX_ hB_ dX9_sheds_45 rfl (lv_at hl 1 rfl) ?_
            refine ze_get (ci := 9) (C := RX9) (T := TX9) (N := 39) (v := .int (A 29 0)) S hiX9 hK hW 0 rfl rfl 29 (by decide) rfl w5 dX9_sheds_46 ?_
            refine ze_iastN hX_ hB_ hK hW 23 (f := (ze_up (zf_sW n A mk m) (A 22) i2)) rfl (i := i2) (by omega) (by decide) dX9_sheds_49 (ze_qR22 i2 (A 29 0) _ _ _ _ _ _ _) (fun H locs hW => ?_)
            have hW : ze_W D (ze_wR c d n (ze_sE (ze_sE (ze_sA (ze_sA A 5 (ze_up (zf_sD n A mk m) (A 5) i2)) 22 (ze_up (zf_sW n A mk m) (A 22) i2)) 5 i2 1) 22 i2 (A 29 0)) B mk th) F s.heap _ _ := hW
            refine lv_goto (tgt := 100) hX_ hB_ dX9_sheds_50 (by decide) ?_
            refine lv_iinc (v := nI (i2 + 1)) (lv' := [(2, .int (nI (i2 + 1))), (0, .ref (d 0)), (1, .int m)]) hX_ hB_ dX9_sheds_100 hl (k := 0) rfl (ze_inc _) (by decide) rfl (fun ls hl => ?_)
            refine lv_goto (tgt := 2) hX_ hB_ dX9_sheds_103 (by decide) ?_
            have eW : (ze_wR c d n (ze_sE (ze_sE (ze_sA (ze_sA A 5 (ze_up (zf_sD n A mk m) (A 5) i2)) 22 (ze_up (zf_sW n A mk m) (A 22) i2)) 5 i2 1) 22 i2 (A 29 0)) B mk th) = (ze_wR c d n (ze_sA (ze_sA A 5 (ze_up (zf_sD n A mk m) (A 5) (i2 + 1))) 22 (ze_up (zf_sW n A mk m) (A 22) (i2 + 1))) B mk th) := (by simp (decide := true) only [ze_e1, ze_e2, ze_upd2]; rw [ze_up_s (f := zf_sD n A mk m) (g := A 5) (i := i2) (by simp only [ze_b, zf_sD, eq_true c7, eq_true c22, eq_false c30, not_true_eq_false, not_false_eq_true, and_true, true_and, and_false, false_and, or_true, true_or, or_false, false_or, and_self, or_self, Decidable.not_not, if_true, if_false, reduceIte, reduceCtorEq, ne_eq, eq_self, Int32.lt_irrefl, Int32.le_refl, Nat.lt_irrefl]), ze_up_s (f := zf_sW n A mk m) (g := A 22) (i := i2) (by simp only [ze_b, zf_sW, eq_true c7, eq_true c22, eq_false c30, not_true_eq_false, not_false_eq_true, and_true, true_and, and_false, false_and, or_true, true_or, or_false, false_or, and_self, or_self, Decidable.not_not, if_true, if_false, reduceIte, reduceCtorEq, ne_eq, eq_self, Int32.lt_irrefl, Int32.le_refl, Nat.lt_irrefl])])
            rw [eW] at hW
            exact ih2 (i2 + 1) (by omega) (by omega) _ _ ls hW (lv_sub hl [0, 1, 2] rfl)
  have hl : lv_has ls 3 [(2, .int (nI 0)), (0, .ref (d 0)), (1, .int m)] := hl
  have hW : ze_W D (ze_wR c d n (ze_sA (ze_sA A 5 (ze_up (zf_sD n A mk m) (A 5) 0)) 22 (ze_up (zf_sW n A mk m) (A 22) 0)) B mk th) F s.heap _ _ := (by rw [ze_up_0, ze_up_0, ze_sAid, ze_sAid2]; exact hW)
  exact L2 _ 0 (by omega) (Nat.lt_succ_self _) _ _ ls hW (lv_sub hl [0, 1, 2] rfl)
set_option maxHeartbeats 4000000 in
set_option maxRecDepth 100000 in
theorem zr_balances (l : Launch) (D : va_G) (c : Nat → ClassId) (d n : Nat → Nat) (A : Nat → Nat → Int32) (B : Nat → Int64) (mk : Nat → Int32) (th : Int32) (m : Int32) (hN : zf_N n) (hS : zf_S n A) : ze_V l yX9_balances wsX9_balances 4 91 0 0 D c (ze_wR c d n A B mk th) [.ref (d 0), .int m] (ze_wR c d n (zf_balA n A mk m) (zf_balB n A B mk m) mk th) := by
  intro sz
  refine ze_start (cc := cX9_balances) (maxL := 9) (ret := none) (own := RX9) (by decide) rfl rfl (Nat.le_of_ble_eq_true rfl) ?_
  obtain ⟨hn0, hn1, hn2, hn3, hn4⟩ := id hN
  intro p e s m_ below meth cd F ls hF hsz E0
  obtain ⟨S, hr, hlocks, hK, hW, hA, hl⟩ := E0
  have hX_ := S.1
  have hB_ := S.2.1
  have hts := S.2.2.2.2
  have hl : lv_has ls 9 [(0, .ref (d 0)), (1, .int m)] := hl
  have hiX9 : ∀ w ∈ u_ws RX9 TX9 39, w ∈ wsX9_balances := fun _ h => (List.mem_cons_of_mem _ (List.mem_append_right _ h))
  have w0 := hts (.fieldLink RX9 209 "IslandgridModel" "served" "J") (List.mem_cons_of_mem _ (List.mem_append_left _ (List.mem_append_left _ (List.mem_of_getElem? (i := 0) rfl))))
  have w1 := hts (.fieldLink RX9 213 "IslandgridModel" "burnt" "J") (List.mem_cons_of_mem _ (List.mem_append_left _ (List.mem_append_left _ (List.mem_of_getElem? (i := 1) rfl))))
  have w2 := hts (.methodLink RX9 175 Lib.Math.max.name) (List.mem_cons_of_mem _ (List.mem_append_left _ (List.mem_append_left _ (List.mem_of_getElem? (i := 2) rfl))))
  have w3 := hts (.static Lib.Math.max.name) (List.mem_cons_of_mem _ (List.mem_append_left _ (List.mem_append_left _ (List.mem_of_getElem? (i := 3) rfl))))
  have w4 := hts (.initialized "java/lang/Math") (List.mem_cons_of_mem _ (List.mem_append_left _ (List.mem_append_left _ (List.mem_of_getElem? (i := 4) rfl))))
  have w5 := hts (.code Lib.Math.max.name Lib.Math.max.code 2 (some .int)) (List.mem_cons_of_mem _ (List.mem_append_left _ (List.mem_append_left _ (List.mem_of_getElem? (i := 5) rfl))))
  have w6 := hts (.fieldLink RX9 102 "IslandgridModel" "generators" "I") (List.mem_cons_of_mem _ (List.mem_append_left _ (List.mem_append_left _ (List.mem_of_getElem? (i := 6) rfl))))
  have w7 := hts (.fieldLink RX9 105 "IslandgridModel" "stores" "I") (List.mem_cons_of_mem _ (List.mem_append_left _ (List.mem_append_left _ (List.mem_of_getElem? (i := 9) rfl))))
  have w8 := hts (.fieldLink RX9 216 "IslandgridModel" "came" "J") (List.mem_cons_of_mem _ (List.mem_append_left _ (List.mem_append_left _ (List.mem_of_getElem? (i := 19) rfl))))
  have w9 := hts (.fieldLink RX9 219 "IslandgridModel" "grid" "I") (List.mem_cons_of_mem _ (List.mem_append_left _ (List.mem_append_left _ (List.mem_of_getElem? (i := 20) rfl))))
  have w10 := hts (.fieldLink RX9 222 "IslandgridModel" "went" "J") (List.mem_cons_of_mem _ (List.mem_append_left _ (List.mem_append_left _ (List.mem_of_getElem? (i := 21) rfl))))
  have w11 := hts (.fieldLink RX9 225 "IslandgridModel" "lost" "J") (List.mem_cons_of_mem _ (List.mem_append_left _ (List.mem_append_left _ (List.mem_of_getElem? (i := 22) rfl))))
  have w12 := hts (.fieldLink RX9 13 "IslandgridModel" "mark" "[I") (List.mem_cons_of_mem _ (List.mem_append_left _ (List.mem_append_left _ (List.mem_of_getElem? (i := 10) rfl))))
  have w13 := hts (.fieldLink RX9 54 "IslandgridModel" "storeSite" "[I") (List.mem_cons_of_mem _ (List.mem_append_left _ (List.mem_append_left _ (List.mem_of_getElem? (i := 11) rfl))))
  have w14 := hts (.fieldLink RX9 60 "IslandgridModel" "rate" "[I") (List.mem_cons_of_mem _ (List.mem_append_left _ (List.mem_append_left _ (List.mem_of_getElem? (i := 12) rfl))))
  have w15 := hts (.fieldLink RX9 63 "IslandgridModel" "charge" "[I") (List.mem_cons_of_mem _ (List.mem_append_left _ (List.mem_append_left _ (List.mem_of_getElem? (i := 13) rfl))))
  have w16 := hts (.methodLink RX9 115 Lib.Math.min.name) (List.mem_cons_of_mem _ (List.mem_append_left _ (List.mem_append_left _ (List.mem_of_getElem? (i := 14) rfl))))
  have w17 := hts (.static Lib.Math.min.name) (List.mem_cons_of_mem _ (List.mem_append_left _ (List.mem_append_left _ (List.mem_of_getElem? (i := 15) rfl))))
  have w18 := hts (.code Lib.Math.min.name Lib.Math.min.code 2 (some .int)) (List.mem_cons_of_mem _ (List.mem_append_left _ (List.mem_append_left _ (List.mem_of_getElem? (i := 16) rfl))))
  have w19 := hts (.fieldLink RX9 57 "IslandgridModel" "capacity" "[I") (List.mem_cons_of_mem _ (List.mem_append_left _ (List.mem_append_left _ (List.mem_of_getElem? (i := 17) rfl))))
  have w20 := hts (.fieldLink RX9 66 "IslandgridModel" "flow" "[I") (List.mem_cons_of_mem _ (List.mem_append_left _ (List.mem_append_left _ (List.mem_of_getElem? (i := 18) rfl))))
  have w21 := hts (.fieldLink RX9 41 "IslandgridModel" "fuel" "[I") (List.mem_cons_of_mem _ (List.mem_append_left _ (List.mem_append_left _ (List.mem_of_getElem? (i := 7) rfl))))
  have w22 := hts (.fieldLink RX9 47 "IslandgridModel" "given" "[I") (List.mem_cons_of_mem _ (List.mem_append_left _ (List.mem_append_left _ (List.mem_of_getElem? (i := 8) rfl))))
  refine lv_aload_n hX_ hB_ dX9_balances_0 rfl (lv_at hl 0 rfl) ?_
  refine lv_iload_n hX_ hB_ dX9_balances_1 rfl (lv_at hl 1 rfl) ?_
  refine ze_Vv (As := [.int m]) (rest := []) (ci := 9) (q0 := 0) (k := (RX9, TX9, 39)) S (zr_sheds l D c d n A B mk th m hN hS) (cwV 1 hts gX9_balances_X9_sheds rfl rfl rfl (by decide +kernel) ⟨Nat.le_of_ble_eq_true rfl, Nat.le_of_ble_eq_true rfl⟩) hK hW hA rfl rfl rfl hl.1 rfl (lv_room (Nat.le_of_ble_eq_true rfl)) dX9_balances_2 ⟨Nat.le_of_ble_eq_true rfl, Nat.le_of_ble_eq_true rfl⟩ (fun H locs hW => ?_)
  have hW : ze_W D (ze_wR c d n (zf_shed n A mk m (n 4)) B mk th) F s.heap _ _ := hW
  have hS1 : zf_S n (zf_shed n A mk m (n 4)) := hS
  generalize eA1 : zf_shed n A mk m (n 4) = A1 at hW hS1
  refine lv_aload_n hX_ hB_ dX9_balances_5 rfl (lv_at hl 0 rfl) ?_
  refine lv_iload_n hX_ hB_ dX9_balances_6 rfl (lv_at hl 1 rfl) ?_
  refine ze_Vi (As := [.int m]) (rest := []) (ci := 9) (q0 := 0) (k := (RX9, TX9, 39)) S (zr_demanded l D c d n A1 B mk th m hN hS1) (cwV 1 hts gX9_balances_X9_demanded rfl rfl rfl (by decide +kernel) ⟨Nat.le_of_ble_eq_true rfl, Nat.le_of_ble_eq_true rfl⟩) hK hW hA rfl rfl rfl hl.1 rfl (lv_room (Nat.le_of_ble_eq_true rfl)) dX9_balances_7 ⟨Nat.le_of_ble_eq_true rfl, Nat.le_of_ble_eq_true rfl⟩ (fun H locs hW => ?_)
  refine ze_top (rfl : _ = zf_dm n A1 mk m) ?_
  refine lv_istore_n (lv' := [(2, .int (zf_dm n A1 mk m)), (0, .ref (d 0)), (1, .int m)]) hX_ hB_ dX9_balances_10 rfl hl (by decide) rfl (fun ls hl => ?_)
  refine lv_aload_n hX_ hB_ dX9_balances_11 rfl (lv_at hl 1 rfl) ?_
  refine lv_iload_n hX_ hB_ dX9_balances_12 rfl (lv_at hl 2 rfl) ?_
  refine lv_iload_n hX_ hB_ dX9_balances_13 rfl (lv_at hl 0 rfl) ?_
  refine ze_Vi (As := [.int m, .int (zf_dm n A1 mk m)]) (rest := []) (ci := 9) (q0 := 0) (k := (RX9, TX9, 39)) S (zr_gives l D c d n A1 B mk th m (zf_dm n A1 mk m) hN hS1) (cwV 2 hts gX9_balances_X9_gives rfl rfl rfl (by decide +kernel) ⟨Nat.le_of_ble_eq_true rfl, Nat.le_of_ble_eq_true rfl⟩) hK hW hA rfl rfl rfl hl.1 rfl (lv_room (Nat.le_of_ble_eq_true rfl)) dX9_balances_14 ⟨Nat.le_of_ble_eq_true rfl, Nat.le_of_ble_eq_true rfl⟩ (fun H locs hW => ?_)
  have hW : ze_W D (ze_wR c d n (ze_sA A1 12 ((zf_gives n A1 mk m (zf_dm n A1 mk m)).2)) B mk th) F s.heap _ _ := hW
  refine ze_top (rfl : _ = (zf_gr n A1 mk m).1) ?_
  have hW : ze_W D (ze_wR c d n (ze_sA A1 12 ((zf_gr n A1 mk m).2)) B mk th) F s.heap _ _ := hW
  refine lv_istore_n (lv' := [(3, .int ((zf_gr n A1 mk m).1)), (2, .int (zf_dm n A1 mk m)), (0, .ref (d 0)), (1, .int m)]) hX_ hB_ dX9_balances_17 rfl hl (by decide) rfl (fun ls hl => ?_)
  refine lv_aload_n hX_ hB_ dX9_balances_18 rfl (lv_at hl 2 rfl) ?_
  refine lv_dup hX_ hB_ dX9_balances_19 rfl ?_
  refine ze_get (ci := 9) (C := RX9) (T := TX9) (N := 39) (v := .long (B 34)) S hiX9 hK hW 0 rfl rfl 34 (by decide) rfl w0 dX9_balances_20 ?_
  refine lv_iload_n hX_ hB_ dX9_balances_23 rfl (lv_at hl 1 rfl) ?_
  refine lv_i2l (v := (zf_dm n A1 mk m).toInt64) hX_ hB_ dX9_balances_24 rfl ?_
  refine lv_ladd hX_ hB_ dX9_balances_25 ?_
  refine ze_put (ci := 9) (C := RX9) (T := TX9) (N := 39) (v := .long (B 34 + (zf_dm n A1 mk m).toInt64)) S hiX9 tyX9 tyX9_ok nmX9 hK hW 0 rfl rfl 34 (by decide) (Nat.le_of_ble_eq_true rfl) rfl rfl rfl w0 dX9_balances_26 (ze_pR34 (B 34 + (zf_dm n A1 mk m).toInt64) _ _ _ _ _ _ _) (fun H locs hW => ?_)
  have hW : ze_W D (ze_wR c d n (ze_sA A1 12 ((zf_gr n A1 mk m).2)) (ze_sB B 34 (B 34 + (zf_dm n A1 mk m).toInt64)) mk th) F s.heap _ _ := hW
  refine lv_aload_n hX_ hB_ dX9_balances_29 rfl (lv_at hl 2 rfl) ?_
  refine lv_dup hX_ hB_ dX9_balances_30 rfl ?_
  refine ze_get (ci := 9) (C := RX9) (T := TX9) (N := 39) (v := .long (B 33)) S hiX9 hK hW 0 rfl rfl 33 (by decide) rfl w1 dX9_balances_31 ?_
  refine lv_iload_n hX_ hB_ dX9_balances_34 rfl (lv_at hl 0 rfl) ?_
  refine lv_i2l (v := ((zf_gr n A1 mk m).1).toInt64) hX_ hB_ dX9_balances_35 rfl ?_
  refine lv_ladd hX_ hB_ dX9_balances_36 ?_
  refine ze_put (ci := 9) (C := RX9) (T := TX9) (N := 39) (v := .long (B 33 + ((zf_gr n A1 mk m).1).toInt64)) S hiX9 tyX9 tyX9_ok nmX9 hK hW 0 rfl rfl 33 (by decide) (Nat.le_of_ble_eq_true rfl) rfl rfl rfl w1 dX9_balances_37 (ze_pR33 (B 33 + ((zf_gr n A1 mk m).1).toInt64) _ _ _ _ _ _ _) (fun H locs hW => ?_)
  have hW : ze_W D (ze_wR c d n (ze_sA A1 12 ((zf_gr n A1 mk m).2)) (ze_sB (ze_sB B 34 (B 34 + (zf_dm n A1 mk m).toInt64)) 33 (B 33 + ((zf_gr n A1 mk m).1).toInt64)) mk th) F s.heap _ _ := hW
  refine lv_iconst (v := 0) hX_ hB_ dX9_balances_40 (by decide) ?_
  refine lv_iload_n hX_ hB_ dX9_balances_41 rfl (lv_at hl 1 rfl) ?_
  refine lv_iload_n hX_ hB_ dX9_balances_42 rfl (lv_at hl 0 rfl) ?_
  refine lv_isub hX_ hB_ dX9_balances_43 ?_
  refine ze_max S hl.1 w2 w3 w4 w5 ⟨Nat.le_of_ble_eq_true rfl, Nat.le_of_ble_eq_true rfl, Nat.le_of_ble_eq_true rfl, Nat.le_of_ble_eq_true rfl⟩ dX9_balances_44 ?_
  refine ze_top (rfl : _ = zf_lk n A1 mk m) ?_
  refine lv_istore (lv' := [(4, .int (zf_lk n A1 mk m)), (3, .int ((zf_gr n A1 mk m).1)), (2, .int (zf_dm n A1 mk m)), (0, .ref (d 0)), (1, .int m)]) hX_ hB_ dX9_balances_47 hl (by decide) rfl (fun ls hl => ?_)
  refine lv_iconst (v := 0) hX_ hB_ dX9_balances_49 (by decide) ?_
  refine lv_iload_n hX_ hB_ dX9_balances_50 rfl (lv_at hl 1 rfl) ?_
  refine lv_iload_n hX_ hB_ dX9_balances_51 rfl (lv_at hl 2 rfl) ?_
  refine lv_isub hX_ hB_ dX9_balances_52 ?_
  refine ze_max S hl.1 w2 w3 w4 w5 ⟨Nat.le_of_ble_eq_true rfl, Nat.le_of_ble_eq_true rfl, Nat.le_of_ble_eq_true rfl, Nat.le_of_ble_eq_true rfl⟩ dX9_balances_53 ?_
  refine ze_top (rfl : _ = zf_ov n A1 mk m) ?_
  refine lv_istore (lv' := [(5, .int (zf_ov n A1 mk m)), (4, .int (zf_lk n A1 mk m)), (3, .int ((zf_gr n A1 mk m).1)), (2, .int (zf_dm n A1 mk m)), (0, .ref (d 0)), (1, .int m)]) hX_ hB_ dX9_balances_56 hl (by decide) rfl (fun ls hl => ?_)
  refine lv_iconst (v := 0) hX_ hB_ dX9_balances_58 (by decide) ?_
  refine lv_istore (lv' := [(6, .int 0), (5, .int (zf_ov n A1 mk m)), (4, .int (zf_lk n A1 mk m)), (3, .int ((zf_gr n A1 mk m).1)), (2, .int (zf_dm n A1 mk m)), (0, .ref (d 0)), (1, .int m)]) hX_ hB_ dX9_balances_59 hl (by decide) rfl (fun ls hl => ?_)
  have L61 : ∀ (k61 : Nat) (i61 : Nat), (i61 ≤ n 2) → (n 2 - i61) < k61 → ∀ (H : Heap) (locs : List Loc) (ls : Array Slot), ze_W D (ze_wR c d n (ze_sA (ze_sA A1 12 ((zf_gr n A1 mk m).2)) 10 (ze_up (zf_fuel A1 (zf_gr n A1 mk m).2 mk m) (A1 10) i61)) (ze_sB (ze_sB B 34 (B 34 + (zf_dm n A1 mk m).toInt64)) 33 (B 33 + ((zf_gr n A1 mk m).1).toInt64)) mk th) F s.heap H locs → lv_has ls 9 [(6, .int (nI i61)), (5, .int (zf_ov n A1 mk m)), (4, .int (zf_lk n A1 mk m)), (3, .int ((zf_gr n A1 mk m).1)), (2, .int (zf_dm n A1 mk m)), (0, .ref (d 0)), (1, .int m)] → W p l e { frames := 4, cells := 0, slots := 0, locals := 91 } s m_ ([.ref (d 0), .int m] : List Value).toArray below meth cd H locs 0 0 (MQ below (ze_Qv D c (ze_wR c d n A B mk th) sz (ze_wR c d n (zf_balA n A mk m) (zf_balB n A B mk m) mk th)) ([.ref (d 0), .int m] : List Value).toArray s 0 0 F) (F0 m_ 61 ls []) := by
    intro k61
    induction k61 with
    | zero =>
      intro i61 h61 hk61
      exact absurd hk61 (Nat.not_lt_zero _)
    | succ k61 ih61 =>
      intro i61 h61 hk61 H locs ls hW hl
      refine lv_iload hX_ hB_ dX9_balances_61 (lv_at hl 0 rfl) ?_
      refine lv_aload_n hX_ hB_ dX9_balances_63 rfl (lv_at hl 5 rfl) ?_
      refine ze_get (ci := 9) (C := RX9) (T := TX9) (N := 39) (v := .int (nI (n 2))) S hiX9 hK hW 0 rfl rfl 25 (by decide) rfl w6 dX9_balances_64 ?_
      refine lv_icmp_ge (tgt := 107) hX_ hB_ dX9_balances_67 (by decide) (fun c67 => ?_) (fun c67 => ?_)
      · have c67 : ¬ i61 < (n 2) := Nat.not_lt.mpr ((nI_leI (a := (n 2)) (b := i61) (by omega) (by omega)).mp c67)
        have e61 : i61 = n 2 := by omega
        subst e61
        refine lv_iconst (v := 0) hX_ hB_ dX9_balances_107 (by decide) ?_
        refine lv_istore (lv' := [(6, .int 0), (5, .int (zf_ov n A1 mk m)), (4, .int (zf_lk n A1 mk m)), (3, .int ((zf_gr n A1 mk m).1)), (2, .int (zf_dm n A1 mk m)), (0, .ref (d 0)), (1, .int m)]) hX_ hB_ dX9_balances_108 hl (by decide) rfl (fun ls hl => ?_)
        have L110 : ∀ (k110 : Nat) (i110 : Nat), (i110 ≤ n 3) → (n 3 - i110) < k110 → ∀ (H : Heap) (locs : List Loc) (ls : Array Slot), ze_W D (ze_wR c d n (ze_sA (ze_sA (ze_sA (ze_sA A1 12 ((zf_gr n A1 mk m).2)) 10 (ze_up (zf_fuel A1 (zf_gr n A1 mk m).2 mk m) (A1 10) (n 2))) 18 (ze_up (zf_flow A1 mk m (zf_lk n A1 mk m) (zf_ov n A1 mk m)) (A1 18) i110)) 17 (ze_up (zf_chg A1 mk m (zf_lk n A1 mk m) (zf_ov n A1 mk m)) (A1 17) i110)) (ze_sB (ze_sB B 34 (B 34 + (zf_dm n A1 mk m).toInt64)) 33 (B 33 + ((zf_gr n A1 mk m).1).toInt64)) mk th) F s.heap H locs → lv_has ls 9 [(6, .int (nI i110)), (5, .int ((zf_z n A1 mk m i110).2)), (4, .int ((zf_z n A1 mk m i110).1)), (3, .int ((zf_gr n A1 mk m).1)), (2, .int (zf_dm n A1 mk m)), (0, .ref (d 0)), (1, .int m)] → W p l e { frames := 4, cells := 0, slots := 0, locals := 91 } s m_ ([.ref (d 0), .int m] : List Value).toArray below meth cd H locs 0 0 (MQ below (ze_Qv D c (ze_wR c d n A B mk th) sz (ze_wR c d n (zf_balA n A mk m) (zf_balB n A B mk m) mk th)) ([.ref (d 0), .int m] : List Value).toArray s 0 0 F) (F0 m_ 110 ls []) := by
          intro k110
          induction k110 with
          | zero =>
            intro i110 h110 hk110
            exact absurd hk110 (Nat.not_lt_zero _)
          | succ k110 ih110 =>
            intro i110 h110 hk110 H locs ls hW hl
            refine lv_iload hX_ hB_ dX9_balances_110 (lv_at hl 0 rfl) ?_
            refine lv_aload_n hX_ hB_ dX9_balances_112 rfl (lv_at hl 5 rfl) ?_
            refine ze_get (ci := 9) (C := RX9) (T := TX9) (N := 39) (v := .int (nI (n 3))) S hiX9 hK hW 0 rfl rfl 26 (by decide) rfl w7 dX9_balances_113 ?_
            refine lv_icmp_ge (tgt := 238) hX_ hB_ dX9_balances_116 (by decide) (fun c116 => ?_) (fun c116 => ?_)
            · have c116 : ¬ i110 < (n 3) := Nat.not_lt.mpr ((nI_leI (a := (n 3)) (b := i110) (by omega) (by omega)).mp c116)
              have e110 : i110 = n 3 := by omega
              subst e110
              refine lv_aload_n hX_ hB_ dX9_balances_238 rfl (lv_at hl 5 rfl) ?_
              refine lv_dup hX_ hB_ dX9_balances_239 rfl ?_
              refine ze_get (ci := 9) (C := RX9) (T := TX9) (N := 39) (v := .long (B 36)) S hiX9 hK hW 0 rfl rfl 36 (by decide) rfl w8 dX9_balances_240 ?_
              refine lv_iload hX_ hB_ dX9_balances_243 (lv_at hl 2 rfl) ?_
              refine lv_i2l (v := ((zf_z n A1 mk m (n 3)).1).toInt64) hX_ hB_ dX9_balances_245 rfl ?_
              refine lv_ladd hX_ hB_ dX9_balances_246 ?_
              refine ze_put (ci := 9) (C := RX9) (T := TX9) (N := 39) (v := .long (B 36 + ((zf_z n A1 mk m (n 3)).1).toInt64)) S hiX9 tyX9 tyX9_ok nmX9 hK hW 0 rfl rfl 36 (by decide) (Nat.le_of_ble_eq_true rfl) rfl rfl rfl w8 dX9_balances_247 (ze_pR36 (B 36 + ((zf_z n A1 mk m (n 3)).1).toInt64) _ _ _ _ _ _ _) (fun H locs hW => ?_)
              have hW : ze_W D (ze_wR c d n (ze_sA (ze_sA (ze_sA (ze_sA A1 12 ((zf_gr n A1 mk m).2)) 10 (ze_up (zf_fuel A1 (zf_gr n A1 mk m).2 mk m) (A1 10) (n 2))) 18 (ze_up (zf_flow A1 mk m (zf_lk n A1 mk m) (zf_ov n A1 mk m)) (A1 18) (n 3))) 17 (ze_up (zf_chg A1 mk m (zf_lk n A1 mk m) (zf_ov n A1 mk m)) (A1 17) (n 3))) (ze_sB (ze_sB (ze_sB B 34 (B 34 + (zf_dm n A1 mk m).toInt64)) 33 (B 33 + ((zf_gr n A1 mk m).1).toInt64)) 36 (B 36 + ((zf_z n A1 mk m (n 3)).1).toInt64)) mk th) F s.heap _ _ := hW
              refine lv_aload_n hX_ hB_ dX9_balances_250 rfl (lv_at hl 5 rfl) ?_
              refine lv_dup hX_ hB_ dX9_balances_251 rfl ?_
              refine ze_get (ci := 9) (C := RX9) (T := TX9) (N := 39) (v := .int (A1 31 0)) S hiX9 hK hW 0 rfl rfl 31 (by decide) rfl w9 dX9_balances_252 ?_
              refine lv_iload hX_ hB_ dX9_balances_255 (lv_at hl 2 rfl) ?_
              refine lv_iadd hX_ hB_ dX9_balances_257 ?_
              refine ze_put (ci := 9) (C := RX9) (T := TX9) (N := 39) (v := .int (A1 31 0 + (zf_z n A1 mk m (n 3)).1)) S hiX9 tyX9 tyX9_ok nmX9 hK hW 0 rfl rfl 31 (by decide) (Nat.le_of_ble_eq_true rfl) rfl rfl rfl w9 dX9_balances_258 (ze_pR31 (A1 31 0 + (zf_z n A1 mk m (n 3)).1) _ _ _ _ _ _ _) (fun H locs hW => ?_)
              have hW : ze_W D (ze_wR c d n (ze_sC (ze_sA (ze_sA (ze_sA (ze_sA A1 12 ((zf_gr n A1 mk m).2)) 10 (ze_up (zf_fuel A1 (zf_gr n A1 mk m).2 mk m) (A1 10) (n 2))) 18 (ze_up (zf_flow A1 mk m (zf_lk n A1 mk m) (zf_ov n A1 mk m)) (A1 18) (n 3))) 17 (ze_up (zf_chg A1 mk m (zf_lk n A1 mk m) (zf_ov n A1 mk m)) (A1 17) (n 3))) 31 (A1 31 0 + (zf_z n A1 mk m (n 3)).1)) (ze_sB (ze_sB (ze_sB B 34 (B 34 + (zf_dm n A1 mk m).toInt64)) 33 (B 33 + ((zf_gr n A1 mk m).1).toInt64)) 36 (B 36 + ((zf_z n A1 mk m (n 3)).1).toInt64)) mk th) F s.heap _ _ := hW
              refine lv_aload_n hX_ hB_ dX9_balances_261 rfl (lv_at hl 5 rfl) ?_
              refine lv_dup hX_ hB_ dX9_balances_262 rfl ?_
              refine ze_get (ci := 9) (C := RX9) (T := TX9) (N := 39) (v := .long (B 37)) S hiX9 hK hW 0 rfl rfl 37 (by decide) rfl w10 dX9_balances_263 ?_
              refine lv_aload_n hX_ hB_ dX9_balances_266 rfl (lv_at hl 5 rfl) ?_
              refine lv_iload_n hX_ hB_ dX9_balances_267 rfl (lv_at hl 6 rfl) ?_
              refine ze_Vi (As := [.int m]) (rest := [.long (B 37), .ref (d 0)]) (ci := 9) (q0 := 0) (k := (RX9, TX9, 39)) S (zr_isTiedOne l D c d n (ze_sC (ze_sA (ze_sA (ze_sA (ze_sA A1 12 ((zf_gr n A1 mk m).2)) 10 (ze_up (zf_fuel A1 (zf_gr n A1 mk m).2 mk m) (A1 10) (n 2))) 18 (ze_up (zf_flow A1 mk m (zf_lk n A1 mk m) (zf_ov n A1 mk m)) (A1 18) (n 3))) 17 (ze_up (zf_chg A1 mk m (zf_lk n A1 mk m) (zf_ov n A1 mk m)) (A1 17) (n 3))) 31 (A1 31 0 + (zf_z n A1 mk m (n 3)).1)) (ze_sB (ze_sB (ze_sB B 34 (B 34 + (zf_dm n A1 mk m).toInt64)) 33 (B 33 + ((zf_gr n A1 mk m).1).toInt64)) 36 (B 36 + ((zf_z n A1 mk m (n 3)).1).toInt64)) mk th m) (cwV 1 hts gX9_balances_X9_isTiedOne rfl rfl rfl (by decide +kernel) ⟨Nat.le_of_ble_eq_true rfl, Nat.le_of_ble_eq_true rfl⟩) hK hW hA rfl rfl rfl hl.1 rfl (lv_room (Nat.le_of_ble_eq_true rfl)) dX9_balances_268 ⟨Nat.le_of_ble_eq_true rfl, Nat.le_of_ble_eq_true rfl⟩ (fun H locs hW => ?_)
              refine lv_if_eq (tgt := 280) hX_ hB_ dX9_balances_271 (by decide) (fun c271 => ?_) (fun c271 => ?_)
              · have c271 : ¬ (zf_tied A1 m) := ze_bf c271
                refine lv_lconst (v := 0) hX_ hB_ dX9_balances_280 (by decide) ?_
                refine lv_ladd hX_ hB_ dX9_balances_281 ?_
                refine ze_put (ci := 9) (C := RX9) (T := TX9) (N := 39) (v := .long (B 37 + 0)) S hiX9 tyX9 tyX9_ok nmX9 hK hW 0 rfl rfl 37 (by decide) (Nat.le_of_ble_eq_true rfl) rfl rfl rfl w10 dX9_balances_282 (ze_pR37 (B 37 + 0) _ _ _ _ _ _ _) (fun H locs hW => ?_)
                have hW : ze_W D (ze_wR c d n (ze_sC (ze_sA (ze_sA (ze_sA (ze_sA A1 12 ((zf_gr n A1 mk m).2)) 10 (ze_up (zf_fuel A1 (zf_gr n A1 mk m).2 mk m) (A1 10) (n 2))) 18 (ze_up (zf_flow A1 mk m (zf_lk n A1 mk m) (zf_ov n A1 mk m)) (A1 18) (n 3))) 17 (ze_up (zf_chg A1 mk m (zf_lk n A1 mk m) (zf_ov n A1 mk m)) (A1 17) (n 3))) 31 (A1 31 0 + (zf_z n A1 mk m (n 3)).1)) (ze_sB (ze_sB (ze_sB (ze_sB B 34 (B 34 + (zf_dm n A1 mk m).toInt64)) 33 (B 33 + ((zf_gr n A1 mk m).1).toInt64)) 36 (B 36 + ((zf_z n A1 mk m (n 3)).1).toInt64)) 37 (B 37 + 0)) mk th) F s.heap _ _ := hW
                refine lv_aload_n hX_ hB_ dX9_balances_285 rfl (lv_at hl 5 rfl) ?_
                refine lv_dup hX_ hB_ dX9_balances_286 rfl ?_
                refine ze_get (ci := 9) (C := RX9) (T := TX9) (N := 39) (v := .int (A1 31 0 + (zf_z n A1 mk m (n 3)).1)) S hiX9 hK hW 0 rfl rfl 31 (by decide) rfl w9 dX9_balances_287 ?_
                refine lv_aload_n hX_ hB_ dX9_balances_290 rfl (lv_at hl 5 rfl) ?_
                refine lv_iload_n hX_ hB_ dX9_balances_291 rfl (lv_at hl 6 rfl) ?_
                refine ze_Vi (As := [.int m]) (rest := [.int (A1 31 0 + (zf_z n A1 mk m (n 3)).1), .ref (d 0)]) (ci := 9) (q0 := 0) (k := (RX9, TX9, 39)) S (zr_isTiedOne l D c d n (ze_sC (ze_sA (ze_sA (ze_sA (ze_sA A1 12 ((zf_gr n A1 mk m).2)) 10 (ze_up (zf_fuel A1 (zf_gr n A1 mk m).2 mk m) (A1 10) (n 2))) 18 (ze_up (zf_flow A1 mk m (zf_lk n A1 mk m) (zf_ov n A1 mk m)) (A1 18) (n 3))) 17 (ze_up (zf_chg A1 mk m (zf_lk n A1 mk m) (zf_ov n A1 mk m)) (A1 17) (n 3))) 31 (A1 31 0 + (zf_z n A1 mk m (n 3)).1)) (ze_sB (ze_sB (ze_sB (ze_sB B 34 (B 34 + (zf_dm n A1 mk m).toInt64)) 33 (B 33 + ((zf_gr n A1 mk m).1).toInt64)) 36 (B 36 + ((zf_z n A1 mk m (n 3)).1).toInt64)) 37 (B 37 + 0)) mk th m) (cwV 1 hts gX9_balances_X9_isTiedOne rfl rfl rfl (by decide +kernel) ⟨Nat.le_of_ble_eq_true rfl, Nat.le_of_ble_eq_true rfl⟩) hK hW hA rfl rfl rfl hl.1 rfl (lv_room (Nat.le_of_ble_eq_true rfl)) dX9_balances_292 ⟨Nat.le_of_ble_eq_true rfl, Nat.le_of_ble_eq_true rfl⟩ (fun H locs hW => ?_)
                refine lv_if_eq (tgt := 303) hX_ hB_ dX9_balances_295 (by decide) (fun c295 => ?_) (fun c295 => ?_)
                · have c295 : ¬ (zf_tied A1 m) := ze_bf c295
                  refine lv_iconst (v := 0) hX_ hB_ dX9_balances_303 (by decide) ?_
                  refine lv_isub hX_ hB_ dX9_balances_304 ?_
                  refine ze_put (ci := 9) (C := RX9) (T := TX9) (N := 39) (v := .int ((A1 31 0 + (zf_z n A1 mk m (n 3)).1) - 0)) S hiX9 tyX9 tyX9_ok nmX9 hK hW 0 rfl rfl 31 (by decide) (Nat.le_of_ble_eq_true rfl) rfl rfl rfl w9 dX9_balances_305 (ze_pR31 ((A1 31 0 + (zf_z n A1 mk m (n 3)).1) - 0) _ _ _ _ _ _ _) (fun H locs hW => ?_)
                  have hW : ze_W D (ze_wR c d n (ze_sC (ze_sC (ze_sA (ze_sA (ze_sA (ze_sA A1 12 ((zf_gr n A1 mk m).2)) 10 (ze_up (zf_fuel A1 (zf_gr n A1 mk m).2 mk m) (A1 10) (n 2))) 18 (ze_up (zf_flow A1 mk m (zf_lk n A1 mk m) (zf_ov n A1 mk m)) (A1 18) (n 3))) 17 (ze_up (zf_chg A1 mk m (zf_lk n A1 mk m) (zf_ov n A1 mk m)) (A1 17) (n 3))) 31 (A1 31 0 + (zf_z n A1 mk m (n 3)).1)) 31 ((A1 31 0 + (zf_z n A1 mk m (n 3)).1) - 0)) (ze_sB (ze_sB (ze_sB (ze_sB B 34 (B 34 + (zf_dm n A1 mk m).toInt64)) 33 (B 33 + ((zf_gr n A1 mk m).1).toInt64)) 36 (B 36 + ((zf_z n A1 mk m (n 3)).1).toInt64)) 37 (B 37 + 0)) mk th) F s.heap _ _ := hW
                  refine lv_aload_n hX_ hB_ dX9_balances_308 rfl (lv_at hl 5 rfl) ?_
                  refine lv_dup hX_ hB_ dX9_balances_309 rfl ?_
                  refine ze_get (ci := 9) (C := RX9) (T := TX9) (N := 39) (v := .long (B 35)) S hiX9 hK hW 0 rfl rfl 35 (by decide) rfl w11 dX9_balances_310 ?_
                  refine lv_aload_n hX_ hB_ dX9_balances_313 rfl (lv_at hl 5 rfl) ?_
                  refine lv_iload_n hX_ hB_ dX9_balances_314 rfl (lv_at hl 6 rfl) ?_
                  refine ze_Vi (As := [.int m]) (rest := [.long (B 35), .ref (d 0)]) (ci := 9) (q0 := 0) (k := (RX9, TX9, 39)) S (zr_isTiedOne l D c d n (ze_sC (ze_sC (ze_sA (ze_sA (ze_sA (ze_sA A1 12 ((zf_gr n A1 mk m).2)) 10 (ze_up (zf_fuel A1 (zf_gr n A1 mk m).2 mk m) (A1 10) (n 2))) 18 (ze_up (zf_flow A1 mk m (zf_lk n A1 mk m) (zf_ov n A1 mk m)) (A1 18) (n 3))) 17 (ze_up (zf_chg A1 mk m (zf_lk n A1 mk m) (zf_ov n A1 mk m)) (A1 17) (n 3))) 31 (A1 31 0 + (zf_z n A1 mk m (n 3)).1)) 31 ((A1 31 0 + (zf_z n A1 mk m (n 3)).1) - 0)) (ze_sB (ze_sB (ze_sB (ze_sB B 34 (B 34 + (zf_dm n A1 mk m).toInt64)) 33 (B 33 + ((zf_gr n A1 mk m).1).toInt64)) 36 (B 36 + ((zf_z n A1 mk m (n 3)).1).toInt64)) 37 (B 37 + 0)) mk th m) (cwV 1 hts gX9_balances_X9_isTiedOne rfl rfl rfl (by decide +kernel) ⟨Nat.le_of_ble_eq_true rfl, Nat.le_of_ble_eq_true rfl⟩) hK hW hA rfl rfl rfl hl.1 rfl (lv_room (Nat.le_of_ble_eq_true rfl)) dX9_balances_315 ⟨Nat.le_of_ble_eq_true rfl, Nat.le_of_ble_eq_true rfl⟩ (fun H locs hW => ?_)
                  refine lv_if_eq (tgt := 325) hX_ hB_ dX9_balances_318 (by decide) (fun c318 => ?_) (fun c318 => ?_)
                  · have c318 : ¬ (zf_tied A1 m) := ze_bf c318
                    refine lv_iload hX_ hB_ dX9_balances_325 (lv_at hl 1 rfl) ?_
                    refine lv_i2l (v := ((zf_z n A1 mk m (n 3)).2).toInt64) hX_ hB_ dX9_balances_327 rfl ?_
                    refine lv_ladd hX_ hB_ dX9_balances_328 ?_
                    refine ze_put (ci := 9) (C := RX9) (T := TX9) (N := 39) (v := .long (B 35 + ((zf_z n A1 mk m (n 3)).2).toInt64)) S hiX9 tyX9 tyX9_ok nmX9 hK hW 0 rfl rfl 35 (by decide) (Nat.le_of_ble_eq_true rfl) rfl rfl rfl w11 dX9_balances_329 (ze_pR35 (B 35 + ((zf_z n A1 mk m (n 3)).2).toInt64) _ _ _ _ _ _ _) (fun H locs hW => ?_)
                    have hW : ze_W D (ze_wR c d n (ze_sC (ze_sC (ze_sA (ze_sA (ze_sA (ze_sA A1 12 ((zf_gr n A1 mk m).2)) 10 (ze_up (zf_fuel A1 (zf_gr n A1 mk m).2 mk m) (A1 10) (n 2))) 18 (ze_up (zf_flow A1 mk m (zf_lk n A1 mk m) (zf_ov n A1 mk m)) (A1 18) (n 3))) 17 (ze_up (zf_chg A1 mk m (zf_lk n A1 mk m) (zf_ov n A1 mk m)) (A1 17) (n 3))) 31 (A1 31 0 + (zf_z n A1 mk m (n 3)).1)) 31 ((A1 31 0 + (zf_z n A1 mk m (n 3)).1) - 0)) (ze_sB (ze_sB (ze_sB (ze_sB (ze_sB B 34 (B 34 + (zf_dm n A1 mk m).toInt64)) 33 (B 33 + ((zf_gr n A1 mk m).1).toInt64)) 36 (B 36 + ((zf_z n A1 mk m (n 3)).1).toInt64)) 37 (B 37 + 0)) 35 (B 35 + ((zf_z n A1 mk m (n 3)).2).toInt64)) mk th) F s.heap _ _ := hW
                    exact ze_vret S hr hlocks hF hK hW dX9_balances_332 (Nat.le_of_ble_eq_true rfl) (Nat.le_of_ble_eq_true rfl) (by subst eA1; simp only [zf_balA, zf_balB, zf_bA, zf_bB, if_neg c271])
                  · have c318 : zf_tied A1 m := ze_bt c318
                    exact absurd c318 c271
                · have c295 : zf_tied A1 m := ze_bt c295
                  exact absurd c295 c271
              · have c271 : zf_tied A1 m := ze_bt c271
                refine lv_iload hX_ hB_ dX9_balances_274 (lv_at hl 1 rfl) ?_
                refine lv_i2l (v := ((zf_z n A1 mk m (n 3)).2).toInt64) hX_ hB_ dX9_balances_276 rfl ?_
                refine lv_goto (tgt := 281) hX_ hB_ dX9_balances_277 (by decide) ?_
                refine lv_ladd hX_ hB_ dX9_balances_281 ?_
                refine ze_put (ci := 9) (C := RX9) (T := TX9) (N := 39) (v := .long (B 37 + ((zf_z n A1 mk m (n 3)).2).toInt64)) S hiX9 tyX9 tyX9_ok nmX9 hK hW 0 rfl rfl 37 (by decide) (Nat.le_of_ble_eq_true rfl) rfl rfl rfl w10 dX9_balances_282 (ze_pR37 (B 37 + ((zf_z n A1 mk m (n 3)).2).toInt64) _ _ _ _ _ _ _) (fun H locs hW => ?_)
                have hW : ze_W D (ze_wR c d n (ze_sC (ze_sA (ze_sA (ze_sA (ze_sA A1 12 ((zf_gr n A1 mk m).2)) 10 (ze_up (zf_fuel A1 (zf_gr n A1 mk m).2 mk m) (A1 10) (n 2))) 18 (ze_up (zf_flow A1 mk m (zf_lk n A1 mk m) (zf_ov n A1 mk m)) (A1 18) (n 3))) 17 (ze_up (zf_chg A1 mk m (zf_lk n A1 mk m) (zf_ov n A1 mk m)) (A1 17) (n 3))) 31 (A1 31 0 + (zf_z n A1 mk m (n 3)).1)) (ze_sB (ze_sB (ze_sB (ze_sB B 34 (B 34 + (zf_dm n A1 mk m).toInt64)) 33 (B 33 + ((zf_gr n A1 mk m).1).toInt64)) 36 (B 36 + ((zf_z n A1 mk m (n 3)).1).toInt64)) 37 (B 37 + ((zf_z n A1 mk m (n 3)).2).toInt64)) mk th) F s.heap _ _ := hW
                refine lv_aload_n hX_ hB_ dX9_balances_285 rfl (lv_at hl 5 rfl) ?_
                refine lv_dup hX_ hB_ dX9_balances_286 rfl ?_
                refine ze_get (ci := 9) (C := RX9) (T := TX9) (N := 39) (v := .int (A1 31 0 + (zf_z n A1 mk m (n 3)).1)) S hiX9 hK hW 0 rfl rfl 31 (by decide) rfl w9 dX9_balances_287 ?_
                refine lv_aload_n hX_ hB_ dX9_balances_290 rfl (lv_at hl 5 rfl) ?_
                refine lv_iload_n hX_ hB_ dX9_balances_291 rfl (lv_at hl 6 rfl) ?_
                refine ze_Vi (As := [.int m]) (rest := [.int (A1 31 0 + (zf_z n A1 mk m (n 3)).1), .ref (d 0)]) (ci := 9) (q0 := 0) (k := (RX9, TX9, 39)) S (zr_isTiedOne l D c d n (ze_sC (ze_sA (ze_sA (ze_sA (ze_sA A1 12 ((zf_gr n A1 mk m).2)) 10 (ze_up (zf_fuel A1 (zf_gr n A1 mk m).2 mk m) (A1 10) (n 2))) 18 (ze_up (zf_flow A1 mk m (zf_lk n A1 mk m) (zf_ov n A1 mk m)) (A1 18) (n 3))) 17 (ze_up (zf_chg A1 mk m (zf_lk n A1 mk m) (zf_ov n A1 mk m)) (A1 17) (n 3))) 31 (A1 31 0 + (zf_z n A1 mk m (n 3)).1)) (ze_sB (ze_sB (ze_sB (ze_sB B 34 (B 34 + (zf_dm n A1 mk m).toInt64)) 33 (B 33 + ((zf_gr n A1 mk m).1).toInt64)) 36 (B 36 + ((zf_z n A1 mk m (n 3)).1).toInt64)) 37 (B 37 + ((zf_z n A1 mk m (n 3)).2).toInt64)) mk th m) (cwV 1 hts gX9_balances_X9_isTiedOne rfl rfl rfl (by decide +kernel) ⟨Nat.le_of_ble_eq_true rfl, Nat.le_of_ble_eq_true rfl⟩) hK hW hA rfl rfl rfl hl.1 rfl (lv_room (Nat.le_of_ble_eq_true rfl)) dX9_balances_292 ⟨Nat.le_of_ble_eq_true rfl, Nat.le_of_ble_eq_true rfl⟩ (fun H locs hW => ?_)
                refine lv_if_eq (tgt := 303) hX_ hB_ dX9_balances_295 (by decide) (fun c295 => ?_) (fun c295 => ?_)
                · have c295 : ¬ (zf_tied A1 m) := ze_bf c295
                  exact absurd c271 c295
                · have c295 : zf_tied A1 m := ze_bt c295
                  refine lv_iload hX_ hB_ dX9_balances_298 (lv_at hl 1 rfl) ?_
                  refine lv_goto (tgt := 304) hX_ hB_ dX9_balances_300 (by decide) ?_
                  refine lv_isub hX_ hB_ dX9_balances_304 ?_
                  refine ze_put (ci := 9) (C := RX9) (T := TX9) (N := 39) (v := .int ((A1 31 0 + (zf_z n A1 mk m (n 3)).1) - (zf_z n A1 mk m (n 3)).2)) S hiX9 tyX9 tyX9_ok nmX9 hK hW 0 rfl rfl 31 (by decide) (Nat.le_of_ble_eq_true rfl) rfl rfl rfl w9 dX9_balances_305 (ze_pR31 ((A1 31 0 + (zf_z n A1 mk m (n 3)).1) - (zf_z n A1 mk m (n 3)).2) _ _ _ _ _ _ _) (fun H locs hW => ?_)
                  have hW : ze_W D (ze_wR c d n (ze_sC (ze_sC (ze_sA (ze_sA (ze_sA (ze_sA A1 12 ((zf_gr n A1 mk m).2)) 10 (ze_up (zf_fuel A1 (zf_gr n A1 mk m).2 mk m) (A1 10) (n 2))) 18 (ze_up (zf_flow A1 mk m (zf_lk n A1 mk m) (zf_ov n A1 mk m)) (A1 18) (n 3))) 17 (ze_up (zf_chg A1 mk m (zf_lk n A1 mk m) (zf_ov n A1 mk m)) (A1 17) (n 3))) 31 (A1 31 0 + (zf_z n A1 mk m (n 3)).1)) 31 ((A1 31 0 + (zf_z n A1 mk m (n 3)).1) - (zf_z n A1 mk m (n 3)).2)) (ze_sB (ze_sB (ze_sB (ze_sB B 34 (B 34 + (zf_dm n A1 mk m).toInt64)) 33 (B 33 + ((zf_gr n A1 mk m).1).toInt64)) 36 (B 36 + ((zf_z n A1 mk m (n 3)).1).toInt64)) 37 (B 37 + ((zf_z n A1 mk m (n 3)).2).toInt64)) mk th) F s.heap _ _ := hW
                  refine lv_aload_n hX_ hB_ dX9_balances_308 rfl (lv_at hl 5 rfl) ?_
                  refine lv_dup hX_ hB_ dX9_balances_309 rfl ?_
                  refine ze_get (ci := 9) (C := RX9) (T := TX9) (N := 39) (v := .long (B 35)) S hiX9 hK hW 0 rfl rfl 35 (by decide) rfl w11 dX9_balances_310 ?_
                  refine lv_aload_n hX_ hB_ dX9_balances_313 rfl (lv_at hl 5 rfl) ?_
                  refine lv_iload_n hX_ hB_ dX9_balances_314 rfl (lv_at hl 6 rfl) ?_
                  refine ze_Vi (As := [.int m]) (rest := [.long (B 35), .ref (d 0)]) (ci := 9) (q0 := 0) (k := (RX9, TX9, 39)) S (zr_isTiedOne l D c d n (ze_sC (ze_sC (ze_sA (ze_sA (ze_sA (ze_sA A1 12 ((zf_gr n A1 mk m).2)) 10 (ze_up (zf_fuel A1 (zf_gr n A1 mk m).2 mk m) (A1 10) (n 2))) 18 (ze_up (zf_flow A1 mk m (zf_lk n A1 mk m) (zf_ov n A1 mk m)) (A1 18) (n 3))) 17 (ze_up (zf_chg A1 mk m (zf_lk n A1 mk m) (zf_ov n A1 mk m)) (A1 17) (n 3))) 31 (A1 31 0 + (zf_z n A1 mk m (n 3)).1)) 31 ((A1 31 0 + (zf_z n A1 mk m (n 3)).1) - (zf_z n A1 mk m (n 3)).2)) (ze_sB (ze_sB (ze_sB (ze_sB B 34 (B 34 + (zf_dm n A1 mk m).toInt64)) 33 (B 33 + ((zf_gr n A1 mk m).1).toInt64)) 36 (B 36 + ((zf_z n A1 mk m (n 3)).1).toInt64)) 37 (B 37 + ((zf_z n A1 mk m (n 3)).2).toInt64)) mk th m) (cwV 1 hts gX9_balances_X9_isTiedOne rfl rfl rfl (by decide +kernel) ⟨Nat.le_of_ble_eq_true rfl, Nat.le_of_ble_eq_true rfl⟩) hK hW hA rfl rfl rfl hl.1 rfl (lv_room (Nat.le_of_ble_eq_true rfl)) dX9_balances_315 ⟨Nat.le_of_ble_eq_true rfl, Nat.le_of_ble_eq_true rfl⟩ (fun H locs hW => ?_)
                  refine lv_if_eq (tgt := 325) hX_ hB_ dX9_balances_318 (by decide) (fun c318 => ?_) (fun c318 => ?_)
                  · have c318 : ¬ (zf_tied A1 m) := ze_bf c318
                    exact absurd c271 c318
                  · have c318 : zf_tied A1 m := ze_bt c318
                    refine lv_lconst (v := 0) hX_ hB_ dX9_balances_321 (by decide) ?_
                    refine lv_goto (tgt := 328) hX_ hB_ dX9_balances_322 (by decide) ?_
                    refine lv_ladd hX_ hB_ dX9_balances_328 ?_
                    refine ze_put (ci := 9) (C := RX9) (T := TX9) (N := 39) (v := .long (B 35 + 0)) S hiX9 tyX9 tyX9_ok nmX9 hK hW 0 rfl rfl 35 (by decide) (Nat.le_of_ble_eq_true rfl) rfl rfl rfl w11 dX9_balances_329 (ze_pR35 (B 35 + 0) _ _ _ _ _ _ _) (fun H locs hW => ?_)
                    have hW : ze_W D (ze_wR c d n (ze_sC (ze_sC (ze_sA (ze_sA (ze_sA (ze_sA A1 12 ((zf_gr n A1 mk m).2)) 10 (ze_up (zf_fuel A1 (zf_gr n A1 mk m).2 mk m) (A1 10) (n 2))) 18 (ze_up (zf_flow A1 mk m (zf_lk n A1 mk m) (zf_ov n A1 mk m)) (A1 18) (n 3))) 17 (ze_up (zf_chg A1 mk m (zf_lk n A1 mk m) (zf_ov n A1 mk m)) (A1 17) (n 3))) 31 (A1 31 0 + (zf_z n A1 mk m (n 3)).1)) 31 ((A1 31 0 + (zf_z n A1 mk m (n 3)).1) - (zf_z n A1 mk m (n 3)).2)) (ze_sB (ze_sB (ze_sB (ze_sB (ze_sB B 34 (B 34 + (zf_dm n A1 mk m).toInt64)) 33 (B 33 + ((zf_gr n A1 mk m).1).toInt64)) 36 (B 36 + ((zf_z n A1 mk m (n 3)).1).toInt64)) 37 (B 37 + ((zf_z n A1 mk m (n 3)).2).toInt64)) 35 (B 35 + 0)) mk th) F s.heap _ _ := hW
                    exact ze_vret S hr hlocks hF hK hW dX9_balances_332 (Nat.le_of_ble_eq_true rfl) (Nat.le_of_ble_eq_true rfl) (by subst eA1; simp only [zf_balA, zf_balB, zf_bA, zf_bB, if_pos c271])
            · have c116 : i110 < (n 3) := Nat.lt_of_not_le (fun h9 => c116 ((nI_leI (a := (n 3)) (b := i110) (by omega) (by omega)).mpr h9))
              refine lv_aload_n hX_ hB_ dX9_balances_119 rfl (lv_at hl 5 rfl) ?_
              refine ze_get (ci := 9) (C := RX9) (T := TX9) (N := 39) (v := .ref (d 2)) S hiX9 hK hW 0 rfl rfl 1 (by decide) rfl w12 dX9_balances_120 ?_
              refine lv_aload_n hX_ hB_ dX9_balances_123 rfl (lv_at hl 5 rfl) ?_
              refine ze_get (ci := 9) (C := RX9) (T := TX9) (N := 39) (v := .ref (d 15)) S hiX9 hK hW 0 rfl rfl 14 (by decide) rfl w13 dX9_balances_124 ?_
              refine lv_iload hX_ hB_ dX9_balances_127 (lv_at hl 0 rfl) ?_
              refine ze_ialdN hX_ hB_ hK hW 15 (f := A1 14) rfl (i := i110) (by omega) (by decide) dX9_balances_129 ?_
              refine ze_iald hX_ hB_ hK hW 2 (f := mk) rfl (zf_in hN (hS1.2.2.1 i110 (by omega))) dX9_balances_130 ?_
              refine lv_iload_n hX_ hB_ dX9_balances_131 rfl (lv_at hl 6 rfl) ?_
              refine lv_icmp_ne (tgt := 232) hX_ hB_ dX9_balances_132 (by decide) (fun c132 => ?_) (fun c132 => ?_)
              · refine lv_iinc (v := nI (i110 + 1)) (lv' := [(6, .int (nI (i110 + 1))), (5, .int ((zf_z n A1 mk m i110).2)), (4, .int ((zf_z n A1 mk m i110).1)), (3, .int ((zf_gr n A1 mk m).1)), (2, .int (zf_dm n A1 mk m)), (0, .ref (d 0)), (1, .int m)]) hX_ hB_ dX9_balances_232 hl (k := 0) rfl (ze_inc _) (by decide) rfl (fun ls hl => ?_)
                refine lv_goto (tgt := 110) hX_ hB_ dX9_balances_235 (by decide) ?_
                have eL5 : (zf_z n A1 mk m i110).2 = (zf_z n A1 mk m (i110 + 1)).2 := (by simp only [ze_b, zf_z, zf_bl, eq_false c132, not_true_eq_false, not_false_eq_true, and_true, true_and, and_false, false_and, or_true, true_or, or_false, false_or, and_self, or_self, Decidable.not_not, if_true, if_false, reduceIte, reduceCtorEq, ne_eq, eq_self, Int32.lt_irrefl, Int32.le_refl, Nat.lt_irrefl])
                have eL4 : (zf_z n A1 mk m i110).1 = (zf_z n A1 mk m (i110 + 1)).1 := (by simp only [ze_b, zf_z, zf_bl, eq_false c132, not_true_eq_false, not_false_eq_true, and_true, true_and, and_false, false_and, or_true, true_or, or_false, false_or, and_self, or_self, Decidable.not_not, if_true, if_false, reduceIte, reduceCtorEq, ne_eq, eq_self, Int32.lt_irrefl, Int32.le_refl, Nat.lt_irrefl])
                have hl : lv_has ls 9 [(6, .int (nI (i110 + 1))), (5, .int ((zf_z n A1 mk m (i110 + 1)).2)), (4, .int ((zf_z n A1 mk m (i110 + 1)).1)), (3, .int ((zf_gr n A1 mk m).1)), (2, .int (zf_dm n A1 mk m)), (0, .ref (d 0)), (1, .int m)] := by
                  first | (rw [← eL5, ← eL4]; exact hl) | (simp only [← eL5, ← eL4]; exact hl)
                have eW : (ze_wR c d n (ze_sA (ze_sA (ze_sA (ze_sA A1 12 ((zf_gr n A1 mk m).2)) 10 (ze_up (zf_fuel A1 (zf_gr n A1 mk m).2 mk m) (A1 10) (n 2))) 18 (ze_up (zf_flow A1 mk m (zf_lk n A1 mk m) (zf_ov n A1 mk m)) (A1 18) i110)) 17 (ze_up (zf_chg A1 mk m (zf_lk n A1 mk m) (zf_ov n A1 mk m)) (A1 17) i110)) (ze_sB (ze_sB B 34 (B 34 + (zf_dm n A1 mk m).toInt64)) 33 (B 33 + ((zf_gr n A1 mk m).1).toInt64)) mk th) = (ze_wR c d n (ze_sA (ze_sA (ze_sA (ze_sA A1 12 ((zf_gr n A1 mk m).2)) 10 (ze_up (zf_fuel A1 (zf_gr n A1 mk m).2 mk m) (A1 10) (n 2))) 18 (ze_up (zf_flow A1 mk m (zf_lk n A1 mk m) (zf_ov n A1 mk m)) (A1 18) (i110 + 1))) 17 (ze_up (zf_chg A1 mk m (zf_lk n A1 mk m) (zf_ov n A1 mk m)) (A1 17) (i110 + 1))) (ze_sB (ze_sB B 34 (B 34 + (zf_dm n A1 mk m).toInt64)) 33 (B 33 + ((zf_gr n A1 mk m).1).toInt64)) mk th) := (by rw [ze_up_k (f := (zf_flow A1 mk m (zf_lk n A1 mk m) (zf_ov n A1 mk m))) (by simp only [ze_b, zf_flow, eq_false c132, not_true_eq_false, not_false_eq_true, and_true, true_and, and_false, false_and, or_true, true_or, or_false, false_or, and_self, or_self, Decidable.not_not, if_true, if_false, reduceIte, reduceCtorEq, ne_eq, eq_self, Int32.lt_irrefl, Int32.le_refl, Nat.lt_irrefl]), ze_up_k (f := (zf_chg A1 mk m (zf_lk n A1 mk m) (zf_ov n A1 mk m))) (by simp only [ze_b, zf_chg, eq_false c132, not_true_eq_false, not_false_eq_true, and_true, true_and, and_false, false_and, or_true, true_or, or_false, false_or, and_self, or_self, Decidable.not_not, if_true, if_false, reduceIte, reduceCtorEq, ne_eq, eq_self, Int32.lt_irrefl, Int32.le_refl, Nat.lt_irrefl])])
                rw [eW] at hW
                exact ih110 (i110 + 1) (by omega) (by omega) _ _ ls hW (lv_sub hl [0, 1, 2, 3, 4, 5, 6] rfl)
              · refine lv_iload hX_ hB_ dX9_balances_135 (lv_at hl 2 rfl) ?_
                refine lv_aload_n hX_ hB_ dX9_balances_137 rfl (lv_at hl 5 rfl) ?_
                refine ze_get (ci := 9) (C := RX9) (T := TX9) (N := 39) (v := .ref (d 17)) S hiX9 hK hW 0 rfl rfl 16 (by decide) rfl w14 dX9_balances_138 ?_
                refine lv_iload hX_ hB_ dX9_balances_141 (lv_at hl 0 rfl) ?_
                refine ze_ialdN hX_ hB_ hK hW 17 (f := A1 16) rfl (i := i110) (by omega) (by decide) dX9_balances_143 ?_
                refine lv_aload_n hX_ hB_ dX9_balances_144 rfl (lv_at hl 5 rfl) ?_
                refine ze_get (ci := 9) (C := RX9) (T := TX9) (N := 39) (v := .ref (d 18)) S hiX9 hK hW 0 rfl rfl 17 (by decide) rfl w15 dX9_balances_145 ?_
                refine lv_iload hX_ hB_ dX9_balances_148 (lv_at hl 0 rfl) ?_
                refine ze_ialdN hX_ hB_ hK hW 18 (f := (ze_up (zf_chg A1 mk m (zf_lk n A1 mk m) (zf_ov n A1 mk m)) (A1 17) i110)) rfl (i := i110) (by omega) (by decide) dX9_balances_150 ?_
                refine ze_top (ze_up_at _ _ _) ?_
                refine ze_min S hl.1 w16 w17 w4 w18 ⟨Nat.le_of_ble_eq_true rfl, Nat.le_of_ble_eq_true rfl, Nat.le_of_ble_eq_true rfl, Nat.le_of_ble_eq_true rfl⟩ dX9_balances_151 ?_
                refine ze_min S hl.1 w16 w17 w4 w18 ⟨Nat.le_of_ble_eq_true rfl, Nat.le_of_ble_eq_true rfl, Nat.le_of_ble_eq_true rfl, Nat.le_of_ble_eq_true rfl⟩ dX9_balances_154 ?_
                refine lv_istore (lv' := [(7, .int (ze_mn ((zf_z n A1 mk m i110).1) (ze_mn (A1 16 i110) (A1 17 i110)))), (6, .int (nI i110)), (5, .int ((zf_z n A1 mk m i110).2)), (4, .int ((zf_z n A1 mk m i110).1)), (3, .int ((zf_gr n A1 mk m).1)), (2, .int (zf_dm n A1 mk m)), (0, .ref (d 0)), (1, .int m)]) hX_ hB_ dX9_balances_157 hl (by decide) rfl (fun ls hl => ?_)
                refine lv_iload hX_ hB_ dX9_balances_159 (lv_at hl 2 rfl) ?_
                refine lv_aload_n hX_ hB_ dX9_balances_161 rfl (lv_at hl 6 rfl) ?_
                refine ze_get (ci := 9) (C := RX9) (T := TX9) (N := 39) (v := .ref (d 17)) S hiX9 hK hW 0 rfl rfl 16 (by decide) rfl w14 dX9_balances_162 ?_
                refine lv_iload hX_ hB_ dX9_balances_165 (lv_at hl 1 rfl) ?_
                refine ze_ialdN hX_ hB_ hK hW 17 (f := A1 16) rfl (i := i110) (by omega) (by decide) dX9_balances_167 ?_
                refine lv_aload_n hX_ hB_ dX9_balances_168 rfl (lv_at hl 6 rfl) ?_
                refine ze_get (ci := 9) (C := RX9) (T := TX9) (N := 39) (v := .ref (d 16)) S hiX9 hK hW 0 rfl rfl 15 (by decide) rfl w19 dX9_balances_169 ?_
                refine lv_iload hX_ hB_ dX9_balances_172 (lv_at hl 1 rfl) ?_
                refine ze_ialdN hX_ hB_ hK hW 16 (f := A1 15) rfl (i := i110) (by omega) (by decide) dX9_balances_174 ?_
                refine lv_aload_n hX_ hB_ dX9_balances_175 rfl (lv_at hl 6 rfl) ?_
                refine ze_get (ci := 9) (C := RX9) (T := TX9) (N := 39) (v := .ref (d 18)) S hiX9 hK hW 0 rfl rfl 17 (by decide) rfl w15 dX9_balances_176 ?_
                refine lv_iload hX_ hB_ dX9_balances_179 (lv_at hl 1 rfl) ?_
                refine ze_ialdN hX_ hB_ hK hW 18 (f := (ze_up (zf_chg A1 mk m (zf_lk n A1 mk m) (zf_ov n A1 mk m)) (A1 17) i110)) rfl (i := i110) (by omega) (by decide) dX9_balances_181 ?_
                refine ze_top (ze_up_at _ _ _) ?_
                refine lv_isub hX_ hB_ dX9_balances_182 ?_
                refine ze_min S hl.1 w16 w17 w4 w18 ⟨Nat.le_of_ble_eq_true rfl, Nat.le_of_ble_eq_true rfl, Nat.le_of_ble_eq_true rfl, Nat.le_of_ble_eq_true rfl⟩ dX9_balances_183 ?_
                refine ze_min S hl.1 w16 w17 w4 w18 ⟨Nat.le_of_ble_eq_true rfl, Nat.le_of_ble_eq_true rfl, Nat.le_of_ble_eq_true rfl, Nat.le_of_ble_eq_true rfl⟩ dX9_balances_186 ?_
                refine lv_istore (lv' := [(8, .int (ze_mn ((zf_z n A1 mk m i110).2) (ze_mn (A1 16 i110) (A1 15 i110 - A1 17 i110)))), (7, .int (ze_mn ((zf_z n A1 mk m i110).1) (ze_mn (A1 16 i110) (A1 17 i110)))), (6, .int (nI i110)), (5, .int ((zf_z n A1 mk m i110).2)), (4, .int ((zf_z n A1 mk m i110).1)), (3, .int ((zf_gr n A1 mk m).1)), (2, .int (zf_dm n A1 mk m)), (0, .ref (d 0)), (1, .int m)]) hX_ hB_ dX9_balances_189 hl (by decide) rfl (fun ls hl => ?_)
                refine lv_iload hX_ hB_ dX9_balances_191 (lv_at hl 4 rfl) ?_
                refine lv_iload hX_ hB_ dX9_balances_193 (lv_at hl 1 rfl) ?_
                refine lv_isub hX_ hB_ dX9_balances_195 ?_
                refine lv_istore (lv' := [(4, .int ((zf_z n A1 mk m i110).1 - ze_mn ((zf_z n A1 mk m i110).1) (ze_mn (A1 16 i110) (A1 17 i110)))), (8, .int (ze_mn ((zf_z n A1 mk m i110).2) (ze_mn (A1 16 i110) (A1 15 i110 - A1 17 i110)))), (7, .int (ze_mn ((zf_z n A1 mk m i110).1) (ze_mn (A1 16 i110) (A1 17 i110)))), (6, .int (nI i110)), (5, .int ((zf_z n A1 mk m i110).2)), (3, .int ((zf_gr n A1 mk m).1)), (2, .int (zf_dm n A1 mk m)), (0, .ref (d 0)), (1, .int m)]) hX_ hB_ dX9_balances_196 hl (by decide) rfl (fun ls hl => ?_)
                refine lv_iload hX_ hB_ dX9_balances_198 (lv_at hl 4 rfl) ?_
                refine lv_iload hX_ hB_ dX9_balances_200 (lv_at hl 1 rfl) ?_
                refine lv_isub hX_ hB_ dX9_balances_202 ?_
                refine lv_istore (lv' := [(5, .int ((zf_z n A1 mk m i110).2 - ze_mn ((zf_z n A1 mk m i110).2) (ze_mn (A1 16 i110) (A1 15 i110 - A1 17 i110)))), (4, .int ((zf_z n A1 mk m i110).1 - ze_mn ((zf_z n A1 mk m i110).1) (ze_mn (A1 16 i110) (A1 17 i110)))), (8, .int (ze_mn ((zf_z n A1 mk m i110).2) (ze_mn (A1 16 i110) (A1 15 i110 - A1 17 i110)))), (7, .int (ze_mn ((zf_z n A1 mk m i110).1) (ze_mn (A1 16 i110) (A1 17 i110)))), (6, .int (nI i110)), (3, .int ((zf_gr n A1 mk m).1)), (2, .int (zf_dm n A1 mk m)), (0, .ref (d 0)), (1, .int m)]) hX_ hB_ dX9_balances_203 hl (by decide) rfl (fun ls hl => ?_)
                refine lv_aload_n hX_ hB_ dX9_balances_205 rfl (lv_at hl 7 rfl) ?_
                refine ze_get (ci := 9) (C := RX9) (T := TX9) (N := 39) (v := .ref (d 19)) S hiX9 hK hW 0 rfl rfl 18 (by decide) rfl w20 dX9_balances_206 ?_
                refine lv_iload hX_ hB_ dX9_balances_209 (lv_at hl 4 rfl) ?_
                refine lv_iload hX_ hB_ dX9_balances_211 (lv_at hl 3 rfl) ?_
                refine lv_iload hX_ hB_ dX9_balances_213 (lv_at hl 2 rfl) ?_
                refine lv_isub hX_ hB_ dX9_balances_215 ?_
                refine ze_iastN hX_ hB_ hK hW 19 (f := (ze_up (zf_flow A1 mk m (zf_lk n A1 mk m) (zf_ov n A1 mk m)) (A1 18) i110)) rfl (i := i110) (by omega) (by decide) dX9_balances_216 (ze_qR18 i110 (ze_mn ((zf_z n A1 mk m i110).1) (ze_mn (A1 16 i110) (A1 17 i110)) - ze_mn ((zf_z n A1 mk m i110).2) (ze_mn (A1 16 i110) (A1 15 i110 - A1 17 i110))) _ _ _ _ _ _ _) (fun H locs hW => ?_)
                have hW : ze_W D (ze_wR c d n (ze_sE (ze_sA (ze_sA (ze_sA (ze_sA A1 12 ((zf_gr n A1 mk m).2)) 10 (ze_up (zf_fuel A1 (zf_gr n A1 mk m).2 mk m) (A1 10) (n 2))) 18 (ze_up (zf_flow A1 mk m (zf_lk n A1 mk m) (zf_ov n A1 mk m)) (A1 18) i110)) 17 (ze_up (zf_chg A1 mk m (zf_lk n A1 mk m) (zf_ov n A1 mk m)) (A1 17) i110)) 18 i110 (ze_mn ((zf_z n A1 mk m i110).1) (ze_mn (A1 16 i110) (A1 17 i110)) - ze_mn ((zf_z n A1 mk m i110).2) (ze_mn (A1 16 i110) (A1 15 i110 - A1 17 i110)))) (ze_sB (ze_sB B 34 (B 34 + (zf_dm n A1 mk m).toInt64)) 33 (B 33 + ((zf_gr n A1 mk m).1).toInt64)) mk th) F s.heap _ _ := hW
                refine lv_aload_n hX_ hB_ dX9_balances_217 rfl (lv_at hl 7 rfl) ?_
                refine ze_get (ci := 9) (C := RX9) (T := TX9) (N := 39) (v := .ref (d 18)) S hiX9 hK hW 0 rfl rfl 17 (by decide) rfl w15 dX9_balances_218 ?_
                refine lv_iload hX_ hB_ dX9_balances_221 (lv_at hl 4 rfl) ?_
                refine lv_dup2_11 hX_ hB_ dX9_balances_223 rfl rfl ?_
                refine ze_ialdN hX_ hB_ hK hW 18 (f := (ze_up (zf_chg A1 mk m (zf_lk n A1 mk m) (zf_ov n A1 mk m)) (A1 17) i110)) rfl (i := i110) (by omega) (by decide) dX9_balances_224 ?_
                refine ze_top (ze_up_at _ _ _) ?_
                refine lv_iload hX_ hB_ dX9_balances_225 (lv_at hl 2 rfl) ?_
                refine lv_iload hX_ hB_ dX9_balances_227 (lv_at hl 3 rfl) ?_
                refine lv_isub hX_ hB_ dX9_balances_229 ?_
                refine lv_iadd hX_ hB_ dX9_balances_230 ?_
                refine ze_iastN hX_ hB_ hK hW 18 (f := (ze_up (zf_chg A1 mk m (zf_lk n A1 mk m) (zf_ov n A1 mk m)) (A1 17) i110)) rfl (i := i110) (by omega) (by decide) dX9_balances_231 (ze_qR17 i110 (A1 17 i110 + (ze_mn ((zf_z n A1 mk m i110).2) (ze_mn (A1 16 i110) (A1 15 i110 - A1 17 i110)) - ze_mn ((zf_z n A1 mk m i110).1) (ze_mn (A1 16 i110) (A1 17 i110)))) _ _ _ _ _ _ _) (fun H locs hW => ?_)
                have hW : ze_W D (ze_wR c d n (ze_sE (ze_sE (ze_sA (ze_sA (ze_sA (ze_sA A1 12 ((zf_gr n A1 mk m).2)) 10 (ze_up (zf_fuel A1 (zf_gr n A1 mk m).2 mk m) (A1 10) (n 2))) 18 (ze_up (zf_flow A1 mk m (zf_lk n A1 mk m) (zf_ov n A1 mk m)) (A1 18) i110)) 17 (ze_up (zf_chg A1 mk m (zf_lk n A1 mk m) (zf_ov n A1 mk m)) (A1 17) i110)) 18 i110 (ze_mn ((zf_z n A1 mk m i110).1) (ze_mn (A1 16 i110) (A1 17 i110)) - ze_mn ((zf_z n A1 mk m i110).2) (ze_mn (A1 16 i110) (A1 15 i110 - A1 17 i110)))) 17 i110 (A1 17 i110 + (ze_mn ((zf_z n A1 mk m i110).2) (ze_mn (A1 16 i110) (A1 15 i110 - A1 17 i110)) - ze_mn ((zf_z n A1 mk m i110).1) (ze_mn (A1 16 i110) (A1 17 i110))))) (ze_sB (ze_sB B 34 (B 34 + (zf_dm n A1 mk m).toInt64)) 33 (B 33 + ((zf_gr n A1 mk m).1).toInt64)) mk th) F s.heap _ _ := hW
                refine lv_iinc (v := nI (i110 + 1)) (lv' := [(6, .int (nI (i110 + 1))), (5, .int ((zf_z n A1 mk m i110).2 - ze_mn ((zf_z n A1 mk m i110).2) (ze_mn (A1 16 i110) (A1 15 i110 - A1 17 i110)))), (4, .int ((zf_z n A1 mk m i110).1 - ze_mn ((zf_z n A1 mk m i110).1) (ze_mn (A1 16 i110) (A1 17 i110)))), (8, .int (ze_mn ((zf_z n A1 mk m i110).2) (ze_mn (A1 16 i110) (A1 15 i110 - A1 17 i110)))), (7, .int (ze_mn ((zf_z n A1 mk m i110).1) (ze_mn (A1 16 i110) (A1 17 i110)))), (3, .int ((zf_gr n A1 mk m).1)), (2, .int (zf_dm n A1 mk m)), (0, .ref (d 0)), (1, .int m)]) hX_ hB_ dX9_balances_232 hl (k := 4) rfl (ze_inc _) (by decide) rfl (fun ls hl => ?_)
                refine lv_goto (tgt := 110) hX_ hB_ dX9_balances_235 (by decide) ?_
                have eL5 : (zf_z n A1 mk m i110).2 - ze_mn ((zf_z n A1 mk m i110).2) (ze_mn (A1 16 i110) (A1 15 i110 - A1 17 i110)) = (zf_z n A1 mk m (i110 + 1)).2 := (by simp only [ze_b, zf_z, zf_bl, eq_true c132, not_true_eq_false, not_false_eq_true, and_true, true_and, and_false, false_and, or_true, true_or, or_false, false_or, and_self, or_self, Decidable.not_not, if_true, if_false, reduceIte, reduceCtorEq, ne_eq, eq_self, Int32.lt_irrefl, Int32.le_refl, Nat.lt_irrefl])
                have eL4 : (zf_z n A1 mk m i110).1 - ze_mn ((zf_z n A1 mk m i110).1) (ze_mn (A1 16 i110) (A1 17 i110)) = (zf_z n A1 mk m (i110 + 1)).1 := (by simp only [ze_b, zf_z, zf_bl, eq_true c132, not_true_eq_false, not_false_eq_true, and_true, true_and, and_false, false_and, or_true, true_or, or_false, false_or, and_self, or_self, Decidable.not_not, if_true, if_false, reduceIte, reduceCtorEq, ne_eq, eq_self, Int32.lt_irrefl, Int32.le_refl, Nat.lt_irrefl])
                have hl : lv_has ls 9 [(6, .int (nI (i110 + 1))), (5, .int ((zf_z n A1 mk m (i110 + 1)).2)), (4, .int ((zf_z n A1 mk m (i110 + 1)).1)), (8, .int (ze_mn ((zf_z n A1 mk m i110).2) (ze_mn (A1 16 i110) (A1 15 i110 - A1 17 i110)))), (7, .int (ze_mn ((zf_z n A1 mk m i110).1) (ze_mn (A1 16 i110) (A1 17 i110)))), (3, .int ((zf_gr n A1 mk m).1)), (2, .int (zf_dm n A1 mk m)), (0, .ref (d 0)), (1, .int m)] := by
                  first | (rw [← eL5, ← eL4]; exact hl) | (simp only [← eL5, ← eL4]; exact hl)
                have eW : (ze_wR c d n (ze_sE (ze_sE (ze_sA (ze_sA (ze_sA (ze_sA A1 12 ((zf_gr n A1 mk m).2)) 10 (ze_up (zf_fuel A1 (zf_gr n A1 mk m).2 mk m) (A1 10) (n 2))) 18 (ze_up (zf_flow A1 mk m (zf_lk n A1 mk m) (zf_ov n A1 mk m)) (A1 18) i110)) 17 (ze_up (zf_chg A1 mk m (zf_lk n A1 mk m) (zf_ov n A1 mk m)) (A1 17) i110)) 18 i110 (ze_mn ((zf_z n A1 mk m i110).1) (ze_mn (A1 16 i110) (A1 17 i110)) - ze_mn ((zf_z n A1 mk m i110).2) (ze_mn (A1 16 i110) (A1 15 i110 - A1 17 i110)))) 17 i110 (A1 17 i110 + (ze_mn ((zf_z n A1 mk m i110).2) (ze_mn (A1 16 i110) (A1 15 i110 - A1 17 i110)) - ze_mn ((zf_z n A1 mk m i110).1) (ze_mn (A1 16 i110) (A1 17 i110))))) (ze_sB (ze_sB B 34 (B 34 + (zf_dm n A1 mk m).toInt64)) 33 (B 33 + ((zf_gr n A1 mk m).1).toInt64)) mk th) = (ze_wR c d n (ze_sA (ze_sA (ze_sA (ze_sA A1 12 ((zf_gr n A1 mk m).2)) 10 (ze_up (zf_fuel A1 (zf_gr n A1 mk m).2 mk m) (A1 10) (n 2))) 18 (ze_up (zf_flow A1 mk m (zf_lk n A1 mk m) (zf_ov n A1 mk m)) (A1 18) (i110 + 1))) 17 (ze_up (zf_chg A1 mk m (zf_lk n A1 mk m) (zf_ov n A1 mk m)) (A1 17) (i110 + 1))) (ze_sB (ze_sB B 34 (B 34 + (zf_dm n A1 mk m).toInt64)) 33 (B 33 + ((zf_gr n A1 mk m).1).toInt64)) mk th) := (by simp (decide := true) only [ze_e1, ze_e2]; rw [ze_up_s (f := (zf_flow A1 mk m (zf_lk n A1 mk m) (zf_ov n A1 mk m))) (by simp only [ze_b, zf_flow, zf_out, zf_inn, zf_z, eq_true c132, not_true_eq_false, not_false_eq_true, and_true, true_and, and_false, false_and, or_true, true_or, or_false, false_or, and_self, or_self, Decidable.not_not, if_true, if_false, reduceIte, reduceCtorEq, ne_eq, eq_self, Int32.lt_irrefl, Int32.le_refl, Nat.lt_irrefl]), ze_up_s (f := (zf_chg A1 mk m (zf_lk n A1 mk m) (zf_ov n A1 mk m))) (by simp only [ze_b, zf_chg, zf_out, zf_inn, zf_z, eq_true c132, not_true_eq_false, not_false_eq_true, and_true, true_and, and_false, false_and, or_true, true_or, or_false, false_or, and_self, or_self, Decidable.not_not, if_true, if_false, reduceIte, reduceCtorEq, ne_eq, eq_self, Int32.lt_irrefl, Int32.le_refl, Nat.lt_irrefl])])
                rw [eW] at hW
                exact ih110 (i110 + 1) (by omega) (by omega) _ _ ls hW (lv_sub hl [0, 1, 2, 5, 6, 7, 8] rfl)
        have hl : lv_has ls 9 [(6, .int (nI 0)), (5, .int ((zf_z n A1 mk m 0).2)), (4, .int ((zf_z n A1 mk m 0).1)), (3, .int ((zf_gr n A1 mk m).1)), (2, .int (zf_dm n A1 mk m)), (0, .ref (d 0)), (1, .int m)] := hl
        have hW : ze_W D (ze_wR c d n (ze_sA (ze_sA (ze_sA (ze_sA A1 12 ((zf_gr n A1 mk m).2)) 10 (ze_up (zf_fuel A1 (zf_gr n A1 mk m).2 mk m) (A1 10) (n 2))) 18 (ze_up (zf_flow A1 mk m (zf_lk n A1 mk m) (zf_ov n A1 mk m)) (A1 18) 0)) 17 (ze_up (zf_chg A1 mk m (zf_lk n A1 mk m) (zf_ov n A1 mk m)) (A1 17) 0)) (ze_sB (ze_sB B 34 (B 34 + (zf_dm n A1 mk m).toInt64)) 33 (B 33 + ((zf_gr n A1 mk m).1).toInt64)) mk th) F s.heap _ _ := (by rw [ze_up_0, ze_up_0]; rw [ze_sAid2b (j := 10) (by decide) (by decide) (by decide) (by decide)]; exact hW)
        exact L110 _ 0 (by omega) (Nat.lt_succ_self _) _ _ ls hW (lv_sub hl [0, 1, 2, 3, 4, 5, 6] rfl)
      · have c67 : i61 < (n 2) := Nat.lt_of_not_le (fun h9 => c67 ((nI_leI (a := (n 2)) (b := i61) (by omega) (by omega)).mpr h9))
        refine lv_aload_n hX_ hB_ dX9_balances_70 rfl (lv_at hl 5 rfl) ?_
        refine ze_get (ci := 9) (C := RX9) (T := TX9) (N := 39) (v := .ref (d 11)) S hiX9 hK hW 0 rfl rfl 10 (by decide) rfl w21 dX9_balances_71 ?_
        refine lv_iload hX_ hB_ dX9_balances_74 (lv_at hl 0 rfl) ?_
        refine lv_dup2_11 hX_ hB_ dX9_balances_76 rfl rfl ?_
        refine ze_ialdN hX_ hB_ hK hW 11 (f := (ze_up (zf_fuel A1 (zf_gr n A1 mk m).2 mk m) (A1 10) i61)) rfl (i := i61) (by omega) (by decide) dX9_balances_77 ?_
        refine ze_top (ze_up_at _ _ _) ?_
        refine lv_aload_n hX_ hB_ dX9_balances_78 rfl (lv_at hl 5 rfl) ?_
        refine lv_iload hX_ hB_ dX9_balances_79 (lv_at hl 0 rfl) ?_
        refine lv_iload_n hX_ hB_ dX9_balances_81 rfl (lv_at hl 6 rfl) ?_
        refine ze_Vi (As := [.int (nI i61), .int m]) (rest := [.int (A1 10 i61), .int (nI i61), .ref (d 11)]) (ci := 9) (q0 := 0) (k := (RX9, TX9, 39)) S (zr_runs l D c d n (ze_sA (ze_sA A1 12 ((zf_gr n A1 mk m).2)) 10 (ze_up (zf_fuel A1 (zf_gr n A1 mk m).2 mk m) (A1 10) i61)) (ze_sB (ze_sB B 34 (B 34 + (zf_dm n A1 mk m).toInt64)) 33 (B 33 + ((zf_gr n A1 mk m).1).toInt64)) mk th i61 m hN hS1 (by omega)) (cwV 2 hts gX9_balances_X9_runs rfl rfl rfl (by decide +kernel) ⟨Nat.le_of_ble_eq_true rfl, Nat.le_of_ble_eq_true rfl⟩) hK hW hA rfl rfl rfl hl.1 rfl (lv_room (Nat.le_of_ble_eq_true rfl)) dX9_balances_82 ⟨Nat.le_of_ble_eq_true rfl, Nat.le_of_ble_eq_true rfl⟩ (fun H locs hW => ?_)
        refine lv_if_eq (tgt := 98) hX_ hB_ dX9_balances_85 (by decide) (fun c85 => ?_) (fun c85 => ?_)
        · have c85 : ¬ (zf_runs A1 mk i61 m) := ze_bf c85
          refine lv_iconst (v := 0) hX_ hB_ dX9_balances_98 (by decide) ?_
          refine lv_isub hX_ hB_ dX9_balances_99 ?_
          refine ze_iastN hX_ hB_ hK hW 11 (f := (ze_up (zf_fuel A1 (zf_gr n A1 mk m).2 mk m) (A1 10) i61)) rfl (i := i61) (by omega) (by decide) dX9_balances_100 (ze_qR10 i61 (A1 10 i61 - 0) _ _ _ _ _ _ _) (fun H locs hW => ?_)
          have hW : ze_W D (ze_wR c d n (ze_sE (ze_sA (ze_sA A1 12 ((zf_gr n A1 mk m).2)) 10 (ze_up (zf_fuel A1 (zf_gr n A1 mk m).2 mk m) (A1 10) i61)) 10 i61 (A1 10 i61 - 0)) (ze_sB (ze_sB B 34 (B 34 + (zf_dm n A1 mk m).toInt64)) 33 (B 33 + ((zf_gr n A1 mk m).1).toInt64)) mk th) F s.heap _ _ := hW
          refine lv_iinc (v := nI (i61 + 1)) (lv' := [(6, .int (nI (i61 + 1))), (5, .int (zf_ov n A1 mk m)), (4, .int (zf_lk n A1 mk m)), (3, .int ((zf_gr n A1 mk m).1)), (2, .int (zf_dm n A1 mk m)), (0, .ref (d 0)), (1, .int m)]) hX_ hB_ dX9_balances_101 hl (k := 0) rfl (ze_inc _) (by decide) rfl (fun ls hl => ?_)
          refine lv_goto (tgt := 61) hX_ hB_ dX9_balances_104 (by decide) ?_
          have eW : (ze_wR c d n (ze_sE (ze_sA (ze_sA A1 12 ((zf_gr n A1 mk m).2)) 10 (ze_up (zf_fuel A1 (zf_gr n A1 mk m).2 mk m) (A1 10) i61)) 10 i61 (A1 10 i61 - 0)) (ze_sB (ze_sB B 34 (B 34 + (zf_dm n A1 mk m).toInt64)) 33 (B 33 + ((zf_gr n A1 mk m).1).toInt64)) mk th) = (ze_wR c d n (ze_sA (ze_sA A1 12 ((zf_gr n A1 mk m).2)) 10 (ze_up (zf_fuel A1 (zf_gr n A1 mk m).2 mk m) (A1 10) (i61 + 1))) (ze_sB (ze_sB B 34 (B 34 + (zf_dm n A1 mk m).toInt64)) 33 (B 33 + ((zf_gr n A1 mk m).1).toInt64)) mk th) := (by simp (decide := true) only [ze_e1, ze_e2]; rw [ze_up_s (by simp only [ze_b, zf_fuel, eq_false c85, not_true_eq_false, not_false_eq_true, and_true, true_and, and_false, false_and, or_true, true_or, or_false, false_or, and_self, or_self, Decidable.not_not, if_true, if_false, reduceIte, reduceCtorEq, ne_eq, eq_self, Int32.lt_irrefl, Int32.le_refl, Nat.lt_irrefl, Int32.sub_zero])])
          rw [eW] at hW
          exact ih61 (i61 + 1) (by omega) (by omega) _ _ ls hW (lv_sub hl [0, 1, 2, 3, 4, 5, 6] rfl)
        · have c85 : zf_runs A1 mk i61 m := ze_bt c85
          refine lv_aload_n hX_ hB_ dX9_balances_88 rfl (lv_at hl 5 rfl) ?_
          refine ze_get (ci := 9) (C := RX9) (T := TX9) (N := 39) (v := .ref (d 13)) S hiX9 hK hW 0 rfl rfl 12 (by decide) rfl w22 dX9_balances_89 ?_
          refine lv_iload hX_ hB_ dX9_balances_92 (lv_at hl 0 rfl) ?_
          refine ze_ialdN hX_ hB_ hK hW 13 (f := ((zf_gr n A1 mk m).2)) rfl (i := i61) (by omega) (by decide) dX9_balances_94 ?_
          refine lv_goto (tgt := 99) hX_ hB_ dX9_balances_95 (by decide) ?_
          refine lv_isub hX_ hB_ dX9_balances_99 ?_
          refine ze_iastN hX_ hB_ hK hW 11 (f := (ze_up (zf_fuel A1 (zf_gr n A1 mk m).2 mk m) (A1 10) i61)) rfl (i := i61) (by omega) (by decide) dX9_balances_100 (ze_qR10 i61 (A1 10 i61 - ((zf_gr n A1 mk m).2) i61) _ _ _ _ _ _ _) (fun H locs hW => ?_)
          have hW : ze_W D (ze_wR c d n (ze_sE (ze_sA (ze_sA A1 12 ((zf_gr n A1 mk m).2)) 10 (ze_up (zf_fuel A1 (zf_gr n A1 mk m).2 mk m) (A1 10) i61)) 10 i61 (A1 10 i61 - ((zf_gr n A1 mk m).2) i61)) (ze_sB (ze_sB B 34 (B 34 + (zf_dm n A1 mk m).toInt64)) 33 (B 33 + ((zf_gr n A1 mk m).1).toInt64)) mk th) F s.heap _ _ := hW
          refine lv_iinc (v := nI (i61 + 1)) (lv' := [(6, .int (nI (i61 + 1))), (5, .int (zf_ov n A1 mk m)), (4, .int (zf_lk n A1 mk m)), (3, .int ((zf_gr n A1 mk m).1)), (2, .int (zf_dm n A1 mk m)), (0, .ref (d 0)), (1, .int m)]) hX_ hB_ dX9_balances_101 hl (k := 0) rfl (ze_inc _) (by decide) rfl (fun ls hl => ?_)
          refine lv_goto (tgt := 61) hX_ hB_ dX9_balances_104 (by decide) ?_
          have eW : (ze_wR c d n (ze_sE (ze_sA (ze_sA A1 12 ((zf_gr n A1 mk m).2)) 10 (ze_up (zf_fuel A1 (zf_gr n A1 mk m).2 mk m) (A1 10) i61)) 10 i61 (A1 10 i61 - ((zf_gr n A1 mk m).2) i61)) (ze_sB (ze_sB B 34 (B 34 + (zf_dm n A1 mk m).toInt64)) 33 (B 33 + ((zf_gr n A1 mk m).1).toInt64)) mk th) = (ze_wR c d n (ze_sA (ze_sA A1 12 ((zf_gr n A1 mk m).2)) 10 (ze_up (zf_fuel A1 (zf_gr n A1 mk m).2 mk m) (A1 10) (i61 + 1))) (ze_sB (ze_sB B 34 (B 34 + (zf_dm n A1 mk m).toInt64)) 33 (B 33 + ((zf_gr n A1 mk m).1).toInt64)) mk th) := (by simp (decide := true) only [ze_e1, ze_e2]; rw [ze_up_s (by simp only [ze_b, zf_fuel, eq_true c85, not_true_eq_false, not_false_eq_true, and_true, true_and, and_false, false_and, or_true, true_or, or_false, false_or, and_self, or_self, Decidable.not_not, if_true, if_false, reduceIte, reduceCtorEq, ne_eq, eq_self, Int32.lt_irrefl, Int32.le_refl, Nat.lt_irrefl, Int32.sub_zero])])
          rw [eW] at hW
          exact ih61 (i61 + 1) (by omega) (by omega) _ _ ls hW (lv_sub hl [0, 1, 2, 3, 4, 5, 6] rfl)
  have hl : lv_has ls 9 [(6, .int (nI 0)), (5, .int (zf_ov n A1 mk m)), (4, .int (zf_lk n A1 mk m)), (3, .int ((zf_gr n A1 mk m).1)), (2, .int (zf_dm n A1 mk m)), (0, .ref (d 0)), (1, .int m)] := hl
  have hW : ze_W D (ze_wR c d n (ze_sA (ze_sA A1 12 ((zf_gr n A1 mk m).2)) 10 (ze_up (zf_fuel A1 (zf_gr n A1 mk m).2 mk m) (A1 10) 0)) (ze_sB (ze_sB B 34 (B 34 + (zf_dm n A1 mk m).toInt64)) 33 (B 33 + ((zf_gr n A1 mk m).1).toInt64)) mk th) F s.heap _ _ := (by rw [ze_up_0]; rw [ze_sAid1 (by decide)]; exact hW)
  exact L61 _ 0 (by omega) (Nat.lt_succ_self _) _ _ ls hW (lv_sub hl [0, 1, 2, 3, 4, 5, 6] rfl)
set_option maxHeartbeats 4000000 in
set_option maxRecDepth 100000 in
theorem zr_ticks (l : Launch) (D : va_G) (c : Nat → ClassId) (d n : Nat → Nat) (A : Nat → Nat → Int32) (B : Nat → Int64) (mk : Nat → Int32) (th : Int32) (hN : zf_N n) (hS : zf_S n A) (hz : ∀ s, n 0 ≤ s → mk s = 0) (hC : ∀ g, g < n 2 → zf_chr (A 13 g)) : ze_V l yX9_ticks wsX9_ticks 5 119 0 0 D c (ze_wR c d n A B mk th) [.ref (d 0)] (ze_wR c d n (zf_tk n A B).1 (zf_tk n A B).2 (zf_CI n A) th) := by
  intro sz
  refine ze_start (cc := cX9_ticks) (maxL := 2) (ret := none) (own := RX9) (by decide) rfl rfl (Nat.le_of_ble_eq_true rfl) ?_
  obtain ⟨hn0, hn1, hn2, hn3, hn4⟩ := id hN
  intro p e s m_ below meth cd F ls hF hsz E0
  obtain ⟨S, hr, hlocks, hK, hW, hA, hl⟩ := E0
  have hX_ := S.1
  have hB_ := S.2.1
  have hts := S.2.2.2.2
  have hl : lv_has ls 2 [(0, .ref (d 0))] := hl
  have hiX9 : ∀ w ∈ u_ws RX9 TX9 39, w ∈ wsX9_ticks := fun _ h => (List.mem_cons_of_mem _ (List.mem_append_right _ h))
  have w0 := hts (.fieldLink RX9 228 "IslandgridModel" "now" "I") (List.mem_cons_of_mem _ (List.mem_append_left _ (List.mem_append_left _ (List.mem_of_getElem? (i := 0) rfl))))
  have w1 := hts (.fieldLink RX9 219 "IslandgridModel" "grid" "I") (List.mem_cons_of_mem _ (List.mem_append_left _ (List.mem_append_left _ (List.mem_of_getElem? (i := 1) rfl))))
  have w2 := hts (.fieldLink RX9 102 "IslandgridModel" "generators" "I") (List.mem_cons_of_mem _ (List.mem_append_left _ (List.mem_append_left _ (List.mem_of_getElem? (i := 2) rfl))))
  have w3 := hts (.fieldLink RX9 88 "IslandgridModel" "sites" "I") (List.mem_cons_of_mem _ (List.mem_append_left _ (List.mem_append_left _ (List.mem_of_getElem? (i := 8) rfl))))
  have w4 := hts (.fieldLink RX9 13 "IslandgridModel" "mark" "[I") (List.mem_cons_of_mem _ (List.mem_append_left _ (List.mem_append_left _ (List.mem_of_getElem? (i := 9) rfl))))
  have w5 := hts (.fieldLink RX9 47 "IslandgridModel" "given" "[I") (List.mem_cons_of_mem _ (List.mem_append_left _ (List.mem_append_left _ (List.mem_of_getElem? (i := 3) rfl))))
  have w6 := hts (.fieldLink RX9 50 "IslandgridModel" "state" "[C") (List.mem_cons_of_mem _ (List.mem_append_left _ (List.mem_append_left _ (List.mem_of_getElem? (i := 4) rfl))))
  have w7 := hts (.fieldLink RX9 41 "IslandgridModel" "fuel" "[I") (List.mem_cons_of_mem _ (List.mem_append_left _ (List.mem_append_left _ (List.mem_of_getElem? (i := 6) rfl))))
  have w8 := hts (.fieldLink RX9 32 "IslandgridModel" "least" "[I") (List.mem_cons_of_mem _ (List.mem_append_left _ (List.mem_append_left _ (List.mem_of_getElem? (i := 7) rfl))))
  have w9 := hts (.fieldLink RX9 44 "IslandgridModel" "toGo" "[I") (List.mem_cons_of_mem _ (List.mem_append_left _ (List.mem_append_left _ (List.mem_of_getElem? (i := 5) rfl))))
  refine lv_aload_n hX_ hB_ dX9_ticks_0 rfl (lv_at hl 0 rfl) ?_
  refine lv_dup hX_ hB_ dX9_ticks_1 rfl ?_
  refine ze_get (ci := 9) (C := RX9) (T := TX9) (N := 39) (v := .int (A 30 0)) S hiX9 hK hW 0 rfl rfl 30 (by decide) rfl w0 dX9_ticks_2 ?_
  refine lv_iconst (v := 1) hX_ hB_ dX9_ticks_5 (by decide) ?_
  refine lv_iadd hX_ hB_ dX9_ticks_6 ?_
  refine ze_put (ci := 9) (C := RX9) (T := TX9) (N := 39) (v := .int (A 30 0 + 1)) S hiX9 tyX9 tyX9_ok nmX9 hK hW 0 rfl rfl 30 (by decide) (Nat.le_of_ble_eq_true rfl) rfl rfl rfl w0 dX9_ticks_7 (ze_pR30 (A 30 0 + 1) _ _ _ _ _ _ _) (fun H locs hW => ?_)
  have hW : ze_W D (ze_wR c d n (ze_sC A 30 (A 30 0 + 1)) B mk th) F s.heap _ _ := hW
  refine lv_aload_n hX_ hB_ dX9_ticks_10 rfl (lv_at hl 0 rfl) ?_
  refine lv_iconst (v := 0) hX_ hB_ dX9_ticks_11 (by decide) ?_
  refine ze_put (ci := 9) (C := RX9) (T := TX9) (N := 39) (v := .int 0) S hiX9 tyX9 tyX9_ok nmX9 hK hW 0 rfl rfl 31 (by decide) (Nat.le_of_ble_eq_true rfl) rfl rfl rfl w1 dX9_ticks_12 (ze_pR31 0 _ _ _ _ _ _ _) (fun H locs hW => ?_)
  have hW : ze_W D (ze_wR c d n (ze_sC (ze_sC A 30 (A 30 0 + 1)) 31 0) B mk th) F s.heap _ _ := hW
  refine lv_iconst (v := 0) hX_ hB_ dX9_ticks_15 (by decide) ?_
  refine lv_istore_n (lv' := [(1, .int 0), (0, .ref (d 0))]) hX_ hB_ dX9_ticks_16 rfl hl (by decide) rfl (fun ls hl => ?_)
  have L17 : ∀ (k17 : Nat) (i17 : Nat), (i17 ≤ n 2) → (n 2 - i17) < k17 → ∀ (H : Heap) (locs : List Loc) (ls : Array Slot), ze_W D (ze_wR c d n (ze_sA (ze_sA (ze_sA (ze_sC (ze_sC A 30 (A 30 0 + 1)) 31 0) 12 (ze_up (fun _ => 0) (A 12) i17)) 11 (ze_up (zf_tG A) (A 11) i17)) 13 (ze_up (zf_tS A) (A 13) i17)) B mk th) F s.heap H locs → lv_has ls 2 [(1, .int (nI i17)), (0, .ref (d 0))] → W p l e { frames := 5, cells := 0, slots := 0, locals := 119 } s m_ ([.ref (d 0)] : List Value).toArray below meth cd H locs 0 0 (MQ below (ze_Qv D c (ze_wR c d n A B mk th) sz (ze_wR c d n (zf_tk n A B).1 (zf_tk n A B).2 (zf_CI n A) th)) ([.ref (d 0)] : List Value).toArray s 0 0 F) (F0 m_ 17 ls []) := by
    intro k17
    induction k17 with
    | zero =>
      intro i17 h17 hk17
      exact absurd hk17 (Nat.not_lt_zero _)
    | succ k17 ih17 =>
      intro i17 h17 hk17 H locs ls hW hl
      refine lv_iload_n hX_ hB_ dX9_ticks_17 rfl (lv_at hl 0 rfl) ?_
      refine lv_aload_n hX_ hB_ dX9_ticks_18 rfl (lv_at hl 1 rfl) ?_
      refine ze_get (ci := 9) (C := RX9) (T := TX9) (N := 39) (v := .int (nI (n 2))) S hiX9 hK hW 0 rfl rfl 25 (by decide) rfl w2 dX9_ticks_19 ?_
      refine lv_icmp_ge (tgt := 124) hX_ hB_ dX9_ticks_22 (by decide) (fun c22 => ?_) (fun c22 => ?_)
      · have c22 : ¬ i17 < (n 2) := Nat.not_lt.mpr ((nI_leI (a := (n 2)) (b := i17) (by omega) (by omega)).mp c22)
        have e17 : i17 = n 2 := by omega
        subst e17
        refine lv_aload_n hX_ hB_ dX9_ticks_124 rfl (lv_at hl 1 rfl) ?_
        refine ze_Vv (As := []) (rest := []) (ci := 9) (q0 := 0) (k := (RX9, TX9, 39)) S (zr_marks l D c d n (ze_sA (ze_sA (ze_sA (ze_sC (ze_sC A 30 (A 30 0 + 1)) 31 0) 12 (ze_up (fun _ => 0) (A 12) (n 2))) 11 (ze_up (zf_tG A) (A 11) (n 2))) 13 (ze_up (zf_tS A) (A 13) (n 2))) B mk th hN hS hz) (cwV 0 hts gX9_ticks_X9_marks rfl rfl rfl (by decide +kernel) ⟨Nat.le_of_ble_eq_true rfl, Nat.le_of_ble_eq_true rfl⟩) hK hW hA rfl rfl rfl hl.1 rfl (lv_room (Nat.le_of_ble_eq_true rfl)) dX9_ticks_125 ⟨Nat.le_of_ble_eq_true rfl, Nat.le_of_ble_eq_true rfl⟩ (fun H locs hW => ?_)
        have hW : ze_W D (ze_wR c d n (ze_sA (ze_sA (ze_sA (ze_sC (ze_sC A 30 (A 30 0 + 1)) 31 0) 12 (ze_up (fun _ => 0) (A 12) (n 2))) 11 (ze_up (zf_tG A) (A 11) (n 2))) 13 (ze_up (zf_tS A) (A 13) (n 2))) B (zf_CI n (ze_sA (ze_sA (ze_sA (ze_sC (ze_sC A 30 (A 30 0 + 1)) 31 0) 12 (ze_up (fun _ => 0) (A 12) (n 2))) 11 (ze_up (zf_tG A) (A 11) (n 2))) 13 (ze_up (zf_tS A) (A 13) (n 2)))) th) F s.heap _ _ := hW
        rw [show zf_CI n (ze_sA (ze_sA (ze_sA (ze_sC (ze_sC A 30 (A 30 0 + 1)) 31 0) 12 (ze_up (fun _ => 0) (A 12) (n 2))) 11 (ze_up (zf_tG A) (A 11) (n 2))) 13 (ze_up (zf_tS A) (A 13) (n 2))) = zf_CI n A from zf_CIcong rfl rfl rfl] at hW
        have hW : ze_W D (ze_wR c d n (zf_t0 n A) B (zf_CI n A) th) F s.heap _ _ := hW
        refine lv_iconst (v := 0) hX_ hB_ dX9_ticks_128 (by decide) ?_
        refine lv_istore_n (lv' := [(1, .int 0), (0, .ref (d 0))]) hX_ hB_ dX9_ticks_129 rfl hl (by decide) rfl (fun ls hl => ?_)
        have L130 : ∀ (k130 : Nat) (i130 : Nat), (i130 ≤ n 0) → (n 0 - i130) < k130 → ∀ (H : Heap) (locs : List Loc) (ls : Array Slot), ze_W D (ze_wR c d n (zf_il n (zf_CI n A) (zf_t0 n A) B i130).1 (zf_il n (zf_CI n A) (zf_t0 n A) B i130).2 (zf_CI n A) th) F s.heap H locs → lv_has ls 2 [(1, .int (nI i130)), (0, .ref (d 0))] → W p l e { frames := 5, cells := 0, slots := 0, locals := 119 } s m_ ([.ref (d 0)] : List Value).toArray below meth cd H locs 0 0 (MQ below (ze_Qv D c (ze_wR c d n A B mk th) sz (ze_wR c d n (zf_tk n A B).1 (zf_tk n A B).2 (zf_CI n A) th)) ([.ref (d 0)] : List Value).toArray s 0 0 F) (F0 m_ 130 ls []) := by
          intro k130
          induction k130 with
          | zero =>
            intro i130 h130 hk130
            exact absurd hk130 (Nat.not_lt_zero _)
          | succ k130 ih130 =>
            intro i130 h130 hk130 H locs ls hW hl
            have hS2 : zf_S n (zf_il n (zf_CI n A) (zf_t0 n A) B i130).1 := zf_Scong (zf_ilfix n _ _ _ _ (by decide)) (zf_ilfix n _ _ _ _ (by decide)) (zf_ilfix n _ _ _ _ (by decide)) (zf_ilfix n _ _ _ _ (by decide)) (zf_ilfix n _ _ _ _ (by decide)) hS
            refine lv_iload_n hX_ hB_ dX9_ticks_130 rfl (lv_at hl 0 rfl) ?_
            refine lv_aload_n hX_ hB_ dX9_ticks_131 rfl (lv_at hl 1 rfl) ?_
            refine ze_get (ci := 9) (C := RX9) (T := TX9) (N := 39) (v := .int (nI (n 0))) S hiX9 hK hW 0 rfl rfl 23 (by decide) rfl w3 dX9_ticks_132 ?_
            refine lv_icmp_ge (tgt := 159) hX_ hB_ dX9_ticks_135 (by decide) (fun c135 => ?_) (fun c135 => ?_)
            · have c135 : ¬ i130 < (n 0) := Nat.not_lt.mpr ((nI_leI (a := (n 0)) (b := i130) (by omega) (by omega)).mp c135)
              have e130 : i130 = n 0 := by omega
              subst e130
              exact ze_vret S hr hlocks hF hK hW dX9_ticks_159 (Nat.le_of_ble_eq_true rfl) (Nat.le_of_ble_eq_true rfl) rfl
            · have c135 : i130 < (n 0) := Nat.lt_of_not_le (fun h9 => c135 ((nI_leI (a := (n 0)) (b := i130) (by omega) (by omega)).mpr h9))
              refine lv_aload_n hX_ hB_ dX9_ticks_138 rfl (lv_at hl 1 rfl) ?_
              refine ze_get (ci := 9) (C := RX9) (T := TX9) (N := 39) (v := .ref (d 2)) S hiX9 hK hW 0 rfl rfl 1 (by decide) rfl w4 dX9_ticks_139 ?_
              refine lv_iload_n hX_ hB_ dX9_ticks_142 rfl (lv_at hl 0 rfl) ?_
              refine ze_ialdN hX_ hB_ hK hW 2 (f := (zf_CI n A)) rfl (i := i130) (by omega) (by decide) dX9_ticks_143 ?_
              refine lv_iload_n hX_ hB_ dX9_ticks_144 rfl (lv_at hl 0 rfl) ?_
              refine lv_icmp_ne (tgt := 153) hX_ hB_ dX9_ticks_145 (by decide) (fun c145 => ?_) (fun c145 => ?_)
              · refine lv_iinc (v := nI (i130 + 1)) (lv' := [(1, .int (nI (i130 + 1))), (0, .ref (d 0))]) hX_ hB_ dX9_ticks_153 hl (k := 0) rfl (ze_inc _) (by decide) rfl (fun ls hl => ?_)
                refine lv_goto (tgt := 130) hX_ hB_ dX9_ticks_156 (by decide) ?_
                have eW : (ze_wR c d n (zf_il n (zf_CI n A) (zf_t0 n A) B i130).1 (zf_il n (zf_CI n A) (zf_t0 n A) B i130).2 (zf_CI n A) th) = (ze_wR c d n (zf_il n (zf_CI n A) (zf_t0 n A) B (i130 + 1)).1 (zf_il n (zf_CI n A) (zf_t0 n A) B (i130 + 1)).2 (zf_CI n A) th) := (by simp only [zf_il, if_neg c145])
                rw [eW] at hW
                exact ih130 (i130 + 1) (by omega) (by omega) _ _ ls hW (lv_sub hl [0, 1] rfl)
              · refine lv_aload_n hX_ hB_ dX9_ticks_148 rfl (lv_at hl 1 rfl) ?_
                refine lv_iload_n hX_ hB_ dX9_ticks_149 rfl (lv_at hl 0 rfl) ?_
                refine ze_Vv (As := [.int (nI i130)]) (rest := []) (ci := 9) (q0 := 0) (k := (RX9, TX9, 39)) S (zr_balances l D c d n ((zf_il n (zf_CI n A) (zf_t0 n A) B i130).1) ((zf_il n (zf_CI n A) (zf_t0 n A) B i130).2) (zf_CI n A) th (nI i130) hN hS2) (cwV 1 hts gX9_ticks_X9_balances rfl rfl rfl (by decide +kernel) ⟨Nat.le_of_ble_eq_true rfl, Nat.le_of_ble_eq_true rfl⟩) hK hW hA rfl rfl rfl hl.1 rfl (lv_room (Nat.le_of_ble_eq_true rfl)) dX9_ticks_150 ⟨Nat.le_of_ble_eq_true rfl, Nat.le_of_ble_eq_true rfl⟩ (fun H locs hW => ?_)
                have hW : ze_W D (ze_wR c d n (zf_balA n ((zf_il n (zf_CI n A) (zf_t0 n A) B i130).1) (zf_CI n A) (nI i130)) (zf_balB n ((zf_il n (zf_CI n A) (zf_t0 n A) B i130).1) ((zf_il n (zf_CI n A) (zf_t0 n A) B i130).2) (zf_CI n A) (nI i130)) (zf_CI n A) th) F s.heap _ _ := hW
                refine lv_iinc (v := nI (i130 + 1)) (lv' := [(1, .int (nI (i130 + 1))), (0, .ref (d 0))]) hX_ hB_ dX9_ticks_153 hl (k := 0) rfl (ze_inc _) (by decide) rfl (fun ls hl => ?_)
                refine lv_goto (tgt := 130) hX_ hB_ dX9_ticks_156 (by decide) ?_
                have eW : (ze_wR c d n (zf_balA n ((zf_il n (zf_CI n A) (zf_t0 n A) B i130).1) (zf_CI n A) (nI i130)) (zf_balB n ((zf_il n (zf_CI n A) (zf_t0 n A) B i130).1) ((zf_il n (zf_CI n A) (zf_t0 n A) B i130).2) (zf_CI n A) (nI i130)) (zf_CI n A) th) = (ze_wR c d n (zf_il n (zf_CI n A) (zf_t0 n A) B (i130 + 1)).1 (zf_il n (zf_CI n A) (zf_t0 n A) B (i130 + 1)).2 (zf_CI n A) th) := (by simp only [zf_il, if_pos c145])
                rw [eW] at hW
                exact ih130 (i130 + 1) (by omega) (by omega) _ _ ls hW (lv_sub hl [0, 1] rfl)
        have hl : lv_has ls 2 [(1, .int (nI 0)), (0, .ref (d 0))] := hl
        have hW : ze_W D (ze_wR c d n (zf_il n (zf_CI n A) (zf_t0 n A) B 0).1 (zf_il n (zf_CI n A) (zf_t0 n A) B 0).2 (zf_CI n A) th) F s.heap _ _ := hW
        exact L130 _ 0 (by omega) (Nat.lt_succ_self _) _ _ ls hW (lv_sub hl [0, 1] rfl)
      · have c22 : i17 < (n 2) := Nat.lt_of_not_le (fun h9 => c22 ((nI_leI (a := (n 2)) (b := i17) (by omega) (by omega)).mpr h9))
        refine lv_aload_n hX_ hB_ dX9_ticks_25 rfl (lv_at hl 1 rfl) ?_
        refine ze_get (ci := 9) (C := RX9) (T := TX9) (N := 39) (v := .ref (d 13)) S hiX9 hK hW 0 rfl rfl 12 (by decide) rfl w5 dX9_ticks_26 ?_
        refine lv_iload_n hX_ hB_ dX9_ticks_29 rfl (lv_at hl 0 rfl) ?_
        refine lv_iconst (v := 0) hX_ hB_ dX9_ticks_30 (by decide) ?_
        refine ze_iastN hX_ hB_ hK hW 13 (f := (ze_up (fun _ => 0) (A 12) i17)) rfl (i := i17) (by omega) (by decide) dX9_ticks_31 (ze_qR12 i17 0 _ _ _ _ _ _ _) (fun H locs hW => ?_)
        have hW : ze_W D (ze_wR c d n (ze_sE (ze_sA (ze_sA (ze_sA (ze_sC (ze_sC A 30 (A 30 0 + 1)) 31 0) 12 (ze_up (fun _ => 0) (A 12) i17)) 11 (ze_up (zf_tG A) (A 11) i17)) 13 (ze_up (zf_tS A) (A 13) i17)) 12 i17 0) B mk th) F s.heap _ _ := hW
        refine lv_aload_n hX_ hB_ dX9_ticks_32 rfl (lv_at hl 1 rfl) ?_
        refine ze_get (ci := 9) (C := RX9) (T := TX9) (N := 39) (v := .ref (d 14)) S hiX9 hK hW 0 rfl rfl 13 (by decide) rfl w6 dX9_ticks_33 ?_
        refine lv_iload_n hX_ hB_ dX9_ticks_36 rfl (lv_at hl 0 rfl) ?_
        refine ze_caldN hX_ hB_ hK hW 14 (f := (ze_up (zf_tS A) (A 13) i17)) rfl (i := i17) (by omega) (by decide) dX9_ticks_37 ?_
        refine ze_top (ze_up_at _ _ _) ?_
        refine lv_bipush (v := 119) hX_ hB_ dX9_ticks_38 (by decide) ?_
        refine lv_icmp_ne (tgt := 75) hX_ hB_ dX9_ticks_40 (by decide) (fun c40 => ?_) (fun c40 => ?_)
        · refine lv_aload_n hX_ hB_ dX9_ticks_75 rfl (lv_at hl 1 rfl) ?_
          refine ze_get (ci := 9) (C := RX9) (T := TX9) (N := 39) (v := .ref (d 14)) S hiX9 hK hW 0 rfl rfl 13 (by decide) rfl w6 dX9_ticks_76 ?_
          refine lv_iload_n hX_ hB_ dX9_ticks_79 rfl (lv_at hl 0 rfl) ?_
          refine lv_aload_n hX_ hB_ dX9_ticks_80 rfl (lv_at hl 1 rfl) ?_
          refine ze_get (ci := 9) (C := RX9) (T := TX9) (N := 39) (v := .ref (d 14)) S hiX9 hK hW 0 rfl rfl 13 (by decide) rfl w6 dX9_ticks_81 ?_
          refine lv_iload_n hX_ hB_ dX9_ticks_84 rfl (lv_at hl 0 rfl) ?_
          refine ze_caldN hX_ hB_ hK hW 14 (f := (ze_up (zf_tS A) (A 13) i17)) rfl (i := i17) (by omega) (by decide) dX9_ticks_85 ?_
          refine ze_top (ze_up_at _ _ _) ?_
          refine lv_bipush (v := 114) hX_ hB_ dX9_ticks_86 (by decide) ?_
          refine lv_icmp_ne (tgt := 111) hX_ hB_ dX9_ticks_88 (by decide) (fun c88 => ?_) (fun c88 => ?_)
          · refine lv_aload_n hX_ hB_ dX9_ticks_111 rfl (lv_at hl 1 rfl) ?_
            refine ze_get (ci := 9) (C := RX9) (T := TX9) (N := 39) (v := .ref (d 14)) S hiX9 hK hW 0 rfl rfl 13 (by decide) rfl w6 dX9_ticks_112 ?_
            refine lv_iload_n hX_ hB_ dX9_ticks_115 rfl (lv_at hl 0 rfl) ?_
            refine ze_caldN hX_ hB_ hK hW 14 (f := (ze_up (zf_tS A) (A 13) i17)) rfl (i := i17) (by omega) (by decide) dX9_ticks_116 ?_
            refine ze_top (ze_up_at _ _ _) ?_
            refine ze_castN hX_ hB_ hK hW 14 (f := (ze_up (zf_tS A) (A 13) i17)) rfl (i := i17) (by omega) (by decide) (zf_nar (hC i17 (by omega))) dX9_ticks_117 (ze_qR13 i17 (A 13 i17) _ _ _ _ _ _ _) (fun H locs hW => ?_)
            have hW : ze_W D (ze_wR c d n (ze_sE (ze_sE (ze_sA (ze_sA (ze_sA (ze_sC (ze_sC A 30 (A 30 0 + 1)) 31 0) 12 (ze_up (fun _ => 0) (A 12) i17)) 11 (ze_up (zf_tG A) (A 11) i17)) 13 (ze_up (zf_tS A) (A 13) i17)) 12 i17 0) 13 i17 (A 13 i17)) B mk th) F s.heap _ _ := hW
            refine lv_iinc (v := nI (i17 + 1)) (lv' := [(1, .int (nI (i17 + 1))), (0, .ref (d 0))]) hX_ hB_ dX9_ticks_118 hl (k := 0) rfl (ze_inc _) (by decide) rfl (fun ls hl => ?_)
            refine lv_goto (tgt := 17) hX_ hB_ dX9_ticks_121 (by decide) ?_
            have eW : (ze_wR c d n (ze_sE (ze_sE (ze_sA (ze_sA (ze_sA (ze_sC (ze_sC A 30 (A 30 0 + 1)) 31 0) 12 (ze_up (fun _ => 0) (A 12) i17)) 11 (ze_up (zf_tG A) (A 11) i17)) 13 (ze_up (zf_tS A) (A 13) i17)) 12 i17 0) 13 i17 (A 13 i17)) B mk th) = (ze_wR c d n (ze_sA (ze_sA (ze_sA (ze_sC (ze_sC A 30 (A 30 0 + 1)) 31 0) 12 (ze_up (fun _ => 0) (A 12) (i17 + 1))) 11 (ze_up (zf_tG A) (A 11) (i17 + 1))) 13 (ze_up (zf_tS A) (A 13) (i17 + 1))) B mk th) := (by simp (decide := true) only [ze_e1, ze_e2, ze_upd2]; rw [ze_up_s (f := (fun _ => 0)) (g := A 12) (i := i17) (by simp only [ze_b, eq_true c22, eq_false c40, eq_false c88, not_true_eq_false, not_false_eq_true, and_true, true_and, and_false, false_and, or_true, true_or, or_false, false_or, and_self, or_self, Decidable.not_not, if_true, if_false, reduceIte, reduceCtorEq, ne_eq, eq_self, Int32.lt_irrefl, Int32.le_refl, Nat.lt_irrefl]), ze_up_k (f := zf_tG A) (g := A 11) (i := i17) (by simp only [ze_b, zf_tG, eq_true c22, eq_false c40, eq_false c88, not_true_eq_false, not_false_eq_true, and_true, true_and, and_false, false_and, or_true, true_or, or_false, false_or, and_self, or_self, Decidable.not_not, if_true, if_false, reduceIte, reduceCtorEq, ne_eq, eq_self, Int32.lt_irrefl, Int32.le_refl, Nat.lt_irrefl]), ze_up_s (f := zf_tS A) (g := A 13) (i := i17) (by simp only [ze_b, zf_tS, zf_tS0, eq_true c22, eq_false c40, eq_false c88, not_true_eq_false, not_false_eq_true, and_true, true_and, and_false, false_and, or_true, true_or, or_false, false_or, and_self, or_self, Decidable.not_not, if_true, if_false, reduceIte, reduceCtorEq, ne_eq, eq_self, Int32.lt_irrefl, Int32.le_refl, Nat.lt_irrefl])])
            rw [eW] at hW
            exact ih17 (i17 + 1) (by omega) (by omega) _ _ ls hW (lv_sub hl [0, 1] rfl)
          · refine lv_aload_n hX_ hB_ dX9_ticks_91 rfl (lv_at hl 1 rfl) ?_
            refine ze_get (ci := 9) (C := RX9) (T := TX9) (N := 39) (v := .ref (d 11)) S hiX9 hK hW 0 rfl rfl 10 (by decide) rfl w7 dX9_ticks_92 ?_
            refine lv_iload_n hX_ hB_ dX9_ticks_95 rfl (lv_at hl 0 rfl) ?_
            refine ze_ialdN hX_ hB_ hK hW 11 (f := A 10) rfl (i := i17) (by omega) (by decide) dX9_ticks_96 ?_
            refine lv_aload_n hX_ hB_ dX9_ticks_97 rfl (lv_at hl 1 rfl) ?_
            refine ze_get (ci := 9) (C := RX9) (T := TX9) (N := 39) (v := .ref (d 8)) S hiX9 hK hW 0 rfl rfl 7 (by decide) rfl w8 dX9_ticks_98 ?_
            refine lv_iload_n hX_ hB_ dX9_ticks_101 rfl (lv_at hl 0 rfl) ?_
            refine ze_ialdN hX_ hB_ hK hW 8 (f := A 7) rfl (i := i17) (by omega) (by decide) dX9_ticks_102 ?_
            refine lv_icmp_ge (tgt := 111) hX_ hB_ dX9_ticks_103 (by decide) (fun c103 => ?_) (fun c103 => ?_)
            · refine lv_aload_n hX_ hB_ dX9_ticks_111 rfl (lv_at hl 1 rfl) ?_
              refine ze_get (ci := 9) (C := RX9) (T := TX9) (N := 39) (v := .ref (d 14)) S hiX9 hK hW 0 rfl rfl 13 (by decide) rfl w6 dX9_ticks_112 ?_
              refine lv_iload_n hX_ hB_ dX9_ticks_115 rfl (lv_at hl 0 rfl) ?_
              refine ze_caldN hX_ hB_ hK hW 14 (f := (ze_up (zf_tS A) (A 13) i17)) rfl (i := i17) (by omega) (by decide) dX9_ticks_116 ?_
              refine ze_top (ze_up_at _ _ _) ?_
              refine ze_castN hX_ hB_ hK hW 14 (f := (ze_up (zf_tS A) (A 13) i17)) rfl (i := i17) (by omega) (by decide) (zf_nar (hC i17 (by omega))) dX9_ticks_117 (ze_qR13 i17 (A 13 i17) _ _ _ _ _ _ _) (fun H locs hW => ?_)
              have hW : ze_W D (ze_wR c d n (ze_sE (ze_sE (ze_sA (ze_sA (ze_sA (ze_sC (ze_sC A 30 (A 30 0 + 1)) 31 0) 12 (ze_up (fun _ => 0) (A 12) i17)) 11 (ze_up (zf_tG A) (A 11) i17)) 13 (ze_up (zf_tS A) (A 13) i17)) 12 i17 0) 13 i17 (A 13 i17)) B mk th) F s.heap _ _ := hW
              refine lv_iinc (v := nI (i17 + 1)) (lv' := [(1, .int (nI (i17 + 1))), (0, .ref (d 0))]) hX_ hB_ dX9_ticks_118 hl (k := 0) rfl (ze_inc _) (by decide) rfl (fun ls hl => ?_)
              refine lv_goto (tgt := 17) hX_ hB_ dX9_ticks_121 (by decide) ?_
              have eW : (ze_wR c d n (ze_sE (ze_sE (ze_sA (ze_sA (ze_sA (ze_sC (ze_sC A 30 (A 30 0 + 1)) 31 0) 12 (ze_up (fun _ => 0) (A 12) i17)) 11 (ze_up (zf_tG A) (A 11) i17)) 13 (ze_up (zf_tS A) (A 13) i17)) 12 i17 0) 13 i17 (A 13 i17)) B mk th) = (ze_wR c d n (ze_sA (ze_sA (ze_sA (ze_sC (ze_sC A 30 (A 30 0 + 1)) 31 0) 12 (ze_up (fun _ => 0) (A 12) (i17 + 1))) 11 (ze_up (zf_tG A) (A 11) (i17 + 1))) 13 (ze_up (zf_tS A) (A 13) (i17 + 1))) B mk th) := (by simp (decide := true) only [ze_e1, ze_e2, ze_upd2]; rw [ze_up_s (f := (fun _ => 0)) (g := A 12) (i := i17) (by simp only [ze_b, eq_true c22, eq_false c40, eq_true c88, eq_true c103, not_true_eq_false, not_false_eq_true, and_true, true_and, and_false, false_and, or_true, true_or, or_false, false_or, and_self, or_self, Decidable.not_not, if_true, if_false, reduceIte, reduceCtorEq, ne_eq, eq_self, Int32.lt_irrefl, Int32.le_refl, Nat.lt_irrefl]), ze_up_k (f := zf_tG A) (g := A 11) (i := i17) (by simp only [ze_b, zf_tG, eq_true c22, eq_false c40, eq_true c88, eq_true c103, not_true_eq_false, not_false_eq_true, and_true, true_and, and_false, false_and, or_true, true_or, or_false, false_or, and_self, or_self, Decidable.not_not, if_true, if_false, reduceIte, reduceCtorEq, ne_eq, eq_self, Int32.lt_irrefl, Int32.le_refl, Nat.lt_irrefl]), ze_up_s (f := zf_tS A) (g := A 13) (i := i17) (by simp only [ze_b, zf_tS, zf_tS0, eq_true c22, eq_false c40, eq_true c88, eq_true c103, not_true_eq_false, not_false_eq_true, and_true, true_and, and_false, false_and, or_true, true_or, or_false, false_or, and_self, or_self, Decidable.not_not, if_true, if_false, reduceIte, reduceCtorEq, ne_eq, eq_self, Int32.lt_irrefl, Int32.le_refl, Nat.lt_irrefl])])
              rw [eW] at hW
              exact ih17 (i17 + 1) (by omega) (by omega) _ _ ls hW (lv_sub hl [0, 1] rfl)
            · refine lv_bipush (v := 111) hX_ hB_ dX9_ticks_106 (by decide) ?_
              refine lv_goto (tgt := 117) hX_ hB_ dX9_ticks_108 (by decide) ?_
              refine ze_castN hX_ hB_ hK hW 14 (f := (ze_up (zf_tS A) (A 13) i17)) rfl (i := i17) (by omega) (by decide) rfl dX9_ticks_117 (ze_qR13 i17 111 _ _ _ _ _ _ _) (fun H locs hW => ?_)
              have hW : ze_W D (ze_wR c d n (ze_sE (ze_sE (ze_sA (ze_sA (ze_sA (ze_sC (ze_sC A 30 (A 30 0 + 1)) 31 0) 12 (ze_up (fun _ => 0) (A 12) i17)) 11 (ze_up (zf_tG A) (A 11) i17)) 13 (ze_up (zf_tS A) (A 13) i17)) 12 i17 0) 13 i17 111) B mk th) F s.heap _ _ := hW
              refine lv_iinc (v := nI (i17 + 1)) (lv' := [(1, .int (nI (i17 + 1))), (0, .ref (d 0))]) hX_ hB_ dX9_ticks_118 hl (k := 0) rfl (ze_inc _) (by decide) rfl (fun ls hl => ?_)
              refine lv_goto (tgt := 17) hX_ hB_ dX9_ticks_121 (by decide) ?_
              have eW : (ze_wR c d n (ze_sE (ze_sE (ze_sA (ze_sA (ze_sA (ze_sC (ze_sC A 30 (A 30 0 + 1)) 31 0) 12 (ze_up (fun _ => 0) (A 12) i17)) 11 (ze_up (zf_tG A) (A 11) i17)) 13 (ze_up (zf_tS A) (A 13) i17)) 12 i17 0) 13 i17 111) B mk th) = (ze_wR c d n (ze_sA (ze_sA (ze_sA (ze_sC (ze_sC A 30 (A 30 0 + 1)) 31 0) 12 (ze_up (fun _ => 0) (A 12) (i17 + 1))) 11 (ze_up (zf_tG A) (A 11) (i17 + 1))) 13 (ze_up (zf_tS A) (A 13) (i17 + 1))) B mk th) := (by simp (decide := true) only [ze_e1, ze_e2, ze_upd2]; rw [ze_up_s (f := (fun _ => 0)) (g := A 12) (i := i17) (by simp only [ze_b, eq_true c22, eq_false c40, eq_true c88, eq_false c103, not_true_eq_false, not_false_eq_true, and_true, true_and, and_false, false_and, or_true, true_or, or_false, false_or, and_self, or_self, Decidable.not_not, if_true, if_false, reduceIte, reduceCtorEq, ne_eq, eq_self, Int32.lt_irrefl, Int32.le_refl, Nat.lt_irrefl]), ze_up_k (f := zf_tG A) (g := A 11) (i := i17) (by simp only [ze_b, zf_tG, eq_true c22, eq_false c40, eq_true c88, eq_false c103, not_true_eq_false, not_false_eq_true, and_true, true_and, and_false, false_and, or_true, true_or, or_false, false_or, and_self, or_self, Decidable.not_not, if_true, if_false, reduceIte, reduceCtorEq, ne_eq, eq_self, Int32.lt_irrefl, Int32.le_refl, Nat.lt_irrefl]), ze_up_s (f := zf_tS A) (g := A 13) (i := i17) (by simp only [ze_b, zf_tS, zf_tS0, eq_true c22, eq_false c40, eq_true c88, eq_false c103, not_true_eq_false, not_false_eq_true, and_true, true_and, and_false, false_and, or_true, true_or, or_false, false_or, and_self, or_self, Decidable.not_not, if_true, if_false, reduceIte, reduceCtorEq, ne_eq, eq_self, Int32.lt_irrefl, Int32.le_refl, Nat.lt_irrefl])])
              rw [eW] at hW
              exact ih17 (i17 + 1) (by omega) (by omega) _ _ ls hW (lv_sub hl [0, 1] rfl)
        · refine lv_aload_n hX_ hB_ dX9_ticks_43 rfl (lv_at hl 1 rfl) ?_
          refine ze_get (ci := 9) (C := RX9) (T := TX9) (N := 39) (v := .ref (d 12)) S hiX9 hK hW 0 rfl rfl 11 (by decide) rfl w9 dX9_ticks_44 ?_
          refine lv_iload_n hX_ hB_ dX9_ticks_47 rfl (lv_at hl 0 rfl) ?_
          refine lv_dup2_11 hX_ hB_ dX9_ticks_48 rfl rfl ?_
          refine ze_ialdN hX_ hB_ hK hW 12 (f := (ze_up (zf_tG A) (A 11) i17)) rfl (i := i17) (by omega) (by decide) dX9_ticks_49 ?_
          refine ze_top (ze_up_at _ _ _) ?_
          refine lv_iconst (v := 1) hX_ hB_ dX9_ticks_50 (by decide) ?_
          refine lv_isub hX_ hB_ dX9_ticks_51 ?_
          refine ze_iastN hX_ hB_ hK hW 12 (f := (ze_up (zf_tG A) (A 11) i17)) rfl (i := i17) (by omega) (by decide) dX9_ticks_52 (ze_qR11 i17 (A 11 i17 - 1) _ _ _ _ _ _ _) (fun H locs hW => ?_)
          have hW : ze_W D (ze_wR c d n (ze_sE (ze_sE (ze_sA (ze_sA (ze_sA (ze_sC (ze_sC A 30 (A 30 0 + 1)) 31 0) 12 (ze_up (fun _ => 0) (A 12) i17)) 11 (ze_up (zf_tG A) (A 11) i17)) 13 (ze_up (zf_tS A) (A 13) i17)) 12 i17 0) 11 i17 (A 11 i17 - 1)) B mk th) F s.heap _ _ := hW
          refine lv_aload_n hX_ hB_ dX9_ticks_53 rfl (lv_at hl 1 rfl) ?_
          refine ze_get (ci := 9) (C := RX9) (T := TX9) (N := 39) (v := .ref (d 14)) S hiX9 hK hW 0 rfl rfl 13 (by decide) rfl w6 dX9_ticks_54 ?_
          refine lv_iload_n hX_ hB_ dX9_ticks_57 rfl (lv_at hl 0 rfl) ?_
          refine lv_aload_n hX_ hB_ dX9_ticks_58 rfl (lv_at hl 1 rfl) ?_
          refine ze_get (ci := 9) (C := RX9) (T := TX9) (N := 39) (v := .ref (d 12)) S hiX9 hK hW 0 rfl rfl 11 (by decide) rfl w9 dX9_ticks_59 ?_
          refine lv_iload_n hX_ hB_ dX9_ticks_62 rfl (lv_at hl 0 rfl) ?_
          refine ze_ialdN hX_ hB_ hK hW 12 (f := (upd (ze_up (zf_tG A) (A 11) i17) i17 (A 11 i17 - 1))) rfl (i := i17) (by omega) (by decide) dX9_ticks_63 ?_
          refine ze_top (ze_updat _ _ _) ?_
          refine lv_if_ne (tgt := 72) hX_ hB_ dX9_ticks_64 (by decide) (fun c64 => ?_) (fun c64 => ?_)
          · refine lv_bipush (v := 119) hX_ hB_ dX9_ticks_72 (by decide) ?_
            refine ze_castN hX_ hB_ hK hW 14 (f := (ze_up (zf_tS A) (A 13) i17)) rfl (i := i17) (by omega) (by decide) rfl dX9_ticks_74 (ze_qR13 i17 119 _ _ _ _ _ _ _) (fun H locs hW => ?_)
            have hW : ze_W D (ze_wR c d n (ze_sE (ze_sE (ze_sE (ze_sA (ze_sA (ze_sA (ze_sC (ze_sC A 30 (A 30 0 + 1)) 31 0) 12 (ze_up (fun _ => 0) (A 12) i17)) 11 (ze_up (zf_tG A) (A 11) i17)) 13 (ze_up (zf_tS A) (A 13) i17)) 12 i17 0) 11 i17 (A 11 i17 - 1)) 13 i17 119) B mk th) F s.heap _ _ := hW
            refine lv_aload_n hX_ hB_ dX9_ticks_75 rfl (lv_at hl 1 rfl) ?_
            refine ze_get (ci := 9) (C := RX9) (T := TX9) (N := 39) (v := .ref (d 14)) S hiX9 hK hW 0 rfl rfl 13 (by decide) rfl w6 dX9_ticks_76 ?_
            refine lv_iload_n hX_ hB_ dX9_ticks_79 rfl (lv_at hl 0 rfl) ?_
            refine lv_aload_n hX_ hB_ dX9_ticks_80 rfl (lv_at hl 1 rfl) ?_
            refine ze_get (ci := 9) (C := RX9) (T := TX9) (N := 39) (v := .ref (d 14)) S hiX9 hK hW 0 rfl rfl 13 (by decide) rfl w6 dX9_ticks_81 ?_
            refine lv_iload_n hX_ hB_ dX9_ticks_84 rfl (lv_at hl 0 rfl) ?_
            refine ze_caldN hX_ hB_ hK hW 14 (f := (upd (ze_up (zf_tS A) (A 13) i17) i17 119)) rfl (i := i17) (by omega) (by decide) dX9_ticks_85 ?_
            refine ze_top (ze_updat _ _ _) ?_
            refine lv_bipush (v := 114) hX_ hB_ dX9_ticks_86 (by decide) ?_
            refine lv_icmp_ne (tgt := 111) hX_ hB_ dX9_ticks_88 (by decide) (fun c88 => ?_) (fun c88 => ?_)
            · refine lv_aload_n hX_ hB_ dX9_ticks_111 rfl (lv_at hl 1 rfl) ?_
              refine ze_get (ci := 9) (C := RX9) (T := TX9) (N := 39) (v := .ref (d 14)) S hiX9 hK hW 0 rfl rfl 13 (by decide) rfl w6 dX9_ticks_112 ?_
              refine lv_iload_n hX_ hB_ dX9_ticks_115 rfl (lv_at hl 0 rfl) ?_
              refine ze_caldN hX_ hB_ hK hW 14 (f := (upd (ze_up (zf_tS A) (A 13) i17) i17 119)) rfl (i := i17) (by omega) (by decide) dX9_ticks_116 ?_
              refine ze_top (ze_updat _ _ _) ?_
              refine ze_castN hX_ hB_ hK hW 14 (f := (upd (ze_up (zf_tS A) (A 13) i17) i17 119)) rfl (i := i17) (by omega) (by decide) rfl dX9_ticks_117 (ze_qR13 i17 119 _ _ _ _ _ _ _) (fun H locs hW => ?_)
              have hW : ze_W D (ze_wR c d n (ze_sE (ze_sE (ze_sE (ze_sE (ze_sA (ze_sA (ze_sA (ze_sC (ze_sC A 30 (A 30 0 + 1)) 31 0) 12 (ze_up (fun _ => 0) (A 12) i17)) 11 (ze_up (zf_tG A) (A 11) i17)) 13 (ze_up (zf_tS A) (A 13) i17)) 12 i17 0) 11 i17 (A 11 i17 - 1)) 13 i17 119) 13 i17 119) B mk th) F s.heap _ _ := hW
              refine lv_iinc (v := nI (i17 + 1)) (lv' := [(1, .int (nI (i17 + 1))), (0, .ref (d 0))]) hX_ hB_ dX9_ticks_118 hl (k := 0) rfl (ze_inc _) (by decide) rfl (fun ls hl => ?_)
              refine lv_goto (tgt := 17) hX_ hB_ dX9_ticks_121 (by decide) ?_
              have eW : (ze_wR c d n (ze_sE (ze_sE (ze_sE (ze_sE (ze_sA (ze_sA (ze_sA (ze_sC (ze_sC A 30 (A 30 0 + 1)) 31 0) 12 (ze_up (fun _ => 0) (A 12) i17)) 11 (ze_up (zf_tG A) (A 11) i17)) 13 (ze_up (zf_tS A) (A 13) i17)) 12 i17 0) 11 i17 (A 11 i17 - 1)) 13 i17 119) 13 i17 119) B mk th) = (ze_wR c d n (ze_sA (ze_sA (ze_sA (ze_sC (ze_sC A 30 (A 30 0 + 1)) 31 0) 12 (ze_up (fun _ => 0) (A 12) (i17 + 1))) 11 (ze_up (zf_tG A) (A 11) (i17 + 1))) 13 (ze_up (zf_tS A) (A 13) (i17 + 1))) B mk th) := (by simp (decide := true) only [ze_e1, ze_e2, ze_upd2]; rw [ze_up_s (f := (fun _ => 0)) (g := A 12) (i := i17) (by simp only [ze_b, eq_true c22, eq_true c40, eq_false c64, eq_false c88, not_true_eq_false, not_false_eq_true, and_true, true_and, and_false, false_and, or_true, true_or, or_false, false_or, and_self, or_self, Decidable.not_not, if_true, if_false, reduceIte, reduceCtorEq, ne_eq, eq_self, Int32.lt_irrefl, Int32.le_refl, Nat.lt_irrefl]), ze_up_s (f := zf_tG A) (g := A 11) (i := i17) (by simp only [ze_b, zf_tG, eq_true c22, eq_true c40, eq_false c64, eq_false c88, not_true_eq_false, not_false_eq_true, and_true, true_and, and_false, false_and, or_true, true_or, or_false, false_or, and_self, or_self, Decidable.not_not, if_true, if_false, reduceIte, reduceCtorEq, ne_eq, eq_self, Int32.lt_irrefl, Int32.le_refl, Nat.lt_irrefl]), ze_up_s (f := zf_tS A) (g := A 13) (i := i17) (by simp only [ze_b, zf_tS, zf_tS0, eq_true c22, eq_true c40, eq_false c64, eq_false c88, not_true_eq_false, not_false_eq_true, and_true, true_and, and_false, false_and, or_true, true_or, or_false, false_or, and_self, or_self, Decidable.not_not, if_true, if_false, reduceIte, reduceCtorEq, ne_eq, eq_self, Int32.lt_irrefl, Int32.le_refl, Nat.lt_irrefl])])
              rw [eW] at hW
              exact ih17 (i17 + 1) (by omega) (by omega) _ _ ls hW (lv_sub hl [0, 1] rfl)
            · exact absurd c88 (by decide)
          · refine lv_bipush (v := 114) hX_ hB_ dX9_ticks_67 (by decide) ?_
            refine lv_goto (tgt := 74) hX_ hB_ dX9_ticks_69 (by decide) ?_
            refine ze_castN hX_ hB_ hK hW 14 (f := (ze_up (zf_tS A) (A 13) i17)) rfl (i := i17) (by omega) (by decide) rfl dX9_ticks_74 (ze_qR13 i17 114 _ _ _ _ _ _ _) (fun H locs hW => ?_)
            have hW : ze_W D (ze_wR c d n (ze_sE (ze_sE (ze_sE (ze_sA (ze_sA (ze_sA (ze_sC (ze_sC A 30 (A 30 0 + 1)) 31 0) 12 (ze_up (fun _ => 0) (A 12) i17)) 11 (ze_up (zf_tG A) (A 11) i17)) 13 (ze_up (zf_tS A) (A 13) i17)) 12 i17 0) 11 i17 (A 11 i17 - 1)) 13 i17 114) B mk th) F s.heap _ _ := hW
            refine lv_aload_n hX_ hB_ dX9_ticks_75 rfl (lv_at hl 1 rfl) ?_
            refine ze_get (ci := 9) (C := RX9) (T := TX9) (N := 39) (v := .ref (d 14)) S hiX9 hK hW 0 rfl rfl 13 (by decide) rfl w6 dX9_ticks_76 ?_
            refine lv_iload_n hX_ hB_ dX9_ticks_79 rfl (lv_at hl 0 rfl) ?_
            refine lv_aload_n hX_ hB_ dX9_ticks_80 rfl (lv_at hl 1 rfl) ?_
            refine ze_get (ci := 9) (C := RX9) (T := TX9) (N := 39) (v := .ref (d 14)) S hiX9 hK hW 0 rfl rfl 13 (by decide) rfl w6 dX9_ticks_81 ?_
            refine lv_iload_n hX_ hB_ dX9_ticks_84 rfl (lv_at hl 0 rfl) ?_
            refine ze_caldN hX_ hB_ hK hW 14 (f := (upd (ze_up (zf_tS A) (A 13) i17) i17 114)) rfl (i := i17) (by omega) (by decide) dX9_ticks_85 ?_
            refine ze_top (ze_updat _ _ _) ?_
            refine lv_bipush (v := 114) hX_ hB_ dX9_ticks_86 (by decide) ?_
            refine lv_icmp_ne (tgt := 111) hX_ hB_ dX9_ticks_88 (by decide) (fun c88 => ?_) (fun c88 => ?_)
            · exact absurd c88 (by decide)
            · refine lv_aload_n hX_ hB_ dX9_ticks_91 rfl (lv_at hl 1 rfl) ?_
              refine ze_get (ci := 9) (C := RX9) (T := TX9) (N := 39) (v := .ref (d 11)) S hiX9 hK hW 0 rfl rfl 10 (by decide) rfl w7 dX9_ticks_92 ?_
              refine lv_iload_n hX_ hB_ dX9_ticks_95 rfl (lv_at hl 0 rfl) ?_
              refine ze_ialdN hX_ hB_ hK hW 11 (f := A 10) rfl (i := i17) (by omega) (by decide) dX9_ticks_96 ?_
              refine lv_aload_n hX_ hB_ dX9_ticks_97 rfl (lv_at hl 1 rfl) ?_
              refine ze_get (ci := 9) (C := RX9) (T := TX9) (N := 39) (v := .ref (d 8)) S hiX9 hK hW 0 rfl rfl 7 (by decide) rfl w8 dX9_ticks_98 ?_
              refine lv_iload_n hX_ hB_ dX9_ticks_101 rfl (lv_at hl 0 rfl) ?_
              refine ze_ialdN hX_ hB_ hK hW 8 (f := A 7) rfl (i := i17) (by omega) (by decide) dX9_ticks_102 ?_
              refine lv_icmp_ge (tgt := 111) hX_ hB_ dX9_ticks_103 (by decide) (fun c103 => ?_) (fun c103 => ?_)
              · refine lv_aload_n hX_ hB_ dX9_ticks_111 rfl (lv_at hl 1 rfl) ?_
                refine ze_get (ci := 9) (C := RX9) (T := TX9) (N := 39) (v := .ref (d 14)) S hiX9 hK hW 0 rfl rfl 13 (by decide) rfl w6 dX9_ticks_112 ?_
                refine lv_iload_n hX_ hB_ dX9_ticks_115 rfl (lv_at hl 0 rfl) ?_
                refine ze_caldN hX_ hB_ hK hW 14 (f := (upd (ze_up (zf_tS A) (A 13) i17) i17 114)) rfl (i := i17) (by omega) (by decide) dX9_ticks_116 ?_
                refine ze_top (ze_updat _ _ _) ?_
                refine ze_castN hX_ hB_ hK hW 14 (f := (upd (ze_up (zf_tS A) (A 13) i17) i17 114)) rfl (i := i17) (by omega) (by decide) rfl dX9_ticks_117 (ze_qR13 i17 114 _ _ _ _ _ _ _) (fun H locs hW => ?_)
                have hW : ze_W D (ze_wR c d n (ze_sE (ze_sE (ze_sE (ze_sE (ze_sA (ze_sA (ze_sA (ze_sC (ze_sC A 30 (A 30 0 + 1)) 31 0) 12 (ze_up (fun _ => 0) (A 12) i17)) 11 (ze_up (zf_tG A) (A 11) i17)) 13 (ze_up (zf_tS A) (A 13) i17)) 12 i17 0) 11 i17 (A 11 i17 - 1)) 13 i17 114) 13 i17 114) B mk th) F s.heap _ _ := hW
                refine lv_iinc (v := nI (i17 + 1)) (lv' := [(1, .int (nI (i17 + 1))), (0, .ref (d 0))]) hX_ hB_ dX9_ticks_118 hl (k := 0) rfl (ze_inc _) (by decide) rfl (fun ls hl => ?_)
                refine lv_goto (tgt := 17) hX_ hB_ dX9_ticks_121 (by decide) ?_
                have eW : (ze_wR c d n (ze_sE (ze_sE (ze_sE (ze_sE (ze_sA (ze_sA (ze_sA (ze_sC (ze_sC A 30 (A 30 0 + 1)) 31 0) 12 (ze_up (fun _ => 0) (A 12) i17)) 11 (ze_up (zf_tG A) (A 11) i17)) 13 (ze_up (zf_tS A) (A 13) i17)) 12 i17 0) 11 i17 (A 11 i17 - 1)) 13 i17 114) 13 i17 114) B mk th) = (ze_wR c d n (ze_sA (ze_sA (ze_sA (ze_sC (ze_sC A 30 (A 30 0 + 1)) 31 0) 12 (ze_up (fun _ => 0) (A 12) (i17 + 1))) 11 (ze_up (zf_tG A) (A 11) (i17 + 1))) 13 (ze_up (zf_tS A) (A 13) (i17 + 1))) B mk th) := (by simp (decide := true) only [ze_e1, ze_e2, ze_upd2]; rw [ze_up_s (f := (fun _ => 0)) (g := A 12) (i := i17) (by simp only [ze_b, eq_true c22, eq_true c40, eq_true c64, eq_true c88, eq_true c103, not_true_eq_false, not_false_eq_true, and_true, true_and, and_false, false_and, or_true, true_or, or_false, false_or, and_self, or_self, Decidable.not_not, if_true, if_false, reduceIte, reduceCtorEq, ne_eq, eq_self, Int32.lt_irrefl, Int32.le_refl, Nat.lt_irrefl]), ze_up_s (f := zf_tG A) (g := A 11) (i := i17) (by simp only [ze_b, zf_tG, eq_true c22, eq_true c40, eq_true c64, eq_true c88, eq_true c103, not_true_eq_false, not_false_eq_true, and_true, true_and, and_false, false_and, or_true, true_or, or_false, false_or, and_self, or_self, Decidable.not_not, if_true, if_false, reduceIte, reduceCtorEq, ne_eq, eq_self, Int32.lt_irrefl, Int32.le_refl, Nat.lt_irrefl]), ze_up_s (f := zf_tS A) (g := A 13) (i := i17) (by simp only [ze_b, zf_tS, zf_tS0, eq_true c22, eq_true c40, eq_true c64, eq_true c88, eq_true c103, not_true_eq_false, not_false_eq_true, and_true, true_and, and_false, false_and, or_true, true_or, or_false, false_or, and_self, or_self, Decidable.not_not, if_true, if_false, reduceIte, reduceCtorEq, ne_eq, eq_self, Int32.lt_irrefl, Int32.le_refl, Nat.lt_irrefl])])
                rw [eW] at hW
                exact ih17 (i17 + 1) (by omega) (by omega) _ _ ls hW (lv_sub hl [0, 1] rfl)
              · refine lv_bipush (v := 111) hX_ hB_ dX9_ticks_106 (by decide) ?_
                refine lv_goto (tgt := 117) hX_ hB_ dX9_ticks_108 (by decide) ?_
                refine ze_castN hX_ hB_ hK hW 14 (f := (upd (ze_up (zf_tS A) (A 13) i17) i17 114)) rfl (i := i17) (by omega) (by decide) rfl dX9_ticks_117 (ze_qR13 i17 111 _ _ _ _ _ _ _) (fun H locs hW => ?_)
                have hW : ze_W D (ze_wR c d n (ze_sE (ze_sE (ze_sE (ze_sE (ze_sA (ze_sA (ze_sA (ze_sC (ze_sC A 30 (A 30 0 + 1)) 31 0) 12 (ze_up (fun _ => 0) (A 12) i17)) 11 (ze_up (zf_tG A) (A 11) i17)) 13 (ze_up (zf_tS A) (A 13) i17)) 12 i17 0) 11 i17 (A 11 i17 - 1)) 13 i17 114) 13 i17 111) B mk th) F s.heap _ _ := hW
                refine lv_iinc (v := nI (i17 + 1)) (lv' := [(1, .int (nI (i17 + 1))), (0, .ref (d 0))]) hX_ hB_ dX9_ticks_118 hl (k := 0) rfl (ze_inc _) (by decide) rfl (fun ls hl => ?_)
                refine lv_goto (tgt := 17) hX_ hB_ dX9_ticks_121 (by decide) ?_
                have eW : (ze_wR c d n (ze_sE (ze_sE (ze_sE (ze_sE (ze_sA (ze_sA (ze_sA (ze_sC (ze_sC A 30 (A 30 0 + 1)) 31 0) 12 (ze_up (fun _ => 0) (A 12) i17)) 11 (ze_up (zf_tG A) (A 11) i17)) 13 (ze_up (zf_tS A) (A 13) i17)) 12 i17 0) 11 i17 (A 11 i17 - 1)) 13 i17 114) 13 i17 111) B mk th) = (ze_wR c d n (ze_sA (ze_sA (ze_sA (ze_sC (ze_sC A 30 (A 30 0 + 1)) 31 0) 12 (ze_up (fun _ => 0) (A 12) (i17 + 1))) 11 (ze_up (zf_tG A) (A 11) (i17 + 1))) 13 (ze_up (zf_tS A) (A 13) (i17 + 1))) B mk th) := (by simp (decide := true) only [ze_e1, ze_e2, ze_upd2]; rw [ze_up_s (f := (fun _ => 0)) (g := A 12) (i := i17) (by simp only [ze_b, eq_true c22, eq_true c40, eq_true c64, eq_true c88, eq_false c103, not_true_eq_false, not_false_eq_true, and_true, true_and, and_false, false_and, or_true, true_or, or_false, false_or, and_self, or_self, Decidable.not_not, if_true, if_false, reduceIte, reduceCtorEq, ne_eq, eq_self, Int32.lt_irrefl, Int32.le_refl, Nat.lt_irrefl]), ze_up_s (f := zf_tG A) (g := A 11) (i := i17) (by simp only [ze_b, zf_tG, eq_true c22, eq_true c40, eq_true c64, eq_true c88, eq_false c103, not_true_eq_false, not_false_eq_true, and_true, true_and, and_false, false_and, or_true, true_or, or_false, false_or, and_self, or_self, Decidable.not_not, if_true, if_false, reduceIte, reduceCtorEq, ne_eq, eq_self, Int32.lt_irrefl, Int32.le_refl, Nat.lt_irrefl]), ze_up_s (f := zf_tS A) (g := A 13) (i := i17) (by simp only [ze_b, zf_tS, zf_tS0, eq_true c22, eq_true c40, eq_true c64, eq_true c88, eq_false c103, not_true_eq_false, not_false_eq_true, and_true, true_and, and_false, false_and, or_true, true_or, or_false, false_or, and_self, or_self, Decidable.not_not, if_true, if_false, reduceIte, reduceCtorEq, ne_eq, eq_self, Int32.lt_irrefl, Int32.le_refl, Nat.lt_irrefl])])
                rw [eW] at hW
                exact ih17 (i17 + 1) (by omega) (by omega) _ _ ls hW (lv_sub hl [0, 1] rfl)
  have hl : lv_has ls 2 [(1, .int (nI 0)), (0, .ref (d 0))] := hl
  have hW : ze_W D (ze_wR c d n (ze_sA (ze_sA (ze_sA (ze_sC (ze_sC A 30 (A 30 0 + 1)) 31 0) 12 (ze_up (fun _ => 0) (A 12) 0)) 11 (ze_up (zf_tG A) (A 11) 0)) 13 (ze_up (zf_tS A) (A 13) 0)) B mk th) F s.heap _ _ := (by rw [ze_up_0, ze_up_0, ze_up_0]; rw [ze_sAid3 (A := ze_sC (ze_sC A 30 (A 30 0 + 1)) 31 0) (f := A 12) (g := A 11) (h := A 13) rfl rfl rfl]; exact hW)
  exact L17 _ 0 (by omega) (Nat.lt_succ_self _) _ _ ls hW (lv_sub hl [0, 1] rfl)
