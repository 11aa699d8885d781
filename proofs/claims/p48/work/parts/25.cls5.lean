set_option maxHeartbeats 4000000 in
set_option maxRecDepth 100000 in
theorem zc_5_goFrom (l : Launch) (D : va_G) (c : Nat → ClassId) (a n : Nat → Nat) (A : Nat → Nat → Int32) (B : Nat → Int64) (E : Nat → Nat → Int32) (f : Nat) (hN : zf_N n) (hS : zf_S n A) (hf : f < n 0) : ze_V l yX5_goFrom wsX5_goFrom 1 22 0 0 D c (ze_wC c a n A B E) [.ref (a 1), .int (nI f)] (ze_wC c a n A B (ze_sA (ze_sA E 0 ((zf_go n A (E 0) (E 1) f).1)) 1 ((zf_go n A (E 0) (E 1) f).2.1))) := by
  intro sz
  refine ze_start (cc := cX5_goFrom) (maxL := 7) (ret := none) (own := RX5) (by decide) rfl rfl (Nat.le_of_ble_eq_true rfl) ?_
  obtain ⟨hn0, hn1, hn2, hn3, hn4⟩ := id hN
  intro p e s m_ below meth cd F ls hF hsz E0
  obtain ⟨S, hr, hlocks, hK, hW, hA, hl⟩ := E0
  have hX_ := S.1
  have hB_ := S.2.1
  have hts := S.2.2.2.2
  have hl : lv_has ls 7 [(0, .ref (a 1)), (1, .int (nI f))] := hl
  have hiX5 : ∀ w ∈ u_ws RX5 TX5 10, w ∈ wsX5_goFrom := fun _ h => (List.mem_cons_of_mem _ (List.mem_append_right _ h))
  have w0 := hts (.fieldLink RX5 15 "Islandgrid$Network" "islandOf" "[I") (List.mem_cons_of_mem _ (List.mem_append_left _ (List.mem_of_getElem? (i := 0) rfl)))
  have w1 := hts (.fieldLink RX5 28 "Islandgrid$Network" "toVisit" "[I") (List.mem_cons_of_mem _ (List.mem_append_left _ (List.mem_of_getElem? (i := 1) rfl)))
  have w2 := hts (.fieldLink RX5 34 "Islandgrid$Network" "siteCount" "I") (List.mem_cons_of_mem _ (List.mem_append_left _ (List.mem_of_getElem? (i := 2) rfl)))
  have w3 := hts (.fieldLink RX5 41 "Islandgrid$Network" "lineCount" "I") (List.mem_cons_of_mem _ (List.mem_append_left _ (List.mem_of_getElem? (i := 3) rfl)))
  refine lv_aload_n hX_ hB_ dX5_goFrom_0 rfl (lv_at hl 0 rfl) ?_
  refine ze_get (ci := 5) (C := RX5) (T := TX5) (N := 10) (v := .ref (a 3)) S hiX5 hK hW 1 (ze_at0 1 rfl) rfl 4 (by decide) rfl w0 dX5_goFrom_1 ?_
  refine lv_iload_n hX_ hB_ dX5_goFrom_4 rfl (lv_at hl 1 rfl) ?_
  refine lv_iload_n hX_ hB_ dX5_goFrom_5 rfl (lv_at hl 1 rfl) ?_
  refine ze_iastN hX_ hB_ hK hW 3 (f := E 0) (ze_at0 3 rfl) (i := f) (by omega) (by decide) dX5_goFrom_6 (ze_qC3 f (nI f) _ _ _ _ _ _) (fun H locs hW => ?_)
  have hW : ze_W D (ze_wC c a n A B (ze_sE E 0 f (nI f))) F s.heap _ _ := hW
  refine lv_aload_n hX_ hB_ dX5_goFrom_7 rfl (lv_at hl 0 rfl) ?_
  refine ze_get (ci := 5) (C := RX5) (T := TX5) (N := 10) (v := .ref (a 7)) S hiX5 hK hW 1 (ze_at0 1 rfl) rfl 8 (by decide) rfl w1 dX5_goFrom_8 ?_
  refine lv_iconst (v := 0) hX_ hB_ dX5_goFrom_11 (by decide) ?_
  refine lv_iload_n hX_ hB_ dX5_goFrom_12 rfl (lv_at hl 1 rfl) ?_
  refine ze_iastN hX_ hB_ hK hW 7 (f := E 1) (ze_at0 7 rfl) (i := 0) (by omega) (by decide) dX5_goFrom_13 (ze_qC7 0 (nI f) _ _ _ _ _ _) (fun H locs hW => ?_)
  have hW : ze_W D (ze_wC c a n A B (ze_sE (ze_sE E 0 f (nI f)) 1 0 (nI f))) F s.heap _ _ := hW
  refine lv_iconst (v := 1) hX_ hB_ dX5_goFrom_14 (by decide) ?_
  refine lv_istore_n (lv' := [(2, .int 1), (0, .ref (a 1)), (1, .int (nI f))]) hX_ hB_ dX5_goFrom_15 rfl hl (by decide) rfl (fun ls hl => ?_)
  refine lv_iconst (v := 0) hX_ hB_ dX5_goFrom_16 (by decide) ?_
  refine lv_istore_n (lv' := [(3, .int 0), (2, .int 1), (0, .ref (a 1)), (1, .int (nI f))]) hX_ hB_ dX5_goFrom_17 rfl hl (by decide) rfl (fun ls hl => ?_)
  have L18 : ∀ (k18 : Nat) (v : Nat) (kn : Nat) (io : Nat → Int32) (tv : Nat → Int32), (v ≤ n 0) → (zf_gI n f io tv kn) → (zf_gx A (n 1) (nI f) (n 0 - v) v io tv kn = zf_go n A (E 0) (E 1) f) → (n 0 - v) < k18 → ∀ (H : Heap) (locs : List Loc) (ls : Array Slot), ze_W D (ze_wC c a n A B (ze_sA (ze_sA E 0 io) 1 tv)) F s.heap H locs → lv_has ls 7 [(3, .int (nI v)), (2, .int (nI kn)), (0, .ref (a 1)), (1, .int (nI f))] → W p l e { frames := 1, cells := 0, slots := 0, locals := 22 } s m_ ([.ref (a 1), .int (nI f)] : List Value).toArray below meth cd H locs 0 0 (MQ below (ze_Qv D c (ze_wC c a n A B E) sz (ze_wC c a n A B (ze_sA (ze_sA E 0 ((zf_go n A (E 0) (E 1) f).1)) 1 ((zf_go n A (E 0) (E 1) f).2.1)))) ([.ref (a 1), .int (nI f)] : List Value).toArray s 0 0 F) (F0 m_ 18 ls []) := by
    intro k18
    induction k18 with
    | zero =>
      intro v kn io tv hv hI hres hk18
      exact absurd hk18 (Nat.not_lt_zero _)
    | succ k18 ih18 =>
      intro v kn io tv hv hI hres hk18 H locs ls hW hl
      have hkn := hI.1
      refine lv_iload_n hX_ hB_ dX5_goFrom_18 rfl (lv_at hl 0 rfl) ?_
      refine lv_iload_n hX_ hB_ dX5_goFrom_19 rfl (lv_at hl 1 rfl) ?_
      refine lv_icmp_ge (tgt := 109) hX_ hB_ dX5_goFrom_20 (by decide) (fun c20 => ?_) (fun c20 => ?_)
      · have c20 : ¬ v < kn := Nat.not_lt.mpr ((nI_leI (a := kn) (b := v) (by omega) (by omega)).mp c20)
        have hz0 : (io, tv, kn) = zf_go n A (E 0) (E 1) f := by
          rw [← hres]
          rcases hq : n 0 - v with _ | q
          · rfl
          · rw [zf_gx, if_neg (by omega)]
        exact ze_vret S hr hlocks hF hK hW dX5_goFrom_109 (Nat.le_of_ble_eq_true rfl) (Nat.le_of_ble_eq_true rfl) (by rw [← hz0])
      · have c20 : v < kn := Nat.lt_of_not_le (fun h9 => c20 ((nI_leI (a := kn) (b := v) (by omega) (by omega)).mpr h9))
        refine lv_iload_n hX_ hB_ dX5_goFrom_23 rfl (lv_at hl 0 rfl) ?_
        refine lv_aload_n hX_ hB_ dX5_goFrom_24 rfl (lv_at hl 2 rfl) ?_
        refine ze_get (ci := 5) (C := RX5) (T := TX5) (N := 10) (v := .int (nI (n 0))) S hiX5 hK hW 1 (ze_at0 1 rfl) rfl 0 (by decide) rfl w2 dX5_goFrom_25 ?_
        refine lv_icmp_ge (tgt := 109) hX_ hB_ dX5_goFrom_28 (by decide) (fun c28 => ?_) (fun c28 => ?_)
        · have c28 : ¬ v < (n 0) := Nat.not_lt.mpr ((nI_leI (a := (n 0)) (b := v) (by omega) (by omega)).mp c28)
          have hz0 : (io, tv, kn) = zf_go n A (E 0) (E 1) f := by
            rw [← hres, show n 0 - v = 0 by omega]
            rfl
          exact ze_vret S hr hlocks hF hK hW dX5_goFrom_109 (Nat.le_of_ble_eq_true rfl) (Nat.le_of_ble_eq_true rfl) (by rw [← hz0])
        · have c28 : v < (n 0) := Nat.lt_of_not_le (fun h9 => c28 ((nI_leI (a := (n 0)) (b := v) (by omega) (by omega)).mpr h9))
          refine lv_aload_n hX_ hB_ dX5_goFrom_31 rfl (lv_at hl 2 rfl) ?_
          refine ze_get (ci := 5) (C := RX5) (T := TX5) (N := 10) (v := .ref (a 7)) S hiX5 hK hW 1 (ze_at0 1 rfl) rfl 8 (by decide) rfl w1 dX5_goFrom_32 ?_
          refine lv_iload_n hX_ hB_ dX5_goFrom_35 rfl (lv_at hl 0 rfl) ?_
          refine ze_ialdN hX_ hB_ hK hW 7 (f := tv) (ze_at0 7 rfl) (i := v) (by omega) (by decide) dX5_goFrom_36 ?_
          refine lv_istore (lv' := [(4, .int (tv v)), (3, .int (nI v)), (2, .int (nI kn)), (0, .ref (a 1)), (1, .int (nI f))]) hX_ hB_ dX5_goFrom_37 hl (by decide) rfl (fun ls hl => ?_)
          refine lv_iconst (v := 0) hX_ hB_ dX5_goFrom_39 (by decide) ?_
          refine lv_istore (lv' := [(5, .int 0), (4, .int (tv v)), (3, .int (nI v)), (2, .int (nI kn)), (0, .ref (a 1)), (1, .int (nI f))]) hX_ hB_ dX5_goFrom_40 hl (by decide) rfl (fun ls hl => ?_)
          have L42 : ∀ (k42 : Nat) (i42 : Nat), (i42 ≤ n 1) → (n 1 - i42) < k42 → ∀ (H : Heap) (locs : List Loc) (ls : Array Slot), ze_W D (ze_wC c a n A B (ze_sA (ze_sA E 0 ((zf_gi A (nI f) (tv v) io tv kn i42).1)) 1 ((zf_gi A (nI f) (tv v) io tv kn i42).2.1))) F s.heap H locs → lv_has ls 7 [(5, .int (nI i42)), (4, .int (tv v)), (3, .int (nI v)), (2, .int (nI ((zf_gi A (nI f) (tv v) io tv kn i42).2.2))), (0, .ref (a 1)), (1, .int (nI f))] → W p l e { frames := 1, cells := 0, slots := 0, locals := 22 } s m_ ([.ref (a 1), .int (nI f)] : List Value).toArray below meth cd H locs 0 0 (MQ below (ze_Qv D c (ze_wC c a n A B E) sz (ze_wC c a n A B (ze_sA (ze_sA E 0 ((zf_go n A (E 0) (E 1) f).1)) 1 ((zf_go n A (E 0) (E 1) f).2.1)))) ([.ref (a 1), .int (nI f)] : List Value).toArray s 0 0 F) (F0 m_ 42 ls []) := by
            intro k42
            induction k42 with
            | zero =>
              intro i42 h42 hk42
              exact absurd hk42 (Nat.not_lt_zero _)
            | succ k42 ih42 =>
              intro i42 h42 hk42 H locs ls hW hl
              have hI2 := zf_giI (here := tv v) hN hS hf hI h42
              have hkn2 := hI2.1
              refine lv_iload hX_ hB_ dX5_goFrom_42 (lv_at hl 0 rfl) ?_
              refine lv_aload_n hX_ hB_ dX5_goFrom_44 rfl (lv_at hl 4 rfl) ?_
              refine ze_get (ci := 5) (C := RX5) (T := TX5) (N := 10) (v := .int (nI (n 1))) S hiX5 hK hW 1 (ze_at0 1 rfl) rfl 1 (by decide) rfl w3 dX5_goFrom_45 ?_
              refine lv_icmp_ge (tgt := 103) hX_ hB_ dX5_goFrom_48 (by decide) (fun c48 => ?_) (fun c48 => ?_)
              · have c48 : ¬ i42 < (n 1) := Nat.not_lt.mpr ((nI_leI (a := (n 1)) (b := i42) (by omega) (by omega)).mp c48)
                have e42 : i42 = n 1 := by omega
                subst e42
                refine lv_iinc (v := nI (v + 1)) (lv' := [(3, .int (nI (v + 1))), (5, .int (nI (n 1))), (4, .int (tv v)), (2, .int (nI ((zf_gi A (nI f) (tv v) io tv kn (n 1)).2.2))), (0, .ref (a 1)), (1, .int (nI f))]) hX_ hB_ dX5_goFrom_103 hl (k := 2) rfl (ze_inc _) (by decide) rfl (fun ls hl => ?_)
                refine lv_goto (tgt := 18) hX_ hB_ dX5_goFrom_106 (by decide) ?_
                exact ih18 (v + 1) (zf_gi A (nI f) (tv v) io tv kn (n 1)).2.2 (zf_gi A (nI f) (tv v) io tv kn (n 1)).1 (zf_gi A (nI f) (tv v) io tv kn (n 1)).2.1 (by omega) (zf_giI hN hS hf hI (Nat.le_refl _)) (by rw [← hres, show n 0 - v = (n 0 - (v + 1)) + 1 by omega, zf_gx, if_pos (by omega)]) (by omega) _ _ ls hW (lv_sub hl [0, 3, 4, 5] rfl)
              · have c48 : i42 < (n 1) := Nat.lt_of_not_le (fun h9 => c48 ((nI_leI (a := (n 1)) (b := i42) (by omega) (by omega)).mpr h9))
                refine lv_aload_n hX_ hB_ dX5_goFrom_51 rfl (lv_at hl 4 rfl) ?_
                refine lv_iload hX_ hB_ dX5_goFrom_52 (lv_at hl 1 rfl) ?_
                refine lv_iload hX_ hB_ dX5_goFrom_54 (lv_at hl 0 rfl) ?_
                refine ze_Vi (As := [.int (tv v), .int (nI i42)]) (rest := []) (ci := 5) (q0 := 1) (k := (RX5, TX5, 10)) S (zc_5_acrossFrom l D c a n A B (ze_sA (ze_sA E 0 ((zf_gi A (nI f) (tv v) io tv kn i42).1)) 1 ((zf_gi A (nI f) (tv v) io tv kn i42).2.1)) (tv v) i42 hN (by omega)) (cwV 2 hts gX5_goFrom_X5_acrossFrom rfl rfl rfl (by decide +kernel) ⟨Nat.le_of_ble_eq_true rfl, Nat.le_of_ble_eq_true rfl⟩) hK hW hA rfl (ze_at0 1 rfl) rfl hl.1 rfl (lv_room (Nat.le_of_ble_eq_true rfl)) dX5_goFrom_56 ⟨Nat.le_of_ble_eq_true rfl, Nat.le_of_ble_eq_true rfl⟩ (fun H locs hW => ?_)
                refine lv_istore (lv' := [(6, .int (zf_acr A (tv v) i42)), (5, .int (nI i42)), (4, .int (tv v)), (3, .int (nI v)), (2, .int (nI ((zf_gi A (nI f) (tv v) io tv kn i42).2.2))), (0, .ref (a 1)), (1, .int (nI f))]) hX_ hB_ dX5_goFrom_59 hl (by decide) rfl (fun ls hl => ?_)
                refine lv_iload hX_ hB_ dX5_goFrom_61 (lv_at hl 0 rfl) ?_
                refine lv_iconst (v := (-1)) hX_ hB_ dX5_goFrom_63 (by decide) ?_
                refine lv_icmp_eq (tgt := 97) hX_ hB_ dX5_goFrom_64 (by decide) (fun c64 => ?_) (fun c64 => ?_)
                · refine lv_iinc (v := nI (i42 + 1)) (lv' := [(5, .int (nI (i42 + 1))), (6, .int (zf_acr A (tv v) i42)), (4, .int (tv v)), (3, .int (nI v)), (2, .int (nI ((zf_gi A (nI f) (tv v) io tv kn i42).2.2))), (0, .ref (a 1)), (1, .int (nI f))]) hX_ hB_ dX5_goFrom_97 hl (k := 1) rfl (ze_inc _) (by decide) rfl (fun ls hl => ?_)
                  refine lv_goto (tgt := 42) hX_ hB_ dX5_goFrom_100 (by decide) ?_
                  have eL2 : nI ((zf_gi A (nI f) (tv v) io tv kn i42).2.2) = nI ((zf_gi A (nI f) (tv v) io tv kn (i42 + 1)).2.2) := (by rw [zf_gi, if_neg (fun h9 => h9.1 c64)])
                  have hl : lv_has ls 7 [(5, .int (nI (i42 + 1))), (6, .int (zf_acr A (tv v) i42)), (4, .int (tv v)), (3, .int (nI v)), (2, .int (nI ((zf_gi A (nI f) (tv v) io tv kn (i42 + 1)).2.2))), (0, .ref (a 1)), (1, .int (nI f))] := by
                    first | (rw [← eL2]; exact hl) | (simp only [← eL2]; exact hl)
                  have eW : (ze_wC c a n A B (ze_sA (ze_sA E 0 ((zf_gi A (nI f) (tv v) io tv kn i42).1)) 1 ((zf_gi A (nI f) (tv v) io tv kn i42).2.1))) = (ze_wC c a n A B (ze_sA (ze_sA E 0 ((zf_gi A (nI f) (tv v) io tv kn (i42 + 1)).1)) 1 ((zf_gi A (nI f) (tv v) io tv kn (i42 + 1)).2.1))) := (by rw [zf_gi, if_neg (fun h9 => h9.1 c64)])
                  rw [eW] at hW
                  exact ih42 (i42 + 1) (by omega) (by omega) _ _ ls hW (lv_sub hl [0, 2, 3, 4, 5, 6] rfl)
                · refine lv_aload_n hX_ hB_ dX5_goFrom_67 rfl (lv_at hl 5 rfl) ?_
                  refine ze_get (ci := 5) (C := RX5) (T := TX5) (N := 10) (v := .ref (a 3)) S hiX5 hK hW 1 (ze_at0 1 rfl) rfl 4 (by decide) rfl w0 dX5_goFrom_68 ?_
                  refine lv_iload hX_ hB_ dX5_goFrom_71 (lv_at hl 0 rfl) ?_
                  refine ze_iald hX_ hB_ hK hW 3 (f := ((zf_gi A (nI f) (tv v) io tv kn i42).1)) (ze_at0 3 rfl) (zf_in hN (zf_acrsite hS (by omega) c64)) dX5_goFrom_73 ?_
                  refine lv_iconst (v := (-1)) hX_ hB_ dX5_goFrom_74 (by decide) ?_
                  refine lv_icmp_ne (tgt := 97) hX_ hB_ dX5_goFrom_75 (by decide) (fun c75 => ?_) (fun c75 => ?_)
                  · refine lv_iinc (v := nI (i42 + 1)) (lv' := [(5, .int (nI (i42 + 1))), (6, .int (zf_acr A (tv v) i42)), (4, .int (tv v)), (3, .int (nI v)), (2, .int (nI ((zf_gi A (nI f) (tv v) io tv kn i42).2.2))), (0, .ref (a 1)), (1, .int (nI f))]) hX_ hB_ dX5_goFrom_97 hl (k := 1) rfl (ze_inc _) (by decide) rfl (fun ls hl => ?_)
                    refine lv_goto (tgt := 42) hX_ hB_ dX5_goFrom_100 (by decide) ?_
                    have eL2 : nI ((zf_gi A (nI f) (tv v) io tv kn i42).2.2) = nI ((zf_gi A (nI f) (tv v) io tv kn (i42 + 1)).2.2) := (by rw [zf_gi, if_neg (fun h9 => c75 h9.2)])
                    have hl : lv_has ls 7 [(5, .int (nI (i42 + 1))), (6, .int (zf_acr A (tv v) i42)), (4, .int (tv v)), (3, .int (nI v)), (2, .int (nI ((zf_gi A (nI f) (tv v) io tv kn (i42 + 1)).2.2))), (0, .ref (a 1)), (1, .int (nI f))] := by
                      first | (rw [← eL2]; exact hl) | (simp only [← eL2]; exact hl)
                    have eW : (ze_wC c a n A B (ze_sA (ze_sA E 0 ((zf_gi A (nI f) (tv v) io tv kn i42).1)) 1 ((zf_gi A (nI f) (tv v) io tv kn i42).2.1))) = (ze_wC c a n A B (ze_sA (ze_sA E 0 ((zf_gi A (nI f) (tv v) io tv kn (i42 + 1)).1)) 1 ((zf_gi A (nI f) (tv v) io tv kn (i42 + 1)).2.1))) := (by rw [zf_gi, if_neg (fun h9 => c75 h9.2)])
                    rw [eW] at hW
                    exact ih42 (i42 + 1) (by omega) (by omega) _ _ ls hW (lv_sub hl [0, 2, 3, 4, 5, 6] rfl)
                  · have hadd := zf_gIadd hN hf hI2 (zf_acrsite hS (by omega) c64) c75
                    have hlt9 := hadd.1
                    refine lv_aload_n hX_ hB_ dX5_goFrom_78 rfl (lv_at hl 5 rfl) ?_
                    refine ze_get (ci := 5) (C := RX5) (T := TX5) (N := 10) (v := .ref (a 3)) S hiX5 hK hW 1 (ze_at0 1 rfl) rfl 4 (by decide) rfl w0 dX5_goFrom_79 ?_
                    refine lv_iload hX_ hB_ dX5_goFrom_82 (lv_at hl 0 rfl) ?_
                    refine lv_iload_n hX_ hB_ dX5_goFrom_84 rfl (lv_at hl 6 rfl) ?_
                    refine ze_iast hX_ hB_ hK hW 3 (f := ((zf_gi A (nI f) (tv v) io tv kn i42).1)) (ze_at0 3 rfl) (zf_in hN (zf_acrsite hS (by omega) c64)) dX5_goFrom_85 (ze_qC3 (ze_ix (zf_acr A (tv v) i42)) (nI f) _ _ _ _ _ _) (fun H locs hW => ?_)
                    have hW : ze_W D (ze_wC c a n A B (ze_sE (ze_sA (ze_sA E 0 ((zf_gi A (nI f) (tv v) io tv kn i42).1)) 1 ((zf_gi A (nI f) (tv v) io tv kn i42).2.1)) 0 (ze_ix (zf_acr A (tv v) i42)) (nI f))) F s.heap _ _ := hW
                    refine lv_aload_n hX_ hB_ dX5_goFrom_86 rfl (lv_at hl 5 rfl) ?_
                    refine ze_get (ci := 5) (C := RX5) (T := TX5) (N := 10) (v := .ref (a 7)) S hiX5 hK hW 1 (ze_at0 1 rfl) rfl 8 (by decide) rfl w1 dX5_goFrom_87 ?_
                    refine lv_iload_n hX_ hB_ dX5_goFrom_90 rfl (lv_at hl 4 rfl) ?_
                    refine lv_iload hX_ hB_ dX5_goFrom_91 (lv_at hl 0 rfl) ?_
                    refine ze_iastN hX_ hB_ hK hW 7 (f := ((zf_gi A (nI f) (tv v) io tv kn i42).2.1)) (ze_at0 7 rfl) (i := (zf_gi A (nI f) (tv v) io tv kn i42).2.2) (by omega) (by decide) dX5_goFrom_93 (ze_qC7 ((zf_gi A (nI f) (tv v) io tv kn i42).2.2) (zf_acr A (tv v) i42) _ _ _ _ _ _) (fun H locs hW => ?_)
                    have hW : ze_W D (ze_wC c a n A B (ze_sE (ze_sE (ze_sA (ze_sA E 0 ((zf_gi A (nI f) (tv v) io tv kn i42).1)) 1 ((zf_gi A (nI f) (tv v) io tv kn i42).2.1)) 0 (ze_ix (zf_acr A (tv v) i42)) (nI f)) 1 ((zf_gi A (nI f) (tv v) io tv kn i42).2.2) (zf_acr A (tv v) i42))) F s.heap _ _ := hW
                    refine lv_iinc (v := nI ((zf_gi A (nI f) (tv v) io tv kn i42).2.2 + 1)) (lv' := [(2, .int (nI ((zf_gi A (nI f) (tv v) io tv kn i42).2.2 + 1))), (6, .int (zf_acr A (tv v) i42)), (5, .int (nI i42)), (4, .int (tv v)), (3, .int (nI v)), (0, .ref (a 1)), (1, .int (nI f))]) hX_ hB_ dX5_goFrom_94 hl (k := 4) rfl (ze_inc _) (by decide) rfl (fun ls hl => ?_)
                    refine lv_iinc (v := nI (i42 + 1)) (lv' := [(5, .int (nI (i42 + 1))), (2, .int (nI ((zf_gi A (nI f) (tv v) io tv kn i42).2.2 + 1))), (6, .int (zf_acr A (tv v) i42)), (4, .int (tv v)), (3, .int (nI v)), (0, .ref (a 1)), (1, .int (nI f))]) hX_ hB_ dX5_goFrom_97 hl (k := 2) rfl (ze_inc _) (by decide) rfl (fun ls hl => ?_)
                    refine lv_goto (tgt := 42) hX_ hB_ dX5_goFrom_100 (by decide) ?_
                    have eL2 : nI ((zf_gi A (nI f) (tv v) io tv kn i42).2.2 + 1) = nI ((zf_gi A (nI f) (tv v) io tv kn (i42 + 1)).2.2) := (by rw [zf_gi, if_pos ⟨c64, c75⟩])
                    have hl : lv_has ls 7 [(5, .int (nI (i42 + 1))), (2, .int (nI ((zf_gi A (nI f) (tv v) io tv kn (i42 + 1)).2.2))), (6, .int (zf_acr A (tv v) i42)), (4, .int (tv v)), (3, .int (nI v)), (0, .ref (a 1)), (1, .int (nI f))] := by
                      first | (rw [← eL2]; exact hl) | (simp only [← eL2]; exact hl)
                    have eW : (ze_wC c a n A B (ze_sE (ze_sE (ze_sA (ze_sA E 0 ((zf_gi A (nI f) (tv v) io tv kn i42).1)) 1 ((zf_gi A (nI f) (tv v) io tv kn i42).2.1)) 0 (ze_ix (zf_acr A (tv v) i42)) (nI f)) 1 ((zf_gi A (nI f) (tv v) io tv kn i42).2.2) (zf_acr A (tv v) i42))) = (ze_wC c a n A B (ze_sA (ze_sA E 0 ((zf_gi A (nI f) (tv v) io tv kn (i42 + 1)).1)) 1 ((zf_gi A (nI f) (tv v) io tv kn (i42 + 1)).2.1))) := (by rw [ze_e2 (by decide), ze_e1, ze_e1, zf_gi, if_pos ⟨c64, c75⟩])
                    rw [eW] at hW
                    exact ih42 (i42 + 1) (by omega) (by omega) _ _ ls hW (lv_sub hl [0, 3, 4, 1, 5, 6] rfl)
          have hl : lv_has ls 7 [(5, .int (nI 0)), (4, .int (tv v)), (3, .int (nI v)), (2, .int (nI ((zf_gi A (nI f) (tv v) io tv kn 0).2.2))), (0, .ref (a 1)), (1, .int (nI f))] := hl
          have hW : ze_W D (ze_wC c a n A B (ze_sA (ze_sA E 0 ((zf_gi A (nI f) (tv v) io tv kn 0).1)) 1 ((zf_gi A (nI f) (tv v) io tv kn 0).2.1))) F s.heap _ _ := hW
          exact L42 _ 0 (by omega) (Nat.lt_succ_self _) _ _ ls hW (lv_sub hl [0, 1, 2, 3, 4, 5] rfl)
  have hl : lv_has ls 7 [(3, .int (nI 0)), (2, .int (nI 1)), (0, .ref (a 1)), (1, .int (nI f))] := hl
  rw [ze_e3b E (k := 0) (l := 1) f 0 (nI f) (nI f) (by decide)] at hW
  exact L18 _ 0 1 _ _ (by omega) (zf_gI1 hf _ _) rfl (Nat.lt_succ_self _) _ _ ls hW (lv_sub hl [0, 1, 2, 3] rfl)
set_option maxHeartbeats 4000000 in
set_option maxRecDepth 100000 in
theorem zc_5_findIslands (l : Launch) (D : va_G) (c : Nat → ClassId) (a n : Nat → Nat) (A : Nat → Nat → Int32) (B : Nat → Int64) (E : Nat → Nat → Int32) (hN : zf_N n) (hS : zf_S n A) : ze_V l yX5_findIslands wsX5_findIslands 2 48 0 0 D c (ze_wC c a n A B E) [.ref (a 1)] (ze_wC c a n A B (ze_sA (ze_sA E 0 ((zf_fi n A (E 0) (E 1) (n 0)).1)) 1 ((zf_fi n A (E 0) (E 1) (n 0)).2))) := by
  intro sz
  refine ze_start (cc := cX5_findIslands) (maxL := 2) (ret := none) (own := RX5) (by decide) rfl rfl (Nat.le_of_ble_eq_true rfl) ?_
  obtain ⟨hn0, hn1, hn2, hn3, hn4⟩ := id hN
  intro p e s m_ below meth cd F ls hF hsz E0
  obtain ⟨S, hr, hlocks, hK, hW, hA, hl⟩ := E0
  have hX_ := S.1
  have hB_ := S.2.1
  have hts := S.2.2.2.2
  have hl : lv_has ls 2 [(0, .ref (a 1))] := hl
  have hiX5 : ∀ w ∈ u_ws RX5 TX5 10, w ∈ wsX5_findIslands := fun _ h => (List.mem_cons_of_mem _ (List.mem_append_right _ h))
  have w0 := hts (.fieldLink RX5 34 "Islandgrid$Network" "siteCount" "I") (List.mem_cons_of_mem _ (List.mem_append_left _ (List.mem_of_getElem? (i := 0) rfl)))
  have w1 := hts (.fieldLink RX5 15 "Islandgrid$Network" "islandOf" "[I") (List.mem_cons_of_mem _ (List.mem_append_left _ (List.mem_of_getElem? (i := 1) rfl)))
  refine lv_iconst (v := 0) hX_ hB_ dX5_findIslands_0 (by decide) ?_
  refine lv_istore_n (lv' := [(1, .int 0), (0, .ref (a 1))]) hX_ hB_ dX5_findIslands_1 rfl hl (by decide) rfl (fun ls hl => ?_)
  have L2 : ∀ (k2 : Nat) (i2 : Nat), (i2 ≤ n 0) → (n 0 - i2) < k2 → ∀ (H : Heap) (locs : List Loc) (ls : Array Slot), ze_W D (ze_wC c a n A B (ze_sA E 0 (zf_fm (E 0) i2))) F s.heap H locs → lv_has ls 2 [(1, .int (nI i2)), (0, .ref (a 1))] → W p l e { frames := 2, cells := 0, slots := 0, locals := 48 } s m_ ([.ref (a 1)] : List Value).toArray below meth cd H locs 0 0 (MQ below (ze_Qv D c (ze_wC c a n A B E) sz (ze_wC c a n A B (ze_sA (ze_sA E 0 ((zf_fi n A (E 0) (E 1) (n 0)).1)) 1 ((zf_fi n A (E 0) (E 1) (n 0)).2)))) ([.ref (a 1)] : List Value).toArray s 0 0 F) (F0 m_ 2 ls []) := by
    intro k2
    induction k2 with
    | zero =>
      intro i2 h2 hk2
      exact absurd hk2 (Nat.not_lt_zero _)
    | succ k2 ih2 =>
      intro i2 h2 hk2 H locs ls hW hl
      refine lv_iload_n hX_ hB_ dX5_findIslands_2 rfl (lv_at hl 0 rfl) ?_
      refine lv_aload_n hX_ hB_ dX5_findIslands_3 rfl (lv_at hl 1 rfl) ?_
      refine ze_get (ci := 5) (C := RX5) (T := TX5) (N := 10) (v := .int (nI (n 0))) S hiX5 hK hW 1 (ze_at0 1 rfl) rfl 0 (by decide) rfl w0 dX5_findIslands_4 ?_
      refine lv_icmp_ge (tgt := 23) hX_ hB_ dX5_findIslands_7 (by decide) (fun c7 => ?_) (fun c7 => ?_)
      · have c7 : ¬ i2 < (n 0) := Nat.not_lt.mpr ((nI_leI (a := (n 0)) (b := i2) (by omega) (by omega)).mp c7)
        have e2 : i2 = n 0 := by omega
        subst e2
        refine lv_iconst (v := 0) hX_ hB_ dX5_findIslands_23 (by decide) ?_
        refine lv_istore_n (lv' := [(1, .int 0), (0, .ref (a 1))]) hX_ hB_ dX5_findIslands_24 rfl hl (by decide) rfl (fun ls hl => ?_)
        have L25 : ∀ (k25 : Nat) (i25 : Nat), (i25 ≤ n 0) → (n 0 - i25) < k25 → ∀ (H : Heap) (locs : List Loc) (ls : Array Slot), ze_W D (ze_wC c a n A B (ze_sA (ze_sA E 0 ((zf_fi n A (E 0) (E 1) i25).1)) 1 ((zf_fi n A (E 0) (E 1) i25).2))) F s.heap H locs → lv_has ls 2 [(1, .int (nI i25)), (0, .ref (a 1))] → W p l e { frames := 2, cells := 0, slots := 0, locals := 48 } s m_ ([.ref (a 1)] : List Value).toArray below meth cd H locs 0 0 (MQ below (ze_Qv D c (ze_wC c a n A B E) sz (ze_wC c a n A B (ze_sA (ze_sA E 0 ((zf_fi n A (E 0) (E 1) (n 0)).1)) 1 ((zf_fi n A (E 0) (E 1) (n 0)).2)))) ([.ref (a 1)] : List Value).toArray s 0 0 F) (F0 m_ 25 ls []) := by
          intro k25
          induction k25 with
          | zero =>
            intro i25 h25 hk25
            exact absurd hk25 (Nat.not_lt_zero _)
          | succ k25 ih25 =>
            intro i25 h25 hk25 H locs ls hW hl
            refine lv_iload_n hX_ hB_ dX5_findIslands_25 rfl (lv_at hl 0 rfl) ?_
            refine lv_aload_n hX_ hB_ dX5_findIslands_26 rfl (lv_at hl 1 rfl) ?_
            refine ze_get (ci := 5) (C := RX5) (T := TX5) (N := 10) (v := .int (nI (n 0))) S hiX5 hK hW 1 (ze_at0 1 rfl) rfl 0 (by decide) rfl w0 dX5_findIslands_27 ?_
            refine lv_icmp_ge (tgt := 54) hX_ hB_ dX5_findIslands_30 (by decide) (fun c30 => ?_) (fun c30 => ?_)
            · have c30 : ¬ i25 < (n 0) := Nat.not_lt.mpr ((nI_leI (a := (n 0)) (b := i25) (by omega) (by omega)).mp c30)
              have e25 : i25 = n 0 := by omega
              subst e25
              exact ze_vret S hr hlocks hF hK hW dX5_findIslands_54 (Nat.le_of_ble_eq_true rfl) (Nat.le_of_ble_eq_true rfl) rfl
            · have c30 : i25 < (n 0) := Nat.lt_of_not_le (fun h9 => c30 ((nI_leI (a := (n 0)) (b := i25) (by omega) (by omega)).mpr h9))
              refine lv_aload_n hX_ hB_ dX5_findIslands_33 rfl (lv_at hl 1 rfl) ?_
              refine ze_get (ci := 5) (C := RX5) (T := TX5) (N := 10) (v := .ref (a 3)) S hiX5 hK hW 1 (ze_at0 1 rfl) rfl 4 (by decide) rfl w1 dX5_findIslands_34 ?_
              refine lv_iload_n hX_ hB_ dX5_findIslands_37 rfl (lv_at hl 0 rfl) ?_
              refine ze_ialdN hX_ hB_ hK hW 3 (f := ((zf_fi n A (E 0) (E 1) i25).1)) (ze_at0 3 rfl) (i := i25) (by omega) (by decide) dX5_findIslands_38 ?_
              refine lv_iconst (v := (-1)) hX_ hB_ dX5_findIslands_39 (by decide) ?_
              refine lv_icmp_ne (tgt := 48) hX_ hB_ dX5_findIslands_40 (by decide) (fun c40 => ?_) (fun c40 => ?_)
              · refine lv_iinc (v := nI (i25 + 1)) (lv' := [(1, .int (nI (i25 + 1))), (0, .ref (a 1))]) hX_ hB_ dX5_findIslands_48 hl (k := 0) rfl (ze_inc _) (by decide) rfl (fun ls hl => ?_)
                refine lv_goto (tgt := 25) hX_ hB_ dX5_findIslands_51 (by decide) ?_
                have eW : (ze_wC c a n A B (ze_sA (ze_sA E 0 ((zf_fi n A (E 0) (E 1) i25).1)) 1 ((zf_fi n A (E 0) (E 1) i25).2))) = (ze_wC c a n A B (ze_sA (ze_sA E 0 ((zf_fi n A (E 0) (E 1) (i25 + 1)).1)) 1 ((zf_fi n A (E 0) (E 1) (i25 + 1)).2))) := (by rw [zf_fi, if_neg c40])
                rw [eW] at hW
                exact ih25 (i25 + 1) (by omega) (by omega) _ _ ls hW (lv_sub hl [0, 1] rfl)
              · refine lv_aload_n hX_ hB_ dX5_findIslands_43 rfl (lv_at hl 1 rfl) ?_
                refine lv_iload_n hX_ hB_ dX5_findIslands_44 rfl (lv_at hl 0 rfl) ?_
                refine ze_Vv (As := [.int (nI i25)]) (rest := []) (ci := 5) (q0 := 1) (k := (RX5, TX5, 10)) S (zc_5_goFrom l D c a n A B (ze_sA (ze_sA E 0 ((zf_fi n A (E 0) (E 1) i25).1)) 1 ((zf_fi n A (E 0) (E 1) i25).2)) i25 hN hS (by omega)) (cwV 1 hts gX5_findIslands_X5_goFrom rfl rfl rfl (by decide +kernel) ⟨Nat.le_of_ble_eq_true rfl, Nat.le_of_ble_eq_true rfl⟩) hK hW hA rfl (ze_at0 1 rfl) rfl hl.1 rfl (lv_room (Nat.le_of_ble_eq_true rfl)) dX5_findIslands_45 ⟨Nat.le_of_ble_eq_true rfl, Nat.le_of_ble_eq_true rfl⟩ (fun H locs hW => ?_)
                have hW : ze_W D (ze_wC c a n A B (ze_sA (ze_sA (ze_sA (ze_sA E 0 ((zf_fi n A (E 0) (E 1) i25).1)) 1 ((zf_fi n A (E 0) (E 1) i25).2)) 0 ((zf_go n A (((zf_fi n A (E 0) (E 1) i25).1)) (((zf_fi n A (E 0) (E 1) i25).2)) i25).1)) 1 ((zf_go n A (((zf_fi n A (E 0) (E 1) i25).1)) (((zf_fi n A (E 0) (E 1) i25).2)) i25).2.1))) F s.heap _ _ := hW
                refine lv_iinc (v := nI (i25 + 1)) (lv' := [(1, .int (nI (i25 + 1))), (0, .ref (a 1))]) hX_ hB_ dX5_findIslands_48 hl (k := 0) rfl (ze_inc _) (by decide) rfl (fun ls hl => ?_)
                refine lv_goto (tgt := 25) hX_ hB_ dX5_findIslands_51 (by decide) ?_
                have eW : (ze_wC c a n A B (ze_sA (ze_sA (ze_sA (ze_sA E 0 ((zf_fi n A (E 0) (E 1) i25).1)) 1 ((zf_fi n A (E 0) (E 1) i25).2)) 0 ((zf_go n A (((zf_fi n A (E 0) (E 1) i25).1)) (((zf_fi n A (E 0) (E 1) i25).2)) i25).1)) 1 ((zf_go n A (((zf_fi n A (E 0) (E 1) i25).1)) (((zf_fi n A (E 0) (E 1) i25).2)) i25).2.1))) = (ze_wC c a n A B (ze_sA (ze_sA E 0 ((zf_fi n A (E 0) (E 1) (i25 + 1)).1)) 1 ((zf_fi n A (E 0) (E 1) (i25 + 1)).2))) := (by rw [zf_fi, if_pos c40]; rw [ze_a2 (j := 1) (k := 0) (by decide), ze_a1, ze_a1])
                rw [eW] at hW
                exact ih25 (i25 + 1) (by omega) (by omega) _ _ ls hW (lv_sub hl [0, 1] rfl)
        have hl : lv_has ls 2 [(1, .int (nI 0)), (0, .ref (a 1))] := hl
        have hW : ze_W D (ze_wC c a n A B (ze_sA (ze_sA E 0 ((zf_fi n A (E 0) (E 1) 0).1)) 1 ((zf_fi n A (E 0) (E 1) 0).2))) F s.heap _ _ := (by rw [show ze_sA (ze_sA E 0 (zf_fi n A (E 0) (E 1) 0).1) 1 (zf_fi n A (E 0) (E 1) 0).2 = ze_sA E 0 (zf_fm (E 0) (n 0)) from ze_sAid1 (by decide)]; exact hW)
        exact L25 _ 0 (by omega) (Nat.lt_succ_self _) _ _ ls hW (lv_sub hl [0, 1] rfl)
      · have c7 : i2 < (n 0) := Nat.lt_of_not_le (fun h9 => c7 ((nI_leI (a := (n 0)) (b := i2) (by omega) (by omega)).mpr h9))
        refine lv_aload_n hX_ hB_ dX5_findIslands_10 rfl (lv_at hl 1 rfl) ?_
        refine ze_get (ci := 5) (C := RX5) (T := TX5) (N := 10) (v := .ref (a 3)) S hiX5 hK hW 1 (ze_at0 1 rfl) rfl 4 (by decide) rfl w1 dX5_findIslands_11 ?_
        refine lv_iload_n hX_ hB_ dX5_findIslands_14 rfl (lv_at hl 0 rfl) ?_
        refine lv_iconst (v := (-1)) hX_ hB_ dX5_findIslands_15 (by decide) ?_
        refine ze_iastN hX_ hB_ hK hW 3 (f := (zf_fm (E 0) i2)) (ze_at0 3 rfl) (i := i2) (by omega) (by decide) dX5_findIslands_16 (ze_qC3 i2 (-1) _ _ _ _ _ _) (fun H locs hW => ?_)
        have hW : ze_W D (ze_wC c a n A B (ze_sE (ze_sA E 0 (zf_fm (E 0) i2)) 0 i2 (-1))) F s.heap _ _ := hW
        refine lv_iinc (v := nI (i2 + 1)) (lv' := [(1, .int (nI (i2 + 1))), (0, .ref (a 1))]) hX_ hB_ dX5_findIslands_17 hl (k := 0) rfl (ze_inc _) (by decide) rfl (fun ls hl => ?_)
        refine lv_goto (tgt := 2) hX_ hB_ dX5_findIslands_20 (by decide) ?_
        have eW : (ze_wC c a n A B (ze_sE (ze_sA E 0 (zf_fm (E 0) i2)) 0 i2 (-1))) = (ze_wC c a n A B (ze_sA E 0 (zf_fm (E 0) (i2 + 1)))) := (by rw [ze_e1]; rfl)
        rw [eW] at hW
        exact ih2 (i2 + 1) (by omega) (by omega) _ _ ls hW (lv_sub hl [0, 1] rfl)
  have hl : lv_has ls 2 [(1, .int (nI 0)), (0, .ref (a 1))] := hl
  have hW : ze_W D (ze_wC c a n A B (ze_sA E 0 (zf_fm (E 0) 0))) F s.heap _ _ := (by rw [show ze_sA E 0 (zf_fm (E 0) 0) = E from ze_sAid E 0]; exact hW)
  exact L2 _ 0 (by omega) (Nat.lt_succ_self _) _ _ ls hW (lv_sub hl [0, 1] rfl)
set_option maxHeartbeats 4000000 in
set_option maxRecDepth 100000 in
theorem zc_5_putSite (l : Launch) (D : va_G) (c : Nat → ClassId) (a n : Nat → Nat) (A : Nat → Nat → Int32) (B : Nat → Int64) (E : Nat → Nat → Int32) (hN : zf_N n) (hS : zf_S n A) (h6 : n 0 < 6) : ze_I l yX5_putSite wsX5_putSite 3 69 0 0 D c (ze_wC c a n A B E) [.ref (a 1)] (nI (n 0)) (ze_wC c a (ze_sn n 0 (n 0 + 1)) A B (ze_sA (ze_sA E 0 ((zf_fi (ze_sn n 0 (n 0 + 1)) A (E 0) (E 1) (n 0 + 1)).1)) 1 ((zf_fi (ze_sn n 0 (n 0 + 1)) A (E 0) (E 1) (n 0 + 1)).2))) := by
  intro sz
  refine ze_start (cc := cX5_putSite) (maxL := 2) (ret := (some .int)) (own := RX5) (by decide) rfl rfl (Nat.le_of_ble_eq_true rfl) ?_
  obtain ⟨hn0, hn1, hn2, hn3, hn4⟩ := id hN
  intro p e s m_ below meth cd F ls hF hsz E0
  obtain ⟨S, hr, hlocks, hK, hW, hA, hl⟩ := E0
  have hX_ := S.1
  have hB_ := S.2.1
  have hts := S.2.2.2.2
  have hl : lv_has ls 2 [(0, .ref (a 1))] := hl
  have hiX5 : ∀ w ∈ u_ws RX5 TX5 10, w ∈ wsX5_putSite := fun _ h => (List.mem_cons_of_mem _ (List.mem_append_right _ h))
  have w0 := hts (.fieldLink RX5 34 "Islandgrid$Network" "siteCount" "I") (List.mem_cons_of_mem _ (List.mem_append_left _ (List.mem_of_getElem? (i := 0) rfl)))
  refine lv_aload_n hX_ hB_ dX5_putSite_0 rfl (lv_at hl 0 rfl) ?_
  refine ze_get (ci := 5) (C := RX5) (T := TX5) (N := 10) (v := .int (nI (n 0))) S hiX5 hK hW 1 (ze_at0 1 rfl) rfl 0 (by decide) rfl w0 dX5_putSite_1 ?_
  refine lv_istore_n (lv' := [(1, .int (nI (n 0))), (0, .ref (a 1))]) hX_ hB_ dX5_putSite_4 rfl hl (by decide) rfl (fun ls hl => ?_)
  refine lv_aload_n hX_ hB_ dX5_putSite_5 rfl (lv_at hl 1 rfl) ?_
  refine lv_dup hX_ hB_ dX5_putSite_6 rfl ?_
  refine ze_get (ci := 5) (C := RX5) (T := TX5) (N := 10) (v := .int (nI (n 0))) S hiX5 hK hW 1 (ze_at0 1 rfl) rfl 0 (by decide) rfl w0 dX5_putSite_7 ?_
  refine lv_iconst (v := 1) hX_ hB_ dX5_putSite_10 (by decide) ?_
  refine lv_iadd hX_ hB_ dX5_putSite_11 ?_
  refine ze_top (nI_add (n 0) 1) ?_
  refine ze_put (ci := 5) (C := RX5) (T := TX5) (N := 10) (v := .int (nI (n 0 + 1))) S hiX5 tyX5 tyX5_ok nmX5 hK hW 1 (ze_at0 1 rfl) rfl 0 (by decide) (Nat.le_of_ble_eq_true rfl) rfl rfl rfl w0 dX5_putSite_12 (ze_pC1_0 (n 0 + 1) _ _ _ _ _ _) (fun H locs hW => ?_)
  have hW : ze_W D (ze_wC c a (ze_sn n 0 (n 0 + 1)) A B E) F s.heap _ _ := hW
  refine lv_aload_n hX_ hB_ dX5_putSite_15 rfl (lv_at hl 1 rfl) ?_
  refine ze_Vv (As := []) (rest := []) (ci := 5) (q0 := 1) (k := (RX5, TX5, 10)) S (zc_5_findIslands l D c a (ze_sn n 0 (n 0 + 1)) A B E  (zf_N1 hN h6) (zf_S1 hS)) (cwV 0 hts gX5_putSite_X5_findIslands rfl rfl rfl (by decide +kernel) ⟨Nat.le_of_ble_eq_true rfl, Nat.le_of_ble_eq_true rfl⟩) hK hW hA rfl (ze_at0 1 rfl) rfl hl.1 rfl (lv_room (Nat.le_of_ble_eq_true rfl)) dX5_putSite_16 ⟨Nat.le_of_ble_eq_true rfl, Nat.le_of_ble_eq_true rfl⟩ (fun H locs hW => ?_)
  have hW : ze_W D (ze_wC c a (ze_sn n 0 (n 0 + 1)) A B (ze_sA (ze_sA E 0 ((zf_fi (ze_sn n 0 (n 0 + 1)) A (E 0) (E 1) (n 0 + 1)).1)) 1 ((zf_fi (ze_sn n 0 (n 0 + 1)) A (E 0) (E 1) (n 0 + 1)).2))) F s.heap _ _ := hW
  refine lv_iload_n hX_ hB_ dX5_putSite_19 rfl (lv_at hl 0 rfl) ?_
  exact ze_iret S hr hlocks hF hK hW rfl dX5_putSite_20 (Nat.le_of_ble_eq_true rfl) (Nat.le_of_ble_eq_true rfl) rfl rfl
set_option maxHeartbeats 4000000 in
set_option maxRecDepth 100000 in
theorem zc_5_putLine (l : Launch) (D : va_G) (c : Nat → ClassId) (a n : Nat → Nat) (A : Nat → Nat → Int32) (B : Nat → Int64) (E : Nat → Nat → Int32) (x y : Int32) (hN : zf_N n) (h8 : n 1 < 8) : ze_I l yX5_putLine wsX5_putLine 0 0 0 0 D c (ze_wC c a n A B E) [.ref (a 1), .int x, .int y] (nI (n 1)) (ze_wC c a (ze_sn n 1 (n 1 + 1)) (ze_sE (ze_sE A 2 (n 1) x) 3 (n 1) y) B E) := by
  intro sz
  refine ze_start (cc := cX5_putLine) (maxL := 4) (ret := (some .int)) (own := RX5) (by decide) rfl rfl (Nat.le_of_ble_eq_true rfl) ?_
  obtain ⟨hn0, hn1, hn2, hn3, hn4⟩ := id hN
  intro p e s m_ below meth cd F ls hF hsz E0
  obtain ⟨S, hr, hlocks, hK, hW, hA, hl⟩ := E0
  have hX_ := S.1
  have hB_ := S.2.1
  have hts := S.2.2.2.2
  have hl : lv_has ls 4 [(0, .ref (a 1)), (1, .int x), (2, .int y)] := hl
  have hiX5 : ∀ w ∈ u_ws RX5 TX5 10, w ∈ wsX5_putLine := fun _ h => (List.mem_cons_of_mem _ (List.mem_append_right _ h))
  have w0 := hts (.fieldLink RX5 41 "Islandgrid$Network" "lineCount" "I") (List.mem_cons_of_mem _ (List.mem_append_left _ (List.mem_of_getElem? (i := 0) rfl)))
  have w1 := hts (.fieldLink RX5 18 "Islandgrid$Network" "oneEnd" "[I") (List.mem_cons_of_mem _ (List.mem_append_left _ (List.mem_of_getElem? (i := 1) rfl)))
  have w2 := hts (.fieldLink RX5 21 "Islandgrid$Network" "otherEnd" "[I") (List.mem_cons_of_mem _ (List.mem_append_left _ (List.mem_of_getElem? (i := 2) rfl)))
  refine lv_aload_n hX_ hB_ dX5_putLine_0 rfl (lv_at hl 0 rfl) ?_
  refine ze_get (ci := 5) (C := RX5) (T := TX5) (N := 10) (v := .int (nI (n 1))) S hiX5 hK hW 1 (ze_at0 1 rfl) rfl 1 (by decide) rfl w0 dX5_putLine_1 ?_
  refine lv_istore_n (lv' := [(3, .int (nI (n 1))), (0, .ref (a 1)), (1, .int x), (2, .int y)]) hX_ hB_ dX5_putLine_4 rfl hl (by decide) rfl (fun ls hl => ?_)
  refine lv_aload_n hX_ hB_ dX5_putLine_5 rfl (lv_at hl 1 rfl) ?_
  refine ze_get (ci := 5) (C := RX5) (T := TX5) (N := 10) (v := .ref (a 4)) S hiX5 hK hW 1 (ze_at0 1 rfl) rfl 5 (by decide) rfl w1 dX5_putLine_6 ?_
  refine lv_iload_n hX_ hB_ dX5_putLine_9 rfl (lv_at hl 0 rfl) ?_
  refine lv_iload_n hX_ hB_ dX5_putLine_10 rfl (lv_at hl 2 rfl) ?_
  refine ze_iastN hX_ hB_ hK hW 4 (f := A 2) (ze_at0 4 rfl) (i := n 1) (by omega) (by decide) dX5_putLine_11 (ze_qC4 (n 1) x _ _ _ _ _ _) (fun H locs hW => ?_)
  have hW : ze_W D (ze_wC c a n (ze_sE A 2 (n 1) x) B E) F s.heap _ _ := hW
  refine lv_aload_n hX_ hB_ dX5_putLine_12 rfl (lv_at hl 1 rfl) ?_
  refine ze_get (ci := 5) (C := RX5) (T := TX5) (N := 10) (v := .ref (a 5)) S hiX5 hK hW 1 (ze_at0 1 rfl) rfl 6 (by decide) rfl w2 dX5_putLine_13 ?_
  refine lv_iload_n hX_ hB_ dX5_putLine_16 rfl (lv_at hl 0 rfl) ?_
  refine lv_iload_n hX_ hB_ dX5_putLine_17 rfl (lv_at hl 3 rfl) ?_
  refine ze_iastN hX_ hB_ hK hW 5 (f := A 3) (ze_at0 5 rfl) (i := n 1) (by omega) (by decide) dX5_putLine_18 (ze_qC5 (n 1) y _ _ _ _ _ _) (fun H locs hW => ?_)
  have hW : ze_W D (ze_wC c a n (ze_sE (ze_sE A 2 (n 1) x) 3 (n 1) y) B E) F s.heap _ _ := hW
  refine lv_aload_n hX_ hB_ dX5_putLine_19 rfl (lv_at hl 1 rfl) ?_
  refine lv_dup hX_ hB_ dX5_putLine_20 rfl ?_
  refine ze_get (ci := 5) (C := RX5) (T := TX5) (N := 10) (v := .int (nI (n 1))) S hiX5 hK hW 1 (ze_at0 1 rfl) rfl 1 (by decide) rfl w0 dX5_putLine_21 ?_
  refine lv_iconst (v := 1) hX_ hB_ dX5_putLine_24 (by decide) ?_
  refine lv_iadd hX_ hB_ dX5_putLine_25 ?_
  refine ze_top (nI_add (n 1) 1) ?_
  refine ze_put (ci := 5) (C := RX5) (T := TX5) (N := 10) (v := .int (nI (n 1 + 1))) S hiX5 tyX5 tyX5_ok nmX5 hK hW 1 (ze_at0 1 rfl) rfl 1 (by decide) (Nat.le_of_ble_eq_true rfl) rfl rfl rfl w0 dX5_putLine_26 (ze_pC1_1 (n 1 + 1) _ _ _ _ _ _) (fun H locs hW => ?_)
  have hW : ze_W D (ze_wC c a (ze_sn n 1 (n 1 + 1)) (ze_sE (ze_sE A 2 (n 1) x) 3 (n 1) y) B E) F s.heap _ _ := hW
  refine lv_iload_n hX_ hB_ dX5_putLine_29 rfl (lv_at hl 0 rfl) ?_
  exact ze_iret S hr hlocks hF hK hW rfl dX5_putLine_30 (Nat.le_of_ble_eq_true rfl) (Nat.le_of_ble_eq_true rfl) rfl rfl
set_option maxHeartbeats 4000000 in
set_option maxRecDepth 100000 in
theorem zc_5_setClosed (l : Launch) (D : va_G) (c : Nat → ClassId) (a n : Nat → Nat) (A : Nat → Nat → Int32) (B : Nat → Int64) (E : Nat → Nat → Int32) (i : Nat) (x : Int32) (hN : zf_N n) (hS : zf_S n A) (hi : i < n 1) (hx : x = 0 ∨ x = 1) : ze_V l yX5_setClosed wsX5_setClosed 3 69 0 0 D c (ze_wC c a n A B E) [.ref (a 1), .int (nI i), .int x] (ze_wC c a n (ze_sE A 4 i x) B (ze_sA (ze_sA E 0 ((zf_fi n (ze_sE A 4 i x) (E 0) (E 1) (n 0)).1)) 1 ((zf_fi n (ze_sE A 4 i x) (E 0) (E 1) (n 0)).2))) := by
  intro sz
  refine ze_start (cc := cX5_setClosed) (maxL := 3) (ret := none) (own := RX5) (by decide) rfl rfl (Nat.le_of_ble_eq_true rfl) ?_
  obtain ⟨hn0, hn1, hn2, hn3, hn4⟩ := id hN
  intro p e s m_ below meth cd F ls hF hsz E0
  obtain ⟨S, hr, hlocks, hK, hW, hA, hl⟩ := E0
  have hX_ := S.1
  have hB_ := S.2.1
  have hts := S.2.2.2.2
  have hl : lv_has ls 3 [(0, .ref (a 1)), (1, .int (nI i)), (2, .int x)] := hl
  have hiX5 : ∀ w ∈ u_ws RX5 TX5 10, w ∈ wsX5_setClosed := fun _ h => (List.mem_cons_of_mem _ (List.mem_append_right _ h))
  have w0 := hts (.fieldLink RX5 24 "Islandgrid$Network" "closed" "[Z") (List.mem_cons_of_mem _ (List.mem_append_left _ (List.mem_of_getElem? (i := 0) rfl)))
  refine lv_aload_n hX_ hB_ dX5_setClosed_0 rfl (lv_at hl 0 rfl) ?_
  refine ze_get (ci := 5) (C := RX5) (T := TX5) (N := 10) (v := .ref (a 6)) S hiX5 hK hW 1 (ze_at0 1 rfl) rfl 7 (by decide) rfl w0 dX5_setClosed_1 ?_
  refine lv_iload_n hX_ hB_ dX5_setClosed_4 rfl (lv_at hl 1 rfl) ?_
  refine lv_iload_n hX_ hB_ dX5_setClosed_5 rfl (lv_at hl 2 rfl) ?_
  refine ze_zastN hX_ hB_ hK hW 6 (f := A 4) (ze_at0 6 rfl) (i := i) (by omega) (by decide) (zf_narz hx) dX5_setClosed_6 (ze_qC6 i x _ _ _ _ _ _) (fun H locs hW => ?_)
  have hW : ze_W D (ze_wC c a n (ze_sE A 4 i x) B E) F s.heap _ _ := hW
  refine lv_aload_n hX_ hB_ dX5_setClosed_7 rfl (lv_at hl 0 rfl) ?_
  refine ze_Vv (As := []) (rest := []) (ci := 5) (q0 := 1) (k := (RX5, TX5, 10)) S (zc_5_findIslands l D c a n (ze_sE A 4 i x) B E  hN hS) (cwV 0 hts gX5_setClosed_X5_findIslands rfl rfl rfl (by decide +kernel) ⟨Nat.le_of_ble_eq_true rfl, Nat.le_of_ble_eq_true rfl⟩) hK hW hA rfl (ze_at0 1 rfl) rfl hl.1 rfl (lv_room (Nat.le_of_ble_eq_true rfl)) dX5_setClosed_8 ⟨Nat.le_of_ble_eq_true rfl, Nat.le_of_ble_eq_true rfl⟩ (fun H locs hW => ?_)
  have hW : ze_W D (ze_wC c a n (ze_sE A 4 i x) B (ze_sA (ze_sA E 0 ((zf_fi n (ze_sE A 4 i x) (E 0) (E 1) (n 0)).1)) 1 ((zf_fi n (ze_sE A 4 i x) (E 0) (E 1) (n 0)).2))) F s.heap _ _ := hW
  exact ze_vret S hr hlocks hF hK hW dX5_setClosed_11 (Nat.le_of_ble_eq_true rfl) (Nat.le_of_ble_eq_true rfl) rfl
