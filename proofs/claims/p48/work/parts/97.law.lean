/-! ===== the law from its entry ===== -/
theorem zy_ac {ty : FieldType} {s : State} {args : Array Value} (h : (Cond.arrayClass ty).before args s = true) : ∃ cA : ClassId, ArrOfT s cA ty ∧ s.vm.findClass ("[" ++ ty.toString) = some cA := by
  obtain ⟨cA, kA, comp, h1, h2, h3⟩ := Cond.arrayClass_spec h
  exact ⟨cA, fun n z => ⟨fun k h => (by cases h), kA, h2, comp, h3⟩, h1⟩
theorem zy_ao {C : String} {s : State} {args : Array Value} (h : (Cond.arrayOver (.object C)).before args s = true) : ∃ cA : ClassId, ArrOfT s cA (.object C) ∧ va_RA s cA (.object C) := by
  obtain ⟨comp, cA, kA, h1, h2, h3, h4, h5⟩ := Cond.arrayOver_spec h
  exact ⟨cA, fun n z => ⟨fun k h => (by cases h), kA, h3, comp, h4⟩, kA, comp, h3, h4, h1, h5⟩
theorem zy_txi : ∀ q ∈ zx_tx, Cond.stringRef RX8 q.1 q.2 ∈ lw_tbl := by decide +kernel
theorem zy_txe : ∀ q ∈ zx_tx, Cond.exactly (.string RX8 q.1) "java/lang/String" ∈ flatC (Jvm.Cond.and given_1 narrow_1) := by decide +kernel
theorem zy_nci : ∀ q ∈ zq_nc, Cond.not (.castable q.1 q.2) ∈ flatC (Jvm.Cond.and given_1 narrow_1) := by decide +kernel
theorem zy_bdi : ∀ w ∈ zx_bad, w ∈ lw_tbl := by decide +kernel
theorem zy_bdt : ∀ w ∈ zx_bad, w.onTables = true := by decide +kernel
abbrev zy_F (s : State) : Nat → Prop := fun q => s.heap.size ≤ q
theorem xe_hi {N : Nat} (h : N ≤ 10) : ¬ zf_isIn (nI N) 0 (nI N - 1) := by
  have key : ∀ N : Fin 11, ¬ zf_isIn (nI N.val) 0 (nI N.val - 1) := by decide +kernel
  exact key ⟨N, by omega⟩
theorem xe_lo {N : Nat} (h : N ≤ 10) : ¬ zf_isIn (-1) 0 (nI N - 1) := by
  have key : ∀ N : Fin 11, ¬ zf_isIn (-1) 0 (nI N.val - 1) := by decide +kernel
  exact key ⟨N, by omega⟩
set_option maxHeartbeats 8000000 in
set_option maxRecDepth 100000 in
/-- from the entry, for every script of at most 260 ints, the law comes to its end with true -/
theorem whole_start {p : Program} {e : Env} {s : State} {m_ : MethodId} {below : List Frame} {meth : Method} {cd : Code} (l : Launch) (hflags : l.flags = flags0) {b L : Nat} {xs : Nat → Int32} (hL : L ≤ 260) (C0 : lw_At p s m_ meth cd b L xs) : W p l e room_1 s m_ #[Value.ref b] below meth cd s.heap [] 0 0 (lw_Z below #[Value.ref b] s) (entryFrame m_ ([Value.ref b] : List Value).toArray 4) := by
  obtain ⟨hX_, hB_, hr, hml, hown, htt, hX9, hb9, hlocks, hgv⟩ := id C0
  have hst : l.stackTraces = false := by
    unfold Launch.stackTraces
    rw [hflags]
    decide
  have hfl := flat_of_before _ hgv
  have hts : ∀ w ∈ wsL_law, w.before #[Value.ref b] s = true := fun w h => htt w (wsL_law_in w h)
  have S : CallFix p m_ cd cL_law 4 s #[Value.ref b] wsL_law RL := ⟨hX_, hB_, hml, hown, hts⟩
  have hno : ∀ a : Nat, a < s.heap.size → ¬ zy_F s a := fun a h => Nat.not_le.mpr h
  have hXB : zx_B (zy_F s) s s.heap := ⟨vx_Zqof (htt (.laysStatic Bundle.tN "UNASSIGNED_STACK" Bundle.steD) (by decide +kernel)) (htt (.initialized Bundle.tN) (by decide +kernel)) (hfl (.isRef (.static Bundle.tN "UNASSIGNED_STACK" Bundle.steD)) (by decide +kernel)) hno,
    vx_Zqof (htt (.laysStatic Bundle.tN "SUPPRESSED_SENTINEL" Bundle.listD) (by decide +kernel)) (htt (.initialized Bundle.tN) (by decide +kernel)) (hfl (.isRef (.static Bundle.tN "SUPPRESSED_SENTINEL" Bundle.listD)) (by decide +kernel)) hno,
    fun q hq => by
      obtain ⟨a, _, _, _, ha, _⟩ := Cond.exactly_spec (hfl _ (zy_txe q hq))
      exact ⟨a, vk_R.of (htt _ (zy_txi q hq)) ha⟩,
    fun w hw => va_Nw.of (zy_bdt w hw) (htt w (zy_bdi w hw))⟩
  have hNc : zq_N s := fun q hq => va_Nc.of (hfl _ (zy_nci q hq))
  have hZ : zk s := ⟨va_AO.of (htt (.arrayOver (.object RX1)) (by decide +kernel)), va_AO.of (htt (.arrayOver (.object RX7)) (by decide +kernel)), va_AO.of (htt (.arrayOver (.object RX3)) (by decide +kernel)), va_Nw.of rfl (htt (.methodLinkNest RX8 9 yX5_init RX8) (by decide +kernel)), va_Nw.of rfl (htt (.methodLinkNest RX8 41 yX2_init RX8) (by decide +kernel))⟩
  obtain ⟨k0, i0, n0⟩ := u_known (C := RX0) (T := TX0) (N := 5) (n := 5) htt inX0 (htt (.instantiable RX0 5) (by decide +kernel))
  obtain ⟨k1, i1, n1⟩ := u_known (C := RX1) (T := TX1) (N := 8) (n := 8) htt inX1 (htt (.instantiable RX1 8) (by decide +kernel))
  obtain ⟨k2, i2, n2⟩ := u_known (C := RX2) (T := TX2) (N := 6) (n := 6) htt inX2 (htt (.instantiable RX2 6) (by decide +kernel))
  obtain ⟨k3, i3, n3⟩ := u_known (C := RX3) (T := TX3) (N := 6) (n := 6) htt inX3 (htt (.instantiable RX3 6) (by decide +kernel))
  obtain ⟨k4, i4, n4⟩ := u_known (C := RX4) (T := TX4) (N := 3) (n := 3) htt inX4 (htt (.instantiable RX4 3) (by decide +kernel))
  obtain ⟨k5, i5, n5⟩ := u_known (C := RX5) (T := TX5) (N := 10) (n := 10) htt inX5 (htt (.instantiable RX5 10) (by decide +kernel))
  obtain ⟨k6, i6, n6⟩ := u_known (C := RX6) (T := TX6) (N := 3) (n := 3) htt inX6 (htt (.instantiable RX6 3) (by decide +kernel))
  obtain ⟨k7, i7, n7⟩ := u_known (C := RX7) (T := TX7) (N := 5) (n := 5) htt inX7 (htt (.instantiable RX7 5) (by decide +kernel))
  obtain ⟨k8, i8, n8⟩ := u_known (C := RX8) (T := TX8) (N := 8) (n := 8) htt inX8 (htt (.instantiable RX8 8) (by decide +kernel))
  obtain ⟨c0, a0, g0⟩ := zy_ac (ty := .int) (htt (.arrayClass .int) (by decide +kernel))
  obtain ⟨c1, a1, g1⟩ := zy_ac (ty := .boolean) (htt (.arrayClass .boolean) (by decide +kernel))
  obtain ⟨c2, a2, g2⟩ := zy_ac (ty := .int) (htt (.arrayClass .int) (by decide +kernel))
  obtain ⟨c3, a3, g3⟩ := zy_ao (C := RX1) hZ.1
  obtain ⟨c4, a4, g4⟩ := zy_ao (C := RX7) hZ.2.1
  obtain ⟨c5, a5, g5⟩ := zy_ao (C := RX3) hZ.2.2.1
  obtain ⟨D, c, hK⟩ : ∃ (D : va_G) (c : Nat → ClassId), va_K D vwCl (ze_ty c) s := by
    refine ⟨(fun k => match k with | 0 => k0 | 1 => k1 | 2 => k2 | 3 => k3 | 4 => k4 | 5 => k5 | 6 => k6 | 7 => k7 | _ => k8, fun k => match k with | 0 => i0 | 1 => i1 | 2 => i2 | 3 => i3 | 4 => i4 | 5 => i5 | 6 => i6 | 7 => i7 | _ => i8), fun k => match k with | 0 => c0 | 1 => c1 | 2 => c2 | 3 => c3 | 4 => c4 | _ => c5, ?_, ?_⟩
    · intro k q hq
      match k, hq with
      | 0, hq => cases hq; exact n0
      | 1, hq => cases hq; exact n1
      | 2, hq => cases hq; exact n2
      | 3, hq => cases hq; exact n3
      | 4, hq => cases hq; exact n4
      | 5, hq => cases hq; exact n5
      | 6, hq => cases hq; exact n6
      | 7, hq => cases hq; exact n7
      | 8, hq => cases hq; exact n8
      | k + 9, hq => exact absurd hq (by simp [vwCl])
    · intro k q hq
      match k, hq with
      | 0, hq => cases hq; exact ⟨a0, g0⟩
      | 1, hq => cases hq; exact ⟨a1, g1⟩
      | 2, hq => cases hq; exact ⟨a2, g2⟩
      | 3, hq => cases hq; exact ⟨a3, g3⟩
      | 4, hq => cases hq; exact ⟨a4, g4⟩
      | 5, hq => cases hq; exact ⟨a5, g5⟩
      | k + 6, hq => exact absurd hq (by simp [ze_ty])
  have hG0 : xb_G (some (b, L, xs)) (zy_F s) s := ⟨hXB, hNc, fun q hq => by cases hq; exact ⟨hX9, hb9, hno b hb9⟩⟩
  have hA0 : ∀ q : Nat, s.heap.size ≤ q → zy_F s q := fun _ h => h
  have hW0 : ze_W D [] (zy_F s) s.heap s.heap [] := ⟨fun k q h => by simp at h, ⟨fun i j p q h => by simp at h, fun k q h => by simp at h⟩, va_S.rf⟩
  obtain ⟨F, hFz, hW, hA, hG⟩ : ∃ F : Nat → Prop, F = zy_F s ∧ ze_W D [] F s.heap s.heap [] ∧ (∀ q : Nat, s.heap.size ≤ q → F q) ∧ xb_G (some (b, L, xs)) F s := ⟨zy_F s, rfl, hW0, hA0, hG0⟩
  have hl := lv_entry ([.ref b]) (n := 4) (Nat.le_of_ble_eq_true rfl)
  rw [lg_entry_eq]
  generalize (lg_sl ([.ref b]) ++ List.replicate (4 - (lg_sl ([.ref b])).length) Slot.unset).toArray = ls at hl ⊢
  have hl : lv_has ls 4 [(0, .ref b)] := hl
  have w0 := htt (.arrayClass .int) (by decide +kernel)
  have w1 := htt (.constant RL 17 (-900001)) (by decide +kernel)
  have w2 := htt (.constant RL 26 (-900002)) (by decide +kernel)
  refine lv_sipush (v := nI 210) hX_ hB_ dL_law_0 (by decide) ?_
  refine ze_newi (N := 210) S w0 hK hW hA (by decide) (Nat.le_of_ble_eq_true rfl) (Nat.le_of_ble_eq_true rfl) dL_law_3 (fun q H hW => ?_)
  have hW : ze_W D [(q, .inl (c 0, 210, .inl (fun _ => 0)))] F s.heap _ _ := hW
  refine lv_astore_n (lv' := [(1, .ref q), (0, .ref b)]) hX_ hB_ dL_law_5 rfl hl (by decide) rfl (fun ls hl => ?_)
  refine lv_aload_n hX_ hB_ dL_law_6 rfl (lv_at hl 1 rfl) ?_
  refine lv_aload_n hX_ hB_ dL_law_7 rfl (lv_at hl 0 rfl) ?_
  have hW := ze_W0 hW
  refine xz_FSr (T := xd_T) (As := [.ref b, .ref q]) (rest := []) S (xj_begun l D hst c q b L xs hL) (va_cwS 2 hts gL_law_L_begun rfl rfl rfl (by decide +kernel) ⟨(Nat.le_of_ble_eq_true rfl), (Nat.le_of_ble_eq_true rfl)⟩) (Or.inr rfl) hG hZ hK hW hA rfl hl.1 rfl (lv_room (Nat.le_of_ble_eq_true rfl)) dL_law_8 ⟨(Nat.le_of_ble_eq_true rfl), (Nat.le_of_ble_eq_true rfl)⟩ (fun u9 hu9 H locs hW => ?_)
  have hW := ze_W0' hW
  obtain ⟨a, n, A, B, E, N⟩ := u9
  obtain ⟨hI, h0, h2p, h4p⟩ := hu9
  have hI : xd_I n A B E N 0 := hI
  have h0 : 0 < n 0 := h0
  have h2p : 1 ≤ n 2 := h2p
  have h4p : 1 ≤ n 4 := h4p
  have hW : ze_W D ((ze_wC c a n A B E) ++ [(q, .inl (c 0, 210, .inl N))]) F s.heap _ _ := hW
  show W p l e room_1 s m_ #[Value.ref b] below meth cd H locs _ _ _ (F0 m_ 11 ls [.ref (a 0)])
  refine lv_astore_n (lv' := [(2, .ref (a 0)), (1, .ref q), (0, .ref b)]) hX_ hB_ dL_law_11 rfl hl (by decide) rfl (fun ls hl => ?_)
  refine lv_aload_n hX_ hB_ dL_law_12 rfl (lv_at hl 0 rfl) ?_
  refine lv_ifnull hX_ hB_ dL_law_13 ?_
  refine lv_aload_n hX_ hB_ dL_law_16 rfl (lv_at hl 0 rfl) ?_
  refine lv_aload_n hX_ hB_ dL_law_17 rfl (lv_at hl 1 rfl) ?_
  have hW := ze_W0 hW
  refine xb_FSm (As := [.ref (a 0), .ref q]) (rest := []) S (xj_isTold l D hst c q a n A B E N 0 hI h4p) (va_cwS 2 hts gL_law_L_isTold rfl rfl rfl (by decide +kernel) ⟨(Nat.le_of_ble_eq_true rfl), (Nat.le_of_ble_eq_true rfl)⟩) (Or.inl rfl) hG hK hW hA rfl hl.1 rfl (lv_room (Nat.le_of_ble_eq_true rfl)) dL_law_18 ⟨(Nat.le_of_ble_eq_true rfl), (Nat.le_of_ble_eq_true rfl)⟩ (fun r_ u9 hu9 H locs hW => ?_)
  obtain ⟨a9, n9, A9, B9, E9, N9⟩ := u9
  obtain ⟨hr9, ha9, hI9, hn9, h29, h49⟩ := hu9
  have ha9 : a9 0 = a 0 := ha9
  have hI9 : xd_I n9 A9 B9 E9 N9 (0) := hI9
  have hn9 : n9 0 = n 0 := hn9
  have h29 : n 2 ≤ n9 2 := h29
  have h49 : n 4 ≤ n9 4 := h49
  subst hr9
  have hW := ze_W0' hW
  have hW : ze_W D ((ze_wC c a9 n9 A9 B9 E9) ++ [(q, .inl (c 0, 210, .inl N9))]) F s.heap _ _ := hW
  rw [← ha9] at hl
  refine lv_if_ne (tgt := 26) hX_ hB_ dL_law_21 (by decide) (fun c21 => ?_) (fun c21 => ?_)
  · refine lv_iconst (v := 0) hX_ hB_ dL_law_26 (by decide) ?_
    refine lv_istore_n (lv' := [(3, .int 0), (2, .ref (a9 0)), (1, .ref q), (0, .ref b)]) hX_ hB_ dL_law_27 rfl hl (by decide) rfl (fun ls hl => ?_)
    have L28 : ∀ (k28 : Nat) (a : Nat → Nat) (n : Nat → Nat) (A : Nat → Nat → Int32) (B : Nat → Int64) (E : Nat → Nat → Int32) (N : Nat → Int32) (k : Nat), (xd_I n A B E N (3 * k)) → (k ≤ 40) → (0 < n 0) → (1 ≤ n 2) → (1 ≤ n 4) → (40 - k) < k28 → ∀ (H : Heap) (locs : List Loc) (ls : Array Slot), ze_W D ((ze_wC c a n A B E) ++ [(q, .inl (c 0, 210, .inl N))]) F s.heap H locs → lv_has ls 4 [(3, .int (nI k)), (2, .ref (a 0)), (1, .ref q), (0, .ref b)] → W p l e room_1 s m_ ([.ref b] : List Value).toArray below meth cd H locs (217 + 34 * k) (2306 + 204 * k) (lw_Z below #[Value.ref b] s) (F0 m_ 28 ls []) := by
      intro k28
      induction k28 with
      | zero =>
        intro a n A B E N k hI hk h0 h2p h4p hk28
        exact absurd hk28 (Nat.not_lt_zero _)
      | succ k28 ih28 =>
        intro a n A B E N k hI hk h0 h2p h4p hk28 H locs ls hW hl
        have hKc := xd_K hI
        have hH := xc_KH hKc
        obtain ⟨hV, hR, hPh, hY, hWu⟩ := id hI
        obtain ⟨hN, hS, hE, hz, h4, h4z, hT, hC, hKz, hZ, hp⟩ := id hV
        obtain ⟨hn0, hn1, hn2, hn3, hn4⟩ := id hN
        have hE1 := zv_hE hV
        refine lv_iload_n hX_ hB_ dL_law_28 rfl (lv_at hl 0 rfl) ?_
        refine lv_bipush (v := 40) hX_ hB_ dL_law_29 (by decide) ?_
        refine lv_icmp_ge (tgt := 66) hX_ hB_ dL_law_31 (by decide) (fun c31 => ?_) (fun c31 => ?_)
        · have c31 : ¬ k < 40 := Nat.not_lt.mpr ((nI_leI (a := 40) (b := k) (by omega) (by omega)).mp c31)
          refine W.widen (k := 1577) (n := 10466) (by omega) (by omega) ?_
          refine lv_aload_n hX_ hB_ dL_law_66 rfl (lv_at hl 1 rfl) ?_
          refine lv_aload_n hX_ hB_ dL_law_67 rfl (lv_at hl 2 rfl) ?_
          refine lv_iconst (v := 0) hX_ hB_ dL_law_68 (by decide) ?_
          refine ze_ialdN hX_ hB_ hK hW ((ze_wC c a n A B E).length + 0) (f := N) (ze_appL (k := 0) rfl) (i := 0) (by omega) (by decide) dL_law_69 ?_
          refine ze_top (y := nI (n 0)) hR.1.1 ?_
          refine lv_iconst (v := 0) hX_ hB_ dL_law_70 (by decide) ?_
          refine lv_iconst (v := 1) hX_ hB_ dL_law_71 (by decide) ?_
          refine lv_iconst (v := 0) hX_ hB_ dL_law_72 (by decide) ?_
          refine lv_iconst (v := 0) hX_ hB_ dL_law_73 (by decide) ?_
          refine xb_FSq (As := [.ref (a 0), .int (nI (n 0)), .int 0, .int 1, .int 0, .int 0]) (rest := []) S (xw_addGenerator_t1 l D hst c a n A B E (nI (n 0)) hN (xe_hi (by omega)) 0 1 0 0) (vx_cwSW 6 hts gL_law_L_addGenerator rfl rfl rfl (by decide +kernel) ⟨(Nat.le_of_ble_eq_true rfl), (Nat.le_of_ble_eq_true rfl)⟩) hG hK hW hA rfl hl.1 rfl (lv_room (Nat.le_of_ble_eq_true rfl)) dL_law_74 ⟨(Nat.le_of_ble_eq_true rfl), (Nat.le_of_ble_eq_true rfl)⟩ (fun H locs hW => ?_)
          have hW : ze_W D ((ze_wC c a n A B E) ++ [(q, .inl (c 0, 210, .inl N))]) F s.heap _ _ := hW
          refine lv_ldc (own := RL) (v := -900001) hX_ hB_ S.2.2.2.1 w1 dL_law_77 ?_
          refine lv_icmp_ne (tgt := 265) hX_ hB_ dL_law_79 (by decide) (fun c79 => ?_) (fun c79 => ?_)
          · exact absurd c79 (by decide)
          · refine lv_aload_n hX_ hB_ dL_law_82 rfl (lv_at hl 1 rfl) ?_
            refine lv_iconst (v := 0) hX_ hB_ dL_law_83 (by decide) ?_
            refine lv_bipush (v := 101) hX_ hB_ dL_law_84 (by decide) ?_
            refine lv_sipush (v := 200) hX_ hB_ dL_law_86 (by decide) ?_
            refine lv_iconst (v := 0) hX_ hB_ dL_law_89 (by decide) ?_
            refine lv_iconst (v := 0) hX_ hB_ dL_law_90 (by decide) ?_
            refine xb_FSq (As := [.ref (a 0), .int 0, .int 101, .int 200, .int 0, .int 0]) (rest := []) S (xw_addGenerator_t2a l D hst c a n A B E 0 hN h0 101 200 0 0 (by decide)) (vx_cwSW 6 hts gL_law_L_addGenerator rfl rfl rfl (by decide +kernel) ⟨(Nat.le_of_ble_eq_true rfl), (Nat.le_of_ble_eq_true rfl)⟩) hG hK hW hA rfl hl.1 rfl (lv_room (Nat.le_of_ble_eq_true rfl)) dL_law_91 ⟨(Nat.le_of_ble_eq_true rfl), (Nat.le_of_ble_eq_true rfl)⟩ (fun H locs hW => ?_)
            have hW : ze_W D ((ze_wC c a n A B E) ++ [(q, .inl (c 0, 210, .inl N))]) F s.heap _ _ := hW
            refine lv_ldc (own := RL) (v := -900002) hX_ hB_ S.2.2.2.1 w2 dL_law_94 ?_
            refine lv_icmp_ne (tgt := 265) hX_ hB_ dL_law_96 (by decide) (fun c96 => ?_) (fun c96 => ?_)
            · exact absurd c96 (by decide)
            · refine lv_aload_n hX_ hB_ dL_law_99 rfl (lv_at hl 1 rfl) ?_
              refine lv_iconst (v := 0) hX_ hB_ dL_law_100 (by decide) ?_
              refine lv_iconst (v := 5) hX_ hB_ dL_law_101 (by decide) ?_
              refine lv_iconst (v := 4) hX_ hB_ dL_law_102 (by decide) ?_
              refine lv_iconst (v := 0) hX_ hB_ dL_law_103 (by decide) ?_
              refine lv_iconst (v := 0) hX_ hB_ dL_law_104 (by decide) ?_
              refine xb_FSq (As := [.ref (a 0), .int 0, .int 5, .int 4, .int 0, .int 0]) (rest := []) S (xw_addGenerator_t2b l D hst c a n A B E 0 hN h0 5 4 0 0 (by decide) (by decide)) (vx_cwSW 6 hts gL_law_L_addGenerator rfl rfl rfl (by decide +kernel) ⟨(Nat.le_of_ble_eq_true rfl), (Nat.le_of_ble_eq_true rfl)⟩) hG hK hW hA rfl hl.1 rfl (lv_room (Nat.le_of_ble_eq_true rfl)) dL_law_105 ⟨(Nat.le_of_ble_eq_true rfl), (Nat.le_of_ble_eq_true rfl)⟩ (fun H locs hW => ?_)
              have hW : ze_W D ((ze_wC c a n A B E) ++ [(q, .inl (c 0, 210, .inl N))]) F s.heap _ _ := hW
              refine lv_ldc (own := RL) (v := -900002) hX_ hB_ S.2.2.2.1 w2 dL_law_108 ?_
              refine lv_icmp_ne (tgt := 265) hX_ hB_ dL_law_110 (by decide) (fun c110 => ?_) (fun c110 => ?_)
              · exact absurd c110 (by decide)
              · refine lv_aload_n hX_ hB_ dL_law_113 rfl (lv_at hl 1 rfl) ?_
                refine lv_iconst (v := 0) hX_ hB_ dL_law_114 (by decide) ?_
                refine lv_iconst (v := 0) hX_ hB_ dL_law_115 (by decide) ?_
                refine lv_iconst (v := 0) hX_ hB_ dL_law_116 (by decide) ?_
                refine lv_iconst (v := 0) hX_ hB_ dL_law_117 (by decide) ?_
                refine lv_iconst (v := 0) hX_ hB_ dL_law_118 (by decide) ?_
                refine xb_FSq (As := [.ref (a 0), .int 0, .int 0, .int 0, .int 0, .int 0]) (rest := []) S (xw_addGenerator_t2b l D hst c a n A B E 0 hN h0 0 0 0 0 (by decide) (by decide)) (vx_cwSW 6 hts gL_law_L_addGenerator rfl rfl rfl (by decide +kernel) ⟨(Nat.le_of_ble_eq_true rfl), (Nat.le_of_ble_eq_true rfl)⟩) hG hK hW hA rfl hl.1 rfl (lv_room (Nat.le_of_ble_eq_true rfl)) dL_law_119 ⟨(Nat.le_of_ble_eq_true rfl), (Nat.le_of_ble_eq_true rfl)⟩ (fun H locs hW => ?_)
                have hW : ze_W D ((ze_wC c a n A B E) ++ [(q, .inl (c 0, 210, .inl N))]) F s.heap _ _ := hW
                refine lv_ldc (own := RL) (v := -900002) hX_ hB_ S.2.2.2.1 w2 dL_law_122 ?_
                refine lv_icmp_ne (tgt := 265) hX_ hB_ dL_law_124 (by decide) (fun c124 => ?_) (fun c124 => ?_)
                · exact absurd c124 (by decide)
                · refine lv_aload_n hX_ hB_ dL_law_127 rfl (lv_at hl 1 rfl) ?_
                  refine lv_iconst (v := 0) hX_ hB_ dL_law_128 (by decide) ?_
                  refine lv_iconst (v := 0) hX_ hB_ dL_law_129 (by decide) ?_
                  refine lv_iconst (v := 1) hX_ hB_ dL_law_130 (by decide) ?_
                  refine lv_bipush (v := 10) hX_ hB_ dL_law_131 (by decide) ?_
                  refine lv_iconst (v := 0) hX_ hB_ dL_law_133 (by decide) ?_
                  refine xb_FSq (As := [.ref (a 0), .int 0, .int 0, .int 1, .int 10, .int 0]) (rest := []) S (xw_addGenerator_t2c l D hst c a n A B E 0 hN h0 0 1 10 0 (by decide) (by decide) (by decide)) (vx_cwSW 6 hts gL_law_L_addGenerator rfl rfl rfl (by decide +kernel) ⟨(Nat.le_of_ble_eq_true rfl), (Nat.le_of_ble_eq_true rfl)⟩) hG hK hW hA rfl hl.1 rfl (lv_room (Nat.le_of_ble_eq_true rfl)) dL_law_134 ⟨(Nat.le_of_ble_eq_true rfl), (Nat.le_of_ble_eq_true rfl)⟩ (fun H locs hW => ?_)
                  have hW : ze_W D ((ze_wC c a n A B E) ++ [(q, .inl (c 0, 210, .inl N))]) F s.heap _ _ := hW
                  refine lv_ldc (own := RL) (v := -900002) hX_ hB_ S.2.2.2.1 w2 dL_law_137 ?_
                  refine lv_icmp_ne (tgt := 265) hX_ hB_ dL_law_139 (by decide) (fun c139 => ?_) (fun c139 => ?_)
                  · exact absurd c139 (by decide)
                  · refine lv_aload_n hX_ hB_ dL_law_142 rfl (lv_at hl 1 rfl) ?_
                    refine lv_iconst (v := 0) hX_ hB_ dL_law_143 (by decide) ?_
                    refine lv_iconst (v := 0) hX_ hB_ dL_law_144 (by decide) ?_
                    refine lv_iconst (v := 1) hX_ hB_ dL_law_145 (by decide) ?_
                    refine lv_iconst (v := 0) hX_ hB_ dL_law_146 (by decide) ?_
                    refine lv_sipush (v := 10000) hX_ hB_ dL_law_147 (by decide) ?_
                    refine xb_FSq (As := [.ref (a 0), .int 0, .int 0, .int 1, .int 0, .int 10000]) (rest := []) S (xw_addGenerator_t2d l D hst c a n A B E 0 hN h0 0 1 0 10000 (by decide) (by decide) (by decide) (by decide)) (vx_cwSW 6 hts gL_law_L_addGenerator rfl rfl rfl (by decide +kernel) ⟨(Nat.le_of_ble_eq_true rfl), (Nat.le_of_ble_eq_true rfl)⟩) hG hK hW hA rfl hl.1 rfl (lv_room (Nat.le_of_ble_eq_true rfl)) dL_law_150 ⟨(Nat.le_of_ble_eq_true rfl), (Nat.le_of_ble_eq_true rfl)⟩ (fun H locs hW => ?_)
                    have hW : ze_W D ((ze_wC c a n A B E) ++ [(q, .inl (c 0, 210, .inl N))]) F s.heap _ _ := hW
                    refine lv_ldc (own := RL) (v := -900002) hX_ hB_ S.2.2.2.1 w2 dL_law_153 ?_
                    refine lv_icmp_ne (tgt := 265) hX_ hB_ dL_law_155 (by decide) (fun c155 => ?_) (fun c155 => ?_)
                    · exact absurd c155 (by decide)
                    · refine lv_aload_n hX_ hB_ dL_law_158 rfl (lv_at hl 1 rfl) ?_
                      refine lv_aload_n hX_ hB_ dL_law_159 rfl (lv_at hl 2 rfl) ?_
                      refine lv_iconst (v := 2) hX_ hB_ dL_law_160 (by decide) ?_
                      refine ze_ialdN hX_ hB_ hK hW ((ze_wC c a n A B E).length + 0) (f := N) (ze_appL (k := 0) rfl) (i := 2) (by omega) (by decide) dL_law_161 ?_
                      refine ze_top (y := nI (n 2)) hR.1.2.2.1 ?_
                      refine xb_FSq (As := [.ref (a 0), .int (nI (n 2))]) (rest := []) S (xw_start_t1 l D hst c a n A B E (nI (n 2)) hN (xe_hi (by omega))) (vx_cwSW 2 hts gL_law_L_start rfl rfl rfl (by decide +kernel) ⟨(Nat.le_of_ble_eq_true rfl), (Nat.le_of_ble_eq_true rfl)⟩) hG hK hW hA rfl hl.1 rfl (lv_room (Nat.le_of_ble_eq_true rfl)) dL_law_162 ⟨(Nat.le_of_ble_eq_true rfl), (Nat.le_of_ble_eq_true rfl)⟩ (fun H locs hW => ?_)
                      have hW : ze_W D ((ze_wC c a n A B E) ++ [(q, .inl (c 0, 210, .inl N))]) F s.heap _ _ := hW
                      refine lv_ldc (own := RL) (v := -900001) hX_ hB_ S.2.2.2.1 w1 dL_law_165 ?_
                      refine lv_icmp_ne (tgt := 265) hX_ hB_ dL_law_167 (by decide) (fun c167 => ?_) (fun c167 => ?_)
                      · exact absurd c167 (by decide)
                      · refine lv_aload_n hX_ hB_ dL_law_170 rfl (lv_at hl 1 rfl) ?_
                        refine lv_iconst (v := (-1)) hX_ hB_ dL_law_171 (by decide) ?_
                        refine xb_FSq (As := [.ref (a 0), .int (-1)]) (rest := []) S (xw_stop_t1 l D hst c a n A B E (-1) hN (xe_lo (by omega))) (vx_cwSW 2 hts gL_law_L_stop rfl rfl rfl (by decide +kernel) ⟨(Nat.le_of_ble_eq_true rfl), (Nat.le_of_ble_eq_true rfl)⟩) hG hK hW hA rfl hl.1 rfl (lv_room (Nat.le_of_ble_eq_true rfl)) dL_law_172 ⟨(Nat.le_of_ble_eq_true rfl), (Nat.le_of_ble_eq_true rfl)⟩ (fun H locs hW => ?_)
                        have hW : ze_W D ((ze_wC c a n A B E) ++ [(q, .inl (c 0, 210, .inl N))]) F s.heap _ _ := hW
                        refine lv_ldc (own := RL) (v := -900001) hX_ hB_ S.2.2.2.1 w1 dL_law_175 ?_
                        refine lv_icmp_ne (tgt := 265) hX_ hB_ dL_law_177 (by decide) (fun c177 => ?_) (fun c177 => ?_)
                        · exact absurd c177 (by decide)
                        · refine lv_aload_n hX_ hB_ dL_law_180 rfl (lv_at hl 1 rfl) ?_
                          refine lv_aload_n hX_ hB_ dL_law_181 rfl (lv_at hl 2 rfl) ?_
                          refine lv_iconst (v := 2) hX_ hB_ dL_law_182 (by decide) ?_
                          refine ze_ialdN hX_ hB_ hK hW ((ze_wC c a n A B E).length + 0) (f := N) (ze_appL (k := 0) rfl) (i := 2) (by omega) (by decide) dL_law_183 ?_
                          refine ze_top (y := nI (n 2)) hR.1.2.2.1 ?_
                          refine lv_iconst (v := 0) hX_ hB_ dL_law_184 (by decide) ?_
                          refine xb_FSq (As := [.ref (a 0), .int (nI (n 2)), .int 0]) (rest := []) S (xw_refuel_t1 l D hst c a n A B E (nI (n 2)) hN (xe_hi (by omega)) 0) (vx_cwSW 3 hts gL_law_L_refuel rfl rfl rfl (by decide +kernel) ⟨(Nat.le_of_ble_eq_true rfl), (Nat.le_of_ble_eq_true rfl)⟩) hG hK hW hA rfl hl.1 rfl (lv_room (Nat.le_of_ble_eq_true rfl)) dL_law_185 ⟨(Nat.le_of_ble_eq_true rfl), (Nat.le_of_ble_eq_true rfl)⟩ (fun H locs hW => ?_)
                          have hW : ze_W D ((ze_wC c a n A B E) ++ [(q, .inl (c 0, 210, .inl N))]) F s.heap _ _ := hW
                          refine lv_ldc (own := RL) (v := -900001) hX_ hB_ S.2.2.2.1 w1 dL_law_188 ?_
                          refine lv_icmp_ne (tgt := 265) hX_ hB_ dL_law_190 (by decide) (fun c190 => ?_) (fun c190 => ?_)
                          · exact absurd c190 (by decide)
                          · refine lv_aload_n hX_ hB_ dL_law_193 rfl (lv_at hl 1 rfl) ?_
                            refine lv_iconst (v := 0) hX_ hB_ dL_law_194 (by decide) ?_
                            refine lv_iconst (v := 0) hX_ hB_ dL_law_195 (by decide) ?_
                            refine xb_FSq (As := [.ref (a 0), .int 0, .int 0]) (rest := []) S (xw_refuel_t2 l D hst c a n A B E 0 hN (by omega) 0 (by decide)) (vx_cwSW 3 hts gL_law_L_refuel rfl rfl rfl (by decide +kernel) ⟨(Nat.le_of_ble_eq_true rfl), (Nat.le_of_ble_eq_true rfl)⟩) hG hK hW hA rfl hl.1 rfl (lv_room (Nat.le_of_ble_eq_true rfl)) dL_law_196 ⟨(Nat.le_of_ble_eq_true rfl), (Nat.le_of_ble_eq_true rfl)⟩ (fun H locs hW => ?_)
                            have hW : ze_W D ((ze_wC c a n A B E) ++ [(q, .inl (c 0, 210, .inl N))]) F s.heap _ _ := hW
                            refine lv_ldc (own := RL) (v := -900002) hX_ hB_ S.2.2.2.1 w2 dL_law_199 ?_
                            refine lv_icmp_ne (tgt := 265) hX_ hB_ dL_law_201 (by decide) (fun c201 => ?_) (fun c201 => ?_)
                            · exact absurd c201 (by decide)
                            · refine lv_aload_n hX_ hB_ dL_law_204 rfl (lv_at hl 1 rfl) ?_
                              refine lv_iconst (v := 0) hX_ hB_ dL_law_205 (by decide) ?_
                              refine lv_sipush (v := 10000) hX_ hB_ dL_law_206 (by decide) ?_
                              refine xb_FSq (As := [.ref (a 0), .int 0, .int 10000]) (rest := []) S (xw_refuel_t2 l D hst c a n A B E 0 hN (by omega) 10000 (by decide)) (vx_cwSW 3 hts gL_law_L_refuel rfl rfl rfl (by decide +kernel) ⟨(Nat.le_of_ble_eq_true rfl), (Nat.le_of_ble_eq_true rfl)⟩) hG hK hW hA rfl hl.1 rfl (lv_room (Nat.le_of_ble_eq_true rfl)) dL_law_209 ⟨(Nat.le_of_ble_eq_true rfl), (Nat.le_of_ble_eq_true rfl)⟩ (fun H locs hW => ?_)
                              have hW : ze_W D ((ze_wC c a n A B E) ++ [(q, .inl (c 0, 210, .inl N))]) F s.heap _ _ := hW
                              refine lv_ldc (own := RL) (v := -900002) hX_ hB_ S.2.2.2.1 w2 dL_law_212 ?_
                              refine lv_icmp_ne (tgt := 265) hX_ hB_ dL_law_214 (by decide) (fun c214 => ?_) (fun c214 => ?_)
                              · exact absurd c214 (by decide)
                              · refine lv_aload_n hX_ hB_ dL_law_217 rfl (lv_at hl 1 rfl) ?_
                                refine lv_iconst (v := (-1)) hX_ hB_ dL_law_218 (by decide) ?_
                                refine xb_FSq (As := [.ref (a 0), .int (-1)]) (rest := []) S (xw_state_t1 l D hst c a n A B E (-1) hN (xe_lo (by omega))) (vx_cwSW 2 hts gL_law_L_state rfl rfl rfl (by decide +kernel) ⟨(Nat.le_of_ble_eq_true rfl), (Nat.le_of_ble_eq_true rfl)⟩) hG hK hW hA rfl hl.1 rfl (lv_room (Nat.le_of_ble_eq_true rfl)) dL_law_219 ⟨(Nat.le_of_ble_eq_true rfl), (Nat.le_of_ble_eq_true rfl)⟩ (fun H locs hW => ?_)
                                have hW : ze_W D ((ze_wC c a n A B E) ++ [(q, .inl (c 0, 210, .inl N))]) F s.heap _ _ := hW
                                refine lv_ldc (own := RL) (v := -900001) hX_ hB_ S.2.2.2.1 w1 dL_law_222 ?_
                                refine lv_icmp_ne (tgt := 265) hX_ hB_ dL_law_224 (by decide) (fun c224 => ?_) (fun c224 => ?_)
                                · exact absurd c224 (by decide)
                                · refine lv_aload_n hX_ hB_ dL_law_227 rfl (lv_at hl 1 rfl) ?_
                                  refine lv_aload_n hX_ hB_ dL_law_228 rfl (lv_at hl 2 rfl) ?_
                                  refine lv_iconst (v := 2) hX_ hB_ dL_law_229 (by decide) ?_
                                  refine ze_ialdN hX_ hB_ hK hW ((ze_wC c a n A B E).length + 0) (f := N) (ze_appL (k := 0) rfl) (i := 2) (by omega) (by decide) dL_law_230 ?_
                                  refine ze_top (y := nI (n 2)) hR.1.2.2.1 ?_
                                  refine xb_FSq (As := [.ref (a 0), .int (nI (n 2))]) (rest := []) S (xw_fuel_t1 l D hst c a n A B E (nI (n 2)) hN (xe_hi (by omega))) (vx_cwSW 2 hts gL_law_L_fuel rfl rfl rfl (by decide +kernel) ⟨(Nat.le_of_ble_eq_true rfl), (Nat.le_of_ble_eq_true rfl)⟩) hG hK hW hA rfl hl.1 rfl (lv_room (Nat.le_of_ble_eq_true rfl)) dL_law_231 ⟨(Nat.le_of_ble_eq_true rfl), (Nat.le_of_ble_eq_true rfl)⟩ (fun H locs hW => ?_)
                                  have hW : ze_W D ((ze_wC c a n A B E) ++ [(q, .inl (c 0, 210, .inl N))]) F s.heap _ _ := hW
                                  refine lv_ldc (own := RL) (v := -900001) hX_ hB_ S.2.2.2.1 w1 dL_law_234 ?_
                                  refine lv_icmp_ne (tgt := 265) hX_ hB_ dL_law_236 (by decide) (fun c236 => ?_) (fun c236 => ?_)
                                  · exact absurd c236 (by decide)
                                  · refine lv_aload_n hX_ hB_ dL_law_239 rfl (lv_at hl 1 rfl) ?_
                                    refine lv_iconst (v := (-1)) hX_ hB_ dL_law_240 (by decide) ?_
                                    refine xb_FSq (As := [.ref (a 0), .int (-1)]) (rest := []) S (xw_toGo_t1 l D hst c a n A B E (-1) hN (xe_lo (by omega))) (vx_cwSW 2 hts gL_law_L_toGo rfl rfl rfl (by decide +kernel) ⟨(Nat.le_of_ble_eq_true rfl), (Nat.le_of_ble_eq_true rfl)⟩) hG hK hW hA rfl hl.1 rfl (lv_room (Nat.le_of_ble_eq_true rfl)) dL_law_241 ⟨(Nat.le_of_ble_eq_true rfl), (Nat.le_of_ble_eq_true rfl)⟩ (fun H locs hW => ?_)
                                    have hW : ze_W D ((ze_wC c a n A B E) ++ [(q, .inl (c 0, 210, .inl N))]) F s.heap _ _ := hW
                                    refine lv_ldc (own := RL) (v := -900001) hX_ hB_ S.2.2.2.1 w1 dL_law_244 ?_
                                    refine lv_icmp_ne (tgt := 265) hX_ hB_ dL_law_246 (by decide) (fun c246 => ?_) (fun c246 => ?_)
                                    · exact absurd c246 (by decide)
                                    · refine lv_aload_n hX_ hB_ dL_law_249 rfl (lv_at hl 1 rfl) ?_
                                      refine lv_aload_n hX_ hB_ dL_law_250 rfl (lv_at hl 2 rfl) ?_
                                      refine lv_iconst (v := 2) hX_ hB_ dL_law_251 (by decide) ?_
                                      refine ze_ialdN hX_ hB_ hK hW ((ze_wC c a n A B E).length + 0) (f := N) (ze_appL (k := 0) rfl) (i := 2) (by omega) (by decide) dL_law_252 ?_
                                      refine ze_top (y := nI (n 2)) hR.1.2.2.1 ?_
                                      refine xb_FSq (As := [.ref (a 0), .int (nI (n 2))]) (rest := []) S (xw_given_t1 l D hst c a n A B E (nI (n 2)) hN (xe_hi (by omega))) (vx_cwSW 2 hts gL_law_L_given rfl rfl rfl (by decide +kernel) ⟨(Nat.le_of_ble_eq_true rfl), (Nat.le_of_ble_eq_true rfl)⟩) hG hK hW hA rfl hl.1 rfl (lv_room (Nat.le_of_ble_eq_true rfl)) dL_law_253 ⟨(Nat.le_of_ble_eq_true rfl), (Nat.le_of_ble_eq_true rfl)⟩ (fun H locs hW => ?_)
                                      have hW : ze_W D ((ze_wC c a n A B E) ++ [(q, .inl (c 0, 210, .inl N))]) F s.heap _ _ := hW
                                      refine lv_ldc (own := RL) (v := -900001) hX_ hB_ S.2.2.2.1 w1 dL_law_256 ?_
                                      refine lv_icmp_ne (tgt := 265) hX_ hB_ dL_law_258 (by decide) (fun c258 => ?_) (fun c258 => ?_)
                                      · exact absurd c258 (by decide)
                                      · refine lv_iconst (v := 1) hX_ hB_ dL_law_261 (by decide) ?_
                                        refine lv_goto (tgt := 266) hX_ hB_ dL_law_262 (by decide) ?_
                                        refine lv_istore_n (lv' := [(3, .int 1), (2, .ref (a 0)), (1, .ref q), (0, .ref b)]) hX_ hB_ dL_law_266 rfl hl (by decide) rfl (fun ls hl => ?_)
                                        refine lv_iload_n hX_ hB_ dL_law_267 rfl (lv_at hl 0 rfl) ?_
                                        refine lv_if_eq (tgt := 489) hX_ hB_ dL_law_268 (by decide) (fun c268 => ?_) (fun c268 => ?_)
                                        · exact absurd c268 (by decide)
                                        · refine lv_aload_n hX_ hB_ dL_law_271 rfl (lv_at hl 1 rfl) ?_
                                          refine lv_aload_n hX_ hB_ dL_law_272 rfl (lv_at hl 2 rfl) ?_
                                          refine lv_iconst (v := 0) hX_ hB_ dL_law_273 (by decide) ?_
                                          refine ze_ialdN hX_ hB_ hK hW ((ze_wC c a n A B E).length + 0) (f := N) (ze_appL (k := 0) rfl) (i := 0) (by omega) (by decide) dL_law_274 ?_
                                          refine ze_top (y := nI (n 0)) hR.1.1 ?_
                                          refine lv_iconst (v := 0) hX_ hB_ dL_law_275 (by decide) ?_
                                          refine lv_iconst (v := 0) hX_ hB_ dL_law_276 (by decide) ?_
                                          refine xb_FSq (As := [.ref (a 0), .int (nI (n 0)), .int 0, .int 0]) (rest := []) S (xw_addStore_t1 l D hst c a n A B E (nI (n 0)) hN (xe_hi (by omega)) 0 0) (vx_cwSW 4 hts gL_law_L_addStore rfl rfl rfl (by decide +kernel) ⟨(Nat.le_of_ble_eq_true rfl), (Nat.le_of_ble_eq_true rfl)⟩) hG hK hW hA rfl hl.1 rfl (lv_room (Nat.le_of_ble_eq_true rfl)) dL_law_277 ⟨(Nat.le_of_ble_eq_true rfl), (Nat.le_of_ble_eq_true rfl)⟩ (fun H locs hW => ?_)
                                          have hW : ze_W D ((ze_wC c a n A B E) ++ [(q, .inl (c 0, 210, .inl N))]) F s.heap _ _ := hW
                                          refine lv_ldc (own := RL) (v := -900001) hX_ hB_ S.2.2.2.1 w1 dL_law_280 ?_
                                          refine lv_icmp_ne (tgt := 489) hX_ hB_ dL_law_282 (by decide) (fun c282 => ?_) (fun c282 => ?_)
                                          · exact absurd c282 (by decide)
                                          · refine lv_aload_n hX_ hB_ dL_law_285 rfl (lv_at hl 1 rfl) ?_
                                            refine lv_iconst (v := 0) hX_ hB_ dL_law_286 (by decide) ?_
                                            refine lv_sipush (v := 1000) hX_ hB_ dL_law_287 (by decide) ?_
                                            refine lv_iconst (v := 1) hX_ hB_ dL_law_290 (by decide) ?_
                                            refine xb_FSq (As := [.ref (a 0), .int 0, .int 1000, .int 1]) (rest := []) S (xw_addStore_t2a l D hst c a n A B E 0 hN h0 1000 1 (by decide)) (vx_cwSW 4 hts gL_law_L_addStore rfl rfl rfl (by decide +kernel) ⟨(Nat.le_of_ble_eq_true rfl), (Nat.le_of_ble_eq_true rfl)⟩) hG hK hW hA rfl hl.1 rfl (lv_room (Nat.le_of_ble_eq_true rfl)) dL_law_291 ⟨(Nat.le_of_ble_eq_true rfl), (Nat.le_of_ble_eq_true rfl)⟩ (fun H locs hW => ?_)
                                            have hW : ze_W D ((ze_wC c a n A B E) ++ [(q, .inl (c 0, 210, .inl N))]) F s.heap _ _ := hW
                                            refine lv_ldc (own := RL) (v := -900002) hX_ hB_ S.2.2.2.1 w2 dL_law_294 ?_
                                            refine lv_icmp_ne (tgt := 489) hX_ hB_ dL_law_296 (by decide) (fun c296 => ?_) (fun c296 => ?_)
                                            · exact absurd c296 (by decide)
                                            · refine lv_aload_n hX_ hB_ dL_law_299 rfl (lv_at hl 1 rfl) ?_
                                              refine lv_iconst (v := 0) hX_ hB_ dL_law_300 (by decide) ?_
                                              refine lv_iconst (v := 1) hX_ hB_ dL_law_301 (by decide) ?_
                                              refine lv_bipush (v := 100) hX_ hB_ dL_law_302 (by decide) ?_
                                              refine xb_FSq (As := [.ref (a 0), .int 0, .int 1, .int 100]) (rest := []) S (xw_addStore_t2b l D hst c a n A B E 0 hN h0 1 100 (by decide) (by decide)) (vx_cwSW 4 hts gL_law_L_addStore rfl rfl rfl (by decide +kernel) ⟨(Nat.le_of_ble_eq_true rfl), (Nat.le_of_ble_eq_true rfl)⟩) hG hK hW hA rfl hl.1 rfl (lv_room (Nat.le_of_ble_eq_true rfl)) dL_law_304 ⟨(Nat.le_of_ble_eq_true rfl), (Nat.le_of_ble_eq_true rfl)⟩ (fun H locs hW => ?_)
                                              have hW : ze_W D ((ze_wC c a n A B E) ++ [(q, .inl (c 0, 210, .inl N))]) F s.heap _ _ := hW
                                              refine lv_ldc (own := RL) (v := -900002) hX_ hB_ S.2.2.2.1 w2 dL_law_307 ?_
                                              refine lv_icmp_ne (tgt := 489) hX_ hB_ dL_law_309 (by decide) (fun c309 => ?_) (fun c309 => ?_)
                                              · exact absurd c309 (by decide)
                                              · refine lv_aload_n hX_ hB_ dL_law_312 rfl (lv_at hl 1 rfl) ?_
                                                refine lv_aload_n hX_ hB_ dL_law_313 rfl (lv_at hl 2 rfl) ?_
                                                refine lv_iconst (v := 3) hX_ hB_ dL_law_314 (by decide) ?_
                                                refine ze_ialdN hX_ hB_ hK hW ((ze_wC c a n A B E).length + 0) (f := N) (ze_appL (k := 0) rfl) (i := 3) (by omega) (by decide) dL_law_315 ?_
                                                refine ze_top (y := nI (n 3)) hR.1.2.2.2.1 ?_
                                                refine xb_FSq (As := [.ref (a 0), .int (nI (n 3))]) (rest := []) S (xw_charge_t1 l D hst c a n A B E (nI (n 3)) hN (xe_hi (by omega))) (vx_cwSW 2 hts gL_law_L_charge rfl rfl rfl (by decide +kernel) ⟨(Nat.le_of_ble_eq_true rfl), (Nat.le_of_ble_eq_true rfl)⟩) hG hK hW hA rfl hl.1 rfl (lv_room (Nat.le_of_ble_eq_true rfl)) dL_law_316 ⟨(Nat.le_of_ble_eq_true rfl), (Nat.le_of_ble_eq_true rfl)⟩ (fun H locs hW => ?_)
                                                have hW : ze_W D ((ze_wC c a n A B E) ++ [(q, .inl (c 0, 210, .inl N))]) F s.heap _ _ := hW
                                                refine lv_ldc (own := RL) (v := -900001) hX_ hB_ S.2.2.2.1 w1 dL_law_319 ?_
                                                refine lv_icmp_ne (tgt := 489) hX_ hB_ dL_law_321 (by decide) (fun c321 => ?_) (fun c321 => ?_)
                                                · exact absurd c321 (by decide)
                                                · refine lv_aload_n hX_ hB_ dL_law_324 rfl (lv_at hl 1 rfl) ?_
                                                  refine lv_iconst (v := (-1)) hX_ hB_ dL_law_325 (by decide) ?_
                                                  refine xb_FSq (As := [.ref (a 0), .int (-1)]) (rest := []) S (xw_flow_t1 l D hst c a n A B E (-1) hN (xe_lo (by omega))) (vx_cwSW 2 hts gL_law_L_flow rfl rfl rfl (by decide +kernel) ⟨(Nat.le_of_ble_eq_true rfl), (Nat.le_of_ble_eq_true rfl)⟩) hG hK hW hA rfl hl.1 rfl (lv_room (Nat.le_of_ble_eq_true rfl)) dL_law_326 ⟨(Nat.le_of_ble_eq_true rfl), (Nat.le_of_ble_eq_true rfl)⟩ (fun H locs hW => ?_)
                                                  have hW : ze_W D ((ze_wC c a n A B E) ++ [(q, .inl (c 0, 210, .inl N))]) F s.heap _ _ := hW
                                                  refine lv_ldc (own := RL) (v := -900001) hX_ hB_ S.2.2.2.1 w1 dL_law_329 ?_
                                                  refine lv_icmp_ne (tgt := 489) hX_ hB_ dL_law_331 (by decide) (fun c331 => ?_) (fun c331 => ?_)
                                                  · exact absurd c331 (by decide)
                                                  · refine lv_aload_n hX_ hB_ dL_law_334 rfl (lv_at hl 1 rfl) ?_
                                                    refine lv_iconst (v := (-1)) hX_ hB_ dL_law_335 (by decide) ?_
                                                    refine lv_iconst (v := 0) hX_ hB_ dL_law_336 (by decide) ?_
                                                    refine lv_iconst (v := 0) hX_ hB_ dL_law_337 (by decide) ?_
                                                    refine xb_FSq (As := [.ref (a 0), .int (-1), .int 0, .int 0]) (rest := []) S (xw_addLoad_t1 l D hst c a n A B E (-1) hN (xe_lo (by omega)) 0 0) (vx_cwSW 4 hts gL_law_L_addLoad rfl rfl rfl (by decide +kernel) ⟨(Nat.le_of_ble_eq_true rfl), (Nat.le_of_ble_eq_true rfl)⟩) hG hK hW hA rfl hl.1 rfl (lv_room (Nat.le_of_ble_eq_true rfl)) dL_law_338 ⟨(Nat.le_of_ble_eq_true rfl), (Nat.le_of_ble_eq_true rfl)⟩ (fun H locs hW => ?_)
                                                    have hW : ze_W D ((ze_wC c a n A B E) ++ [(q, .inl (c 0, 210, .inl N))]) F s.heap _ _ := hW
                                                    refine lv_ldc (own := RL) (v := -900001) hX_ hB_ S.2.2.2.1 w1 dL_law_341 ?_
                                                    refine lv_icmp_ne (tgt := 489) hX_ hB_ dL_law_343 (by decide) (fun c343 => ?_) (fun c343 => ?_)
                                                    · exact absurd c343 (by decide)
                                                    · refine lv_aload_n hX_ hB_ dL_law_346 rfl (lv_at hl 1 rfl) ?_
                                                      refine lv_iconst (v := 0) hX_ hB_ dL_law_347 (by decide) ?_
                                                      refine lv_sipush (v := 201) hX_ hB_ dL_law_348 (by decide) ?_
                                                      refine lv_iconst (v := 1) hX_ hB_ dL_law_351 (by decide) ?_
                                                      refine xb_FSq (As := [.ref (a 0), .int 0, .int 201, .int 1]) (rest := []) S (xw_addLoad_t2a l D hst c a n A B E 0 hN h0 201 1 (by decide)) (vx_cwSW 4 hts gL_law_L_addLoad rfl rfl rfl (by decide +kernel) ⟨(Nat.le_of_ble_eq_true rfl), (Nat.le_of_ble_eq_true rfl)⟩) hG hK hW hA rfl hl.1 rfl (lv_room (Nat.le_of_ble_eq_true rfl)) dL_law_352 ⟨(Nat.le_of_ble_eq_true rfl), (Nat.le_of_ble_eq_true rfl)⟩ (fun H locs hW => ?_)
                                                      have hW : ze_W D ((ze_wC c a n A B E) ++ [(q, .inl (c 0, 210, .inl N))]) F s.heap _ _ := hW
                                                      refine lv_ldc (own := RL) (v := -900002) hX_ hB_ S.2.2.2.1 w2 dL_law_355 ?_
                                                      refine lv_icmp_ne (tgt := 489) hX_ hB_ dL_law_357 (by decide) (fun c357 => ?_) (fun c357 => ?_)
                                                      · exact absurd c357 (by decide)
                                                      · refine lv_aload_n hX_ hB_ dL_law_360 rfl (lv_at hl 1 rfl) ?_
                                                        refine lv_iconst (v := 0) hX_ hB_ dL_law_361 (by decide) ?_
                                                        refine lv_iconst (v := 1) hX_ hB_ dL_law_362 (by decide) ?_
                                                        refine lv_bipush (v := 10) hX_ hB_ dL_law_363 (by decide) ?_
                                                        refine xb_FSq (As := [.ref (a 0), .int 0, .int 1, .int 10]) (rest := []) S (xw_addLoad_t2b l D hst c a n A B E 0 hN h0 1 10 (by decide) (by decide)) (vx_cwSW 4 hts gL_law_L_addLoad rfl rfl rfl (by decide +kernel) ⟨(Nat.le_of_ble_eq_true rfl), (Nat.le_of_ble_eq_true rfl)⟩) hG hK hW hA rfl hl.1 rfl (lv_room (Nat.le_of_ble_eq_true rfl)) dL_law_365 ⟨(Nat.le_of_ble_eq_true rfl), (Nat.le_of_ble_eq_true rfl)⟩ (fun H locs hW => ?_)
                                                        have hW : ze_W D ((ze_wC c a n A B E) ++ [(q, .inl (c 0, 210, .inl N))]) F s.heap _ _ := hW
                                                        refine lv_ldc (own := RL) (v := -900002) hX_ hB_ S.2.2.2.1 w2 dL_law_368 ?_
                                                        refine lv_icmp_ne (tgt := 489) hX_ hB_ dL_law_370 (by decide) (fun c370 => ?_) (fun c370 => ?_)
                                                        · exact absurd c370 (by decide)
                                                        · refine lv_aload_n hX_ hB_ dL_law_373 rfl (lv_at hl 1 rfl) ?_
                                                          refine lv_aload_n hX_ hB_ dL_law_374 rfl (lv_at hl 2 rfl) ?_
                                                          refine lv_iconst (v := 4) hX_ hB_ dL_law_375 (by decide) ?_
                                                          refine ze_ialdN hX_ hB_ hK hW ((ze_wC c a n A B E).length + 0) (f := N) (ze_appL (k := 0) rfl) (i := 4) (by omega) (by decide) dL_law_376 ?_
                                                          refine ze_top (y := nI (n 4)) hR.1.2.2.2.2 ?_
                                                          refine lv_iconst (v := 0) hX_ hB_ dL_law_377 (by decide) ?_
                                                          refine xb_FSq (As := [.ref (a 0), .int (nI (n 4)), .int 0]) (rest := []) S (xw_setRank_t1 l D hst c a n A B E (nI (n 4)) hN (xe_hi (by omega)) 0) (vx_cwSW 3 hts gL_law_L_setRank rfl rfl rfl (by decide +kernel) ⟨(Nat.le_of_ble_eq_true rfl), (Nat.le_of_ble_eq_true rfl)⟩) hG hK hW hA rfl hl.1 rfl (lv_room (Nat.le_of_ble_eq_true rfl)) dL_law_378 ⟨(Nat.le_of_ble_eq_true rfl), (Nat.le_of_ble_eq_true rfl)⟩ (fun H locs hW => ?_)
                                                          have hW : ze_W D ((ze_wC c a n A B E) ++ [(q, .inl (c 0, 210, .inl N))]) F s.heap _ _ := hW
                                                          refine lv_ldc (own := RL) (v := -900001) hX_ hB_ S.2.2.2.1 w1 dL_law_381 ?_
                                                          refine lv_icmp_ne (tgt := 489) hX_ hB_ dL_law_383 (by decide) (fun c383 => ?_) (fun c383 => ?_)
                                                          · exact absurd c383 (by decide)
                                                          · refine lv_aload_n hX_ hB_ dL_law_386 rfl (lv_at hl 1 rfl) ?_
                                                            refine lv_iconst (v := 0) hX_ hB_ dL_law_387 (by decide) ?_
                                                            refine lv_iconst (v := 0) hX_ hB_ dL_law_388 (by decide) ?_
                                                            refine xb_FSq (As := [.ref (a 0), .int 0, .int 0]) (rest := []) S (xw_setRank_t2 l D hst c a n A B E 0 hN (by omega) 0 (by decide)) (vx_cwSW 3 hts gL_law_L_setRank rfl rfl rfl (by decide +kernel) ⟨(Nat.le_of_ble_eq_true rfl), (Nat.le_of_ble_eq_true rfl)⟩) hG hK hW hA rfl hl.1 rfl (lv_room (Nat.le_of_ble_eq_true rfl)) dL_law_389 ⟨(Nat.le_of_ble_eq_true rfl), (Nat.le_of_ble_eq_true rfl)⟩ (fun H locs hW => ?_)
                                                            have hW : ze_W D ((ze_wC c a n A B E) ++ [(q, .inl (c 0, 210, .inl N))]) F s.heap _ _ := hW
                                                            refine lv_ldc (own := RL) (v := -900002) hX_ hB_ S.2.2.2.1 w2 dL_law_392 ?_
                                                            refine lv_icmp_ne (tgt := 489) hX_ hB_ dL_law_394 (by decide) (fun c394 => ?_) (fun c394 => ?_)
                                                            · exact absurd c394 (by decide)
                                                            · refine lv_aload_n hX_ hB_ dL_law_397 rfl (lv_at hl 1 rfl) ?_
                                                              refine lv_iconst (v := (-1)) hX_ hB_ dL_law_398 (by decide) ?_
                                                              refine xb_FSq (As := [.ref (a 0), .int (-1)]) (rest := []) S (xw_isLit_t1 l D hst c a n A B E (-1) hN (xe_lo (by omega))) (vx_cwSW 2 hts gL_law_L_isLit rfl rfl rfl (by decide +kernel) ⟨(Nat.le_of_ble_eq_true rfl), (Nat.le_of_ble_eq_true rfl)⟩) hG hK hW hA rfl hl.1 rfl (lv_room (Nat.le_of_ble_eq_true rfl)) dL_law_399 ⟨(Nat.le_of_ble_eq_true rfl), (Nat.le_of_ble_eq_true rfl)⟩ (fun H locs hW => ?_)
                                                              have hW : ze_W D ((ze_wC c a n A B E) ++ [(q, .inl (c 0, 210, .inl N))]) F s.heap _ _ := hW
                                                              refine lv_ldc (own := RL) (v := -900001) hX_ hB_ S.2.2.2.1 w1 dL_law_402 ?_
                                                              refine lv_icmp_ne (tgt := 489) hX_ hB_ dL_law_404 (by decide) (fun c404 => ?_) (fun c404 => ?_)
                                                              · exact absurd c404 (by decide)
                                                              · refine lv_aload_n hX_ hB_ dL_law_407 rfl (lv_at hl 1 rfl) ?_
                                                                refine lv_aload_n hX_ hB_ dL_law_408 rfl (lv_at hl 2 rfl) ?_
                                                                refine lv_iconst (v := 4) hX_ hB_ dL_law_409 (by decide) ?_
                                                                refine ze_ialdN hX_ hB_ hK hW ((ze_wC c a n A B E).length + 0) (f := N) (ze_appL (k := 0) rfl) (i := 4) (by omega) (by decide) dL_law_410 ?_
                                                                refine ze_top (y := nI (n 4)) hR.1.2.2.2.2 ?_
                                                                refine xb_FSq (As := [.ref (a 0), .int (nI (n 4))]) (rest := []) S (xw_waits_t1 l D hst c a n A B E (nI (n 4)) hN (xe_hi (by omega))) (vx_cwSW 2 hts gL_law_L_waits rfl rfl rfl (by decide +kernel) ⟨(Nat.le_of_ble_eq_true rfl), (Nat.le_of_ble_eq_true rfl)⟩) hG hK hW hA rfl hl.1 rfl (lv_room (Nat.le_of_ble_eq_true rfl)) dL_law_411 ⟨(Nat.le_of_ble_eq_true rfl), (Nat.le_of_ble_eq_true rfl)⟩ (fun H locs hW => ?_)
                                                                have hW : ze_W D ((ze_wC c a n A B E) ++ [(q, .inl (c 0, 210, .inl N))]) F s.heap _ _ := hW
                                                                refine lv_ldc (own := RL) (v := -900001) hX_ hB_ S.2.2.2.1 w1 dL_law_414 ?_
                                                                refine lv_icmp_ne (tgt := 489) hX_ hB_ dL_law_416 (by decide) (fun c416 => ?_) (fun c416 => ?_)
                                                                · exact absurd c416 (by decide)
                                                                · refine lv_aload_n hX_ hB_ dL_law_419 rfl (lv_at hl 1 rfl) ?_
                                                                  refine lv_sipush (v := 1000) hX_ hB_ dL_law_420 (by decide) ?_
                                                                  refine xb_FSq (As := [.ref (a 0), .int 1000]) (rest := []) S (xw_setReserve_t1 l D hst c a n A B E 1000 (by decide)) (vx_cwSW 2 hts gL_law_L_setReserve rfl rfl rfl (by decide +kernel) ⟨(Nat.le_of_ble_eq_true rfl), (Nat.le_of_ble_eq_true rfl)⟩) hG hK hW hA rfl hl.1 rfl (lv_room (Nat.le_of_ble_eq_true rfl)) dL_law_423 ⟨(Nat.le_of_ble_eq_true rfl), (Nat.le_of_ble_eq_true rfl)⟩ (fun H locs hW => ?_)
                                                                  have hW : ze_W D ((ze_wC c a n A B E) ++ [(q, .inl (c 0, 210, .inl N))]) F s.heap _ _ := hW
                                                                  refine lv_ldc (own := RL) (v := -900001) hX_ hB_ S.2.2.2.1 w1 dL_law_426 ?_
                                                                  refine lv_icmp_ne (tgt := 489) hX_ hB_ dL_law_428 (by decide) (fun c428 => ?_) (fun c428 => ?_)
                                                                  · exact absurd c428 (by decide)
                                                                  · refine lv_aload_n hX_ hB_ dL_law_431 rfl (lv_at hl 1 rfl) ?_
                                                                    refine lv_bipush (v := 10) hX_ hB_ dL_law_432 (by decide) ?_
                                                                    refine xb_FSq (As := [.ref (a 0), .int 10]) (rest := []) S (xw_setDelay_t1 l D hst c a n A B E 10 (by decide)) (vx_cwSW 2 hts gL_law_L_setDelay rfl rfl rfl (by decide +kernel) ⟨(Nat.le_of_ble_eq_true rfl), (Nat.le_of_ble_eq_true rfl)⟩) hG hK hW hA rfl hl.1 rfl (lv_room (Nat.le_of_ble_eq_true rfl)) dL_law_434 ⟨(Nat.le_of_ble_eq_true rfl), (Nat.le_of_ble_eq_true rfl)⟩ (fun H locs hW => ?_)
                                                                    have hW : ze_W D ((ze_wC c a n A B E) ++ [(q, .inl (c 0, 210, .inl N))]) F s.heap _ _ := hW
                                                                    refine lv_ldc (own := RL) (v := -900001) hX_ hB_ S.2.2.2.1 w1 dL_law_437 ?_
                                                                    refine lv_icmp_ne (tgt := 489) hX_ hB_ dL_law_439 (by decide) (fun c439 => ?_) (fun c439 => ?_)
                                                                    · exact absurd c439 (by decide)
                                                                    · refine lv_aload_n hX_ hB_ dL_law_442 rfl (lv_at hl 1 rfl) ?_
                                                                      refine lv_aload_n hX_ hB_ dL_law_443 rfl (lv_at hl 2 rfl) ?_
                                                                      refine lv_iconst (v := 0) hX_ hB_ dL_law_444 (by decide) ?_
                                                                      refine ze_ialdN hX_ hB_ hK hW ((ze_wC c a n A B E).length + 0) (f := N) (ze_appL (k := 0) rfl) (i := 0) (by omega) (by decide) dL_law_445 ?_
                                                                      refine ze_top (y := nI (n 0)) hR.1.1 ?_
                                                                      refine xb_FSq (As := [.ref (a 0), .int (nI (n 0))]) (rest := []) S (xw_bound_t1 l D hst c a n A B E (nI (n 0)) hN (xe_hi (by omega))) (vx_cwSW 2 hts gL_law_L_bound rfl rfl rfl (by decide +kernel) ⟨(Nat.le_of_ble_eq_true rfl), (Nat.le_of_ble_eq_true rfl)⟩) hG hK hW hA rfl hl.1 rfl (lv_room (Nat.le_of_ble_eq_true rfl)) dL_law_446 ⟨(Nat.le_of_ble_eq_true rfl), (Nat.le_of_ble_eq_true rfl)⟩ (fun H locs hW => ?_)
                                                                      have hW : ze_W D ((ze_wC c a n A B E) ++ [(q, .inl (c 0, 210, .inl N))]) F s.heap _ _ := hW
                                                                      refine lv_ldc (own := RL) (v := -900001) hX_ hB_ S.2.2.2.1 w1 dL_law_449 ?_
                                                                      refine lv_icmp_ne (tgt := 489) hX_ hB_ dL_law_451 (by decide) (fun c451 => ?_) (fun c451 => ?_)
                                                                      · exact absurd c451 (by decide)
                                                                      · refine lv_aload_n hX_ hB_ dL_law_454 rfl (lv_at hl 1 rfl) ?_
                                                                        refine lv_iconst (v := (-1)) hX_ hB_ dL_law_455 (by decide) ?_
                                                                        refine xb_FSq (As := [.ref (a 0), .int (-1)]) (rest := []) S (xw_demand_t1 l D hst c a n A B E (-1) hN (xe_lo (by omega))) (vx_cwSW 2 hts gL_law_L_demand rfl rfl rfl (by decide +kernel) ⟨(Nat.le_of_ble_eq_true rfl), (Nat.le_of_ble_eq_true rfl)⟩) hG hK hW hA rfl hl.1 rfl (lv_room (Nat.le_of_ble_eq_true rfl)) dL_law_456 ⟨(Nat.le_of_ble_eq_true rfl), (Nat.le_of_ble_eq_true rfl)⟩ (fun H locs hW => ?_)
                                                                        have hW : ze_W D ((ze_wC c a n A B E) ++ [(q, .inl (c 0, 210, .inl N))]) F s.heap _ _ := hW
                                                                        refine lv_ldc (own := RL) (v := -900001) hX_ hB_ S.2.2.2.1 w1 dL_law_459 ?_
                                                                        refine lv_icmp_ne (tgt := 489) hX_ hB_ dL_law_461 (by decide) (fun c461 => ?_) (fun c461 => ?_)
                                                                        · exact absurd c461 (by decide)
                                                                        · refine lv_aload_n hX_ hB_ dL_law_464 rfl (lv_at hl 1 rfl) ?_
                                                                          refine lv_iconst (v := 0) hX_ hB_ dL_law_465 (by decide) ?_
                                                                          refine xb_FSq (As := [.ref (a 0), .int 0]) (rest := []) S (xw_pass_t1 l D hst c a n A B E 0 (by decide)) (vx_cwSW 2 hts gL_law_L_pass rfl rfl rfl (by decide +kernel) ⟨(Nat.le_of_ble_eq_true rfl), (Nat.le_of_ble_eq_true rfl)⟩) hG hK hW hA rfl hl.1 rfl (lv_room (Nat.le_of_ble_eq_true rfl)) dL_law_466 ⟨(Nat.le_of_ble_eq_true rfl), (Nat.le_of_ble_eq_true rfl)⟩ (fun H locs hW => ?_)
                                                                          have hW : ze_W D ((ze_wC c a n A B E) ++ [(q, .inl (c 0, 210, .inl N))]) F s.heap _ _ := hW
                                                                          refine lv_ldc (own := RL) (v := -900001) hX_ hB_ S.2.2.2.1 w1 dL_law_469 ?_
                                                                          refine lv_icmp_ne (tgt := 489) hX_ hB_ dL_law_471 (by decide) (fun c471 => ?_) (fun c471 => ?_)
                                                                          · exact absurd c471 (by decide)
                                                                          · refine lv_aload_n hX_ hB_ dL_law_474 rfl (lv_at hl 1 rfl) ?_
                                                                            refine lv_bipush (v := 13) hX_ hB_ dL_law_475 (by decide) ?_
                                                                            refine xb_FSq (As := [.ref (a 0), .int 13]) (rest := []) S (xw_pass_t1 l D hst c a n A B E 13 (by decide)) (vx_cwSW 2 hts gL_law_L_pass rfl rfl rfl (by decide +kernel) ⟨(Nat.le_of_ble_eq_true rfl), (Nat.le_of_ble_eq_true rfl)⟩) hG hK hW hA rfl hl.1 rfl (lv_room (Nat.le_of_ble_eq_true rfl)) dL_law_477 ⟨(Nat.le_of_ble_eq_true rfl), (Nat.le_of_ble_eq_true rfl)⟩ (fun H locs hW => ?_)
                                                                            have hW : ze_W D ((ze_wC c a n A B E) ++ [(q, .inl (c 0, 210, .inl N))]) F s.heap _ _ := hW
                                                                            refine lv_ldc (own := RL) (v := -900001) hX_ hB_ S.2.2.2.1 w1 dL_law_480 ?_
                                                                            refine lv_icmp_ne (tgt := 489) hX_ hB_ dL_law_482 (by decide) (fun c482 => ?_) (fun c482 => ?_)
                                                                            · exact absurd c482 (by decide)
                                                                            · refine lv_iconst (v := 1) hX_ hB_ dL_law_485 (by decide) ?_
                                                                              refine lv_goto (tgt := 490) hX_ hB_ dL_law_486 (by decide) ?_
                                                                              refine va_forget (fun q hq => by have z9 := hW.2.2.2.2 q hq; rw [hFz] at z9; exact z9) ?_
                                                                              refine W.widen (k := 672229) (n := 7085011) (by omega) (by omega) ?_
                                                                              exact lw_ret (Drawn.sameBut.refl s.drawn lw_cs) hX_ hB_ hr hlocks dL_law_490
        · have c31 : k < 40 := Nat.lt_of_not_le (fun h9 => c31 ((nI_leI (a := 40) (b := k) (by omega) (by omega)).mpr h9))
          refine lv_aload_n hX_ hB_ dL_law_34 rfl (lv_at hl 1 rfl) ?_
          refine lv_aload_n hX_ hB_ dL_law_35 rfl (lv_at hl 2 rfl) ?_
          refine lv_aload_n hX_ hB_ dL_law_36 rfl (lv_at hl 3 rfl) ?_
          refine lv_sipush (v := 130) hX_ hB_ dL_law_37 (by decide) ?_
          refine lv_iconst (v := 5) hX_ hB_ dL_law_40 (by decide) ?_
          refine lv_iload_n hX_ hB_ dL_law_41 rfl (lv_at hl 0 rfl) ?_
          refine lv_imul hX_ hB_ dL_law_42 ?_
          refine ze_top (xb_mul (a := 5) (b := k) (c := 5 * k) (by omega)) ?_
          refine lv_iadd hX_ hB_ dL_law_43 ?_
          refine ze_top (xb_add (a := 130) (b := 5 * k) (c := 5 * k + 130) (by omega)) ?_
          have hW := ze_W0 hW
          refine xb_FSm (As := [.ref (a 0), .ref q, .ref b, .int (nI (5 * k + 130))]) (rest := []) S (xj_isDone l D hst c q a n A B E N (3 * k) hI b L xs hL (5 * k + 130) (by omega) h0 h2p h4p (by omega)) (va_cwS 4 hts gL_law_L_isDone rfl rfl rfl (by decide +kernel) ⟨(Nat.le_of_ble_eq_true rfl), (Nat.le_of_ble_eq_true rfl)⟩) (Or.inr rfl) hG hK hW hA rfl hl.1 rfl (lv_room (Nat.le_of_ble_eq_true rfl)) dL_law_44 ⟨(by show 217 + 34 * k + 18 ≤ 672229; omega), (by show 2306 + 204 * k + 108 ≤ 7085011; omega)⟩ (fun r_ u9 hu9 H locs hW => ?_)
          obtain ⟨a9, n9, A9, B9, E9, N9⟩ := u9
          obtain ⟨hr9, ha9, hI9, hn9, h29, h49⟩ := hu9
          have ha9 : a9 0 = a 0 := ha9
          have hI9 : xd_I n9 A9 B9 E9 N9 (3 * k + 3) := hI9
          have hn9 : n9 0 = n 0 := hn9
          have h29 : n 2 ≤ n9 2 := h29
          have h49 : n 4 ≤ n9 4 := h49
          subst hr9
          have hW := ze_W0' hW
          have hW : ze_W D ((ze_wC c a9 n9 A9 B9 E9) ++ [(q, .inl (c 0, 210, .inl N9))]) F s.heap _ _ := hW
          rw [← ha9] at hl
          refine lv_if_eq (tgt := 58) hX_ hB_ dL_law_47 (by decide) (fun c47 => ?_) (fun c47 => ?_)
          · exact absurd c47 (by decide)
          · refine lv_aload_n hX_ hB_ dL_law_50 rfl (lv_at hl 1 rfl) ?_
            refine lv_aload_n hX_ hB_ dL_law_51 rfl (lv_at hl 2 rfl) ?_
            have hW := ze_W0 hW
            refine xb_FSm (As := [.ref (a9 0), .ref q]) (rest := []) S (xj_isTold l D hst c q a9 n9 A9 B9 E9 N9 (3 * k + 3) hI9 (by omega)) (va_cwS 2 hts gL_law_L_isTold rfl rfl rfl (by decide +kernel) ⟨(Nat.le_of_ble_eq_true rfl), (Nat.le_of_ble_eq_true rfl)⟩) (Or.inl rfl) hG hK hW hA rfl hl.1 rfl (lv_room (Nat.le_of_ble_eq_true rfl)) dL_law_52 ⟨(by show 217 + 34 * k + 18 + 16 ≤ 672229; omega), (by show 2306 + 204 * k + 108 + 96 ≤ 7085011; omega)⟩ (fun r_ u9 hu9 H locs hW => ?_)
            obtain ⟨a8, n8, A8, B8, E8, N8⟩ := u9
            obtain ⟨hr9, ha8, hI8, hn8, h28, h48⟩ := hu9
            have ha8 : a8 0 = a9 0 := ha8
            have hI8 : xd_I n8 A8 B8 E8 N8 (3 * k + 3) := hI8
            have hn8 : n8 0 = n9 0 := hn8
            have h28 : n9 2 ≤ n8 2 := h28
            have h48 : n9 4 ≤ n8 4 := h48
            subst hr9
            have hW := ze_W0' hW
            have hW : ze_W D ((ze_wC c a8 n8 A8 B8 E8) ++ [(q, .inl (c 0, 210, .inl N8))]) F s.heap _ _ := hW
            rw [← ha8] at hl
            refine lv_if_ne (tgt := 60) hX_ hB_ dL_law_55 (by decide) (fun c55 => ?_) (fun c55 => ?_)
            · refine lv_iinc (v := nI (k + 1)) (lv' := [(3, .int (nI (k + 1))), (2, .ref (a8 0)), (1, .ref q), (0, .ref b)]) hX_ hB_ dL_law_60 hl (k := 0) rfl (ze_inc _) (by decide) rfl (fun ls hl => ?_)
              refine lv_goto (tgt := 28) hX_ hB_ dL_law_63 (by decide) ?_
              refine W.widen (k := 217 + 34 * (k + 1)) (n := 2306 + 204 * (k + 1)) (by omega) (by omega) ?_
              exact ih28 a8 n8 A8 B8 E8 N8 (k + 1) (by rw [show 3 * (k + 1) = 3 * k + 3 by omega]; exact hI8) (by omega) (by omega) (by omega) (by omega) (by omega) _ _ ls hW (lv_sub hl [0, 1, 2, 3] rfl)
            · exact absurd c55 (by decide)
    exact L28 _ a9 n9 A9 B9 E9 N9 0 hI9 (by omega) (by omega) (by omega) (by omega) (Nat.lt_succ_self _) _ _ ls hW (lv_sub hl [0, 1, 2, 3] rfl)
  · exact absurd c21 (by decide)
