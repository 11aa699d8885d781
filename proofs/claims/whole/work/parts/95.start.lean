/-! ===== the law from its entry ===== -/
theorem zy_ac {ty : FieldType} {s : State} {args : Array Value} (h : (Cond.arrayClass ty).before args s = true) : ∃ cA : ClassId, ArrOfT s cA ty ∧ s.vm.findClass ("[" ++ ty.toString) = some cA := by
  obtain ⟨cA, kA, comp, h1, h2, h3⟩ := Cond.arrayClass_spec h
  exact ⟨cA, fun n z => ⟨fun k h => (by cases h), kA, h2, comp, h3⟩, h1⟩
theorem zy_ao {C : String} {s : State} {args : Array Value} (h : (Cond.arrayOver (.object C)).before args s = true) : ∃ cA : ClassId, ArrOfT s cA (.object C) ∧ va_RA s cA (.object C) := by
  obtain ⟨comp, cA, kA, h1, h2, h3, h4, h5⟩ := Cond.arrayOver_spec h
  exact ⟨cA, fun n z => ⟨fun k h => (by cases h), kA, h3, comp, h4⟩, kA, comp, h3, h4, h1, h5⟩
section ZY
variable {p : Program} {l : Launch} {e : Env} {R : Room} {s : State} {m : MethodId} {args : Array Value} {below : List Frame} {meth : Method} {cd : Code} {H : Heap} {locs : List Loc} {cells slots : Nat} {Q : State → Prop}
variable {cc : ByteArray} {pc : Nat} {ls : Array Slot} {rest : List Value} {D : va_G} {c : Nat → ClassId} {ws : va_W} {F : Nat → Prop} {H0 : Heap}
theorem ze_newj {maxL : Nat} {Ts : List Cond} {own : String} (S : CallFix p m cd cc maxL s args Ts own) (harr : (Cond.arrayClass .long).before args s = true) (hK : va_K D vwCl (ze_ty c) s) (hW : ze_W D ws F H0 H locs) (hA : ∀ q : Nat, H0.size ≤ q → F q) {N : Nat} (hN : N < 1000) (hcells : cells + 1 ≤ R.cells) (hslots : slots + N ≤ R.slots) (hdg : decode cc pc = .ok (.newarray .long, 2))
    (kk : ∀ (q : Nat) (H1 : Heap), ze_W D (ws ++ [(q, .inl (c 6, N, .inr (.inl (fun _ => 0))))]) F H0 H1 locs → W p l e R s m args below meth cd H1 locs (cells + 1) (slots + N) Q (F0 m (pc + 2) ls (.ref q :: rest))) : W p l e R s m args below meth cd H locs cells slots Q (F0 m pc ls (.int (nI N) :: rest)) := by
  refine va_newa (atype := .long) (ty := .long) (N' := N) (a0 := (N, .inr (.inl (fun _ => 0)))) S.1 S.2.1 harr rfl hK hW.1 hW.2.1 hW.2.2 hA (fun cA => rfl) (nI_pos (by omega)) (nI_clamp (by omega)) (by have : componentBytes .long = 8 := rfl; rw [this]; omega) hcells hslots hdg (fun q cA H1 hK1 hP1 hD1 hS1 => ?_)
  have e1 := (hK1.2 (ze_ty c).length (cA, .long) (by simp)).2
  have e2 := (hK.2 6 (c 6, .long) rfl).2
  have e3 : cA = c 6 := Option.some.inj (e1.symm.trans e2)
  subst e3
  exact kk q H1 ⟨hP1, hD1, hS1⟩
theorem ze_newd {maxL : Nat} {Ts : List Cond} {own : String} (S : CallFix p m cd cc maxL s args Ts own) (harr : (Cond.arrayClass .double).before args s = true) (hK : va_K D vwCl (ze_ty c) s) (hW : ze_W D ws F H0 H locs) (hA : ∀ q : Nat, H0.size ≤ q → F q) {N : Nat} (hN : N < 1000) (hcells : cells + 1 ≤ R.cells) (hslots : slots + N ≤ R.slots) (hdg : decode cc pc = .ok (.newarray .double, 2))
    (kk : ∀ (q : Nat) (H1 : Heap), ze_W D (ws ++ [(q, .inl (c 7, N, .inr (.inr (.inr (.inl (fun _ => 0))))))]) F H0 H1 locs → W p l e R s m args below meth cd H1 locs (cells + 1) (slots + N) Q (F0 m (pc + 2) ls (.ref q :: rest))) : W p l e R s m args below meth cd H locs cells slots Q (F0 m pc ls (.int (nI N) :: rest)) := by
  refine va_newa (atype := .double) (ty := .double) (N' := N) (a0 := (N, .inr (.inr (.inr (.inl (fun _ => 0)))))) S.1 S.2.1 harr rfl hK hW.1 hW.2.1 hW.2.2 hA (fun cA => rfl) (nI_pos (by omega)) (nI_clamp (by omega)) (by have : componentBytes .double = 8 := rfl; rw [this]; omega) hcells hslots hdg (fun q cA H1 hK1 hP1 hD1 hS1 => ?_)
  have e1 := (hK1.2 (ze_ty c).length (cA, .double) (by simp)).2
  have e2 := (hK.2 7 (c 7, .double) rfl).2
  have e3 : cA = c 7 := Option.some.inj (e1.symm.trans e2)
  subst e3
  exact kk q H1 ⟨hP1, hD1, hS1⟩
end ZY
theorem zy_txi : ∀ q ∈ zx_tx, Cond.stringRef RX8 q.1 q.2 ∈ lw_tbl := by decide +kernel
theorem zy_txe : ∀ q ∈ zx_tx, Cond.exactly (.string RX8 q.1) "java/lang/String" ∈ flatC (Jvm.Cond.and given_1 narrow_1) := by decide +kernel
theorem zy_nci : ∀ q ∈ zq_nc, Cond.not (.castable q.1 q.2) ∈ flatC (Jvm.Cond.and given_1 narrow_1) := by decide +kernel
theorem zy_bdi : ∀ w ∈ zx_bad, w ∈ lw_tbl := by decide +kernel
theorem zy_bdt : ∀ w ∈ zx_bad, w.onTables = true := by decide +kernel
theorem zy_I0 : zv_I (fun _ => 0) zs_A (fun _ _ => 0) (fun _ => 0) := by
  refine ⟨⟨Nat.zero_le _, Nat.zero_le _, Nat.zero_le _, Nat.zero_le _, Nat.zero_le _⟩, ⟨fun i h => absurd h (Nat.not_lt_zero _), fun i h => absurd h (Nat.not_lt_zero _), fun i h => absurd h (Nat.not_lt_zero _), fun i h => absurd h (Nat.not_lt_zero _)⟩, ?_, fun _ _ => rfl, fun _ => Or.inl rfl, fun _ _ => rfl, Or.inl rfl, fun g h => absurd h (Nat.not_lt_zero _), ⟨fun _ => 0, fun g h => absurd h (Nat.not_lt_zero _), fun g h => absurd h (Nat.not_lt_zero _), fun g h => absurd h (Nat.not_lt_zero _), rfl⟩, ⟨fun _ _ => ⟨rfl, rfl⟩, fun _ _ => ⟨rfl, rfl⟩, fun _ _ => ⟨rfl, rfl⟩⟩, 0, rfl, by decide⟩
  rfl
set_option maxHeartbeats 4000000 in
set_option maxRecDepth 100000 in
/-- YOUR PART: from the entry, for every script of at most 3072 ints, the law comes to its end with true ('hflags': the launch's flags, for a law that throws: no stack traces) -/
theorem whole_start {p : Program} {e : Env} {s : State} {m : MethodId} {below : List Frame} {meth : Method} {c : Code} (l : Launch) (hflags : l.flags = flags0) {b L : Nat} {xs : Nat → Int32} (hL : L ≤ 3072) (C0 : lw_At p s m meth c b L xs) : W p l e room_1 s m #[Value.ref b] below meth c s.heap [] 0 0 (lw_Z below #[Value.ref b] s) (entryFrame m ([Value.ref b] : List Value).toArray 8) := by
  obtain ⟨hx, hb, hr, hml, hown, htt, hX, hbl, hlocks, hgv⟩ := id C0
  have hst : l.stackTraces = false := by
    unfold Launch.stackTraces
    rw [hflags]
    decide
  have hfl := flat_of_before _ hgv
  have hts : ∀ w ∈ wsL_law_n, w.before #[Value.ref b] s = true := fun w h => htt w (wsL_law_in w h)
  have S : CallFix p m c cL_law 8 s #[Value.ref b] wsL_law_n RL := ⟨hx, hb, hml, hown, hts⟩
  have hA : ∀ q : Nat, s.heap.size ≤ q → zy_F s q := fun _ h => h
  have hno : ∀ a : Nat, a < s.heap.size → ¬ zy_F s a := fun a h => Nat.not_le.mpr h
  have hXB : zx_B (zy_F s) s s.heap := ⟨vx_Zqof (htt (.laysStatic Bundle.tN "UNASSIGNED_STACK" Bundle.steD) (by decide +kernel)) (htt (.initialized Bundle.tN) (by decide +kernel)) (hfl (.isRef (.static Bundle.tN "UNASSIGNED_STACK" Bundle.steD)) (by decide +kernel)) hno,
    vx_Zqof (htt (.laysStatic Bundle.tN "SUPPRESSED_SENTINEL" Bundle.listD) (by decide +kernel)) (htt (.initialized Bundle.tN) (by decide +kernel)) (hfl (.isRef (.static Bundle.tN "SUPPRESSED_SENTINEL" Bundle.listD)) (by decide +kernel)) hno,
    fun q hq => by
      obtain ⟨a, _, _, _, ha, _⟩ := Cond.exactly_spec (hfl _ (zy_txe q hq))
      exact ⟨a, vk_R.of (htt _ (zy_txi q hq)) ha⟩,
    fun w hw => va_Nw.of (zy_bdt w hw) (htt w (zy_bdi w hw))⟩
  have hNc : zq_N s := fun q hq => va_Nc.of (hfl _ (zy_nci q hq))
  have hZ : zk s := ⟨va_AO.of (htt (.arrayOver (.object RX1)) (by decide +kernel)), va_AO.of (htt (.arrayOver (.object RX7)) (by decide +kernel)), va_AO.of (htt (.arrayOver (.object RX3)) (by decide +kernel)), va_Nw.of rfl (htt (.methodLinkNest RX8 9 yX5_init RX8) (by decide +kernel)), va_Nw.of rfl (htt (.methodLinkNest RX8 41 yX2_init RX8) (by decide +kernel))⟩
  obtain ⟨k0, i0, n0⟩ := u_known (C := RX0) (T := TX0) (N := 5) (n := 5) htt inX0 (htt (.instantiable RX0 5) (by decide +kernel))
  obtain ⟨k1, i1, n1⟩ := u_known (C := RX1) (T := TX1) (N := 8) (n := 8) htt inX1 (htt (.instantiable RX1 8) (by decide +kernel))
  obtain ⟨k2, i2, n2⟩ := u_known (C := RX2) (T := TX2) (N := 6) (n := 6) htt inX2 (htt (.instantiable RX2 6) (by decide +kernel))
  obtain ⟨k3, i3, n3⟩ := u_known (C := RX3) (T := TX3) (N := 6) (n := 6) htt inX3 (htt (.instantiable RX3 6) (by decide +kernel))
  obtain ⟨k4, i4, n4⟩ := u_known (C := RX4) (T := TX4) (N := 3) (n := 3) htt inX4 (htt (.instantiable RX4 3) (by decide +kernel))
  obtain ⟨k5, i5, n5⟩ := u_known (C := RX5) (T := TX5) (N := 10) (n := 10) htt inX5 (htt (.instantiable RX5 10) (by decide +kernel))
  obtain ⟨k6, i6, n6⟩ := u_known (C := RX6) (T := TX6) (N := 3) (n := 3) htt inX6 (htt (.instantiable RX6 3) (by decide +kernel))
  obtain ⟨k7, i7, n7⟩ := u_known (C := RX7) (T := TX7) (N := 5) (n := 5) htt inX7 (htt (.instantiable RX7 5) (by decide +kernel))
  obtain ⟨k8, i8, n8⟩ := u_known (C := RX8) (T := TX8) (N := 8) (n := 8) htt inX8 (htt (.instantiable RX8 8) (by decide +kernel))
  obtain ⟨k9, i9, n9⟩ := u_known (C := RX9) (T := TX9) (N := 39) (n := 39) htt inX9 (htt (.instantiable RX9 39) (by decide +kernel))
  obtain ⟨c0, a0, g0⟩ := zy_ac (ty := .int) (htt (.arrayClass .int) (by decide +kernel))
  obtain ⟨c1, a1, g1⟩ := zy_ac (ty := .boolean) (htt (.arrayClass .boolean) (by decide +kernel))
  obtain ⟨c2, a2, g2⟩ := zy_ac (ty := .char) (htt (.arrayClass .char) (by decide +kernel))
  obtain ⟨c3, a3, g3⟩ := zy_ao (C := RX1) hZ.1
  obtain ⟨c4, a4, g4⟩ := zy_ao (C := RX7) hZ.2.1
  obtain ⟨c5, a5, g5⟩ := zy_ao (C := RX3) hZ.2.2.1
  obtain ⟨c6, a6, g6⟩ := zy_ac (ty := .long) (htt (.arrayClass .long) (by decide +kernel))
  obtain ⟨c7, a7, g7⟩ := zy_ac (ty := .double) (htt (.arrayClass .double) (by decide +kernel))
  obtain ⟨D, ci, hK⟩ : ∃ (D : va_G) (ci : Nat → ClassId), va_K D vwCl (ze_ty ci) s := by
    refine ⟨(fun k => match k with | 0 => k0 | 1 => k1 | 2 => k2 | 3 => k3 | 4 => k4 | 5 => k5 | 6 => k6 | 7 => k7 | 8 => k8 | _ => k9, fun k => match k with | 0 => i0 | 1 => i1 | 2 => i2 | 3 => i3 | 4 => i4 | 5 => i5 | 6 => i6 | 7 => i7 | 8 => i8 | _ => i9), fun k => match k with | 0 => c0 | 1 => c1 | 2 => c2 | 3 => c3 | 4 => c4 | 5 => c5 | 6 => c6 | _ => c7, ?_, ?_⟩
    · intro k q hq
      match k, hq with
      | 0, hq => cases hq; exact n0
      | 1, hq => cases hq; exact n1
      | 2, hq => cases hq; exact n2
      | 3, hq => cases hq; exact n3
      | 4, hq => cases hq; exact n4
      | 5, hq => cases hq; exact n5
      | 6, hq => cases hq; exact n6
      | 7, hq => cases hq; exact n7
      | 8, hq => cases hq; exact n8
      | 9, hq => cases hq; exact n9
      | k + 10, hq => exact absurd hq (by simp [vwCl])
    · intro k q hq
      match k, hq with
      | 0, hq => cases hq; exact ⟨a0, g0⟩
      | 1, hq => cases hq; exact ⟨a1, g1⟩
      | 2, hq => cases hq; exact ⟨a2, g2⟩
      | 3, hq => cases hq; exact ⟨a3, g3⟩
      | 4, hq => cases hq; exact ⟨a4, g4⟩
      | 5, hq => cases hq; exact ⟨a5, g5⟩
      | 6, hq => cases hq; exact ⟨a6, g6⟩
      | 7, hq => cases hq; exact ⟨a7, g7⟩
      | k + 8, hq => exact absurd hq (by simp [ze_ty])
  have C : zy_C p l s m c D ci b L xs := ⟨S, hst, hX, hbl, hXB, hNc, hK, hL⟩
  have hW : ze_W D [] (zy_F s) s.heap s.heap [] := ⟨fun k q h => by simp at h, ⟨fun i j p q h => by simp at h, fun k q h => by simp at h⟩, va_S.rf⟩
  have hl := lv_entry ([.ref b]) (n := 8) (Nat.le_of_ble_eq_true rfl)
  rw [lg_entry_eq]
  generalize (lg_sl ([.ref b]) ++ List.replicate (8 - (lg_sl ([.ref b])).length) Slot.unset).toArray = ls at hl ⊢
  have hl : lv_has ls 8 [(0, .ref b)] := hl
  have m8 : ∀ w ∈ u_ws RX8 TX8 8, w ∈ wsL_law_n := inlX8
  have m9 : ∀ w ∈ u_ws RX9 TX9 39, w ∈ wsL_law_n := inlX9
  have w1 := htt (.classLink RL 8 RX8) (by decide +kernel)
  have w2 := htt (.instantiable RX8 8) (by decide +kernel)
  have w3 := htt (.initialized RX8) (by decide +kernel)
  have w4 := htt (.methodLink RL 141 yX8_init) (by decide +kernel)
  have w5 := htt (.instanceMethod yX8_init) (by decide +kernel)
  have v1 := htt (.classLink RL 142 RX9) (by decide +kernel)
  have v2 := htt (.instantiable RX9 39) (by decide +kernel)
  have v3 := htt (.initialized RX9) (by decide +kernel)
  have v4 := htt (.methodLink RL 144 yX9_init) (by decide +kernel)
  have v5 := htt (.instanceMethod yX9_init) (by decide +kernel)
  refine ze_new (ci := 8) (C := RX8) (T := TX8) (N := 8) (fs := [.null, .null, .null, .null, .null, .int 0, .int 0, .int 0]) S m8 tyX8 tyX8_ok w1 w2 w3 hK hW hA rfl (by decide) (Nat.le_of_ble_eq_true rfl) (Nat.le_of_ble_eq_true rfl) dL_law_0 (fun r0 H hW => ?_)
  refine lv_dup hx hb dL_law_3 rfl ?_
  have hW := ze_W0 hW
  refine ze_FIg (As := []) (rest := [.ref r0]) S (zi_X8 l D ci r0) (cwI 0 hts gL_law_X8_init_n rfl rfl rfl w3 w4 w5 rfl (by decide +kernel) ⟨Nat.le_of_ble_eq_true rfl, Nat.le_of_ble_eq_true rfl⟩) hZ hK hW hA rfl hl.1 rfl (lv_room (Nat.le_of_ble_eq_true rfl)) dL_law_4 ⟨Nat.le_of_ble_eq_true rfl, Nat.le_of_ble_eq_true rfl⟩ (fun an H locs hW => ?_)
  rw [zs_C ci an r0] at hW
  have hW := ze_W0' hW
  refine lv_astore_n (lv' := [(1, .ref r0), (0, .ref b)]) hx hb dL_law_7 rfl hl (by decide) rfl (fun ls hl => ?_)
  refine ze_new (ci := 9) (C := RX9) (T := TX9) (N := 39) (fs := [.null, .null, .null, .null, .null, .null, .null, .null, .null, .null, .null, .null, .null, .null, .null, .null, .null, .null, .null, .null, .null, .null, .null, .int 0, .int 0, .int 0, .int 0, .int 0, .int 0, .int 0, .int 0, .int 0, .int 0, .long 0, .long 0, .long 0, .long 0, .long 0, .int 0]) S m9 tyX9 tyX9_ok v1 v2 v3 hK hW hA rfl (by decide) (Nat.le_of_ble_eq_true rfl) (Nat.le_of_ble_eq_true rfl) dL_law_8 (fun r1 H hW => ?_)
  refine lv_dup hx hb dL_law_11 rfl ?_
  have hW := ze_Wc hW
  refine ze_FIg (As := []) (rest := [.ref r1]) S (zi_X9 l D ci r1) (cwI 0 hts gL_law_X9_init_n rfl rfl rfl v3 v4 v5 rfl (by decide +kernel) ⟨Nat.le_of_ble_eq_true rfl, Nat.le_of_ble_eq_true rfl⟩) hZ hK hW hA rfl hl.1 rfl (lv_room (Nat.le_of_ble_eq_true rfl)) dL_law_12 ⟨Nat.le_of_ble_eq_true rfl, Nat.le_of_ble_eq_true rfl⟩ (fun ar H locs hW => ?_)
  rw [zs_R ci ar r1] at hW
  have hW := ze_Wc hW
  refine lv_astore_n (lv' := [(2, .ref r1), (1, .ref r0), (0, .ref b)]) hx hb dL_law_15 rfl hl (by decide) rfl (fun ls hl => ?_)
  refine lv_iconst (v := nI 1) hx hb dL_law_16 (by decide) ?_
  refine ze_newj S (htt (.arrayClass .long) (by decide +kernel)) hK hW hA (N := 1) (by decide) (Nat.le_of_ble_eq_true rfl) (Nat.le_of_ble_eq_true rfl) dL_law_17 (fun o H hW => ?_)
  have hW := ze_Wsw hW
  refine lv_astore_n (lv' := [(3, .ref o), (2, .ref r1), (1, .ref r0), (0, .ref b)]) hx hb dL_law_19 rfl hl (by decide) rfl (fun ls hl => ?_)
  refine lv_iconst (v := nI 1) hx hb dL_law_20 (by decide) ?_
  refine ze_newd S (htt (.arrayClass .double) (by decide +kernel)) hK hW hA (N := 1) (by decide) (Nat.le_of_ble_eq_true rfl) (Nat.le_of_ble_eq_true rfl) dL_law_21 (fun od H hW => ?_)
  have hW := ze_as hW
  refine lv_astore (lv' := [(4, .ref od), (3, .ref o), (2, .ref r1), (1, .ref r0), (0, .ref b)]) hx hb dL_law_23 hl (by decide) rfl (fun ls hl => ?_)
  refine lv_iconst (v := nI 0) hx hb dL_law_25 (by decide) ?_
  refine lv_istore (lv' := [(5, .int (nI 0)), (4, .ref od), (3, .ref o), (2, .ref r1), (1, .ref r0), (0, .ref b)]) hx hb dL_law_26 hl (by decide) rfl (fun ls hl => ?_)
  exact zy_loop C hr hlocks (va_up ar 0 r1) o od r0 L 0 (Nat.zero_le L) (by omega) (va_up an 0 r0) (fun _ => 0) zs_A (fun _ => 0) (fun _ _ => 0) (fun _ => 0) 0 (fun _ => 0) (fun _ => 0) H _ ls _ _ (Nat.le_of_ble_eq_true rfl) (Nat.le_of_ble_eq_true rfl) rfl zy_I0 hW (lv_sub hl [5, 4, 3, 2, 1, 0] rfl)
