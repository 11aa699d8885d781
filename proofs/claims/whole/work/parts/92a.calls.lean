/-! ===== the law's calls, walked ===== -/
section ZY
variable {p : Program} {l : Launch} {e : Env} {s : State} {m : MethodId} {below : List Frame} {meth : Method} {cd : Code} {D : va_G} {c : Nat → ClassId} {b L : Nat} {xs : Nat → Int32} {Q : State → Prop}
set_option maxHeartbeats 4000000 in
set_option maxRecDepth 100000 in
theorem zy_addSite (C : zy_C p l s m cd D c b L xs) {a d n : Nat → Nat} {A : Nat → Nat → Int32} {B : Nat → Int64} {E : Nat → Nat → Int32} {mk : Nat → Int32} {th : Int32} {o od : Nat} {f : Nat → Int64} {g : Nat → UInt64} {H : Heap} {locs : List Loc} {ls : Array Slot} {i k j : Nat} (hi : i + 6 ≤ L) (hb : k + 2 ≤ 601024 ∧ j + 14 ≤ 7293034) (hI : zv_I n A E mk) (hW : ze_W D (zy_W c a d n A B E mk th o od f g) (zy_F s) s.heap H locs) (hl : lv_has ls 8 (zy_L b (a 0) (d 0) o od i)) (G : zy_G p l e s m below meth cd D c b Q d o od (a 0) i (k + 2) (j + 14)) : W p l e room_1 s m #[Value.ref b] below meth cd H locs k j Q (F0 m 240 ls []) := by
  obtain ⟨S, hst, hX, hbl, hXB, hNc, hK, hL⟩ := id C
  have hX_ := S.1
  have hB_ := S.2.1
  have hts := S.2.2.2.2
  have hA : ∀ q : Nat, s.heap.size ≤ q → zy_F s q := fun _ h => h
  obtain ⟨hb1, hb2⟩ := hb
  obtain ⟨k1, v, fr, lo, mc, ms, fr2, lo2, mc2, ms2, a2, n2, A2, B2, E2, mk2, f2, ⟨b1, b2, b3, b4, b5, b6, b7, b8⟩, hQ, hR, hkv, ha2, hG, hI2⟩ := zw_addSite (l := l) (D := D) (c := c) (a := a) (d := d) (B := B) (th := th) (o := o) (f := f) hI hst
  have hQ : ze_QE l yL_addSite wsL_addSite fr lo mc ms D c (ze_wC c a n A B E ++ [(o, .inl (c 6, 1, .inr (.inl f)))]) [.ref (a 0), .ref o] k1 (fun q => ze_wC c (a2 q) n2 A2 B2 E2 ++ [(o, .inl (c 6, 1, .inr (.inl f2)))]) := hQ
  have hR : ze_I l yX9_addSite wsX9_addSite fr2 lo2 mc2 ms2 D c (ze_wR c d n A B mk th) [.ref (d 0)] v (ze_wR c d n2 A2 B2 mk2 k1) := hR
  have hl : lv_has ls 8 [(0, .ref b), (1, .ref (a 0)), (2, .ref (d 0)), (3, .ref o), (4, .ref od), (5, .int (nI i))] := hl
  refine lv_aload_n hX_ hB_ dL_law_240 rfl (lv_at hl 1 rfl) ?_
  refine lv_aload_n hX_ hB_ dL_law_241 rfl (lv_at hl 3 rfl) ?_
  refine ze_FQe (As := [.ref (a 0), .ref o]) (rest := []) S hQ (vx_cwSW 2 hts gL_law_L_addSite_n rfl rfl rfl (by decide +kernel) ⟨by show fr + 1 ≤ 13; omega, by show 8 + (_ + 11) + lo ≤ 476; omega⟩) hXB hNc hK hW hA rfl hl.1 rfl (lv_room (Nat.le_of_ble_eq_true rfl)) dL_law_242 ⟨by show k + mc ≤ 601024; omega, by show j + ms ≤ 7293034; omega⟩ (fun q9 H locs hW => ?_)
  refine lv_istore (lv' := [(6, .int k1), (0, .ref b), (1, .ref (a 0)), (2, .ref (d 0)), (3, .ref o), (4, .ref od), (5, .int (nI i))]) hX_ hB_ dL_law_245 hl (by decide) rfl (fun ls hl => ?_)
  refine lv_aload_n hX_ hB_ dL_law_247 rfl (lv_at hl 3 rfl) ?_
  have hW := zy_wA hW
  refine ze_FVi (As := []) (rest := []) (ci := 9) (q0 := 0) (k := (RX9, TX9, 39)) S hR (cwV 0 hts gL_law_X9_addSite_n rfl rfl rfl (by decide +kernel) ⟨by show fr2 + 1 ≤ 13; omega, by show 8 + (_ + 11) + lo2 ≤ 476; omega⟩) hK hW hA rfl rfl rfl hl.1 rfl (lv_room (Nat.le_of_ble_eq_true rfl)) dL_law_248 ⟨by show k + mc + mc2 ≤ 601024; omega, by show j + ms + ms2 ≤ 7293034; omega⟩ (fun H locs hW => ?_)
  refine lv_istore (lv' := [(7, .int v), (6, .int k1), (0, .ref b), (1, .ref (a 0)), (2, .ref (d 0)), (3, .ref o), (4, .ref od), (5, .int (nI i))]) hX_ hB_ dL_law_251 hl (by decide) rfl (fun ls hl => ?_)
  refine lv_aload_n hX_ hB_ dL_law_253 rfl (lv_at hl 4 rfl) ?_
  refine ze_FVi (As := []) (rest := []) (ci := 9) (q0 := 0) (k := (RX9, TX9, 39)) S (zr_thrown l D c d n2 A2 B2 mk2 k1) (cwV 0 hts gL_law_X9_thrown_n rfl rfl rfl (by decide +kernel) ⟨Nat.le_of_ble_eq_true rfl, Nat.le_of_ble_eq_true rfl⟩) hK hW hA rfl rfl rfl hl.1 rfl (lv_room (Nat.le_of_ble_eq_true rfl)) dL_law_254 ⟨by show k + mc + mc2 + 0 ≤ 601024; omega, by show j + ms + ms2 + 0 ≤ 7293034; omega⟩ (fun H locs hW => ?_)
  have hW := zy_wB hW
  refine lv_iload hX_ hB_ dL_law_257 (lv_at hl 1 rfl) ?_
  refine lv_icmp_eq (tgt := 264) hX_ hB_ dL_law_259 (by decide) (fun _ => ?_) (fun q => absurd rfl q)
  refine lv_iload hX_ hB_ dL_law_264 (lv_at hl 1 rfl) ?_
  have gg : ∀ (ls : Array Slot), lv_has ls 8 [(7, .int v), (6, .int k1), (0, .ref b), (1, .ref (a 0)), (2, .ref (d 0)), (3, .ref o), (4, .ref od), (5, .int (nI i))] → W p l e room_1 s m #[Value.ref b] below meth cd H locs (k + mc + mc2 + 0) (j + ms + ms2 + 0) Q (F0 m 281 ls []) := fun ls hl => by
    refine lv_goto (tgt := 2642) hX_ hB_ dL_law_281 (by decide) ?_
    refine W.widen (k := k + 2) (n := j + 14) (by omega) (by omega) ?_
    exact G (a2 q9) n2 A2 B2 E2 mk2 k1 f2 g H locs ls (ha2 q9) hI2 hW (lv_sub hl [2, 3, 4, 5, 6, 7] rfl)
  refine lv_if_ne (tgt := 281) hX_ hB_ dL_law_266 (by decide) (fun _ => gg ls hl) (fun hk0 => ?_)
  have hf2 : f2 (0 : Int32).toNatClampNeg = v.toInt64 := hkv hk0
  refine lv_aload_n hX_ hB_ dL_law_269 rfl (lv_at hl 5 rfl) ?_
  refine lv_iconst (v := 0) hX_ hB_ dL_law_270 (by decide) ?_
  refine va_lald (f := f2) hX_ hB_ hK hW.1 ((ze_wC c (a2 q9) n2 A2 B2 E2).length + 0) 6 (ze_appget0 (ze_appL (k := 0) rfl)) rfl (vp_in_nI (n := 0) (N := 1) (by decide) (by decide)) dL_law_271 ?_
  refine lv_iload hX_ hB_ dL_law_272 (lv_at hl 0 rfl) ?_
  refine lv_i2l (v := v.toInt64) hX_ hB_ dL_law_274 rfl ?_
  refine W.lcmp hX_ hB_ dL_law_275 ?_
  rw [hf2, zy_cmp]
  exact lv_if_eq (tgt := 281) hX_ hB_ dL_law_276 (by decide) (fun _ => gg ls hl) (fun q => absurd rfl q)
set_option maxHeartbeats 4000000 in
set_option maxRecDepth 100000 in
theorem zy_setPhase (C : zy_C p l s m cd D c b L xs) {a d n : Nat → Nat} {A : Nat → Nat → Int32} {B : Nat → Int64} {E : Nat → Nat → Int32} {mk : Nat → Int32} {th : Int32} {o od : Nat} {f : Nat → Int64} {g : Nat → UInt64} {H : Heap} {locs : List Loc} {ls : Array Slot} {i k j : Nat} (hi : i + 6 ≤ L) (hb : k + 2 ≤ 601024 ∧ j + 14 ≤ 7293034) (hI : zv_I n A E mk) (hW : ze_W D (zy_W c a d n A B E mk th o od f g) (zy_F s) s.heap H locs) (hl : lv_has ls 8 (zy_L b (a 0) (d 0) o od i)) (G : zy_G p l e s m below meth cd D c b Q d o od (a 0) i (k + 2) (j + 14)) : W p l e room_1 s m #[Value.ref b] below meth cd H locs k j Q (F0 m 284 ls []) := by
  obtain ⟨S, hst, hX, hbl, hXB, hNc, hK, hL⟩ := id C
  have hX_ := S.1
  have hB_ := S.2.1
  have hts := S.2.2.2.2
  have hA : ∀ q : Nat, s.heap.size ≤ q → zy_F s q := fun _ h => h
  obtain ⟨hb1, hb2⟩ := hb
  obtain ⟨k1, v, fr, lo, mc, ms, fr2, lo2, mc2, ms2, a2, n2, A2, B2, E2, mk2, f2, ⟨b1, b2, b3, b4, b5, b6, b7, b8⟩, hQ, hR, hkv, ha2, hG, hI2⟩ := zw_setPhase (l := l) (D := D) (c := c) (a := a) (d := d) (B := B) (th := th) (o := o) (f := f) hI hst (xs (i + 1)) (xs (i + 2))
  have hQ : ze_QE l yL_setPhase wsL_setPhase fr lo mc ms D c (ze_wC c a n A B E ++ [(o, .inl (c 6, 1, .inr (.inl f)))]) [.ref (a 0), .int (xs (i + 1)), .int (xs (i + 2)), .ref o] k1 (fun q => ze_wC c (a2 q) n2 A2 B2 E2 ++ [(o, .inl (c 6, 1, .inr (.inl f2)))]) := hQ
  have hR : ze_I l yX9_setPhase wsX9_setPhase fr2 lo2 mc2 ms2 D c (ze_wR c d n A B mk th) [.ref (d 0), .int (xs (i + 1)), .int (xs (i + 2))] v (ze_wR c d n2 A2 B2 mk2 k1) := hR
  have hl : lv_has ls 8 [(0, .ref b), (1, .ref (a 0)), (2, .ref (d 0)), (3, .ref o), (4, .ref od), (5, .int (nI i))] := hl
  refine lv_aload_n hX_ hB_ dL_law_284 rfl (lv_at hl 1 rfl) ?_
  refine zy_arg (q := 1) C hW hi (by decide) (lv_at hl 0 rfl) (lv_at hl 5 rfl) dL_law_285 dL_law_286 dL_law_288 rfl dL_law_289 dL_law_290 ?_
  refine zy_arg (q := 2) C hW hi (by decide) (lv_at hl 0 rfl) (lv_at hl 5 rfl) dL_law_291 dL_law_292 dL_law_294 rfl dL_law_295 dL_law_296 ?_
  refine lv_aload_n hX_ hB_ dL_law_297 rfl (lv_at hl 3 rfl) ?_
  refine ze_FQe (As := [.ref (a 0), .int (xs (i + 1)), .int (xs (i + 2)), .ref o]) (rest := []) S hQ (vx_cwSW 4 hts gL_law_L_setPhase_n rfl rfl rfl (by decide +kernel) ⟨by show fr + 1 ≤ 13; omega, by show 8 + (_ + 11) + lo ≤ 476; omega⟩) hXB hNc hK hW hA rfl hl.1 rfl (lv_room (Nat.le_of_ble_eq_true rfl)) dL_law_298 ⟨by show k + mc ≤ 601024; omega, by show j + ms ≤ 7293034; omega⟩ (fun q9 H locs hW => ?_)
  refine lv_istore (lv' := [(6, .int k1), (0, .ref b), (1, .ref (a 0)), (2, .ref (d 0)), (3, .ref o), (4, .ref od), (5, .int (nI i))]) hX_ hB_ dL_law_301 hl (by decide) rfl (fun ls hl => ?_)
  refine lv_aload_n hX_ hB_ dL_law_303 rfl (lv_at hl 3 rfl) ?_
  refine zy_arg (q := 1) C hW hi (by decide) (lv_at hl 1 rfl) (lv_at hl 6 rfl) dL_law_304 dL_law_305 dL_law_307 rfl dL_law_308 dL_law_309 ?_
  refine zy_arg (q := 2) C hW hi (by decide) (lv_at hl 1 rfl) (lv_at hl 6 rfl) dL_law_310 dL_law_311 dL_law_313 rfl dL_law_314 dL_law_315 ?_
  have hW := zy_wA hW
  refine ze_FVi (As := [.int (xs (i + 1)), .int (xs (i + 2))]) (rest := []) (ci := 9) (q0 := 0) (k := (RX9, TX9, 39)) S hR (cwV 2 hts gL_law_X9_setPhase_n rfl rfl rfl (by decide +kernel) ⟨by show fr2 + 1 ≤ 13; omega, by show 8 + (_ + 11) + lo2 ≤ 476; omega⟩) hK hW hA rfl rfl rfl hl.1 rfl (lv_room (Nat.le_of_ble_eq_true rfl)) dL_law_316 ⟨by show k + mc + mc2 ≤ 601024; omega, by show j + ms + ms2 ≤ 7293034; omega⟩ (fun H locs hW => ?_)
  refine lv_istore (lv' := [(7, .int v), (6, .int k1), (0, .ref b), (1, .ref (a 0)), (2, .ref (d 0)), (3, .ref o), (4, .ref od), (5, .int (nI i))]) hX_ hB_ dL_law_319 hl (by decide) rfl (fun ls hl => ?_)
  refine lv_aload_n hX_ hB_ dL_law_321 rfl (lv_at hl 4 rfl) ?_
  refine ze_FVi (As := []) (rest := []) (ci := 9) (q0 := 0) (k := (RX9, TX9, 39)) S (zr_thrown l D c d n2 A2 B2 mk2 k1) (cwV 0 hts gL_law_X9_thrown_n rfl rfl rfl (by decide +kernel) ⟨Nat.le_of_ble_eq_true rfl, Nat.le_of_ble_eq_true rfl⟩) hK hW hA rfl rfl rfl hl.1 rfl (lv_room (Nat.le_of_ble_eq_true rfl)) dL_law_322 ⟨by show k + mc + mc2 + 0 ≤ 601024; omega, by show j + ms + ms2 + 0 ≤ 7293034; omega⟩ (fun H locs hW => ?_)
  have hW := zy_wB hW
  refine lv_iload hX_ hB_ dL_law_325 (lv_at hl 1 rfl) ?_
  refine lv_icmp_eq (tgt := 332) hX_ hB_ dL_law_327 (by decide) (fun _ => ?_) (fun q => absurd rfl q)
  refine lv_iload hX_ hB_ dL_law_332 (lv_at hl 1 rfl) ?_
  have gg : ∀ (ls : Array Slot), lv_has ls 8 [(7, .int v), (6, .int k1), (0, .ref b), (1, .ref (a 0)), (2, .ref (d 0)), (3, .ref o), (4, .ref od), (5, .int (nI i))] → W p l e room_1 s m #[Value.ref b] below meth cd H locs (k + mc + mc2 + 0) (j + ms + ms2 + 0) Q (F0 m 349 ls []) := fun ls hl => by
    refine lv_goto (tgt := 2642) hX_ hB_ dL_law_349 (by decide) ?_
    refine W.widen (k := k + 2) (n := j + 14) (by omega) (by omega) ?_
    exact G (a2 q9) n2 A2 B2 E2 mk2 k1 f2 g H locs ls (ha2 q9) hI2 hW (lv_sub hl [2, 3, 4, 5, 6, 7] rfl)
  refine lv_if_ne (tgt := 349) hX_ hB_ dL_law_334 (by decide) (fun _ => gg ls hl) (fun hk0 => ?_)
  have hf2 : f2 (0 : Int32).toNatClampNeg = v.toInt64 := hkv hk0
  refine lv_aload_n hX_ hB_ dL_law_337 rfl (lv_at hl 5 rfl) ?_
  refine lv_iconst (v := 0) hX_ hB_ dL_law_338 (by decide) ?_
  refine va_lald (f := f2) hX_ hB_ hK hW.1 ((ze_wC c (a2 q9) n2 A2 B2 E2).length + 0) 6 (ze_appget0 (ze_appL (k := 0) rfl)) rfl (vp_in_nI (n := 0) (N := 1) (by decide) (by decide)) dL_law_339 ?_
  refine lv_iload hX_ hB_ dL_law_340 (lv_at hl 0 rfl) ?_
  refine lv_i2l (v := v.toInt64) hX_ hB_ dL_law_342 rfl ?_
  refine W.lcmp hX_ hB_ dL_law_343 ?_
  rw [hf2, zy_cmp]
  exact lv_if_eq (tgt := 349) hX_ hB_ dL_law_344 (by decide) (fun _ => gg ls hl) (fun q => absurd rfl q)
set_option maxHeartbeats 4000000 in
set_option maxRecDepth 100000 in
theorem zy_addLine (C : zy_C p l s m cd D c b L xs) {a d n : Nat → Nat} {A : Nat → Nat → Int32} {B : Nat → Int64} {E : Nat → Nat → Int32} {mk : Nat → Int32} {th : Int32} {o od : Nat} {f : Nat → Int64} {g : Nat → UInt64} {H : Heap} {locs : List Loc} {ls : Array Slot} {i k j : Nat} (hi : i + 6 ≤ L) (hb : k + 2 ≤ 601024 ∧ j + 14 ≤ 7293034) (hI : zv_I n A E mk) (hW : ze_W D (zy_W c a d n A B E mk th o od f g) (zy_F s) s.heap H locs) (hl : lv_has ls 8 (zy_L b (a 0) (d 0) o od i)) (G : zy_G p l e s m below meth cd D c b Q d o od (a 0) i (k + 2) (j + 14)) : W p l e room_1 s m #[Value.ref b] below meth cd H locs k j Q (F0 m 352 ls []) := by
  obtain ⟨S, hst, hX, hbl, hXB, hNc, hK, hL⟩ := id C
  have hX_ := S.1
  have hB_ := S.2.1
  have hts := S.2.2.2.2
  have hA : ∀ q : Nat, s.heap.size ≤ q → zy_F s q := fun _ h => h
  obtain ⟨hb1, hb2⟩ := hb
  obtain ⟨k1, v, fr, lo, mc, ms, fr2, lo2, mc2, ms2, a2, n2, A2, B2, E2, mk2, f2, ⟨b1, b2, b3, b4, b5, b6, b7, b8⟩, hQ, hR, hkv, ha2, hG, hI2⟩ := zw_addLine (l := l) (D := D) (c := c) (a := a) (d := d) (B := B) (th := th) (o := o) (f := f) hI hst (xs (i + 1)) (xs (i + 2))
  have hQ : ze_QE l yL_addLine wsL_addLine fr lo mc ms D c (ze_wC c a n A B E ++ [(o, .inl (c 6, 1, .inr (.inl f)))]) [.ref (a 0), .int (xs (i + 1)), .int (xs (i + 2)), .ref o] k1 (fun q => ze_wC c (a2 q) n2 A2 B2 E2 ++ [(o, .inl (c 6, 1, .inr (.inl f2)))]) := hQ
  have hR : ze_I l yX9_addLine wsX9_addLine fr2 lo2 mc2 ms2 D c (ze_wR c d n A B mk th) [.ref (d 0), .int (xs (i + 1)), .int (xs (i + 2))] v (ze_wR c d n2 A2 B2 mk2 k1) := hR
  have hl : lv_has ls 8 [(0, .ref b), (1, .ref (a 0)), (2, .ref (d 0)), (3, .ref o), (4, .ref od), (5, .int (nI i))] := hl
  refine lv_aload_n hX_ hB_ dL_law_352 rfl (lv_at hl 1 rfl) ?_
  refine zy_arg (q := 1) C hW hi (by decide) (lv_at hl 0 rfl) (lv_at hl 5 rfl) dL_law_353 dL_law_354 dL_law_356 rfl dL_law_357 dL_law_358 ?_
  refine zy_arg (q := 2) C hW hi (by decide) (lv_at hl 0 rfl) (lv_at hl 5 rfl) dL_law_359 dL_law_360 dL_law_362 rfl dL_law_363 dL_law_364 ?_
  refine lv_aload_n hX_ hB_ dL_law_365 rfl (lv_at hl 3 rfl) ?_
  refine ze_FQe (As := [.ref (a 0), .int (xs (i + 1)), .int (xs (i + 2)), .ref o]) (rest := []) S hQ (vx_cwSW 4 hts gL_law_L_addLine_n rfl rfl rfl (by decide +kernel) ⟨by show fr + 1 ≤ 13; omega, by show 8 + (_ + 11) + lo ≤ 476; omega⟩) hXB hNc hK hW hA rfl hl.1 rfl (lv_room (Nat.le_of_ble_eq_true rfl)) dL_law_366 ⟨by show k + mc ≤ 601024; omega, by show j + ms ≤ 7293034; omega⟩ (fun q9 H locs hW => ?_)
  refine lv_istore (lv' := [(6, .int k1), (0, .ref b), (1, .ref (a 0)), (2, .ref (d 0)), (3, .ref o), (4, .ref od), (5, .int (nI i))]) hX_ hB_ dL_law_369 hl (by decide) rfl (fun ls hl => ?_)
  refine lv_aload_n hX_ hB_ dL_law_371 rfl (lv_at hl 3 rfl) ?_
  refine zy_arg (q := 1) C hW hi (by decide) (lv_at hl 1 rfl) (lv_at hl 6 rfl) dL_law_372 dL_law_373 dL_law_375 rfl dL_law_376 dL_law_377 ?_
  refine zy_arg (q := 2) C hW hi (by decide) (lv_at hl 1 rfl) (lv_at hl 6 rfl) dL_law_378 dL_law_379 dL_law_381 rfl dL_law_382 dL_law_383 ?_
  have hW := zy_wA hW
  refine ze_FVi (As := [.int (xs (i + 1)), .int (xs (i + 2))]) (rest := []) (ci := 9) (q0 := 0) (k := (RX9, TX9, 39)) S hR (cwV 2 hts gL_law_X9_addLine_n rfl rfl rfl (by decide +kernel) ⟨by show fr2 + 1 ≤ 13; omega, by show 8 + (_ + 11) + lo2 ≤ 476; omega⟩) hK hW hA rfl rfl rfl hl.1 rfl (lv_room (Nat.le_of_ble_eq_true rfl)) dL_law_384 ⟨by show k + mc + mc2 ≤ 601024; omega, by show j + ms + ms2 ≤ 7293034; omega⟩ (fun H locs hW => ?_)
  refine lv_istore (lv' := [(7, .int v), (6, .int k1), (0, .ref b), (1, .ref (a 0)), (2, .ref (d 0)), (3, .ref o), (4, .ref od), (5, .int (nI i))]) hX_ hB_ dL_law_387 hl (by decide) rfl (fun ls hl => ?_)
  refine lv_aload_n hX_ hB_ dL_law_389 rfl (lv_at hl 4 rfl) ?_
  refine ze_FVi (As := []) (rest := []) (ci := 9) (q0 := 0) (k := (RX9, TX9, 39)) S (zr_thrown l D c d n2 A2 B2 mk2 k1) (cwV 0 hts gL_law_X9_thrown_n rfl rfl rfl (by decide +kernel) ⟨Nat.le_of_ble_eq_true rfl, Nat.le_of_ble_eq_true rfl⟩) hK hW hA rfl rfl rfl hl.1 rfl (lv_room (Nat.le_of_ble_eq_true rfl)) dL_law_390 ⟨by show k + mc + mc2 + 0 ≤ 601024; omega, by show j + ms + ms2 + 0 ≤ 7293034; omega⟩ (fun H locs hW => ?_)
  have hW := zy_wB hW
  refine lv_iload hX_ hB_ dL_law_393 (lv_at hl 1 rfl) ?_
  refine lv_icmp_eq (tgt := 400) hX_ hB_ dL_law_395 (by decide) (fun _ => ?_) (fun q => absurd rfl q)
  refine lv_iload hX_ hB_ dL_law_400 (lv_at hl 1 rfl) ?_
  have gg : ∀ (ls : Array Slot), lv_has ls 8 [(7, .int v), (6, .int k1), (0, .ref b), (1, .ref (a 0)), (2, .ref (d 0)), (3, .ref o), (4, .ref od), (5, .int (nI i))] → W p l e room_1 s m #[Value.ref b] below meth cd H locs (k + mc + mc2 + 0) (j + ms + ms2 + 0) Q (F0 m 417 ls []) := fun ls hl => by
    refine lv_goto (tgt := 2642) hX_ hB_ dL_law_417 (by decide) ?_
    refine W.widen (k := k + 2) (n := j + 14) (by omega) (by omega) ?_
    exact G (a2 q9) n2 A2 B2 E2 mk2 k1 f2 g H locs ls (ha2 q9) hI2 hW (lv_sub hl [2, 3, 4, 5, 6, 7] rfl)
  refine lv_if_ne (tgt := 417) hX_ hB_ dL_law_402 (by decide) (fun _ => gg ls hl) (fun hk0 => ?_)
  have hf2 : f2 (0 : Int32).toNatClampNeg = v.toInt64 := hkv hk0
  refine lv_aload_n hX_ hB_ dL_law_405 rfl (lv_at hl 5 rfl) ?_
  refine lv_iconst (v := 0) hX_ hB_ dL_law_406 (by decide) ?_
  refine va_lald (f := f2) hX_ hB_ hK hW.1 ((ze_wC c (a2 q9) n2 A2 B2 E2).length + 0) 6 (ze_appget0 (ze_appL (k := 0) rfl)) rfl (vp_in_nI (n := 0) (N := 1) (by decide) (by decide)) dL_law_407 ?_
  refine lv_iload hX_ hB_ dL_law_408 (lv_at hl 0 rfl) ?_
  refine lv_i2l (v := v.toInt64) hX_ hB_ dL_law_410 rfl ?_
  refine W.lcmp hX_ hB_ dL_law_411 ?_
  rw [hf2, zy_cmp]
  exact lv_if_eq (tgt := 417) hX_ hB_ dL_law_412 (by decide) (fun _ => gg ls hl) (fun q => absurd rfl q)
set_option maxHeartbeats 4000000 in
set_option maxRecDepth 100000 in
theorem zy_close (C : zy_C p l s m cd D c b L xs) {a d n : Nat → Nat} {A : Nat → Nat → Int32} {B : Nat → Int64} {E : Nat → Nat → Int32} {mk : Nat → Int32} {th : Int32} {o od : Nat} {f : Nat → Int64} {g : Nat → UInt64} {H : Heap} {locs : List Loc} {ls : Array Slot} {i k j : Nat} (hi : i + 6 ≤ L) (hb : k + 2 ≤ 601024 ∧ j + 14 ≤ 7293034) (hI : zv_I n A E mk) (hW : ze_W D (zy_W c a d n A B E mk th o od f g) (zy_F s) s.heap H locs) (hl : lv_has ls 8 (zy_L b (a 0) (d 0) o od i)) (G : zy_G p l e s m below meth cd D c b Q d o od (a 0) i (k + 2) (j + 14)) : W p l e room_1 s m #[Value.ref b] below meth cd H locs k j Q (F0 m 420 ls []) := by
  obtain ⟨S, hst, hX, hbl, hXB, hNc, hK, hL⟩ := id C
  have hX_ := S.1
  have hB_ := S.2.1
  have hts := S.2.2.2.2
  have hA : ∀ q : Nat, s.heap.size ≤ q → zy_F s q := fun _ h => h
  obtain ⟨hb1, hb2⟩ := hb
  obtain ⟨k1, v, fr, lo, mc, ms, fr2, lo2, mc2, ms2, a2, n2, A2, B2, E2, mk2, f2, ⟨b1, b2, b3, b4, b5, b6, b7, b8⟩, hQ, hR, hkv, ha2, hG, hI2⟩ := zw_close (l := l) (D := D) (c := c) (a := a) (d := d) (B := B) (th := th) (o := o) (f := f) hI hst (xs (i + 1))
  have hQ : ze_QE l yL_close wsL_close fr lo mc ms D c (ze_wC c a n A B E ++ [(o, .inl (c 6, 1, .inr (.inl f)))]) [.ref (a 0), .int (xs (i + 1)), .ref o] k1 (fun q => ze_wC c (a2 q) n2 A2 B2 E2 ++ [(o, .inl (c 6, 1, .inr (.inl f2)))]) := hQ
  have hR : ze_I l yX9_close wsX9_close fr2 lo2 mc2 ms2 D c (ze_wR c d n A B mk th) [.ref (d 0), .int (xs (i + 1))] v (ze_wR c d n2 A2 B2 mk2 k1) := hR
  have hl : lv_has ls 8 [(0, .ref b), (1, .ref (a 0)), (2, .ref (d 0)), (3, .ref o), (4, .ref od), (5, .int (nI i))] := hl
  refine lv_aload_n hX_ hB_ dL_law_420 rfl (lv_at hl 1 rfl) ?_
  refine zy_arg (q := 1) C hW hi (by decide) (lv_at hl 0 rfl) (lv_at hl 5 rfl) dL_law_421 dL_law_422 dL_law_424 rfl dL_law_425 dL_law_426 ?_
  refine lv_aload_n hX_ hB_ dL_law_427 rfl (lv_at hl 3 rfl) ?_
  refine ze_FQe (As := [.ref (a 0), .int (xs (i + 1)), .ref o]) (rest := []) S hQ (vx_cwSW 3 hts gL_law_L_close_n rfl rfl rfl (by decide +kernel) ⟨by show fr + 1 ≤ 13; omega, by show 8 + (_ + 11) + lo ≤ 476; omega⟩) hXB hNc hK hW hA rfl hl.1 rfl (lv_room (Nat.le_of_ble_eq_true rfl)) dL_law_428 ⟨by show k + mc ≤ 601024; omega, by show j + ms ≤ 7293034; omega⟩ (fun q9 H locs hW => ?_)
  refine lv_istore (lv' := [(6, .int k1), (0, .ref b), (1, .ref (a 0)), (2, .ref (d 0)), (3, .ref o), (4, .ref od), (5, .int (nI i))]) hX_ hB_ dL_law_431 hl (by decide) rfl (fun ls hl => ?_)
  refine lv_aload_n hX_ hB_ dL_law_433 rfl (lv_at hl 3 rfl) ?_
  refine zy_arg (q := 1) C hW hi (by decide) (lv_at hl 1 rfl) (lv_at hl 6 rfl) dL_law_434 dL_law_435 dL_law_437 rfl dL_law_438 dL_law_439 ?_
  have hW := zy_wA hW
  refine ze_FVi (As := [.int (xs (i + 1))]) (rest := []) (ci := 9) (q0 := 0) (k := (RX9, TX9, 39)) S hR (cwV 1 hts gL_law_X9_close_n rfl rfl rfl (by decide +kernel) ⟨by show fr2 + 1 ≤ 13; omega, by show 8 + (_ + 11) + lo2 ≤ 476; omega⟩) hK hW hA rfl rfl rfl hl.1 rfl (lv_room (Nat.le_of_ble_eq_true rfl)) dL_law_440 ⟨by show k + mc + mc2 ≤ 601024; omega, by show j + ms + ms2 ≤ 7293034; omega⟩ (fun H locs hW => ?_)
  refine lv_istore (lv' := [(7, .int v), (6, .int k1), (0, .ref b), (1, .ref (a 0)), (2, .ref (d 0)), (3, .ref o), (4, .ref od), (5, .int (nI i))]) hX_ hB_ dL_law_443 hl (by decide) rfl (fun ls hl => ?_)
  refine lv_aload_n hX_ hB_ dL_law_445 rfl (lv_at hl 4 rfl) ?_
  refine ze_FVi (As := []) (rest := []) (ci := 9) (q0 := 0) (k := (RX9, TX9, 39)) S (zr_thrown l D c d n2 A2 B2 mk2 k1) (cwV 0 hts gL_law_X9_thrown_n rfl rfl rfl (by decide +kernel) ⟨Nat.le_of_ble_eq_true rfl, Nat.le_of_ble_eq_true rfl⟩) hK hW hA rfl rfl rfl hl.1 rfl (lv_room (Nat.le_of_ble_eq_true rfl)) dL_law_446 ⟨by show k + mc + mc2 + 0 ≤ 601024; omega, by show j + ms + ms2 + 0 ≤ 7293034; omega⟩ (fun H locs hW => ?_)
  have hW := zy_wB hW
  refine lv_iload hX_ hB_ dL_law_449 (lv_at hl 1 rfl) ?_
  refine lv_icmp_eq (tgt := 456) hX_ hB_ dL_law_451 (by decide) (fun _ => ?_) (fun q => absurd rfl q)
  refine lv_iload hX_ hB_ dL_law_456 (lv_at hl 1 rfl) ?_
  have gg : ∀ (ls : Array Slot), lv_has ls 8 [(7, .int v), (6, .int k1), (0, .ref b), (1, .ref (a 0)), (2, .ref (d 0)), (3, .ref o), (4, .ref od), (5, .int (nI i))] → W p l e room_1 s m #[Value.ref b] below meth cd H locs (k + mc + mc2 + 0) (j + ms + ms2 + 0) Q (F0 m 473 ls []) := fun ls hl => by
    refine lv_goto (tgt := 2642) hX_ hB_ dL_law_473 (by decide) ?_
    refine W.widen (k := k + 2) (n := j + 14) (by omega) (by omega) ?_
    exact G (a2 q9) n2 A2 B2 E2 mk2 k1 f2 g H locs ls (ha2 q9) hI2 hW (lv_sub hl [2, 3, 4, 5, 6, 7] rfl)
  refine lv_if_ne (tgt := 473) hX_ hB_ dL_law_458 (by decide) (fun _ => gg ls hl) (fun hk0 => ?_)
  have hf2 : f2 (0 : Int32).toNatClampNeg = v.toInt64 := hkv hk0
  refine lv_aload_n hX_ hB_ dL_law_461 rfl (lv_at hl 5 rfl) ?_
  refine lv_iconst (v := 0) hX_ hB_ dL_law_462 (by decide) ?_
  refine va_lald (f := f2) hX_ hB_ hK hW.1 ((ze_wC c (a2 q9) n2 A2 B2 E2).length + 0) 6 (ze_appget0 (ze_appL (k := 0) rfl)) rfl (vp_in_nI (n := 0) (N := 1) (by decide) (by decide)) dL_law_463 ?_
  refine lv_iload hX_ hB_ dL_law_464 (lv_at hl 0 rfl) ?_
  refine lv_i2l (v := v.toInt64) hX_ hB_ dL_law_466 rfl ?_
  refine W.lcmp hX_ hB_ dL_law_467 ?_
  rw [hf2, zy_cmp]
  exact lv_if_eq (tgt := 473) hX_ hB_ dL_law_468 (by decide) (fun _ => gg ls hl) (fun q => absurd rfl q)
set_option maxHeartbeats 4000000 in
set_option maxRecDepth 100000 in
theorem zy_open (C : zy_C p l s m cd D c b L xs) {a d n : Nat → Nat} {A : Nat → Nat → Int32} {B : Nat → Int64} {E : Nat → Nat → Int32} {mk : Nat → Int32} {th : Int32} {o od : Nat} {f : Nat → Int64} {g : Nat → UInt64} {H : Heap} {locs : List Loc} {ls : Array Slot} {i k j : Nat} (hi : i + 6 ≤ L) (hb : k + 2 ≤ 601024 ∧ j + 14 ≤ 7293034) (hI : zv_I n A E mk) (hW : ze_W D (zy_W c a d n A B E mk th o od f g) (zy_F s) s.heap H locs) (hl : lv_has ls 8 (zy_L b (a 0) (d 0) o od i)) (G : zy_G p l e s m below meth cd D c b Q d o od (a 0) i (k + 2) (j + 14)) : W p l e room_1 s m #[Value.ref b] below meth cd H locs k j Q (F0 m 476 ls []) := by
  obtain ⟨S, hst, hX, hbl, hXB, hNc, hK, hL⟩ := id C
  have hX_ := S.1
  have hB_ := S.2.1
  have hts := S.2.2.2.2
  have hA : ∀ q : Nat, s.heap.size ≤ q → zy_F s q := fun _ h => h
  obtain ⟨hb1, hb2⟩ := hb
  obtain ⟨k1, v, fr, lo, mc, ms, fr2, lo2, mc2, ms2, a2, n2, A2, B2, E2, mk2, f2, ⟨b1, b2, b3, b4, b5, b6, b7, b8⟩, hQ, hR, hkv, ha2, hG, hI2⟩ := zw_open (l := l) (D := D) (c := c) (a := a) (d := d) (B := B) (th := th) (o := o) (f := f) hI hst (xs (i + 1))
  have hQ : ze_QE l yL_open wsL_open fr lo mc ms D c (ze_wC c a n A B E ++ [(o, .inl (c 6, 1, .inr (.inl f)))]) [.ref (a 0), .int (xs (i + 1)), .ref o] k1 (fun q => ze_wC c (a2 q) n2 A2 B2 E2 ++ [(o, .inl (c 6, 1, .inr (.inl f2)))]) := hQ
  have hR : ze_I l yX9_open wsX9_open fr2 lo2 mc2 ms2 D c (ze_wR c d n A B mk th) [.ref (d 0), .int (xs (i + 1))] v (ze_wR c d n2 A2 B2 mk2 k1) := hR
  have hl : lv_has ls 8 [(0, .ref b), (1, .ref (a 0)), (2, .ref (d 0)), (3, .ref o), (4, .ref od), (5, .int (nI i))] := hl
  refine lv_aload_n hX_ hB_ dL_law_476 rfl (lv_at hl 1 rfl) ?_
  refine zy_arg (q := 1) C hW hi (by decide) (lv_at hl 0 rfl) (lv_at hl 5 rfl) dL_law_477 dL_law_478 dL_law_480 rfl dL_law_481 dL_law_482 ?_
  refine lv_aload_n hX_ hB_ dL_law_483 rfl (lv_at hl 3 rfl) ?_
  refine ze_FQe (As := [.ref (a 0), .int (xs (i + 1)), .ref o]) (rest := []) S hQ (vx_cwSW 3 hts gL_law_L_open_n rfl rfl rfl (by decide +kernel) ⟨by show fr + 1 ≤ 13; omega, by show 8 + (_ + 11) + lo ≤ 476; omega⟩) hXB hNc hK hW hA rfl hl.1 rfl (lv_room (Nat.le_of_ble_eq_true rfl)) dL_law_484 ⟨by show k + mc ≤ 601024; omega, by show j + ms ≤ 7293034; omega⟩ (fun q9 H locs hW => ?_)
  refine lv_istore (lv' := [(6, .int k1), (0, .ref b), (1, .ref (a 0)), (2, .ref (d 0)), (3, .ref o), (4, .ref od), (5, .int (nI i))]) hX_ hB_ dL_law_487 hl (by decide) rfl (fun ls hl => ?_)
  refine lv_aload_n hX_ hB_ dL_law_489 rfl (lv_at hl 3 rfl) ?_
  refine zy_arg (q := 1) C hW hi (by decide) (lv_at hl 1 rfl) (lv_at hl 6 rfl) dL_law_490 dL_law_491 dL_law_493 rfl dL_law_494 dL_law_495 ?_
  have hW := zy_wA hW
  refine ze_FVi (As := [.int (xs (i + 1))]) (rest := []) (ci := 9) (q0 := 0) (k := (RX9, TX9, 39)) S hR (cwV 1 hts gL_law_X9_open_n rfl rfl rfl (by decide +kernel) ⟨by show fr2 + 1 ≤ 13; omega, by show 8 + (_ + 11) + lo2 ≤ 476; omega⟩) hK hW hA rfl rfl rfl hl.1 rfl (lv_room (Nat.le_of_ble_eq_true rfl)) dL_law_496 ⟨by show k + mc + mc2 ≤ 601024; omega, by show j + ms + ms2 ≤ 7293034; omega⟩ (fun H locs hW => ?_)
  refine lv_istore (lv' := [(7, .int v), (6, .int k1), (0, .ref b), (1, .ref (a 0)), (2, .ref (d 0)), (3, .ref o), (4, .ref od), (5, .int (nI i))]) hX_ hB_ dL_law_499 hl (by decide) rfl (fun ls hl => ?_)
  refine lv_aload_n hX_ hB_ dL_law_501 rfl (lv_at hl 4 rfl) ?_
  refine ze_FVi (As := []) (rest := []) (ci := 9) (q0 := 0) (k := (RX9, TX9, 39)) S (zr_thrown l D c d n2 A2 B2 mk2 k1) (cwV 0 hts gL_law_X9_thrown_n rfl rfl rfl (by decide +kernel) ⟨Nat.le_of_ble_eq_true rfl, Nat.le_of_ble_eq_true rfl⟩) hK hW hA rfl rfl rfl hl.1 rfl (lv_room (Nat.le_of_ble_eq_true rfl)) dL_law_502 ⟨by show k + mc + mc2 + 0 ≤ 601024; omega, by show j + ms + ms2 + 0 ≤ 7293034; omega⟩ (fun H locs hW => ?_)
  have hW := zy_wB hW
  refine lv_iload hX_ hB_ dL_law_505 (lv_at hl 1 rfl) ?_
  refine lv_icmp_eq (tgt := 512) hX_ hB_ dL_law_507 (by decide) (fun _ => ?_) (fun q => absurd rfl q)
  refine lv_iload hX_ hB_ dL_law_512 (lv_at hl 1 rfl) ?_
  have gg : ∀ (ls : Array Slot), lv_has ls 8 [(7, .int v), (6, .int k1), (0, .ref b), (1, .ref (a 0)), (2, .ref (d 0)), (3, .ref o), (4, .ref od), (5, .int (nI i))] → W p l e room_1 s m #[Value.ref b] below meth cd H locs (k + mc + mc2 + 0) (j + ms + ms2 + 0) Q (F0 m 529 ls []) := fun ls hl => by
    refine lv_goto (tgt := 2642) hX_ hB_ dL_law_529 (by decide) ?_
    refine W.widen (k := k + 2) (n := j + 14) (by omega) (by omega) ?_
    exact G (a2 q9) n2 A2 B2 E2 mk2 k1 f2 g H locs ls (ha2 q9) hI2 hW (lv_sub hl [2, 3, 4, 5, 6, 7] rfl)
  refine lv_if_ne (tgt := 529) hX_ hB_ dL_law_514 (by decide) (fun _ => gg ls hl) (fun hk0 => ?_)
  have hf2 : f2 (0 : Int32).toNatClampNeg = v.toInt64 := hkv hk0
  refine lv_aload_n hX_ hB_ dL_law_517 rfl (lv_at hl 5 rfl) ?_
  refine lv_iconst (v := 0) hX_ hB_ dL_law_518 (by decide) ?_
  refine va_lald (f := f2) hX_ hB_ hK hW.1 ((ze_wC c (a2 q9) n2 A2 B2 E2).length + 0) 6 (ze_appget0 (ze_appL (k := 0) rfl)) rfl (vp_in_nI (n := 0) (N := 1) (by decide) (by decide)) dL_law_519 ?_
  refine lv_iload hX_ hB_ dL_law_520 (lv_at hl 0 rfl) ?_
  refine lv_i2l (v := v.toInt64) hX_ hB_ dL_law_522 rfl ?_
  refine W.lcmp hX_ hB_ dL_law_523 ?_
  rw [hf2, zy_cmp]
  exact lv_if_eq (tgt := 529) hX_ hB_ dL_law_524 (by decide) (fun _ => gg ls hl) (fun q => absurd rfl q)
set_option maxHeartbeats 4000000 in
set_option maxRecDepth 100000 in
theorem zy_tie (C : zy_C p l s m cd D c b L xs) {a d n : Nat → Nat} {A : Nat → Nat → Int32} {B : Nat → Int64} {E : Nat → Nat → Int32} {mk : Nat → Int32} {th : Int32} {o od : Nat} {f : Nat → Int64} {g : Nat → UInt64} {H : Heap} {locs : List Loc} {ls : Array Slot} {i k j : Nat} (hi : i + 6 ≤ L) (hb : k + 2 ≤ 601024 ∧ j + 14 ≤ 7293034) (hI : zv_I n A E mk) (hW : ze_W D (zy_W c a d n A B E mk th o od f g) (zy_F s) s.heap H locs) (hl : lv_has ls 8 (zy_L b (a 0) (d 0) o od i)) (G : zy_G p l e s m below meth cd D c b Q d o od (a 0) i (k + 2) (j + 14)) : W p l e room_1 s m #[Value.ref b] below meth cd H locs k j Q (F0 m 532 ls []) := by
  obtain ⟨S, hst, hX, hbl, hXB, hNc, hK, hL⟩ := id C
  have hX_ := S.1
  have hB_ := S.2.1
  have hts := S.2.2.2.2
  have hA : ∀ q : Nat, s.heap.size ≤ q → zy_F s q := fun _ h => h
  obtain ⟨hb1, hb2⟩ := hb
  obtain ⟨k1, v, fr, lo, mc, ms, fr2, lo2, mc2, ms2, a2, n2, A2, B2, E2, mk2, f2, ⟨b1, b2, b3, b4, b5, b6, b7, b8⟩, hQ, hR, hkv, ha2, hG, hI2⟩ := zw_tie_n (l := l) (D := D) (c := c) (a := a) (d := d) (B := B) (th := th) (o := o) (f := f) hI hst
  have hQ : ze_QE l yL_tie wsL_tie_n fr lo mc ms D c (ze_wC c a n A B E ++ [(o, .inl (c 6, 1, .inr (.inl f)))]) [.ref (a 0), .ref o] k1 (fun q => ze_wC c (a2 q) n2 A2 B2 E2 ++ [(o, .inl (c 6, 1, .inr (.inl f2)))]) := hQ
  have hR : ze_I l yX9_tie wsX9_tie fr2 lo2 mc2 ms2 D c (ze_wR c d n A B mk th) [.ref (d 0)] v (ze_wR c d n2 A2 B2 mk2 k1) := hR
  have hl : lv_has ls 8 [(0, .ref b), (1, .ref (a 0)), (2, .ref (d 0)), (3, .ref o), (4, .ref od), (5, .int (nI i))] := hl
  refine lv_aload_n hX_ hB_ dL_law_532 rfl (lv_at hl 1 rfl) ?_
  refine lv_aload_n hX_ hB_ dL_law_533 rfl (lv_at hl 3 rfl) ?_
  refine ze_FQe (As := [.ref (a 0), .ref o]) (rest := []) S hQ (vx_cwSW 2 hts gL_law_L_tie_n rfl rfl rfl (by decide +kernel) ⟨by show fr + 1 ≤ 13; omega, by show 8 + (_ + 11) + lo ≤ 476; omega⟩) hXB hNc hK hW hA rfl hl.1 rfl (lv_room (Nat.le_of_ble_eq_true rfl)) dL_law_534 ⟨by show k + mc ≤ 601024; omega, by show j + ms ≤ 7293034; omega⟩ (fun q9 H locs hW => ?_)
  refine lv_istore (lv' := [(6, .int k1), (0, .ref b), (1, .ref (a 0)), (2, .ref (d 0)), (3, .ref o), (4, .ref od), (5, .int (nI i))]) hX_ hB_ dL_law_537 hl (by decide) rfl (fun ls hl => ?_)
  refine lv_aload_n hX_ hB_ dL_law_539 rfl (lv_at hl 3 rfl) ?_
  have hW := zy_wA hW
  refine ze_FVi (As := []) (rest := []) (ci := 9) (q0 := 0) (k := (RX9, TX9, 39)) S hR (cwV 0 hts gL_law_X9_tie_n rfl rfl rfl (by decide +kernel) ⟨by show fr2 + 1 ≤ 13; omega, by show 8 + (_ + 11) + lo2 ≤ 476; omega⟩) hK hW hA rfl rfl rfl hl.1 rfl (lv_room (Nat.le_of_ble_eq_true rfl)) dL_law_540 ⟨by show k + mc + mc2 ≤ 601024; omega, by show j + ms + ms2 ≤ 7293034; omega⟩ (fun H locs hW => ?_)
  refine lv_istore (lv' := [(7, .int v), (6, .int k1), (0, .ref b), (1, .ref (a 0)), (2, .ref (d 0)), (3, .ref o), (4, .ref od), (5, .int (nI i))]) hX_ hB_ dL_law_543 hl (by decide) rfl (fun ls hl => ?_)
  refine lv_aload_n hX_ hB_ dL_law_545 rfl (lv_at hl 4 rfl) ?_
  refine ze_FVi (As := []) (rest := []) (ci := 9) (q0 := 0) (k := (RX9, TX9, 39)) S (zr_thrown l D c d n2 A2 B2 mk2 k1) (cwV 0 hts gL_law_X9_thrown_n rfl rfl rfl (by decide +kernel) ⟨Nat.le_of_ble_eq_true rfl, Nat.le_of_ble_eq_true rfl⟩) hK hW hA rfl rfl rfl hl.1 rfl (lv_room (Nat.le_of_ble_eq_true rfl)) dL_law_546 ⟨by show k + mc + mc2 + 0 ≤ 601024; omega, by show j + ms + ms2 + 0 ≤ 7293034; omega⟩ (fun H locs hW => ?_)
  have hW := zy_wB hW
  refine lv_iload hX_ hB_ dL_law_549 (lv_at hl 1 rfl) ?_
  refine lv_icmp_eq (tgt := 556) hX_ hB_ dL_law_551 (by decide) (fun _ => ?_) (fun q => absurd rfl q)
  refine lv_iload hX_ hB_ dL_law_556 (lv_at hl 1 rfl) ?_
  have gg : ∀ (ls : Array Slot), lv_has ls 8 [(7, .int v), (6, .int k1), (0, .ref b), (1, .ref (a 0)), (2, .ref (d 0)), (3, .ref o), (4, .ref od), (5, .int (nI i))] → W p l e room_1 s m #[Value.ref b] below meth cd H locs (k + mc + mc2 + 0) (j + ms + ms2 + 0) Q (F0 m 573 ls []) := fun ls hl => by
    refine lv_goto (tgt := 2642) hX_ hB_ dL_law_573 (by decide) ?_
    refine W.widen (k := k + 2) (n := j + 14) (by omega) (by omega) ?_
    exact G (a2 q9) n2 A2 B2 E2 mk2 k1 f2 g H locs ls (ha2 q9) hI2 hW (lv_sub hl [2, 3, 4, 5, 6, 7] rfl)
  refine lv_if_ne (tgt := 573) hX_ hB_ dL_law_558 (by decide) (fun _ => gg ls hl) (fun hk0 => ?_)
  have hf2 : f2 (0 : Int32).toNatClampNeg = v.toInt64 := hkv hk0
  refine lv_aload_n hX_ hB_ dL_law_561 rfl (lv_at hl 5 rfl) ?_
  refine lv_iconst (v := 0) hX_ hB_ dL_law_562 (by decide) ?_
  refine va_lald (f := f2) hX_ hB_ hK hW.1 ((ze_wC c (a2 q9) n2 A2 B2 E2).length + 0) 6 (ze_appget0 (ze_appL (k := 0) rfl)) rfl (vp_in_nI (n := 0) (N := 1) (by decide) (by decide)) dL_law_563 ?_
  refine lv_iload hX_ hB_ dL_law_564 (lv_at hl 0 rfl) ?_
  refine lv_i2l (v := v.toInt64) hX_ hB_ dL_law_566 rfl ?_
  refine W.lcmp hX_ hB_ dL_law_567 ?_
  rw [hf2, zy_cmp]
  exact lv_if_eq (tgt := 573) hX_ hB_ dL_law_568 (by decide) (fun _ => gg ls hl) (fun q => absurd rfl q)
set_option maxHeartbeats 4000000 in
set_option maxRecDepth 100000 in
theorem zy_untie (C : zy_C p l s m cd D c b L xs) {a d n : Nat → Nat} {A : Nat → Nat → Int32} {B : Nat → Int64} {E : Nat → Nat → Int32} {mk : Nat → Int32} {th : Int32} {o od : Nat} {f : Nat → Int64} {g : Nat → UInt64} {H : Heap} {locs : List Loc} {ls : Array Slot} {i k j : Nat} (hi : i + 6 ≤ L) (hb : k + 2 ≤ 601024 ∧ j + 14 ≤ 7293034) (hI : zv_I n A E mk) (hW : ze_W D (zy_W c a d n A B E mk th o od f g) (zy_F s) s.heap H locs) (hl : lv_has ls 8 (zy_L b (a 0) (d 0) o od i)) (G : zy_G p l e s m below meth cd D c b Q d o od (a 0) i (k + 2) (j + 14)) : W p l e room_1 s m #[Value.ref b] below meth cd H locs k j Q (F0 m 576 ls []) := by
  obtain ⟨S, hst, hX, hbl, hXB, hNc, hK, hL⟩ := id C
  have hX_ := S.1
  have hB_ := S.2.1
  have hts := S.2.2.2.2
  have hA : ∀ q : Nat, s.heap.size ≤ q → zy_F s q := fun _ h => h
  obtain ⟨hb1, hb2⟩ := hb
  obtain ⟨k1, v, fr, lo, mc, ms, fr2, lo2, mc2, ms2, a2, n2, A2, B2, E2, mk2, f2, ⟨b1, b2, b3, b4, b5, b6, b7, b8⟩, hQ, hR, hkv, ha2, hG, hI2⟩ := zw_untie (l := l) (D := D) (c := c) (a := a) (d := d) (B := B) (th := th) (o := o) (f := f) hI hst
  have hQ : ze_QE l yL_untie wsL_untie fr lo mc ms D c (ze_wC c a n A B E ++ [(o, .inl (c 6, 1, .inr (.inl f)))]) [.ref (a 0), .ref o] k1 (fun q => ze_wC c (a2 q) n2 A2 B2 E2 ++ [(o, .inl (c 6, 1, .inr (.inl f2)))]) := hQ
  have hR : ze_I l yX9_untie wsX9_untie fr2 lo2 mc2 ms2 D c (ze_wR c d n A B mk th) [.ref (d 0)] v (ze_wR c d n2 A2 B2 mk2 k1) := hR
  have hl : lv_has ls 8 [(0, .ref b), (1, .ref (a 0)), (2, .ref (d 0)), (3, .ref o), (4, .ref od), (5, .int (nI i))] := hl
  refine lv_aload_n hX_ hB_ dL_law_576 rfl (lv_at hl 1 rfl) ?_
  refine lv_aload_n hX_ hB_ dL_law_577 rfl (lv_at hl 3 rfl) ?_
  refine ze_FQe (As := [.ref (a 0), .ref o]) (rest := []) S hQ (vx_cwSW 2 hts gL_law_L_untie_n rfl rfl rfl (by decide +kernel) ⟨by show fr + 1 ≤ 13; omega, by show 8 + (_ + 11) + lo ≤ 476; omega⟩) hXB hNc hK hW hA rfl hl.1 rfl (lv_room (Nat.le_of_ble_eq_true rfl)) dL_law_578 ⟨by show k + mc ≤ 601024; omega, by show j + ms ≤ 7293034; omega⟩ (fun q9 H locs hW => ?_)
  refine lv_istore (lv' := [(6, .int k1), (0, .ref b), (1, .ref (a 0)), (2, .ref (d 0)), (3, .ref o), (4, .ref od), (5, .int (nI i))]) hX_ hB_ dL_law_581 hl (by decide) rfl (fun ls hl => ?_)
  refine lv_aload_n hX_ hB_ dL_law_583 rfl (lv_at hl 3 rfl) ?_
  have hW := zy_wA hW
  refine ze_FVi (As := []) (rest := []) (ci := 9) (q0 := 0) (k := (RX9, TX9, 39)) S hR (cwV 0 hts gL_law_X9_untie_n rfl rfl rfl (by decide +kernel) ⟨by show fr2 + 1 ≤ 13; omega, by show 8 + (_ + 11) + lo2 ≤ 476; omega⟩) hK hW hA rfl rfl rfl hl.1 rfl (lv_room (Nat.le_of_ble_eq_true rfl)) dL_law_584 ⟨by show k + mc + mc2 ≤ 601024; omega, by show j + ms + ms2 ≤ 7293034; omega⟩ (fun H locs hW => ?_)
  refine lv_istore (lv' := [(7, .int v), (6, .int k1), (0, .ref b), (1, .ref (a 0)), (2, .ref (d 0)), (3, .ref o), (4, .ref od), (5, .int (nI i))]) hX_ hB_ dL_law_587 hl (by decide) rfl (fun ls hl => ?_)
  refine lv_aload_n hX_ hB_ dL_law_589 rfl (lv_at hl 4 rfl) ?_
  refine ze_FVi (As := []) (rest := []) (ci := 9) (q0 := 0) (k := (RX9, TX9, 39)) S (zr_thrown l D c d n2 A2 B2 mk2 k1) (cwV 0 hts gL_law_X9_thrown_n rfl rfl rfl (by decide +kernel) ⟨Nat.le_of_ble_eq_true rfl, Nat.le_of_ble_eq_true rfl⟩) hK hW hA rfl rfl rfl hl.1 rfl (lv_room (Nat.le_of_ble_eq_true rfl)) dL_law_590 ⟨by show k + mc + mc2 + 0 ≤ 601024; omega, by show j + ms + ms2 + 0 ≤ 7293034; omega⟩ (fun H locs hW => ?_)
  have hW := zy_wB hW
  refine lv_iload hX_ hB_ dL_law_593 (lv_at hl 1 rfl) ?_
  refine lv_icmp_eq (tgt := 600) hX_ hB_ dL_law_595 (by decide) (fun _ => ?_) (fun q => absurd rfl q)
  refine lv_iload hX_ hB_ dL_law_600 (lv_at hl 1 rfl) ?_
  have gg : ∀ (ls : Array Slot), lv_has ls 8 [(7, .int v), (6, .int k1), (0, .ref b), (1, .ref (a 0)), (2, .ref (d 0)), (3, .ref o), (4, .ref od), (5, .int (nI i))] → W p l e room_1 s m #[Value.ref b] below meth cd H locs (k + mc + mc2 + 0) (j + ms + ms2 + 0) Q (F0 m 617 ls []) := fun ls hl => by
    refine lv_goto (tgt := 2642) hX_ hB_ dL_law_617 (by decide) ?_
    refine W.widen (k := k + 2) (n := j + 14) (by omega) (by omega) ?_
    exact G (a2 q9) n2 A2 B2 E2 mk2 k1 f2 g H locs ls (ha2 q9) hI2 hW (lv_sub hl [2, 3, 4, 5, 6, 7] rfl)
  refine lv_if_ne (tgt := 617) hX_ hB_ dL_law_602 (by decide) (fun _ => gg ls hl) (fun hk0 => ?_)
  have hf2 : f2 (0 : Int32).toNatClampNeg = v.toInt64 := hkv hk0
  refine lv_aload_n hX_ hB_ dL_law_605 rfl (lv_at hl 5 rfl) ?_
  refine lv_iconst (v := 0) hX_ hB_ dL_law_606 (by decide) ?_
  refine va_lald (f := f2) hX_ hB_ hK hW.1 ((ze_wC c (a2 q9) n2 A2 B2 E2).length + 0) 6 (ze_appget0 (ze_appL (k := 0) rfl)) rfl (vp_in_nI (n := 0) (N := 1) (by decide) (by decide)) dL_law_607 ?_
  refine lv_iload hX_ hB_ dL_law_608 (lv_at hl 0 rfl) ?_
  refine lv_i2l (v := v.toInt64) hX_ hB_ dL_law_610 rfl ?_
  refine W.lcmp hX_ hB_ dL_law_611 ?_
  rw [hf2, zy_cmp]
  exact lv_if_eq (tgt := 617) hX_ hB_ dL_law_612 (by decide) (fun _ => gg ls hl) (fun q => absurd rfl q)
set_option maxHeartbeats 4000000 in
set_option maxRecDepth 100000 in
theorem zy_island (C : zy_C p l s m cd D c b L xs) {a d n : Nat → Nat} {A : Nat → Nat → Int32} {B : Nat → Int64} {E : Nat → Nat → Int32} {mk : Nat → Int32} {th : Int32} {o od : Nat} {f : Nat → Int64} {g : Nat → UInt64} {H : Heap} {locs : List Loc} {ls : Array Slot} {i k j : Nat} (hi : i + 6 ≤ L) (hb : k + 2 ≤ 601024 ∧ j + 14 ≤ 7293034) (hI : zv_I n A E mk) (hW : ze_W D (zy_W c a d n A B E mk th o od f g) (zy_F s) s.heap H locs) (hl : lv_has ls 8 (zy_L b (a 0) (d 0) o od i)) (G : zy_G p l e s m below meth cd D c b Q d o od (a 0) i (k + 2) (j + 14)) : W p l e room_1 s m #[Value.ref b] below meth cd H locs k j Q (F0 m 620 ls []) := by
  obtain ⟨S, hst, hX, hbl, hXB, hNc, hK, hL⟩ := id C
  have hX_ := S.1
  have hB_ := S.2.1
  have hts := S.2.2.2.2
  have hA : ∀ q : Nat, s.heap.size ≤ q → zy_F s q := fun _ h => h
  obtain ⟨hb1, hb2⟩ := hb
  obtain ⟨k1, v, fr, lo, mc, ms, fr2, lo2, mc2, ms2, a2, n2, A2, B2, E2, mk2, f2, ⟨b1, b2, b3, b4, b5, b6, b7, b8⟩, hQ, hR, hkv, ha2, hG, hI2⟩ := zw_island (l := l) (D := D) (c := c) (a := a) (d := d) (B := B) (th := th) (o := o) (f := f) hI hst (xs (i + 1))
  have hQ : ze_QE l yL_island wsL_island fr lo mc ms D c (ze_wC c a n A B E ++ [(o, .inl (c 6, 1, .inr (.inl f)))]) [.ref (a 0), .int (xs (i + 1)), .ref o] k1 (fun q => ze_wC c (a2 q) n2 A2 B2 E2 ++ [(o, .inl (c 6, 1, .inr (.inl f2)))]) := hQ
  have hR : ze_I l yX9_island wsX9_island fr2 lo2 mc2 ms2 D c (ze_wR c d n A B mk th) [.ref (d 0), .int (xs (i + 1))] v (ze_wR c d n2 A2 B2 mk2 k1) := hR
  have hl : lv_has ls 8 [(0, .ref b), (1, .ref (a 0)), (2, .ref (d 0)), (3, .ref o), (4, .ref od), (5, .int (nI i))] := hl
  refine lv_aload_n hX_ hB_ dL_law_620 rfl (lv_at hl 1 rfl) ?_
  refine zy_arg (q := 1) C hW hi (by decide) (lv_at hl 0 rfl) (lv_at hl 5 rfl) dL_law_621 dL_law_622 dL_law_624 rfl dL_law_625 dL_law_626 ?_
  refine lv_aload_n hX_ hB_ dL_law_627 rfl (lv_at hl 3 rfl) ?_
  refine ze_FQe (As := [.ref (a 0), .int (xs (i + 1)), .ref o]) (rest := []) S hQ (vx_cwSW 3 hts gL_law_L_island_n rfl rfl rfl (by decide +kernel) ⟨by show fr + 1 ≤ 13; omega, by show 8 + (_ + 11) + lo ≤ 476; omega⟩) hXB hNc hK hW hA rfl hl.1 rfl (lv_room (Nat.le_of_ble_eq_true rfl)) dL_law_628 ⟨by show k + mc ≤ 601024; omega, by show j + ms ≤ 7293034; omega⟩ (fun q9 H locs hW => ?_)
  refine lv_istore (lv' := [(6, .int k1), (0, .ref b), (1, .ref (a 0)), (2, .ref (d 0)), (3, .ref o), (4, .ref od), (5, .int (nI i))]) hX_ hB_ dL_law_631 hl (by decide) rfl (fun ls hl => ?_)
  refine lv_aload_n hX_ hB_ dL_law_633 rfl (lv_at hl 3 rfl) ?_
  refine zy_arg (q := 1) C hW hi (by decide) (lv_at hl 1 rfl) (lv_at hl 6 rfl) dL_law_634 dL_law_635 dL_law_637 rfl dL_law_638 dL_law_639 ?_
  have hW := zy_wA hW
  refine ze_FVi (As := [.int (xs (i + 1))]) (rest := []) (ci := 9) (q0 := 0) (k := (RX9, TX9, 39)) S hR (cwV 1 hts gL_law_X9_island_n rfl rfl rfl (by decide +kernel) ⟨by show fr2 + 1 ≤ 13; omega, by show 8 + (_ + 11) + lo2 ≤ 476; omega⟩) hK hW hA rfl rfl rfl hl.1 rfl (lv_room (Nat.le_of_ble_eq_true rfl)) dL_law_640 ⟨by show k + mc + mc2 ≤ 601024; omega, by show j + ms + ms2 ≤ 7293034; omega⟩ (fun H locs hW => ?_)
  refine lv_istore (lv' := [(7, .int v), (6, .int k1), (0, .ref b), (1, .ref (a 0)), (2, .ref (d 0)), (3, .ref o), (4, .ref od), (5, .int (nI i))]) hX_ hB_ dL_law_643 hl (by decide) rfl (fun ls hl => ?_)
  refine lv_aload_n hX_ hB_ dL_law_645 rfl (lv_at hl 4 rfl) ?_
  refine ze_FVi (As := []) (rest := []) (ci := 9) (q0 := 0) (k := (RX9, TX9, 39)) S (zr_thrown l D c d n2 A2 B2 mk2 k1) (cwV 0 hts gL_law_X9_thrown_n rfl rfl rfl (by decide +kernel) ⟨Nat.le_of_ble_eq_true rfl, Nat.le_of_ble_eq_true rfl⟩) hK hW hA rfl rfl rfl hl.1 rfl (lv_room (Nat.le_of_ble_eq_true rfl)) dL_law_646 ⟨by show k + mc + mc2 + 0 ≤ 601024; omega, by show j + ms + ms2 + 0 ≤ 7293034; omega⟩ (fun H locs hW => ?_)
  have hW := zy_wB hW
  refine lv_iload hX_ hB_ dL_law_649 (lv_at hl 1 rfl) ?_
  refine lv_icmp_eq (tgt := 656) hX_ hB_ dL_law_651 (by decide) (fun _ => ?_) (fun q => absurd rfl q)
  refine lv_iload hX_ hB_ dL_law_656 (lv_at hl 1 rfl) ?_
  have gg : ∀ (ls : Array Slot), lv_has ls 8 [(7, .int v), (6, .int k1), (0, .ref b), (1, .ref (a 0)), (2, .ref (d 0)), (3, .ref o), (4, .ref od), (5, .int (nI i))] → W p l e room_1 s m #[Value.ref b] below meth cd H locs (k + mc + mc2 + 0) (j + ms + ms2 + 0) Q (F0 m 673 ls []) := fun ls hl => by
    refine lv_goto (tgt := 2642) hX_ hB_ dL_law_673 (by decide) ?_
    refine W.widen (k := k + 2) (n := j + 14) (by omega) (by omega) ?_
    exact G (a2 q9) n2 A2 B2 E2 mk2 k1 f2 g H locs ls (ha2 q9) hI2 hW (lv_sub hl [2, 3, 4, 5, 6, 7] rfl)
  refine lv_if_ne (tgt := 673) hX_ hB_ dL_law_658 (by decide) (fun _ => gg ls hl) (fun hk0 => ?_)
  have hf2 : f2 (0 : Int32).toNatClampNeg = v.toInt64 := hkv hk0
  refine lv_aload_n hX_ hB_ dL_law_661 rfl (lv_at hl 5 rfl) ?_
  refine lv_iconst (v := 0) hX_ hB_ dL_law_662 (by decide) ?_
  refine va_lald (f := f2) hX_ hB_ hK hW.1 ((ze_wC c (a2 q9) n2 A2 B2 E2).length + 0) 6 (ze_appget0 (ze_appL (k := 0) rfl)) rfl (vp_in_nI (n := 0) (N := 1) (by decide) (by decide)) dL_law_663 ?_
  refine lv_iload hX_ hB_ dL_law_664 (lv_at hl 0 rfl) ?_
  refine lv_i2l (v := v.toInt64) hX_ hB_ dL_law_666 rfl ?_
  refine W.lcmp hX_ hB_ dL_law_667 ?_
  rw [hf2, zy_cmp]
  exact lv_if_eq (tgt := 673) hX_ hB_ dL_law_668 (by decide) (fun _ => gg ls hl) (fun q => absurd rfl q)
set_option maxHeartbeats 4000000 in
set_option maxRecDepth 100000 in
theorem zy_islandByRounds (C : zy_C p l s m cd D c b L xs) {a d n : Nat → Nat} {A : Nat → Nat → Int32} {B : Nat → Int64} {E : Nat → Nat → Int32} {mk : Nat → Int32} {th : Int32} {o od : Nat} {f : Nat → Int64} {g : Nat → UInt64} {H : Heap} {locs : List Loc} {ls : Array Slot} {i k j : Nat} (hi : i + 6 ≤ L) (hb : k + 2 ≤ 601024 ∧ j + 14 ≤ 7293034) (hI : zv_I n A E mk) (hW : ze_W D (zy_W c a d n A B E mk th o od f g) (zy_F s) s.heap H locs) (hl : lv_has ls 8 (zy_L b (a 0) (d 0) o od i)) (G : zy_G p l e s m below meth cd D c b Q d o od (a 0) i (k + 2) (j + 14)) : W p l e room_1 s m #[Value.ref b] below meth cd H locs k j Q (F0 m 676 ls []) := by
  obtain ⟨S, hst, hX, hbl, hXB, hNc, hK, hL⟩ := id C
  have hX_ := S.1
  have hB_ := S.2.1
  have hts := S.2.2.2.2
  have hA : ∀ q : Nat, s.heap.size ≤ q → zy_F s q := fun _ h => h
  obtain ⟨hb1, hb2⟩ := hb
  obtain ⟨k1, v, fr, lo, mc, ms, fr2, lo2, mc2, ms2, a2, n2, A2, B2, E2, mk2, f2, ⟨b1, b2, b3, b4, b5, b6, b7, b8⟩, hQ, hR, hkv, ha2, hG, hI2⟩ := zw_islandByRounds (l := l) (D := D) (c := c) (a := a) (d := d) (B := B) (th := th) (o := o) (f := f) hI hst (xs (i + 1))
  have hQ : ze_QE l yL_islandByRounds wsL_islandByRounds fr lo mc ms D c (ze_wC c a n A B E ++ [(o, .inl (c 6, 1, .inr (.inl f)))]) [.ref (a 0), .int (xs (i + 1)), .ref o] k1 (fun q => ze_wC c (a2 q) n2 A2 B2 E2 ++ [(o, .inl (c 6, 1, .inr (.inl f2)))]) := hQ
  have hR : ze_I l yX9_islandByRounds wsX9_islandByRounds fr2 lo2 mc2 ms2 D c (ze_wR c d n A B mk th) [.ref (d 0), .int (xs (i + 1))] v (ze_wR c d n2 A2 B2 mk2 k1) := hR
  have hl : lv_has ls 8 [(0, .ref b), (1, .ref (a 0)), (2, .ref (d 0)), (3, .ref o), (4, .ref od), (5, .int (nI i))] := hl
  refine lv_aload_n hX_ hB_ dL_law_676 rfl (lv_at hl 1 rfl) ?_
  refine zy_arg (q := 1) C hW hi (by decide) (lv_at hl 0 rfl) (lv_at hl 5 rfl) dL_law_677 dL_law_678 dL_law_680 rfl dL_law_681 dL_law_682 ?_
  refine lv_aload_n hX_ hB_ dL_law_683 rfl (lv_at hl 3 rfl) ?_
  refine ze_FQe (As := [.ref (a 0), .int (xs (i + 1)), .ref o]) (rest := []) S hQ (vx_cwSW 3 hts gL_law_L_islandByRounds_n rfl rfl rfl (by decide +kernel) ⟨by show fr + 1 ≤ 13; omega, by show 8 + (_ + 11) + lo ≤ 476; omega⟩) hXB hNc hK hW hA rfl hl.1 rfl (lv_room (Nat.le_of_ble_eq_true rfl)) dL_law_684 ⟨by show k + mc ≤ 601024; omega, by show j + ms ≤ 7293034; omega⟩ (fun q9 H locs hW => ?_)
  refine lv_istore (lv' := [(6, .int k1), (0, .ref b), (1, .ref (a 0)), (2, .ref (d 0)), (3, .ref o), (4, .ref od), (5, .int (nI i))]) hX_ hB_ dL_law_687 hl (by decide) rfl (fun ls hl => ?_)
  refine lv_aload_n hX_ hB_ dL_law_689 rfl (lv_at hl 3 rfl) ?_
  refine zy_arg (q := 1) C hW hi (by decide) (lv_at hl 1 rfl) (lv_at hl 6 rfl) dL_law_690 dL_law_691 dL_law_693 rfl dL_law_694 dL_law_695 ?_
  have hW := zy_wA hW
  refine ze_FVi (As := [.int (xs (i + 1))]) (rest := []) (ci := 9) (q0 := 0) (k := (RX9, TX9, 39)) S hR (cwV 1 hts gL_law_X9_islandByRounds_n rfl rfl rfl (by decide +kernel) ⟨by show fr2 + 1 ≤ 13; omega, by show 8 + (_ + 11) + lo2 ≤ 476; omega⟩) hK hW hA rfl rfl rfl hl.1 rfl (lv_room (Nat.le_of_ble_eq_true rfl)) dL_law_696 ⟨by show k + mc + mc2 ≤ 601024; omega, by show j + ms + ms2 ≤ 7293034; omega⟩ (fun H locs hW => ?_)
  refine lv_istore (lv' := [(7, .int v), (6, .int k1), (0, .ref b), (1, .ref (a 0)), (2, .ref (d 0)), (3, .ref o), (4, .ref od), (5, .int (nI i))]) hX_ hB_ dL_law_699 hl (by decide) rfl (fun ls hl => ?_)
  refine lv_aload_n hX_ hB_ dL_law_701 rfl (lv_at hl 4 rfl) ?_
  refine ze_FVi (As := []) (rest := []) (ci := 9) (q0 := 0) (k := (RX9, TX9, 39)) S (zr_thrown l D c d n2 A2 B2 mk2 k1) (cwV 0 hts gL_law_X9_thrown_n rfl rfl rfl (by decide +kernel) ⟨Nat.le_of_ble_eq_true rfl, Nat.le_of_ble_eq_true rfl⟩) hK hW hA rfl rfl rfl hl.1 rfl (lv_room (Nat.le_of_ble_eq_true rfl)) dL_law_702 ⟨by show k + mc + mc2 + 0 ≤ 601024; omega, by show j + ms + ms2 + 0 ≤ 7293034; omega⟩ (fun H locs hW => ?_)
  have hW := zy_wB hW
  refine lv_iload hX_ hB_ dL_law_705 (lv_at hl 1 rfl) ?_
  refine lv_icmp_eq (tgt := 712) hX_ hB_ dL_law_707 (by decide) (fun _ => ?_) (fun q => absurd rfl q)
  refine lv_iload hX_ hB_ dL_law_712 (lv_at hl 1 rfl) ?_
  have gg : ∀ (ls : Array Slot), lv_has ls 8 [(7, .int v), (6, .int k1), (0, .ref b), (1, .ref (a 0)), (2, .ref (d 0)), (3, .ref o), (4, .ref od), (5, .int (nI i))] → W p l e room_1 s m #[Value.ref b] below meth cd H locs (k + mc + mc2 + 0) (j + ms + ms2 + 0) Q (F0 m 729 ls []) := fun ls hl => by
    refine lv_goto (tgt := 2642) hX_ hB_ dL_law_729 (by decide) ?_
    refine W.widen (k := k + 2) (n := j + 14) (by omega) (by omega) ?_
    exact G (a2 q9) n2 A2 B2 E2 mk2 k1 f2 g H locs ls (ha2 q9) hI2 hW (lv_sub hl [2, 3, 4, 5, 6, 7] rfl)
  refine lv_if_ne (tgt := 729) hX_ hB_ dL_law_714 (by decide) (fun _ => gg ls hl) (fun hk0 => ?_)
  have hf2 : f2 (0 : Int32).toNatClampNeg = v.toInt64 := hkv hk0
  refine lv_aload_n hX_ hB_ dL_law_717 rfl (lv_at hl 5 rfl) ?_
  refine lv_iconst (v := 0) hX_ hB_ dL_law_718 (by decide) ?_
  refine va_lald (f := f2) hX_ hB_ hK hW.1 ((ze_wC c (a2 q9) n2 A2 B2 E2).length + 0) 6 (ze_appget0 (ze_appL (k := 0) rfl)) rfl (vp_in_nI (n := 0) (N := 1) (by decide) (by decide)) dL_law_719 ?_
  refine lv_iload hX_ hB_ dL_law_720 (lv_at hl 0 rfl) ?_
  refine lv_i2l (v := v.toInt64) hX_ hB_ dL_law_722 rfl ?_
  refine W.lcmp hX_ hB_ dL_law_723 ?_
  rw [hf2, zy_cmp]
  exact lv_if_eq (tgt := 729) hX_ hB_ dL_law_724 (by decide) (fun _ => gg ls hl) (fun q => absurd rfl q)
set_option maxHeartbeats 4000000 in
set_option maxRecDepth 100000 in
theorem zy_islands (C : zy_C p l s m cd D c b L xs) {a d n : Nat → Nat} {A : Nat → Nat → Int32} {B : Nat → Int64} {E : Nat → Nat → Int32} {mk : Nat → Int32} {th : Int32} {o od : Nat} {f : Nat → Int64} {g : Nat → UInt64} {H : Heap} {locs : List Loc} {ls : Array Slot} {i k j : Nat} (hi : i + 6 ≤ L) (hb : k + 2 ≤ 601024 ∧ j + 14 ≤ 7293034) (hI : zv_I n A E mk) (hW : ze_W D (zy_W c a d n A B E mk th o od f g) (zy_F s) s.heap H locs) (hl : lv_has ls 8 (zy_L b (a 0) (d 0) o od i)) (G : zy_G p l e s m below meth cd D c b Q d o od (a 0) i (k + 2) (j + 14)) : W p l e room_1 s m #[Value.ref b] below meth cd H locs k j Q (F0 m 732 ls []) := by
  obtain ⟨S, hst, hX, hbl, hXB, hNc, hK, hL⟩ := id C
  have hX_ := S.1
  have hB_ := S.2.1
  have hts := S.2.2.2.2
  have hA : ∀ q : Nat, s.heap.size ≤ q → zy_F s q := fun _ h => h
  obtain ⟨hb1, hb2⟩ := hb
  obtain ⟨hN, hS, hE, hz, h4, h4z, hT, hC, ⟨P, hKK⟩, hZ, hp⟩ := id hI
  have hQ := zp_islands_f l D c a n A B E hN
  have hR := zr_islands_f l D c d n A B mk th hN hS hz
  rw [hE] at hQ
  have hl : lv_has ls 8 [(0, .ref b), (1, .ref (a 0)), (2, .ref (d 0)), (3, .ref o), (4, .ref od), (5, .int (nI i))] := hl
  refine lv_aload_n hX_ hB_ dL_law_732 rfl (lv_at hl 1 rfl) ?_
  have hW := ze_as hW
  refine ze_FVi (As := []) (rest := []) (ci := 8) (q0 := 0) (k := (RX8, TX8, 8)) S hQ (cwV 0 hts gL_law_X8_islands_n rfl rfl rfl (by decide +kernel) ⟨Nat.le_of_ble_eq_true rfl, Nat.le_of_ble_eq_true rfl⟩) hK hW hA rfl (ze_at0 0 rfl) rfl hl.1 rfl (lv_room (Nat.le_of_ble_eq_true rfl)) dL_law_733 ⟨by show k + 0 ≤ 601024; omega, by show j + 0 ≤ 7293034; omega⟩ (fun H locs hW => ?_)
  have hW := ze_asr hW
  refine lv_aload_n hX_ hB_ dL_law_736 rfl (lv_at hl 2 rfl) ?_
  have hW := zy_wA hW
  refine ze_FVi (As := []) (rest := [.int (zf_many (zf_CI n A) (n 0))]) (ci := 9) (q0 := 0) (k := (RX9, TX9, 39)) S hR (cwV 0 hts gL_law_X9_islands_n rfl rfl rfl (by decide +kernel) ⟨Nat.le_of_ble_eq_true rfl, Nat.le_of_ble_eq_true rfl⟩) hK hW hA rfl rfl rfl hl.1 rfl (lv_room (Nat.le_of_ble_eq_true rfl)) dL_law_737 ⟨by show k + 0 + 0 ≤ 601024; omega, by show j + 0 + 0 ≤ 7293034; omega⟩ (fun H locs hW => ?_)
  have hW := zy_wB hW
  refine lv_icmp_eq (tgt := 2642) hX_ hB_ dL_law_740 (by decide) (fun _ => ?_) (fun q => absurd rfl q)
  refine W.widen (k := k + 2) (n := j + 14) (by omega) (by omega) ?_
  exact G a n A B E (zf_CI n A) 0 f g H locs ls rfl (zv_mk hI (zv_ci hI)) hW (lv_sub hl [0, 1, 2, 3, 4, 5] rfl)
set_option maxHeartbeats 4000000 in
set_option maxRecDepth 100000 in
theorem zy_phase (C : zy_C p l s m cd D c b L xs) {a d n : Nat → Nat} {A : Nat → Nat → Int32} {B : Nat → Int64} {E : Nat → Nat → Int32} {mk : Nat → Int32} {th : Int32} {o od : Nat} {f : Nat → Int64} {g : Nat → UInt64} {H : Heap} {locs : List Loc} {ls : Array Slot} {i k j : Nat} (hi : i + 6 ≤ L) (hb : k + 2 ≤ 601024 ∧ j + 14 ≤ 7293034) (hI : zv_I n A E mk) (hW : ze_W D (zy_W c a d n A B E mk th o od f g) (zy_F s) s.heap H locs) (hl : lv_has ls 8 (zy_L b (a 0) (d 0) o od i)) (G : zy_G p l e s m below meth cd D c b Q d o od (a 0) i (k + 2) (j + 14)) : W p l e room_1 s m #[Value.ref b] below meth cd H locs k j Q (F0 m 745 ls []) := by
  obtain ⟨S, hst, hX, hbl, hXB, hNc, hK, hL⟩ := id C
  have hX_ := S.1
  have hB_ := S.2.1
  have hts := S.2.2.2.2
  have hA : ∀ q : Nat, s.heap.size ≤ q → zy_F s q := fun _ h => h
  obtain ⟨hb1, hb2⟩ := hb
  obtain ⟨k1, v, fr, lo, mc, ms, fr2, lo2, mc2, ms2, a2, n2, A2, B2, E2, mk2, f2, ⟨b1, b2, b3, b4, b5, b6, b7, b8⟩, hQ, hR, hkv, ha2, hG, hI2⟩ := zw_phase (l := l) (D := D) (c := c) (a := a) (d := d) (B := B) (th := th) (o := o) (f := f) hI hst (xs (i + 1))
  have hQ : ze_QE l yL_phase wsL_phase fr lo mc ms D c (ze_wC c a n A B E ++ [(o, .inl (c 6, 1, .inr (.inl f)))]) [.ref (a 0), .int (xs (i + 1)), .ref o] k1 (fun q => ze_wC c (a2 q) n2 A2 B2 E2 ++ [(o, .inl (c 6, 1, .inr (.inl f2)))]) := hQ
  have hR : ze_I l yX9_phase wsX9_phase fr2 lo2 mc2 ms2 D c (ze_wR c d n A B mk th) [.ref (d 0), .int (xs (i + 1))] v (ze_wR c d n2 A2 B2 mk2 k1) := hR
  have hl : lv_has ls 8 [(0, .ref b), (1, .ref (a 0)), (2, .ref (d 0)), (3, .ref o), (4, .ref od), (5, .int (nI i))] := hl
  refine lv_aload_n hX_ hB_ dL_law_745 rfl (lv_at hl 1 rfl) ?_
  refine zy_arg (q := 1) C hW hi (by decide) (lv_at hl 0 rfl) (lv_at hl 5 rfl) dL_law_746 dL_law_747 dL_law_749 rfl dL_law_750 dL_law_751 ?_
  refine lv_aload_n hX_ hB_ dL_law_752 rfl (lv_at hl 3 rfl) ?_
  refine ze_FQe (As := [.ref (a 0), .int (xs (i + 1)), .ref o]) (rest := []) S hQ (vx_cwSW 3 hts gL_law_L_phase_n rfl rfl rfl (by decide +kernel) ⟨by show fr + 1 ≤ 13; omega, by show 8 + (_ + 11) + lo ≤ 476; omega⟩) hXB hNc hK hW hA rfl hl.1 rfl (lv_room (Nat.le_of_ble_eq_true rfl)) dL_law_753 ⟨by show k + mc ≤ 601024; omega, by show j + ms ≤ 7293034; omega⟩ (fun q9 H locs hW => ?_)
  refine lv_istore (lv' := [(6, .int k1), (0, .ref b), (1, .ref (a 0)), (2, .ref (d 0)), (3, .ref o), (4, .ref od), (5, .int (nI i))]) hX_ hB_ dL_law_756 hl (by decide) rfl (fun ls hl => ?_)
  refine lv_aload_n hX_ hB_ dL_law_758 rfl (lv_at hl 3 rfl) ?_
  refine zy_arg (q := 1) C hW hi (by decide) (lv_at hl 1 rfl) (lv_at hl 6 rfl) dL_law_759 dL_law_760 dL_law_762 rfl dL_law_763 dL_law_764 ?_
  have hW := zy_wA hW
  refine ze_FVi (As := [.int (xs (i + 1))]) (rest := []) (ci := 9) (q0 := 0) (k := (RX9, TX9, 39)) S hR (cwV 1 hts gL_law_X9_phase_n rfl rfl rfl (by decide +kernel) ⟨by show fr2 + 1 ≤ 13; omega, by show 8 + (_ + 11) + lo2 ≤ 476; omega⟩) hK hW hA rfl rfl rfl hl.1 rfl (lv_room (Nat.le_of_ble_eq_true rfl)) dL_law_765 ⟨by show k + mc + mc2 ≤ 601024; omega, by show j + ms + ms2 ≤ 7293034; omega⟩ (fun H locs hW => ?_)
  refine lv_istore (lv' := [(7, .int v), (6, .int k1), (0, .ref b), (1, .ref (a 0)), (2, .ref (d 0)), (3, .ref o), (4, .ref od), (5, .int (nI i))]) hX_ hB_ dL_law_768 hl (by decide) rfl (fun ls hl => ?_)
  refine lv_aload_n hX_ hB_ dL_law_770 rfl (lv_at hl 4 rfl) ?_
  refine ze_FVi (As := []) (rest := []) (ci := 9) (q0 := 0) (k := (RX9, TX9, 39)) S (zr_thrown l D c d n2 A2 B2 mk2 k1) (cwV 0 hts gL_law_X9_thrown_n rfl rfl rfl (by decide +kernel) ⟨Nat.le_of_ble_eq_true rfl, Nat.le_of_ble_eq_true rfl⟩) hK hW hA rfl rfl rfl hl.1 rfl (lv_room (Nat.le_of_ble_eq_true rfl)) dL_law_771 ⟨by show k + mc + mc2 + 0 ≤ 601024; omega, by show j + ms + ms2 + 0 ≤ 7293034; omega⟩ (fun H locs hW => ?_)
  have hW := zy_wB hW
  refine lv_iload hX_ hB_ dL_law_774 (lv_at hl 1 rfl) ?_
  refine lv_icmp_eq (tgt := 781) hX_ hB_ dL_law_776 (by decide) (fun _ => ?_) (fun q => absurd rfl q)
  refine lv_iload hX_ hB_ dL_law_781 (lv_at hl 1 rfl) ?_
  have gg : ∀ (ls : Array Slot), lv_has ls 8 [(7, .int v), (6, .int k1), (0, .ref b), (1, .ref (a 0)), (2, .ref (d 0)), (3, .ref o), (4, .ref od), (5, .int (nI i))] → W p l e room_1 s m #[Value.ref b] below meth cd H locs (k + mc + mc2 + 0) (j + ms + ms2 + 0) Q (F0 m 798 ls []) := fun ls hl => by
    refine lv_goto (tgt := 2642) hX_ hB_ dL_law_798 (by decide) ?_
    refine W.widen (k := k + 2) (n := j + 14) (by omega) (by omega) ?_
    exact G (a2 q9) n2 A2 B2 E2 mk2 k1 f2 g H locs ls (ha2 q9) hI2 hW (lv_sub hl [2, 3, 4, 5, 6, 7] rfl)
  refine lv_if_ne (tgt := 798) hX_ hB_ dL_law_783 (by decide) (fun _ => gg ls hl) (fun hk0 => ?_)
  have hf2 : f2 (0 : Int32).toNatClampNeg = v.toInt64 := hkv hk0
  refine lv_aload_n hX_ hB_ dL_law_786 rfl (lv_at hl 5 rfl) ?_
  refine lv_iconst (v := 0) hX_ hB_ dL_law_787 (by decide) ?_
  refine va_lald (f := f2) hX_ hB_ hK hW.1 ((ze_wC c (a2 q9) n2 A2 B2 E2).length + 0) 6 (ze_appget0 (ze_appL (k := 0) rfl)) rfl (vp_in_nI (n := 0) (N := 1) (by decide) (by decide)) dL_law_788 ?_
  refine lv_iload hX_ hB_ dL_law_789 (lv_at hl 0 rfl) ?_
  refine lv_i2l (v := v.toInt64) hX_ hB_ dL_law_791 rfl ?_
  refine W.lcmp hX_ hB_ dL_law_792 ?_
  rw [hf2, zy_cmp]
  exact lv_if_eq (tgt := 798) hX_ hB_ dL_law_793 (by decide) (fun _ => gg ls hl) (fun q => absurd rfl q)
set_option maxHeartbeats 4000000 in
set_option maxRecDepth 100000 in
theorem zy_gap (C : zy_C p l s m cd D c b L xs) {a d n : Nat → Nat} {A : Nat → Nat → Int32} {B : Nat → Int64} {E : Nat → Nat → Int32} {mk : Nat → Int32} {th : Int32} {o od : Nat} {f : Nat → Int64} {g : Nat → UInt64} {H : Heap} {locs : List Loc} {ls : Array Slot} {i k j : Nat} (hi : i + 6 ≤ L) (hb : k + 2 ≤ 601024 ∧ j + 14 ≤ 7293034) (hI : zv_I n A E mk) (hW : ze_W D (zy_W c a d n A B E mk th o od f g) (zy_F s) s.heap H locs) (hl : lv_has ls 8 (zy_L b (a 0) (d 0) o od i)) (G : zy_G p l e s m below meth cd D c b Q d o od (a 0) i (k + 2) (j + 14)) : W p l e room_1 s m #[Value.ref b] below meth cd H locs k j Q (F0 m 801 ls []) := by
  obtain ⟨S, hst, hX, hbl, hXB, hNc, hK, hL⟩ := id C
  have hX_ := S.1
  have hB_ := S.2.1
  have hts := S.2.2.2.2
  have hA : ∀ q : Nat, s.heap.size ≤ q → zy_F s q := fun _ h => h
  obtain ⟨hb1, hb2⟩ := hb
  obtain ⟨k1, v, fr, lo, mc, ms, fr2, lo2, mc2, ms2, a2, n2, A2, B2, E2, mk2, f2, ⟨b1, b2, b3, b4, b5, b6, b7, b8⟩, hQ, hR, hkv, ha2, hG, hI2⟩ := zw_gap (l := l) (D := D) (c := c) (a := a) (d := d) (B := B) (th := th) (o := o) (f := f) hI hst (xs (i + 1))
  have hQ : ze_QE l yL_gap wsL_gap fr lo mc ms D c (ze_wC c a n A B E ++ [(o, .inl (c 6, 1, .inr (.inl f)))]) [.ref (a 0), .int (xs (i + 1)), .ref o] k1 (fun q => ze_wC c (a2 q) n2 A2 B2 E2 ++ [(o, .inl (c 6, 1, .inr (.inl f2)))]) := hQ
  have hR : ze_I l yX9_gap wsX9_gap fr2 lo2 mc2 ms2 D c (ze_wR c d n A B mk th) [.ref (d 0), .int (xs (i + 1))] v (ze_wR c d n2 A2 B2 mk2 k1) := hR
  have hl : lv_has ls 8 [(0, .ref b), (1, .ref (a 0)), (2, .ref (d 0)), (3, .ref o), (4, .ref od), (5, .int (nI i))] := hl
  refine lv_aload_n hX_ hB_ dL_law_801 rfl (lv_at hl 1 rfl) ?_
  refine zy_arg (q := 1) C hW hi (by decide) (lv_at hl 0 rfl) (lv_at hl 5 rfl) dL_law_802 dL_law_803 dL_law_805 rfl dL_law_806 dL_law_807 ?_
  refine lv_aload_n hX_ hB_ dL_law_808 rfl (lv_at hl 3 rfl) ?_
  refine ze_FQe (As := [.ref (a 0), .int (xs (i + 1)), .ref o]) (rest := []) S hQ (vx_cwSW 3 hts gL_law_L_gap_n rfl rfl rfl (by decide +kernel) ⟨by show fr + 1 ≤ 13; omega, by show 8 + (_ + 11) + lo ≤ 476; omega⟩) hXB hNc hK hW hA rfl hl.1 rfl (lv_room (Nat.le_of_ble_eq_true rfl)) dL_law_809 ⟨by show k + mc ≤ 601024; omega, by show j + ms ≤ 7293034; omega⟩ (fun q9 H locs hW => ?_)
  refine lv_istore (lv' := [(6, .int k1), (0, .ref b), (1, .ref (a 0)), (2, .ref (d 0)), (3, .ref o), (4, .ref od), (5, .int (nI i))]) hX_ hB_ dL_law_812 hl (by decide) rfl (fun ls hl => ?_)
  refine lv_aload_n hX_ hB_ dL_law_814 rfl (lv_at hl 3 rfl) ?_
  refine zy_arg (q := 1) C hW hi (by decide) (lv_at hl 1 rfl) (lv_at hl 6 rfl) dL_law_815 dL_law_816 dL_law_818 rfl dL_law_819 dL_law_820 ?_
  have hW := zy_wA hW
  refine ze_FVi (As := [.int (xs (i + 1))]) (rest := []) (ci := 9) (q0 := 0) (k := (RX9, TX9, 39)) S hR (cwV 1 hts gL_law_X9_gap_n rfl rfl rfl (by decide +kernel) ⟨by show fr2 + 1 ≤ 13; omega, by show 8 + (_ + 11) + lo2 ≤ 476; omega⟩) hK hW hA rfl rfl rfl hl.1 rfl (lv_room (Nat.le_of_ble_eq_true rfl)) dL_law_821 ⟨by show k + mc + mc2 ≤ 601024; omega, by show j + ms + ms2 ≤ 7293034; omega⟩ (fun H locs hW => ?_)
  refine lv_istore (lv' := [(7, .int v), (6, .int k1), (0, .ref b), (1, .ref (a 0)), (2, .ref (d 0)), (3, .ref o), (4, .ref od), (5, .int (nI i))]) hX_ hB_ dL_law_824 hl (by decide) rfl (fun ls hl => ?_)
  refine lv_aload_n hX_ hB_ dL_law_826 rfl (lv_at hl 4 rfl) ?_
  refine ze_FVi (As := []) (rest := []) (ci := 9) (q0 := 0) (k := (RX9, TX9, 39)) S (zr_thrown l D c d n2 A2 B2 mk2 k1) (cwV 0 hts gL_law_X9_thrown_n rfl rfl rfl (by decide +kernel) ⟨Nat.le_of_ble_eq_true rfl, Nat.le_of_ble_eq_true rfl⟩) hK hW hA rfl rfl rfl hl.1 rfl (lv_room (Nat.le_of_ble_eq_true rfl)) dL_law_827 ⟨by show k + mc + mc2 + 0 ≤ 601024; omega, by show j + ms + ms2 + 0 ≤ 7293034; omega⟩ (fun H locs hW => ?_)
  have hW := zy_wB hW
  refine lv_iload hX_ hB_ dL_law_830 (lv_at hl 1 rfl) ?_
  refine lv_icmp_eq (tgt := 837) hX_ hB_ dL_law_832 (by decide) (fun _ => ?_) (fun q => absurd rfl q)
  refine lv_iload hX_ hB_ dL_law_837 (lv_at hl 1 rfl) ?_
  have gg : ∀ (ls : Array Slot), lv_has ls 8 [(7, .int v), (6, .int k1), (0, .ref b), (1, .ref (a 0)), (2, .ref (d 0)), (3, .ref o), (4, .ref od), (5, .int (nI i))] → W p l e room_1 s m #[Value.ref b] below meth cd H locs (k + mc + mc2 + 0) (j + ms + ms2 + 0) Q (F0 m 854 ls []) := fun ls hl => by
    refine lv_goto (tgt := 2642) hX_ hB_ dL_law_854 (by decide) ?_
    refine W.widen (k := k + 2) (n := j + 14) (by omega) (by omega) ?_
    exact G (a2 q9) n2 A2 B2 E2 mk2 k1 f2 g H locs ls (ha2 q9) hI2 hW (lv_sub hl [2, 3, 4, 5, 6, 7] rfl)
  refine lv_if_ne (tgt := 854) hX_ hB_ dL_law_839 (by decide) (fun _ => gg ls hl) (fun hk0 => ?_)
  have hf2 : f2 (0 : Int32).toNatClampNeg = v.toInt64 := hkv hk0
  refine lv_aload_n hX_ hB_ dL_law_842 rfl (lv_at hl 5 rfl) ?_
  refine lv_iconst (v := 0) hX_ hB_ dL_law_843 (by decide) ?_
  refine va_lald (f := f2) hX_ hB_ hK hW.1 ((ze_wC c (a2 q9) n2 A2 B2 E2).length + 0) 6 (ze_appget0 (ze_appL (k := 0) rfl)) rfl (vp_in_nI (n := 0) (N := 1) (by decide) (by decide)) dL_law_844 ?_
  refine lv_iload hX_ hB_ dL_law_845 (lv_at hl 0 rfl) ?_
  refine lv_i2l (v := v.toInt64) hX_ hB_ dL_law_847 rfl ?_
  refine W.lcmp hX_ hB_ dL_law_848 ?_
  rw [hf2, zy_cmp]
  exact lv_if_eq (tgt := 854) hX_ hB_ dL_law_849 (by decide) (fun _ => gg ls hl) (fun q => absurd rfl q)
end ZY
