/-! ===== the law's calls, walked ===== -/
section ZY
variable {p : Program} {l : Launch} {e : Env} {s : State} {m : MethodId} {below : List Frame} {meth : Method} {cd : Code} {D : va_G} {c : Nat → ClassId} {b L : Nat} {xs : Nat → Int32} {Q : State → Prop}
set_option maxHeartbeats 4000000 in
set_option maxRecDepth 100000 in
theorem zy_shareBySteps (C : zy_C p l s m cd D c b L xs) {a d n : Nat → Nat} {A : Nat → Nat → Int32} {B : Nat → Int64} {E : Nat → Nat → Int32} {mk : Nat → Int32} {th : Int32} {o od : Nat} {f : Nat → Int64} {g : Nat → UInt64} {H : Heap} {locs : List Loc} {ls : Array Slot} {i k j : Nat} (hi : i + 6 ≤ L) (hb : k + 2 ≤ 601024 ∧ j + 14 ≤ 7293034) (hI : zv_I n A E mk) (hW : ze_W D (zy_W c a d n A B E mk th o od f g) (zy_F s) s.heap H locs) (hl : lv_has ls 8 (zy_L b (a 0) (d 0) o od i)) (G : zy_G p l e s m below meth cd D c b Q d o od (a 0) i (k + 2) (j + 14)) : W p l e room_1 s m #[Value.ref b] below meth cd H locs k j Q (F0 m 2247 ls []) := by
  obtain ⟨S, hst, hX, hbl, hXB, hNc, hK, hL⟩ := id C
  have hX_ := S.1
  have hB_ := S.2.1
  have hts := S.2.2.2.2
  have hA : ∀ q : Nat, s.heap.size ≤ q → zy_F s q := fun _ h => h
  obtain ⟨hb1, hb2⟩ := hb
  obtain ⟨k1, v, fr, lo, mc, ms, fr2, lo2, mc2, ms2, a2, n2, A2, B2, E2, mk2, f2, ⟨b1, b2, b3, b4, b5, b6, b7, b8⟩, hQ, hR, hkv, ha2, hG, hI2⟩ := zw_shareBySteps_n (l := l) (D := D) (c := c) (a := a) (d := d) (B := B) (th := th) (o := o) (f := f) hI hst (xs (i + 1)) (xs (i + 2)) (xs (i + 3))
  have hQ : ze_QE l yL_shareBySteps wsL_shareBySteps_n fr lo mc ms D c (ze_wC c a n A B E ++ [(o, .inl (c 6, 1, .inr (.inl f)))]) [.ref (a 0), .int (xs (i + 1)), .int (xs (i + 2)), .int (xs (i + 3)), .ref o] k1 (fun q => ze_wC c (a2 q) n2 A2 B2 E2 ++ [(o, .inl (c 6, 1, .inr (.inl f2)))]) := hQ
  have hR : ze_I l yX9_shareBySteps wsX9_shareBySteps fr2 lo2 mc2 ms2 D c (ze_wR c d n A B mk th) [.ref (d 0), .int (xs (i + 1)), .int (xs (i + 2)), .int (xs (i + 3))] v (ze_wR c d n2 A2 B2 mk2 k1) := hR
  have hl : lv_has ls 8 [(0, .ref b), (1, .ref (a 0)), (2, .ref (d 0)), (3, .ref o), (4, .ref od), (5, .int (nI i))] := hl
  refine lv_aload_n hX_ hB_ dL_law_2247 rfl (lv_at hl 1 rfl) ?_
  refine zy_arg (q := 1) C hW hi (by decide) (lv_at hl 0 rfl) (lv_at hl 5 rfl) dL_law_2248 dL_law_2249 dL_law_2251 rfl dL_law_2252 dL_law_2253 ?_
  refine zy_arg (q := 2) C hW hi (by decide) (lv_at hl 0 rfl) (lv_at hl 5 rfl) dL_law_2254 dL_law_2255 dL_law_2257 rfl dL_law_2258 dL_law_2259 ?_
  refine zy_arg (q := 3) C hW hi (by decide) (lv_at hl 0 rfl) (lv_at hl 5 rfl) dL_law_2260 dL_law_2261 dL_law_2263 rfl dL_law_2264 dL_law_2265 ?_
  refine lv_aload_n hX_ hB_ dL_law_2266 rfl (lv_at hl 3 rfl) ?_
  refine ze_FQe (As := [.ref (a 0), .int (xs (i + 1)), .int (xs (i + 2)), .int (xs (i + 3)), .ref o]) (rest := []) S hQ (vx_cwSW 5 hts gL_law_L_shareBySteps_n rfl rfl rfl (by decide +kernel) ⟨by show fr + 1 ≤ 13; omega, by show 8 + (_ + 11) + lo ≤ 476; omega⟩) hXB hNc hK hW hA rfl hl.1 rfl (lv_room (Nat.le_of_ble_eq_true rfl)) dL_law_2267 ⟨by show k + mc ≤ 601024; omega, by show j + ms ≤ 7293034; omega⟩ (fun q9 H locs hW => ?_)
  refine lv_istore (lv' := [(6, .int k1), (0, .ref b), (1, .ref (a 0)), (2, .ref (d 0)), (3, .ref o), (4, .ref od), (5, .int (nI i))]) hX_ hB_ dL_law_2270 hl (by decide) rfl (fun ls hl => ?_)
  refine lv_aload_n hX_ hB_ dL_law_2272 rfl (lv_at hl 3 rfl) ?_
  refine zy_arg (q := 1) C hW hi (by decide) (lv_at hl 1 rfl) (lv_at hl 6 rfl) dL_law_2273 dL_law_2274 dL_law_2276 rfl dL_law_2277 dL_law_2278 ?_
  refine zy_arg (q := 2) C hW hi (by decide) (lv_at hl 1 rfl) (lv_at hl 6 rfl) dL_law_2279 dL_law_2280 dL_law_2282 rfl dL_law_2283 dL_law_2284 ?_
  refine zy_arg (q := 3) C hW hi (by decide) (lv_at hl 1 rfl) (lv_at hl 6 rfl) dL_law_2285 dL_law_2286 dL_law_2288 rfl dL_law_2289 dL_law_2290 ?_
  have hW := zy_wA hW
  refine ze_FVi (As := [.int (xs (i + 1)), .int (xs (i + 2)), .int (xs (i + 3))]) (rest := []) (ci := 9) (q0 := 0) (k := (RX9, TX9, 39)) S hR (cwV 3 hts gL_law_X9_shareBySteps_n rfl rfl rfl (by decide +kernel) ⟨by show fr2 + 1 ≤ 13; omega, by show 8 + (_ + 11) + lo2 ≤ 476; omega⟩) hK hW hA rfl rfl rfl hl.1 rfl (lv_room (Nat.le_of_ble_eq_true rfl)) dL_law_2291 ⟨by show k + mc + mc2 ≤ 601024; omega, by show j + ms + ms2 ≤ 7293034; omega⟩ (fun H locs hW => ?_)
  refine lv_istore (lv' := [(7, .int v), (6, .int k1), (0, .ref b), (1, .ref (a 0)), (2, .ref (d 0)), (3, .ref o), (4, .ref od), (5, .int (nI i))]) hX_ hB_ dL_law_2294 hl (by decide) rfl (fun ls hl => ?_)
  refine lv_aload_n hX_ hB_ dL_law_2296 rfl (lv_at hl 4 rfl) ?_
  refine ze_FVi (As := []) (rest := []) (ci := 9) (q0 := 0) (k := (RX9, TX9, 39)) S (zr_thrown l D c d n2 A2 B2 mk2 k1) (cwV 0 hts gL_law_X9_thrown_n rfl rfl rfl (by decide +kernel) ⟨Nat.le_of_ble_eq_true rfl, Nat.le_of_ble_eq_true rfl⟩) hK hW hA rfl rfl rfl hl.1 rfl (lv_room (Nat.le_of_ble_eq_true rfl)) dL_law_2297 ⟨by show k + mc + mc2 + 0 ≤ 601024; omega, by show j + ms + ms2 + 0 ≤ 7293034; omega⟩ (fun H locs hW => ?_)
  have hW := zy_wB hW
  refine lv_iload hX_ hB_ dL_law_2300 (lv_at hl 1 rfl) ?_
  refine lv_icmp_eq (tgt := 2307) hX_ hB_ dL_law_2302 (by decide) (fun _ => ?_) (fun q => absurd rfl q)
  refine lv_iload hX_ hB_ dL_law_2307 (lv_at hl 1 rfl) ?_
  have gg : ∀ (ls : Array Slot), lv_has ls 8 [(7, .int v), (6, .int k1), (0, .ref b), (1, .ref (a 0)), (2, .ref (d 0)), (3, .ref o), (4, .ref od), (5, .int (nI i))] → W p l e room_1 s m #[Value.ref b] below meth cd H locs (k + mc + mc2 + 0) (j + ms + ms2 + 0) Q (F0 m 2324 ls []) := fun ls hl => by
    refine lv_goto (tgt := 2642) hX_ hB_ dL_law_2324 (by decide) ?_
    refine W.widen (k := k + 2) (n := j + 14) (by omega) (by omega) ?_
    exact G (a2 q9) n2 A2 B2 E2 mk2 k1 f2 g H locs ls (ha2 q9) hI2 hW (lv_sub hl [2, 3, 4, 5, 6, 7] rfl)
  refine lv_if_ne (tgt := 2324) hX_ hB_ dL_law_2309 (by decide) (fun _ => gg ls hl) (fun hk0 => ?_)
  have hf2 : f2 (0 : Int32).toNatClampNeg = v.toInt64 := hkv hk0
  refine lv_aload_n hX_ hB_ dL_law_2312 rfl (lv_at hl 5 rfl) ?_
  refine lv_iconst (v := 0) hX_ hB_ dL_law_2313 (by decide) ?_
  refine va_lald (f := f2) hX_ hB_ hK hW.1 ((ze_wC c (a2 q9) n2 A2 B2 E2).length + 0) 6 (ze_appget0 (ze_appL (k := 0) rfl)) rfl (vp_in_nI (n := 0) (N := 1) (by decide) (by decide)) dL_law_2314 ?_
  refine lv_iload hX_ hB_ dL_law_2315 (lv_at hl 0 rfl) ?_
  refine lv_i2l (v := v.toInt64) hX_ hB_ dL_law_2317 rfl ?_
  refine W.lcmp hX_ hB_ dL_law_2318 ?_
  rw [hf2, zy_cmp]
  exact lv_if_eq (tgt := 2324) hX_ hB_ dL_law_2319 (by decide) (fun _ => gg ls hl) (fun q => absurd rfl q)
set_option maxHeartbeats 4000000 in
set_option maxRecDepth 100000 in
theorem zy_pass (C : zy_C p l s m cd D c b L xs) {a d n : Nat → Nat} {A : Nat → Nat → Int32} {B : Nat → Int64} {E : Nat → Nat → Int32} {mk : Nat → Int32} {th : Int32} {o od : Nat} {f : Nat → Int64} {g : Nat → UInt64} {H : Heap} {locs : List Loc} {ls : Array Slot} {i k j : Nat} (hi : i + 6 ≤ L) (hb : k + 2 ≤ 601024 ∧ j + 14 ≤ 7293034) (hI : zv_I n A E mk) (hW : ze_W D (zy_W c a d n A B E mk th o od f g) (zy_F s) s.heap H locs) (hl : lv_has ls 8 (zy_L b (a 0) (d 0) o od i)) (G : zy_G p l e s m below meth cd D c b Q d o od (a 0) i (k + 2) (j + 14)) : W p l e room_1 s m #[Value.ref b] below meth cd H locs k j Q (F0 m 2327 ls []) := by
  obtain ⟨S, hst, hX, hbl, hXB, hNc, hK, hL⟩ := id C
  have hX_ := S.1
  have hB_ := S.2.1
  have hts := S.2.2.2.2
  have hA : ∀ q : Nat, s.heap.size ≤ q → zy_F s q := fun _ h => h
  obtain ⟨hb1, hb2⟩ := hb
  obtain ⟨k1, v, fr, lo, mc, ms, fr2, lo2, mc2, ms2, a2, n2, A2, B2, E2, mk2, f2, ⟨b1, b2, b3, b4, b5, b6, b7, b8⟩, hQ, hR, hkv, ha2, hG, hI2⟩ := zw_pass (l := l) (D := D) (c := c) (a := a) (d := d) (B := B) (th := th) (o := o) (f := f) hI hst (xs (i + 1))
  have hQ : ze_QE l yL_pass wsL_pass fr lo mc ms D c (ze_wC c a n A B E ++ [(o, .inl (c 6, 1, .inr (.inl f)))]) [.ref (a 0), .int (xs (i + 1)), .ref o] k1 (fun q => ze_wC c (a2 q) n2 A2 B2 E2 ++ [(o, .inl (c 6, 1, .inr (.inl f2)))]) := hQ
  have hR : ze_I l yX9_pass wsX9_pass fr2 lo2 mc2 ms2 D c (ze_wR c d n A B mk th) [.ref (d 0), .int (xs (i + 1))] v (ze_wR c d n2 A2 B2 mk2 k1) := hR
  have hl : lv_has ls 8 [(0, .ref b), (1, .ref (a 0)), (2, .ref (d 0)), (3, .ref o), (4, .ref od), (5, .int (nI i))] := hl
  refine lv_aload_n hX_ hB_ dL_law_2327 rfl (lv_at hl 1 rfl) ?_
  refine zy_arg (q := 1) C hW hi (by decide) (lv_at hl 0 rfl) (lv_at hl 5 rfl) dL_law_2328 dL_law_2329 dL_law_2331 rfl dL_law_2332 dL_law_2333 ?_
  refine lv_aload_n hX_ hB_ dL_law_2334 rfl (lv_at hl 3 rfl) ?_
  refine ze_FQe (As := [.ref (a 0), .int (xs (i + 1)), .ref o]) (rest := []) S hQ (vx_cwSW 3 hts gL_law_L_pass_n rfl rfl rfl (by decide +kernel) ⟨by show fr + 1 ≤ 13; omega, by show 8 + (_ + 11) + lo ≤ 476; omega⟩) hXB hNc hK hW hA rfl hl.1 rfl (lv_room (Nat.le_of_ble_eq_true rfl)) dL_law_2335 ⟨by show k + mc ≤ 601024; omega, by show j + ms ≤ 7293034; omega⟩ (fun q9 H locs hW => ?_)
  refine lv_istore (lv' := [(6, .int k1), (0, .ref b), (1, .ref (a 0)), (2, .ref (d 0)), (3, .ref o), (4, .ref od), (5, .int (nI i))]) hX_ hB_ dL_law_2338 hl (by decide) rfl (fun ls hl => ?_)
  refine lv_aload_n hX_ hB_ dL_law_2340 rfl (lv_at hl 3 rfl) ?_
  refine zy_arg (q := 1) C hW hi (by decide) (lv_at hl 1 rfl) (lv_at hl 6 rfl) dL_law_2341 dL_law_2342 dL_law_2344 rfl dL_law_2345 dL_law_2346 ?_
  have hW := zy_wA hW
  refine ze_FVi (As := [.int (xs (i + 1))]) (rest := []) (ci := 9) (q0 := 0) (k := (RX9, TX9, 39)) S hR (cwV 1 hts gL_law_X9_pass_n rfl rfl rfl (by decide +kernel) ⟨by show fr2 + 1 ≤ 13; omega, by show 8 + (_ + 11) + lo2 ≤ 476; omega⟩) hK hW hA rfl rfl rfl hl.1 rfl (lv_room (Nat.le_of_ble_eq_true rfl)) dL_law_2347 ⟨by show k + mc + mc2 ≤ 601024; omega, by show j + ms + ms2 ≤ 7293034; omega⟩ (fun H locs hW => ?_)
  refine lv_istore (lv' := [(7, .int v), (6, .int k1), (0, .ref b), (1, .ref (a 0)), (2, .ref (d 0)), (3, .ref o), (4, .ref od), (5, .int (nI i))]) hX_ hB_ dL_law_2350 hl (by decide) rfl (fun ls hl => ?_)
  refine lv_aload_n hX_ hB_ dL_law_2352 rfl (lv_at hl 4 rfl) ?_
  refine ze_FVi (As := []) (rest := []) (ci := 9) (q0 := 0) (k := (RX9, TX9, 39)) S (zr_thrown l D c d n2 A2 B2 mk2 k1) (cwV 0 hts gL_law_X9_thrown_n rfl rfl rfl (by decide +kernel) ⟨Nat.le_of_ble_eq_true rfl, Nat.le_of_ble_eq_true rfl⟩) hK hW hA rfl rfl rfl hl.1 rfl (lv_room (Nat.le_of_ble_eq_true rfl)) dL_law_2353 ⟨by show k + mc + mc2 + 0 ≤ 601024; omega, by show j + ms + ms2 + 0 ≤ 7293034; omega⟩ (fun H locs hW => ?_)
  have hW := zy_wB hW
  refine lv_iload hX_ hB_ dL_law_2356 (lv_at hl 1 rfl) ?_
  refine lv_icmp_eq (tgt := 2363) hX_ hB_ dL_law_2358 (by decide) (fun _ => ?_) (fun q => absurd rfl q)
  refine lv_iload hX_ hB_ dL_law_2363 (lv_at hl 1 rfl) ?_
  have gg : ∀ (ls : Array Slot), lv_has ls 8 [(7, .int v), (6, .int k1), (0, .ref b), (1, .ref (a 0)), (2, .ref (d 0)), (3, .ref o), (4, .ref od), (5, .int (nI i))] → W p l e room_1 s m #[Value.ref b] below meth cd H locs (k + mc + mc2 + 0) (j + ms + ms2 + 0) Q (F0 m 2380 ls []) := fun ls hl => by
    refine lv_goto (tgt := 2642) hX_ hB_ dL_law_2380 (by decide) ?_
    refine W.widen (k := k + 2) (n := j + 14) (by omega) (by omega) ?_
    exact G (a2 q9) n2 A2 B2 E2 mk2 k1 f2 g H locs ls (ha2 q9) hI2 hW (lv_sub hl [2, 3, 4, 5, 6, 7] rfl)
  refine lv_if_ne (tgt := 2380) hX_ hB_ dL_law_2365 (by decide) (fun _ => gg ls hl) (fun hk0 => ?_)
  have hf2 : f2 (0 : Int32).toNatClampNeg = v.toInt64 := hkv hk0
  refine lv_aload_n hX_ hB_ dL_law_2368 rfl (lv_at hl 5 rfl) ?_
  refine lv_iconst (v := 0) hX_ hB_ dL_law_2369 (by decide) ?_
  refine va_lald (f := f2) hX_ hB_ hK hW.1 ((ze_wC c (a2 q9) n2 A2 B2 E2).length + 0) 6 (ze_appget0 (ze_appL (k := 0) rfl)) rfl (vp_in_nI (n := 0) (N := 1) (by decide) (by decide)) dL_law_2370 ?_
  refine lv_iload hX_ hB_ dL_law_2371 (lv_at hl 0 rfl) ?_
  refine lv_i2l (v := v.toInt64) hX_ hB_ dL_law_2373 rfl ?_
  refine W.lcmp hX_ hB_ dL_law_2374 ?_
  rw [hf2, zy_cmp]
  exact lv_if_eq (tgt := 2380) hX_ hB_ dL_law_2375 (by decide) (fun _ => gg ls hl) (fun q => absurd rfl q)
set_option maxHeartbeats 4000000 in
set_option maxRecDepth 100000 in
theorem zy_now (C : zy_C p l s m cd D c b L xs) {a d n : Nat → Nat} {A : Nat → Nat → Int32} {B : Nat → Int64} {E : Nat → Nat → Int32} {mk : Nat → Int32} {th : Int32} {o od : Nat} {f : Nat → Int64} {g : Nat → UInt64} {H : Heap} {locs : List Loc} {ls : Array Slot} {i k j : Nat} (hi : i + 6 ≤ L) (hb : k + 2 ≤ 601024 ∧ j + 14 ≤ 7293034) (hI : zv_I n A E mk) (hW : ze_W D (zy_W c a d n A B E mk th o od f g) (zy_F s) s.heap H locs) (hl : lv_has ls 8 (zy_L b (a 0) (d 0) o od i)) (G : zy_G p l e s m below meth cd D c b Q d o od (a 0) i (k + 2) (j + 14)) : W p l e room_1 s m #[Value.ref b] below meth cd H locs k j Q (F0 m 2383 ls []) := by
  obtain ⟨S, hst, hX, hbl, hXB, hNc, hK, hL⟩ := id C
  have hX_ := S.1
  have hB_ := S.2.1
  have hts := S.2.2.2.2
  have hA : ∀ q : Nat, s.heap.size ≤ q → zy_F s q := fun _ h => h
  obtain ⟨hb1, hb2⟩ := hb
  obtain ⟨hN, hS, hE, hz, h4, h4z, hT, hC, ⟨P, hKK⟩, hZ, hp⟩ := id hI
  have hQ := zp_now_f l D c a n A B E
  have hR := zr_now_f l D c d n A B mk th
  have hl : lv_has ls 8 [(0, .ref b), (1, .ref (a 0)), (2, .ref (d 0)), (3, .ref o), (4, .ref od), (5, .int (nI i))] := hl
  refine lv_aload_n hX_ hB_ dL_law_2383 rfl (lv_at hl 1 rfl) ?_
  have hW := ze_as hW
  refine ze_FVi (As := []) (rest := []) (ci := 8) (q0 := 0) (k := (RX8, TX8, 8)) S hQ (cwV 0 hts gL_law_X8_now_n rfl rfl rfl (by decide +kernel) ⟨Nat.le_of_ble_eq_true rfl, Nat.le_of_ble_eq_true rfl⟩) hK hW hA rfl (ze_at0 0 rfl) rfl hl.1 rfl (lv_room (Nat.le_of_ble_eq_true rfl)) dL_law_2384 ⟨by show k + 0 ≤ 601024; omega, by show j + 0 ≤ 7293034; omega⟩ (fun H locs hW => ?_)
  have hW := ze_asr hW
  refine lv_aload_n hX_ hB_ dL_law_2387 rfl (lv_at hl 2 rfl) ?_
  have hW := zy_wA hW
  refine ze_FVi (As := []) (rest := [.int (A 30 0)]) (ci := 9) (q0 := 0) (k := (RX9, TX9, 39)) S hR (cwV 0 hts gL_law_X9_now_n rfl rfl rfl (by decide +kernel) ⟨Nat.le_of_ble_eq_true rfl, Nat.le_of_ble_eq_true rfl⟩) hK hW hA rfl rfl rfl hl.1 rfl (lv_room (Nat.le_of_ble_eq_true rfl)) dL_law_2388 ⟨by show k + 0 + 0 ≤ 601024; omega, by show j + 0 + 0 ≤ 7293034; omega⟩ (fun H locs hW => ?_)
  have hW := zy_wB hW
  refine lv_icmp_eq (tgt := 2642) hX_ hB_ dL_law_2391 (by decide) (fun _ => ?_) (fun q => absurd rfl q)
  refine W.widen (k := k + 2) (n := j + 14) (by omega) (by omega) ?_
  exact G a n A B E mk 0 f g H locs ls rfl hI hW (lv_sub hl [0, 1, 2, 3, 4, 5] rfl)
set_option maxHeartbeats 4000000 in
set_option maxRecDepth 100000 in
theorem zy_given (C : zy_C p l s m cd D c b L xs) {a d n : Nat → Nat} {A : Nat → Nat → Int32} {B : Nat → Int64} {E : Nat → Nat → Int32} {mk : Nat → Int32} {th : Int32} {o od : Nat} {f : Nat → Int64} {g : Nat → UInt64} {H : Heap} {locs : List Loc} {ls : Array Slot} {i k j : Nat} (hi : i + 6 ≤ L) (hb : k + 2 ≤ 601024 ∧ j + 14 ≤ 7293034) (hI : zv_I n A E mk) (hW : ze_W D (zy_W c a d n A B E mk th o od f g) (zy_F s) s.heap H locs) (hl : lv_has ls 8 (zy_L b (a 0) (d 0) o od i)) (G : zy_G p l e s m below meth cd D c b Q d o od (a 0) i (k + 2) (j + 14)) : W p l e room_1 s m #[Value.ref b] below meth cd H locs k j Q (F0 m 2396 ls []) := by
  obtain ⟨S, hst, hX, hbl, hXB, hNc, hK, hL⟩ := id C
  have hX_ := S.1
  have hB_ := S.2.1
  have hts := S.2.2.2.2
  have hA : ∀ q : Nat, s.heap.size ≤ q → zy_F s q := fun _ h => h
  obtain ⟨hb1, hb2⟩ := hb
  obtain ⟨k1, v, fr, lo, mc, ms, fr2, lo2, mc2, ms2, a2, n2, A2, B2, E2, mk2, f2, ⟨b1, b2, b3, b4, b5, b6, b7, b8⟩, hQ, hR, hkv, ha2, hG, hI2⟩ := zw_given (l := l) (D := D) (c := c) (a := a) (d := d) (B := B) (th := th) (o := o) (f := f) hI hst (xs (i + 1))
  have hQ : ze_QE l yL_given wsL_given fr lo mc ms D c (ze_wC c a n A B E ++ [(o, .inl (c 6, 1, .inr (.inl f)))]) [.ref (a 0), .int (xs (i + 1)), .ref o] k1 (fun q => ze_wC c (a2 q) n2 A2 B2 E2 ++ [(o, .inl (c 6, 1, .inr (.inl f2)))]) := hQ
  have hR : ze_I l yX9_given wsX9_given fr2 lo2 mc2 ms2 D c (ze_wR c d n A B mk th) [.ref (d 0), .int (xs (i + 1))] v (ze_wR c d n2 A2 B2 mk2 k1) := hR
  have hl : lv_has ls 8 [(0, .ref b), (1, .ref (a 0)), (2, .ref (d 0)), (3, .ref o), (4, .ref od), (5, .int (nI i))] := hl
  refine lv_aload_n hX_ hB_ dL_law_2396 rfl (lv_at hl 1 rfl) ?_
  refine zy_arg (q := 1) C hW hi (by decide) (lv_at hl 0 rfl) (lv_at hl 5 rfl) dL_law_2397 dL_law_2398 dL_law_2400 rfl dL_law_2401 dL_law_2402 ?_
  refine lv_aload_n hX_ hB_ dL_law_2403 rfl (lv_at hl 3 rfl) ?_
  refine ze_FQe (As := [.ref (a 0), .int (xs (i + 1)), .ref o]) (rest := []) S hQ (vx_cwSW 3 hts gL_law_L_given_n rfl rfl rfl (by decide +kernel) ⟨by show fr + 1 ≤ 13; omega, by show 8 + (_ + 11) + lo ≤ 476; omega⟩) hXB hNc hK hW hA rfl hl.1 rfl (lv_room (Nat.le_of_ble_eq_true rfl)) dL_law_2404 ⟨by show k + mc ≤ 601024; omega, by show j + ms ≤ 7293034; omega⟩ (fun q9 H locs hW => ?_)
  refine lv_istore (lv' := [(6, .int k1), (0, .ref b), (1, .ref (a 0)), (2, .ref (d 0)), (3, .ref o), (4, .ref od), (5, .int (nI i))]) hX_ hB_ dL_law_2407 hl (by decide) rfl (fun ls hl => ?_)
  refine lv_aload_n hX_ hB_ dL_law_2409 rfl (lv_at hl 3 rfl) ?_
  refine zy_arg (q := 1) C hW hi (by decide) (lv_at hl 1 rfl) (lv_at hl 6 rfl) dL_law_2410 dL_law_2411 dL_law_2413 rfl dL_law_2414 dL_law_2415 ?_
  have hW := zy_wA hW
  refine ze_FVi (As := [.int (xs (i + 1))]) (rest := []) (ci := 9) (q0 := 0) (k := (RX9, TX9, 39)) S hR (cwV 1 hts gL_law_X9_given_n rfl rfl rfl (by decide +kernel) ⟨by show fr2 + 1 ≤ 13; omega, by show 8 + (_ + 11) + lo2 ≤ 476; omega⟩) hK hW hA rfl rfl rfl hl.1 rfl (lv_room (Nat.le_of_ble_eq_true rfl)) dL_law_2416 ⟨by show k + mc + mc2 ≤ 601024; omega, by show j + ms + ms2 ≤ 7293034; omega⟩ (fun H locs hW => ?_)
  refine lv_istore (lv' := [(7, .int v), (6, .int k1), (0, .ref b), (1, .ref (a 0)), (2, .ref (d 0)), (3, .ref o), (4, .ref od), (5, .int (nI i))]) hX_ hB_ dL_law_2419 hl (by decide) rfl (fun ls hl => ?_)
  refine lv_aload_n hX_ hB_ dL_law_2421 rfl (lv_at hl 4 rfl) ?_
  refine ze_FVi (As := []) (rest := []) (ci := 9) (q0 := 0) (k := (RX9, TX9, 39)) S (zr_thrown l D c d n2 A2 B2 mk2 k1) (cwV 0 hts gL_law_X9_thrown_n rfl rfl rfl (by decide +kernel) ⟨Nat.le_of_ble_eq_true rfl, Nat.le_of_ble_eq_true rfl⟩) hK hW hA rfl rfl rfl hl.1 rfl (lv_room (Nat.le_of_ble_eq_true rfl)) dL_law_2422 ⟨by show k + mc + mc2 + 0 ≤ 601024; omega, by show j + ms + ms2 + 0 ≤ 7293034; omega⟩ (fun H locs hW => ?_)
  have hW := zy_wB hW
  refine lv_iload hX_ hB_ dL_law_2425 (lv_at hl 1 rfl) ?_
  refine lv_icmp_eq (tgt := 2432) hX_ hB_ dL_law_2427 (by decide) (fun _ => ?_) (fun q => absurd rfl q)
  refine lv_iload hX_ hB_ dL_law_2432 (lv_at hl 1 rfl) ?_
  have gg : ∀ (ls : Array Slot), lv_has ls 8 [(7, .int v), (6, .int k1), (0, .ref b), (1, .ref (a 0)), (2, .ref (d 0)), (3, .ref o), (4, .ref od), (5, .int (nI i))] → W p l e room_1 s m #[Value.ref b] below meth cd H locs (k + mc + mc2 + 0) (j + ms + ms2 + 0) Q (F0 m 2449 ls []) := fun ls hl => by
    refine lv_goto (tgt := 2642) hX_ hB_ dL_law_2449 (by decide) ?_
    refine W.widen (k := k + 2) (n := j + 14) (by omega) (by omega) ?_
    exact G (a2 q9) n2 A2 B2 E2 mk2 k1 f2 g H locs ls (ha2 q9) hI2 hW (lv_sub hl [2, 3, 4, 5, 6, 7] rfl)
  refine lv_if_ne (tgt := 2449) hX_ hB_ dL_law_2434 (by decide) (fun _ => gg ls hl) (fun hk0 => ?_)
  have hf2 : f2 (0 : Int32).toNatClampNeg = v.toInt64 := hkv hk0
  refine lv_aload_n hX_ hB_ dL_law_2437 rfl (lv_at hl 5 rfl) ?_
  refine lv_iconst (v := 0) hX_ hB_ dL_law_2438 (by decide) ?_
  refine va_lald (f := f2) hX_ hB_ hK hW.1 ((ze_wC c (a2 q9) n2 A2 B2 E2).length + 0) 6 (ze_appget0 (ze_appL (k := 0) rfl)) rfl (vp_in_nI (n := 0) (N := 1) (by decide) (by decide)) dL_law_2439 ?_
  refine lv_iload hX_ hB_ dL_law_2440 (lv_at hl 0 rfl) ?_
  refine lv_i2l (v := v.toInt64) hX_ hB_ dL_law_2442 rfl ?_
  refine W.lcmp hX_ hB_ dL_law_2443 ?_
  rw [hf2, zy_cmp]
  exact lv_if_eq (tgt := 2449) hX_ hB_ dL_law_2444 (by decide) (fun _ => gg ls hl) (fun q => absurd rfl q)
set_option maxHeartbeats 4000000 in
set_option maxRecDepth 100000 in
theorem zy_flow (C : zy_C p l s m cd D c b L xs) {a d n : Nat → Nat} {A : Nat → Nat → Int32} {B : Nat → Int64} {E : Nat → Nat → Int32} {mk : Nat → Int32} {th : Int32} {o od : Nat} {f : Nat → Int64} {g : Nat → UInt64} {H : Heap} {locs : List Loc} {ls : Array Slot} {i k j : Nat} (hi : i + 6 ≤ L) (hb : k + 2 ≤ 601024 ∧ j + 14 ≤ 7293034) (hI : zv_I n A E mk) (hW : ze_W D (zy_W c a d n A B E mk th o od f g) (zy_F s) s.heap H locs) (hl : lv_has ls 8 (zy_L b (a 0) (d 0) o od i)) (G : zy_G p l e s m below meth cd D c b Q d o od (a 0) i (k + 2) (j + 14)) : W p l e room_1 s m #[Value.ref b] below meth cd H locs k j Q (F0 m 2452 ls []) := by
  obtain ⟨S, hst, hX, hbl, hXB, hNc, hK, hL⟩ := id C
  have hX_ := S.1
  have hB_ := S.2.1
  have hts := S.2.2.2.2
  have hA : ∀ q : Nat, s.heap.size ≤ q → zy_F s q := fun _ h => h
  obtain ⟨hb1, hb2⟩ := hb
  obtain ⟨k1, v, fr, lo, mc, ms, fr2, lo2, mc2, ms2, a2, n2, A2, B2, E2, mk2, f2, ⟨b1, b2, b3, b4, b5, b6, b7, b8⟩, hQ, hR, hkv, ha2, hG, hI2⟩ := zw_flow (l := l) (D := D) (c := c) (a := a) (d := d) (B := B) (th := th) (o := o) (f := f) hI hst (xs (i + 1))
  have hQ : ze_QE l yL_flow wsL_flow fr lo mc ms D c (ze_wC c a n A B E ++ [(o, .inl (c 6, 1, .inr (.inl f)))]) [.ref (a 0), .int (xs (i + 1)), .ref o] k1 (fun q => ze_wC c (a2 q) n2 A2 B2 E2 ++ [(o, .inl (c 6, 1, .inr (.inl f2)))]) := hQ
  have hR : ze_I l yX9_flow wsX9_flow fr2 lo2 mc2 ms2 D c (ze_wR c d n A B mk th) [.ref (d 0), .int (xs (i + 1))] v (ze_wR c d n2 A2 B2 mk2 k1) := hR
  have hl : lv_has ls 8 [(0, .ref b), (1, .ref (a 0)), (2, .ref (d 0)), (3, .ref o), (4, .ref od), (5, .int (nI i))] := hl
  refine lv_aload_n hX_ hB_ dL_law_2452 rfl (lv_at hl 1 rfl) ?_
  refine zy_arg (q := 1) C hW hi (by decide) (lv_at hl 0 rfl) (lv_at hl 5 rfl) dL_law_2453 dL_law_2454 dL_law_2456 rfl dL_law_2457 dL_law_2458 ?_
  refine lv_aload_n hX_ hB_ dL_law_2459 rfl (lv_at hl 3 rfl) ?_
  refine ze_FQe (As := [.ref (a 0), .int (xs (i + 1)), .ref o]) (rest := []) S hQ (vx_cwSW 3 hts gL_law_L_flow_n rfl rfl rfl (by decide +kernel) ⟨by show fr + 1 ≤ 13; omega, by show 8 + (_ + 11) + lo ≤ 476; omega⟩) hXB hNc hK hW hA rfl hl.1 rfl (lv_room (Nat.le_of_ble_eq_true rfl)) dL_law_2460 ⟨by show k + mc ≤ 601024; omega, by show j + ms ≤ 7293034; omega⟩ (fun q9 H locs hW => ?_)
  refine lv_istore (lv' := [(6, .int k1), (0, .ref b), (1, .ref (a 0)), (2, .ref (d 0)), (3, .ref o), (4, .ref od), (5, .int (nI i))]) hX_ hB_ dL_law_2463 hl (by decide) rfl (fun ls hl => ?_)
  refine lv_aload_n hX_ hB_ dL_law_2465 rfl (lv_at hl 3 rfl) ?_
  refine zy_arg (q := 1) C hW hi (by decide) (lv_at hl 1 rfl) (lv_at hl 6 rfl) dL_law_2466 dL_law_2467 dL_law_2469 rfl dL_law_2470 dL_law_2471 ?_
  have hW := zy_wA hW
  refine ze_FVi (As := [.int (xs (i + 1))]) (rest := []) (ci := 9) (q0 := 0) (k := (RX9, TX9, 39)) S hR (cwV 1 hts gL_law_X9_flow_n rfl rfl rfl (by decide +kernel) ⟨by show fr2 + 1 ≤ 13; omega, by show 8 + (_ + 11) + lo2 ≤ 476; omega⟩) hK hW hA rfl rfl rfl hl.1 rfl (lv_room (Nat.le_of_ble_eq_true rfl)) dL_law_2472 ⟨by show k + mc + mc2 ≤ 601024; omega, by show j + ms + ms2 ≤ 7293034; omega⟩ (fun H locs hW => ?_)
  refine lv_istore (lv' := [(7, .int v), (6, .int k1), (0, .ref b), (1, .ref (a 0)), (2, .ref (d 0)), (3, .ref o), (4, .ref od), (5, .int (nI i))]) hX_ hB_ dL_law_2475 hl (by decide) rfl (fun ls hl => ?_)
  refine lv_aload_n hX_ hB_ dL_law_2477 rfl (lv_at hl 4 rfl) ?_
  refine ze_FVi (As := []) (rest := []) (ci := 9) (q0 := 0) (k := (RX9, TX9, 39)) S (zr_thrown l D c d n2 A2 B2 mk2 k1) (cwV 0 hts gL_law_X9_thrown_n rfl rfl rfl (by decide +kernel) ⟨Nat.le_of_ble_eq_true rfl, Nat.le_of_ble_eq_true rfl⟩) hK hW hA rfl rfl rfl hl.1 rfl (lv_room (Nat.le_of_ble_eq_true rfl)) dL_law_2478 ⟨by show k + mc + mc2 + 0 ≤ 601024; omega, by show j + ms + ms2 + 0 ≤ 7293034; omega⟩ (fun H locs hW => ?_)
  have hW := zy_wB hW
  refine lv_iload hX_ hB_ dL_law_2481 (lv_at hl 1 rfl) ?_
  refine lv_icmp_eq (tgt := 2488) hX_ hB_ dL_law_2483 (by decide) (fun _ => ?_) (fun q => absurd rfl q)
  refine lv_iload hX_ hB_ dL_law_2488 (lv_at hl 1 rfl) ?_
  have gg : ∀ (ls : Array Slot), lv_has ls 8 [(7, .int v), (6, .int k1), (0, .ref b), (1, .ref (a 0)), (2, .ref (d 0)), (3, .ref o), (4, .ref od), (5, .int (nI i))] → W p l e room_1 s m #[Value.ref b] below meth cd H locs (k + mc + mc2 + 0) (j + ms + ms2 + 0) Q (F0 m 2505 ls []) := fun ls hl => by
    refine lv_goto (tgt := 2642) hX_ hB_ dL_law_2505 (by decide) ?_
    refine W.widen (k := k + 2) (n := j + 14) (by omega) (by omega) ?_
    exact G (a2 q9) n2 A2 B2 E2 mk2 k1 f2 g H locs ls (ha2 q9) hI2 hW (lv_sub hl [2, 3, 4, 5, 6, 7] rfl)
  refine lv_if_ne (tgt := 2505) hX_ hB_ dL_law_2490 (by decide) (fun _ => gg ls hl) (fun hk0 => ?_)
  have hf2 : f2 (0 : Int32).toNatClampNeg = v.toInt64 := hkv hk0
  refine lv_aload_n hX_ hB_ dL_law_2493 rfl (lv_at hl 5 rfl) ?_
  refine lv_iconst (v := 0) hX_ hB_ dL_law_2494 (by decide) ?_
  refine va_lald (f := f2) hX_ hB_ hK hW.1 ((ze_wC c (a2 q9) n2 A2 B2 E2).length + 0) 6 (ze_appget0 (ze_appL (k := 0) rfl)) rfl (vp_in_nI (n := 0) (N := 1) (by decide) (by decide)) dL_law_2495 ?_
  refine lv_iload hX_ hB_ dL_law_2496 (lv_at hl 0 rfl) ?_
  refine lv_i2l (v := v.toInt64) hX_ hB_ dL_law_2498 rfl ?_
  refine W.lcmp hX_ hB_ dL_law_2499 ?_
  rw [hf2, zy_cmp]
  exact lv_if_eq (tgt := 2505) hX_ hB_ dL_law_2500 (by decide) (fun _ => gg ls hl) (fun q => absurd rfl q)
set_option maxHeartbeats 4000000 in
set_option maxRecDepth 100000 in
theorem zy_grid (C : zy_C p l s m cd D c b L xs) {a d n : Nat → Nat} {A : Nat → Nat → Int32} {B : Nat → Int64} {E : Nat → Nat → Int32} {mk : Nat → Int32} {th : Int32} {o od : Nat} {f : Nat → Int64} {g : Nat → UInt64} {H : Heap} {locs : List Loc} {ls : Array Slot} {i k j : Nat} (hi : i + 6 ≤ L) (hb : k + 2 ≤ 601024 ∧ j + 14 ≤ 7293034) (hI : zv_I n A E mk) (hW : ze_W D (zy_W c a d n A B E mk th o od f g) (zy_F s) s.heap H locs) (hl : lv_has ls 8 (zy_L b (a 0) (d 0) o od i)) (G : zy_G p l e s m below meth cd D c b Q d o od (a 0) i (k + 2) (j + 14)) : W p l e room_1 s m #[Value.ref b] below meth cd H locs k j Q (F0 m 2508 ls []) := by
  obtain ⟨S, hst, hX, hbl, hXB, hNc, hK, hL⟩ := id C
  have hX_ := S.1
  have hB_ := S.2.1
  have hts := S.2.2.2.2
  have hA : ∀ q : Nat, s.heap.size ≤ q → zy_F s q := fun _ h => h
  obtain ⟨hb1, hb2⟩ := hb
  obtain ⟨hN, hS, hE, hz, h4, h4z, hT, hC, ⟨P, hKK⟩, hZ, hp⟩ := id hI
  have hQ := zp_grid_f l D c a n A B E
  have hR := zr_grid_f l D c d n A B mk th
  have hl : lv_has ls 8 [(0, .ref b), (1, .ref (a 0)), (2, .ref (d 0)), (3, .ref o), (4, .ref od), (5, .int (nI i))] := hl
  refine lv_aload_n hX_ hB_ dL_law_2508 rfl (lv_at hl 1 rfl) ?_
  have hW := ze_as hW
  refine ze_FVi (As := []) (rest := []) (ci := 8) (q0 := 0) (k := (RX8, TX8, 8)) S hQ (cwV 0 hts gL_law_X8_grid_n rfl rfl rfl (by decide +kernel) ⟨Nat.le_of_ble_eq_true rfl, Nat.le_of_ble_eq_true rfl⟩) hK hW hA rfl (ze_at0 0 rfl) rfl hl.1 rfl (lv_room (Nat.le_of_ble_eq_true rfl)) dL_law_2509 ⟨by show k + 0 ≤ 601024; omega, by show j + 0 ≤ 7293034; omega⟩ (fun H locs hW => ?_)
  have hW := ze_asr hW
  refine lv_aload_n hX_ hB_ dL_law_2512 rfl (lv_at hl 2 rfl) ?_
  have hW := zy_wA hW
  refine ze_FVi (As := []) (rest := [.int (A 31 0)]) (ci := 9) (q0 := 0) (k := (RX9, TX9, 39)) S hR (cwV 0 hts gL_law_X9_grid_n rfl rfl rfl (by decide +kernel) ⟨Nat.le_of_ble_eq_true rfl, Nat.le_of_ble_eq_true rfl⟩) hK hW hA rfl rfl rfl hl.1 rfl (lv_room (Nat.le_of_ble_eq_true rfl)) dL_law_2513 ⟨by show k + 0 + 0 ≤ 601024; omega, by show j + 0 + 0 ≤ 7293034; omega⟩ (fun H locs hW => ?_)
  have hW := zy_wB hW
  refine lv_icmp_eq (tgt := 2642) hX_ hB_ dL_law_2516 (by decide) (fun _ => ?_) (fun q => absurd rfl q)
  refine W.widen (k := k + 2) (n := j + 14) (by omega) (by omega) ?_
  exact G a n A B E mk 0 f g H locs ls rfl hI hW (lv_sub hl [0, 1, 2, 3, 4, 5] rfl)
set_option maxHeartbeats 4000000 in
set_option maxRecDepth 100000 in
theorem zy_burnt (C : zy_C p l s m cd D c b L xs) {a d n : Nat → Nat} {A : Nat → Nat → Int32} {B : Nat → Int64} {E : Nat → Nat → Int32} {mk : Nat → Int32} {th : Int32} {o od : Nat} {f : Nat → Int64} {g : Nat → UInt64} {H : Heap} {locs : List Loc} {ls : Array Slot} {i k j : Nat} (hi : i + 6 ≤ L) (hb : k + 2 ≤ 601024 ∧ j + 14 ≤ 7293034) (hI : zv_I n A E mk) (hW : ze_W D (zy_W c a d n A B E mk th o od f g) (zy_F s) s.heap H locs) (hl : lv_has ls 8 (zy_L b (a 0) (d 0) o od i)) (G : zy_G p l e s m below meth cd D c b Q d o od (a 0) i (k + 2) (j + 14)) : W p l e room_1 s m #[Value.ref b] below meth cd H locs k j Q (F0 m 2521 ls []) := by
  obtain ⟨S, hst, hX, hbl, hXB, hNc, hK, hL⟩ := id C
  have hX_ := S.1
  have hB_ := S.2.1
  have hts := S.2.2.2.2
  have hA : ∀ q : Nat, s.heap.size ≤ q → zy_F s q := fun _ h => h
  obtain ⟨hb1, hb2⟩ := hb
  obtain ⟨hN, hS, hE, hz, h4, h4z, hT, hC, ⟨P, hKK⟩, hZ, hp⟩ := id hI
  have hQ := zp_burnt_f l D c a n A B E
  have hR := zr_burnt_f l D c d n A B mk th
  have hl : lv_has ls 8 [(0, .ref b), (1, .ref (a 0)), (2, .ref (d 0)), (3, .ref o), (4, .ref od), (5, .int (nI i))] := hl
  refine lv_aload_n hX_ hB_ dL_law_2521 rfl (lv_at hl 1 rfl) ?_
  have hW := ze_as hW
  refine ze_FVl (As := []) (rest := []) (ci := 8) (q0 := 0) (k := (RX8, TX8, 8)) S hQ (cwV 0 hts gL_law_X8_burnt_n rfl rfl rfl (by decide +kernel) ⟨Nat.le_of_ble_eq_true rfl, Nat.le_of_ble_eq_true rfl⟩) hK hW hA rfl (ze_at0 0 rfl) rfl hl.1 rfl (lv_room (Nat.le_of_ble_eq_true rfl)) dL_law_2522 ⟨by show k + 0 ≤ 601024; omega, by show j + 0 ≤ 7293034; omega⟩ (fun H locs hW => ?_)
  have hW := ze_asr hW
  refine lv_aload_n hX_ hB_ dL_law_2525 rfl (lv_at hl 2 rfl) ?_
  have hW := zy_wA hW
  refine ze_FVl (As := []) (rest := [.long (B 33)]) (ci := 9) (q0 := 0) (k := (RX9, TX9, 39)) S hR (cwV 0 hts gL_law_X9_burnt_n rfl rfl rfl (by decide +kernel) ⟨Nat.le_of_ble_eq_true rfl, Nat.le_of_ble_eq_true rfl⟩) hK hW hA rfl rfl rfl hl.1 rfl (lv_room (Nat.le_of_ble_eq_true rfl)) dL_law_2526 ⟨by show k + 0 + 0 ≤ 601024; omega, by show j + 0 + 0 ≤ 7293034; omega⟩ (fun H locs hW => ?_)
  have hW := zy_wB hW
  refine W.lcmp hX_ hB_ dL_law_2529 ?_
  rw [zy_cmp]
  refine lv_if_eq (tgt := 2642) hX_ hB_ dL_law_2530 (by decide) (fun _ => ?_) (fun q => absurd rfl q)
  refine W.widen (k := k + 2) (n := j + 14) (by omega) (by omega) ?_
  exact G a n A B E mk 0 f g H locs ls rfl hI hW (lv_sub hl [0, 1, 2, 3, 4, 5] rfl)
set_option maxHeartbeats 4000000 in
set_option maxRecDepth 100000 in
theorem zy_served (C : zy_C p l s m cd D c b L xs) {a d n : Nat → Nat} {A : Nat → Nat → Int32} {B : Nat → Int64} {E : Nat → Nat → Int32} {mk : Nat → Int32} {th : Int32} {o od : Nat} {f : Nat → Int64} {g : Nat → UInt64} {H : Heap} {locs : List Loc} {ls : Array Slot} {i k j : Nat} (hi : i + 6 ≤ L) (hb : k + 2 ≤ 601024 ∧ j + 14 ≤ 7293034) (hI : zv_I n A E mk) (hW : ze_W D (zy_W c a d n A B E mk th o od f g) (zy_F s) s.heap H locs) (hl : lv_has ls 8 (zy_L b (a 0) (d 0) o od i)) (G : zy_G p l e s m below meth cd D c b Q d o od (a 0) i (k + 2) (j + 14)) : W p l e room_1 s m #[Value.ref b] below meth cd H locs k j Q (F0 m 2535 ls []) := by
  obtain ⟨S, hst, hX, hbl, hXB, hNc, hK, hL⟩ := id C
  have hX_ := S.1
  have hB_ := S.2.1
  have hts := S.2.2.2.2
  have hA : ∀ q : Nat, s.heap.size ≤ q → zy_F s q := fun _ h => h
  obtain ⟨hb1, hb2⟩ := hb
  obtain ⟨hN, hS, hE, hz, h4, h4z, hT, hC, ⟨P, hKK⟩, hZ, hp⟩ := id hI
  have hQ := zp_served_f l D c a n A B E
  have hR := zr_served_f l D c d n A B mk th
  have hl : lv_has ls 8 [(0, .ref b), (1, .ref (a 0)), (2, .ref (d 0)), (3, .ref o), (4, .ref od), (5, .int (nI i))] := hl
  refine lv_aload_n hX_ hB_ dL_law_2535 rfl (lv_at hl 1 rfl) ?_
  have hW := ze_as hW
  refine ze_FVl (As := []) (rest := []) (ci := 8) (q0 := 0) (k := (RX8, TX8, 8)) S hQ (cwV 0 hts gL_law_X8_served_n rfl rfl rfl (by decide +kernel) ⟨Nat.le_of_ble_eq_true rfl, Nat.le_of_ble_eq_true rfl⟩) hK hW hA rfl (ze_at0 0 rfl) rfl hl.1 rfl (lv_room (Nat.le_of_ble_eq_true rfl)) dL_law_2536 ⟨by show k + 0 ≤ 601024; omega, by show j + 0 ≤ 7293034; omega⟩ (fun H locs hW => ?_)
  have hW := ze_asr hW
  refine lv_aload_n hX_ hB_ dL_law_2539 rfl (lv_at hl 2 rfl) ?_
  have hW := zy_wA hW
  refine ze_FVl (As := []) (rest := [.long (B 34)]) (ci := 9) (q0 := 0) (k := (RX9, TX9, 39)) S hR (cwV 0 hts gL_law_X9_served_n rfl rfl rfl (by decide +kernel) ⟨Nat.le_of_ble_eq_true rfl, Nat.le_of_ble_eq_true rfl⟩) hK hW hA rfl rfl rfl hl.1 rfl (lv_room (Nat.le_of_ble_eq_true rfl)) dL_law_2540 ⟨by show k + 0 + 0 ≤ 601024; omega, by show j + 0 + 0 ≤ 7293034; omega⟩ (fun H locs hW => ?_)
  have hW := zy_wB hW
  refine W.lcmp hX_ hB_ dL_law_2543 ?_
  rw [zy_cmp]
  refine lv_if_eq (tgt := 2642) hX_ hB_ dL_law_2544 (by decide) (fun _ => ?_) (fun q => absurd rfl q)
  refine W.widen (k := k + 2) (n := j + 14) (by omega) (by omega) ?_
  exact G a n A B E mk 0 f g H locs ls rfl hI hW (lv_sub hl [0, 1, 2, 3, 4, 5] rfl)
set_option maxHeartbeats 4000000 in
set_option maxRecDepth 100000 in
theorem zy_lost (C : zy_C p l s m cd D c b L xs) {a d n : Nat → Nat} {A : Nat → Nat → Int32} {B : Nat → Int64} {E : Nat → Nat → Int32} {mk : Nat → Int32} {th : Int32} {o od : Nat} {f : Nat → Int64} {g : Nat → UInt64} {H : Heap} {locs : List Loc} {ls : Array Slot} {i k j : Nat} (hi : i + 6 ≤ L) (hb : k + 2 ≤ 601024 ∧ j + 14 ≤ 7293034) (hI : zv_I n A E mk) (hW : ze_W D (zy_W c a d n A B E mk th o od f g) (zy_F s) s.heap H locs) (hl : lv_has ls 8 (zy_L b (a 0) (d 0) o od i)) (G : zy_G p l e s m below meth cd D c b Q d o od (a 0) i (k + 2) (j + 14)) : W p l e room_1 s m #[Value.ref b] below meth cd H locs k j Q (F0 m 2549 ls []) := by
  obtain ⟨S, hst, hX, hbl, hXB, hNc, hK, hL⟩ := id C
  have hX_ := S.1
  have hB_ := S.2.1
  have hts := S.2.2.2.2
  have hA : ∀ q : Nat, s.heap.size ≤ q → zy_F s q := fun _ h => h
  obtain ⟨hb1, hb2⟩ := hb
  obtain ⟨hN, hS, hE, hz, h4, h4z, hT, hC, ⟨P, hKK⟩, hZ, hp⟩ := id hI
  have hQ := zp_lost_f l D c a n A B E
  have hR := zr_lost_f l D c d n A B mk th
  have hl : lv_has ls 8 [(0, .ref b), (1, .ref (a 0)), (2, .ref (d 0)), (3, .ref o), (4, .ref od), (5, .int (nI i))] := hl
  refine lv_aload_n hX_ hB_ dL_law_2549 rfl (lv_at hl 1 rfl) ?_
  have hW := ze_as hW
  refine ze_FVl (As := []) (rest := []) (ci := 8) (q0 := 0) (k := (RX8, TX8, 8)) S hQ (cwV 0 hts gL_law_X8_lost_n rfl rfl rfl (by decide +kernel) ⟨Nat.le_of_ble_eq_true rfl, Nat.le_of_ble_eq_true rfl⟩) hK hW hA rfl (ze_at0 0 rfl) rfl hl.1 rfl (lv_room (Nat.le_of_ble_eq_true rfl)) dL_law_2550 ⟨by show k + 0 ≤ 601024; omega, by show j + 0 ≤ 7293034; omega⟩ (fun H locs hW => ?_)
  have hW := ze_asr hW
  refine lv_aload_n hX_ hB_ dL_law_2553 rfl (lv_at hl 2 rfl) ?_
  have hW := zy_wA hW
  refine ze_FVl (As := []) (rest := [.long (B 35)]) (ci := 9) (q0 := 0) (k := (RX9, TX9, 39)) S hR (cwV 0 hts gL_law_X9_lost_n rfl rfl rfl (by decide +kernel) ⟨Nat.le_of_ble_eq_true rfl, Nat.le_of_ble_eq_true rfl⟩) hK hW hA rfl rfl rfl hl.1 rfl (lv_room (Nat.le_of_ble_eq_true rfl)) dL_law_2554 ⟨by show k + 0 + 0 ≤ 601024; omega, by show j + 0 + 0 ≤ 7293034; omega⟩ (fun H locs hW => ?_)
  have hW := zy_wB hW
  refine W.lcmp hX_ hB_ dL_law_2557 ?_
  rw [zy_cmp]
  refine lv_if_eq (tgt := 2642) hX_ hB_ dL_law_2558 (by decide) (fun _ => ?_) (fun q => absurd rfl q)
  refine W.widen (k := k + 2) (n := j + 14) (by omega) (by omega) ?_
  exact G a n A B E mk 0 f g H locs ls rfl hI hW (lv_sub hl [0, 1, 2, 3, 4, 5] rfl)
set_option maxHeartbeats 4000000 in
set_option maxRecDepth 100000 in
theorem zy_isBalanced (C : zy_C p l s m cd D c b L xs) {a d n : Nat → Nat} {A : Nat → Nat → Int32} {B : Nat → Int64} {E : Nat → Nat → Int32} {mk : Nat → Int32} {th : Int32} {o od : Nat} {f : Nat → Int64} {g : Nat → UInt64} {H : Heap} {locs : List Loc} {ls : Array Slot} {i k j : Nat} (hi : i + 6 ≤ L) (hb : k + 2 ≤ 601024 ∧ j + 14 ≤ 7293034) (hI : zv_I n A E mk) (hW : ze_W D (zy_W c a d n A B E mk th o od f g) (zy_F s) s.heap H locs) (hl : lv_has ls 8 (zy_L b (a 0) (d 0) o od i)) (G : zy_G p l e s m below meth cd D c b Q d o od (a 0) i (k + 2) (j + 14)) : W p l e room_1 s m #[Value.ref b] below meth cd H locs k j Q (F0 m 2563 ls []) := by
  obtain ⟨S, hst, hX, hbl, hXB, hNc, hK, hL⟩ := id C
  have hX_ := S.1
  have hB_ := S.2.1
  have hts := S.2.2.2.2
  have hA : ∀ q : Nat, s.heap.size ≤ q → zy_F s q := fun _ h => h
  obtain ⟨hb1, hb2⟩ := hb
  obtain ⟨hN, hS, hE, hz, h4, h4z, hT, hC, ⟨P, hKK⟩, hZ, hp⟩ := id hI
  have hQ := zp_isBalanced_f l D c a n A B E hN
  have hR := zr_isBalanced_f l D c d n A B mk th hN
  rw [(zg_held hKK.2.1 hN.2.2.2.1 (n 3) (Nat.le_refl _)).2] at hQ
  have hl : lv_has ls 8 [(0, .ref b), (1, .ref (a 0)), (2, .ref (d 0)), (3, .ref o), (4, .ref od), (5, .int (nI i))] := hl
  refine lv_aload_n hX_ hB_ dL_law_2563 rfl (lv_at hl 1 rfl) ?_
  have hW := ze_as hW
  refine ze_FVi (As := []) (rest := []) (ci := 8) (q0 := 0) (k := (RX8, TX8, 8)) S hQ (cwV 0 hts gL_law_X8_isBalanced_n rfl rfl rfl (by decide +kernel) ⟨Nat.le_of_ble_eq_true rfl, Nat.le_of_ble_eq_true rfl⟩) hK hW hA rfl (ze_at0 0 rfl) rfl hl.1 rfl (lv_room (Nat.le_of_ble_eq_true rfl)) dL_law_2564 ⟨by show k + 0 ≤ 601024; omega, by show j + 0 ≤ 7293034; omega⟩ (fun H locs hW => ?_)
  have hW := ze_asr hW
  refine lv_aload_n hX_ hB_ dL_law_2567 rfl (lv_at hl 2 rfl) ?_
  have hW := zy_wA hW
  refine ze_FVi (As := []) (rest := [.int (ze_b (lg_cmp (B 33 + B 36) (B 34 + B 35 + B 37 + zf_st64 A (n 3)) = 0))]) (ci := 9) (q0 := 0) (k := (RX9, TX9, 39)) S hR (cwV 0 hts gL_law_X9_isBalanced_n rfl rfl rfl (by decide +kernel) ⟨Nat.le_of_ble_eq_true rfl, Nat.le_of_ble_eq_true rfl⟩) hK hW hA rfl rfl rfl hl.1 rfl (lv_room (Nat.le_of_ble_eq_true rfl)) dL_law_2568 ⟨by show k + 0 + 0 ≤ 601024; omega, by show j + 0 + 0 ≤ 7293034; omega⟩ (fun H locs hW => ?_)
  have hW := zy_wB hW
  refine lv_icmp_eq (tgt := 2642) hX_ hB_ dL_law_2571 (by decide) (fun _ => ?_) (fun q => absurd rfl q)
  refine W.widen (k := k + 2) (n := j + 14) (by omega) (by omega) ?_
  exact G a n A B E mk 0 f g H locs ls rfl hI hW (lv_sub hl [0, 1, 2, 3, 4, 5] rfl)
set_option maxHeartbeats 4000000 in
set_option maxRecDepth 100000 in
theorem zy_litShare (C : zy_C p l s m cd D c b L xs) {a d n : Nat → Nat} {A : Nat → Nat → Int32} {B : Nat → Int64} {E : Nat → Nat → Int32} {mk : Nat → Int32} {th : Int32} {o od : Nat} {f : Nat → Int64} {g : Nat → UInt64} {H : Heap} {locs : List Loc} {ls : Array Slot} {i k j : Nat} (hi : i + 6 ≤ L) (hb : k + 2 ≤ 601024 ∧ j + 14 ≤ 7293034) (hI : zv_I n A E mk) (hW : ze_W D (zy_W c a d n A B E mk th o od f g) (zy_F s) s.heap H locs) (hl : lv_has ls 8 (zy_L b (a 0) (d 0) o od i)) (G : zy_G p l e s m below meth cd D c b Q d o od (a 0) i (k + 2) (j + 14)) : W p l e room_1 s m #[Value.ref b] below meth cd H locs k j Q (F0 m 2576 ls []) := by
  obtain ⟨S, hst, hX, hbl, hXB, hNc, hK, hL⟩ := id C
  have hX_ := S.1
  have hB_ := S.2.1
  have hts := S.2.2.2.2
  have hA : ∀ q : Nat, s.heap.size ≤ q → zy_F s q := fun _ h => h
  obtain ⟨hb1, hb2⟩ := hb
  obtain ⟨hN, hS, hE, hz, h4, h4z, hT, hC, ⟨P, hKK⟩, hZ, hp⟩ := id hI
  have hl : lv_has ls 8 [(0, .ref b), (1, .ref (a 0)), (2, .ref (d 0)), (3, .ref o), (4, .ref od), (5, .int (nI i))] := hl
  refine lv_aload_n hX_ hB_ dL_law_2576 rfl (lv_at hl 1 rfl) ?_
  refine lv_aload hX_ hB_ dL_law_2577 (lv_at hl 4 rfl) ?_
  have hW := zy_wD hW
  by_cases h0 : n 4 = 0
  · refine ze_FQi (As := [.ref (a 0), .ref od]) (rest := []) S (zl_litShare_t1_n l D hst c a n A B E od g hN h0) (vx_cwSW 2 hts gL_law_L_litShare_n rfl rfl rfl (by decide +kernel) ⟨Nat.le_of_ble_eq_true rfl, Nat.le_of_ble_eq_true rfl⟩) hXB hNc hK hW hA rfl hl.1 rfl (lv_room (Nat.le_of_ble_eq_true rfl)) dL_law_2579 ⟨by show k + 1 ≤ 601024; omega, by show j + 6 ≤ 7293034; omega⟩ (fun H locs hW => ?_)
    refine lv_istore (lv' := [(6, .int 1), (0, .ref b), (1, .ref (a 0)), (2, .ref (d 0)), (3, .ref o), (4, .ref od), (5, .int (nI i))]) hX_ hB_ dL_law_2582 hl (by decide) rfl (fun ls hl => ?_)
    have hW := zy_wE hW
    refine lv_aload_n hX_ hB_ dL_law_2584 rfl (lv_at hl 3 rfl) ?_
    have hW := zy_wA hW
    refine ze_FVf (As := []) (rest := []) (ci := 9) (q0 := 0) (k := (RX9, TX9, 39)) S (zr_litShare_t1 l D c d n A B mk th hN h0) (cwV 0 hts gL_law_X9_litShare_n rfl rfl rfl (by decide +kernel) ⟨Nat.le_of_ble_eq_true rfl, Nat.le_of_ble_eq_true rfl⟩) hK hW hA rfl rfl rfl hl.1 rfl (lv_room (Nat.le_of_ble_eq_true rfl)) dL_law_2585 ⟨by show k + 1 + 0 ≤ 601024; omega, by show j + 6 + 0 ≤ 7293034; omega⟩ (fun H locs hW => ?_)
    refine lv_fstore (lv' := [(7, .float (0 : UInt32)), (6, .int 1), (0, .ref b), (1, .ref (a 0)), (2, .ref (d 0)), (3, .ref o), (4, .ref od), (5, .int (nI i))]) hX_ hB_ dL_law_2588 hl (by decide) rfl (fun ls hl => ?_)
    refine lv_aload_n hX_ hB_ dL_law_2590 rfl (lv_at hl 4 rfl) ?_
    refine ze_FVi (As := []) (rest := []) (ci := 9) (q0 := 0) (k := (RX9, TX9, 39)) S (zr_thrown l D c d n A B mk 1) (cwV 0 hts gL_law_X9_thrown_n rfl rfl rfl (by decide +kernel) ⟨Nat.le_of_ble_eq_true rfl, Nat.le_of_ble_eq_true rfl⟩) hK hW hA rfl rfl rfl hl.1 rfl (lv_room (Nat.le_of_ble_eq_true rfl)) dL_law_2591 ⟨by show k + 1 + 0 + 0 ≤ 601024; omega, by show j + 6 + 0 + 0 ≤ 7293034; omega⟩ (fun H locs hW => ?_)
    have hW := zy_wB hW
    refine lv_iload hX_ hB_ dL_law_2594 (lv_at hl 1 rfl) ?_
    refine lv_icmp_eq (tgt := 2601) hX_ hB_ dL_law_2596 (by decide) (fun _ => ?_) (fun q => absurd rfl q)
    refine lv_iload hX_ hB_ dL_law_2601 (lv_at hl 1 rfl) ?_
    refine lv_if_ne (tgt := 2639) hX_ hB_ dL_law_2603 (by decide) (fun _ => ?_) (fun q => absurd q (by decide))
    refine lv_goto (tgt := 2642) hX_ hB_ dL_law_2639 (by decide) ?_
    refine W.widen (k := k + 2) (n := j + 14) (by omega) (by omega) ?_
    exact G a n A B E mk 1 f g H locs ls rfl hI hW (lv_sub hl [2, 3, 4, 5, 6, 7] rfl)
  · refine ze_FQi (As := [.ref (a 0), .ref od]) (rest := []) S (zl_litShare_f_n l D c a n A B E od g hN h0) (vx_cwSW 2 hts gL_law_L_litShare_n rfl rfl rfl (by decide +kernel) ⟨Nat.le_of_ble_eq_true rfl, Nat.le_of_ble_eq_true rfl⟩) hXB hNc hK hW hA rfl hl.1 rfl (lv_room (Nat.le_of_ble_eq_true rfl)) dL_law_2579 ⟨by show k + 0 ≤ 601024; omega, by show j + 0 ≤ 7293034; omega⟩ (fun H locs hW => ?_)
    refine lv_istore (lv' := [(6, .int 0), (0, .ref b), (1, .ref (a 0)), (2, .ref (d 0)), (3, .ref o), (4, .ref od), (5, .int (nI i))]) hX_ hB_ dL_law_2582 hl (by decide) rfl (fun ls hl => ?_)
    have hW := zy_wE hW
    refine lv_aload_n hX_ hB_ dL_law_2584 rfl (lv_at hl 3 rfl) ?_
    have hW := zy_wA hW
    refine ze_FVf (As := []) (rest := []) (ci := 9) (q0 := 0) (k := (RX9, TX9, 39)) S (zr_litShare_f l D c d n A B mk th hN h0) (cwV 0 hts gL_law_X9_litShare_n rfl rfl rfl (by decide +kernel) ⟨Nat.le_of_ble_eq_true rfl, Nat.le_of_ble_eq_true rfl⟩) hK hW hA rfl rfl rfl hl.1 rfl (lv_room (Nat.le_of_ble_eq_true rfl)) dL_law_2585 ⟨by show k + 0 + 0 ≤ 601024; omega, by show j + 0 + 0 ≤ 7293034; omega⟩ (fun H locs hW => ?_)
    refine lv_fstore (lv' := [(7, .float (FP.fdiv (FP.i2f (zf_lits A (n 4))) (FP.i2f (nI (n 4))))), (6, .int 0), (0, .ref b), (1, .ref (a 0)), (2, .ref (d 0)), (3, .ref o), (4, .ref od), (5, .int (nI i))]) hX_ hB_ dL_law_2588 hl (by decide) rfl (fun ls hl => ?_)
    refine lv_aload_n hX_ hB_ dL_law_2590 rfl (lv_at hl 4 rfl) ?_
    refine ze_FVi (As := []) (rest := []) (ci := 9) (q0 := 0) (k := (RX9, TX9, 39)) S (zr_thrown l D c d n A B mk 0) (cwV 0 hts gL_law_X9_thrown_n rfl rfl rfl (by decide +kernel) ⟨Nat.le_of_ble_eq_true rfl, Nat.le_of_ble_eq_true rfl⟩) hK hW hA rfl rfl rfl hl.1 rfl (lv_room (Nat.le_of_ble_eq_true rfl)) dL_law_2591 ⟨by show k + 0 + 0 + 0 ≤ 601024; omega, by show j + 0 + 0 + 0 ≤ 7293034; omega⟩ (fun H locs hW => ?_)
    have hW := zy_wB hW
    refine lv_iload hX_ hB_ dL_law_2594 (lv_at hl 1 rfl) ?_
    refine lv_icmp_eq (tgt := 2601) hX_ hB_ dL_law_2596 (by decide) (fun _ => ?_) (fun q => absurd rfl q)
    refine lv_iload hX_ hB_ dL_law_2601 (lv_at hl 1 rfl) ?_
    refine lv_if_ne (tgt := 2639) hX_ hB_ dL_law_2603 (by decide) (fun q => absurd rfl q) (fun _ => ?_)
    refine lv_aload hX_ hB_ dL_law_2606 (lv_at hl 6 rfl) ?_
    refine lv_iconst (v := 0) hX_ hB_ dL_law_2608 (by decide) ?_
    refine va_dald (f := (vf_upd g 0 (FP.f2d (FP.fdiv (FP.i2f (zf_lits A (n 4))) (FP.i2f (nI (n 4))))))) hX_ hB_ hK hW.1 ((ze_wC c a n A B E ++ ([(o, .inl (c 6, 1, .inr (.inl f)))] : va_W)).length + ((ze_wR c d n A B mk 0).length + 0)) 7 (ze_appL (ze_appL (k := 0) rfl)) rfl (vp_in_nI (n := 0) (N := 1) (by decide) (by decide)) dL_law_2609 ?_
    refine lv_fload hX_ hB_ dL_law_2610 (lv_at hl 0 rfl) ?_
    refine lv_f2d hX_ hB_ dL_law_2612 (zf_sh64 h0 hN.2.2.2.2) ?_
    refine lv_dcmp hX_ hB_ dL_law_2613 ?_
    have e0 : Op.cmpValue (FP.dcmp ((vf_upd g 0 (FP.f2d (FP.fdiv (FP.i2f (zf_lits A (n 4))) (FP.i2f (nI (n 4)))))) (0 : Int32).toNatClampNeg) (FP.f2d (FP.fdiv (FP.i2f (zf_lits A (n 4))) (FP.i2f (nI (n 4)))))) CmpOp.l = 0 := zy_shc h0 hN.2.2.2.2
    rw [e0]
    refine lv_if_eq (tgt := 2639) hX_ hB_ dL_law_2614 (by decide) (fun _ => ?_) (fun q => absurd rfl q)
    refine lv_goto (tgt := 2642) hX_ hB_ dL_law_2639 (by decide) ?_
    refine W.widen (k := k + 2) (n := j + 14) (by omega) (by omega) ?_
    exact G a n A B E mk 0 f (vf_upd g 0 (FP.f2d (FP.fdiv (FP.i2f (zf_lits A (n 4))) (FP.i2f (nI (n 4)))))) H locs ls rfl hI hW (lv_sub hl [2, 3, 4, 5, 6, 7] rfl)
end ZY
