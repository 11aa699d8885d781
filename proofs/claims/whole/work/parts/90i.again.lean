/-! ===== again, for the methods that throw it ===== -/
set_option maxHeartbeats 4000000 in
set_option maxRecDepth 100000 in
theorem zl_barrier_f_n (l : Launch) (D : va_G) (c : Nat → ClassId) (a n : Nat → Nat) (A : Nat → Nat → Int32) (B : Nat → Int64) (E : Nat → Nat → Int32) (o : Nat) (f : Nat → Int64)  (j : Nat) (hN : zf_N n) (hj : j < n 4) (hS : zf_S n A) (hk : ¬ zf_keepC n A (E 0) j (zf_bOf n A (E 0) (E 0 (ze_ix (A 19 j))))) : ze_Q l yL_barrier wsL_barrier_n 7 142 0 0 D c ((ze_wC c a n A B E) ++ [(o, .inl (c 6, 1, .inr (.inl f)))]) [.ref (a 0), .int (nI j), .ref o] 0 ((ze_wC c a n A B E) ++ [(o, .inl (c 6, 1, .inr (.inl (vp_updL f 0 ((zf_on (zf_fuC n A (E 0) (E 0 (ze_ix (A 19 j))) (zf_bOf n A (E 0) (E 0 (ze_ix (A 19 j)))) (n 4))).toInt64)))))]) := by
  intro sz
  refine zq_start (cc := cL_barrier) (maxL := 4) (ret := (some .int)) (own := RL) (by decide) rfl rfl (Nat.le_of_ble_eq_true rfl) ?_
  obtain ⟨hn0, hn1, hn2, hn3, hn4⟩ := id hN
  intro p e s m_ below meth cd F ls hF hsz E0 hXB hNc htab
  obtain ⟨S, hr, hlocks, hK, hW, hA, hl⟩ := E0
  have hX_ := S.1
  have hB_ := S.2.1
  have hts := S.2.2.2.2
  have hl : lv_has ls 4 [(0, .ref (a 0)), (1, .int (nI j)), (2, .ref o)] := hl
  refine lv_aload_n hX_ hB_ dL_barrier_0 rfl (lv_at hl 2 rfl) ?_
  refine lv_iconst (v := 0) hX_ hB_ dL_barrier_1 (by decide) ?_
  refine lv_aload_n hX_ hB_ dL_barrier_2 rfl (lv_at hl 0 rfl) ?_
  refine lv_iload_n hX_ hB_ dL_barrier_3 rfl (lv_at hl 1 rfl) ?_
  refine ze_FVi (As := [.int (nI j)]) (rest := [.int 0, .ref o]) (ci := 8) (q0 := 0) (k := (RX8, TX8, 8)) S (zp_barrier_f_n l D c a n A B E j hN hj hS hk) (cwV 1 hts gL_barrier_X8_barrier_n rfl rfl rfl (by decide +kernel) ⟨Nat.le_of_ble_eq_true rfl, Nat.le_of_ble_eq_true rfl⟩) hK hW hA rfl (ze_at0 0 rfl) rfl hl.1 rfl (lv_room (Nat.le_of_ble_eq_true rfl)) dL_barrier_4 ⟨Nat.le_of_ble_eq_true rfl, Nat.le_of_ble_eq_true rfl⟩ (fun H locs hW => ?_)
  refine lv_i2l (v := (zf_on (zf_fuC n A (E 0) (E 0 (ze_ix (A 19 j))) (zf_bOf n A (E 0) (E 0 (ze_ix (A 19 j)))) (n 4))).toInt64) hX_ hB_ dL_barrier_7 rfl ?_
  refine ze_last hX_ hB_ hK hW ((ze_wC c a n A B E).length + 0) (i := 0) (ze_appL (k := 0) rfl) (by decide) (by decide) dL_barrier_8 (ze_appset rfl) (fun H locs hW => ?_)
  have hW : ze_W D ((ze_wC c a n A B E) ++ [(o, .inl (c 6, 1, .inr (.inl (vp_updL f 0 ((zf_on (zf_fuC n A (E 0) (E 0 (ze_ix (A 19 j))) (zf_bOf n A (E 0) (E 0 (ze_ix (A 19 j)))) (n 4))).toInt64)))))]) F s.heap _ _ := hW
  refine lv_goto (tgt := 18) hX_ hB_ dL_barrier_9 (by decide) ?_
  refine lv_iconst (v := 0) hX_ hB_ dL_barrier_18 (by decide) ?_
  exact ze_iret S hr hlocks hF hK hW rfl dL_barrier_19 (Nat.le_of_ble_eq_true rfl) (Nat.le_of_ble_eq_true rfl) rfl rfl
set_option maxHeartbeats 4000000 in
set_option maxRecDepth 100000 in
theorem zl_barrier_t1_n (l : Launch) (D : va_G) (hst : l.stackTraces = false) (c : Nat → ClassId) (a n : Nat → Nat) (A : Nat → Nat → Int32) (B : Nat → Int64) (E : Nat → Nat → Int32) (o : Nat) (f : Nat → Int64)  (x : Int32) (hN : zf_N n) (hx : ¬ zf_isIn x 0 (nI (n 4) - 1)) : ze_Q l yL_barrier wsL_barrier_n 10 168 1 6 D c ((ze_wC c a n A B E) ++ [(o, .inl (c 6, 1, .inr (.inl f)))]) [.ref (a 0), .int x, .ref o] 1 ((ze_wC c a n A B E) ++ [(o, .inl (c 6, 1, .inr (.inl f)))]) := by
  intro sz
  refine zq_start (cc := cL_barrier) (maxL := 4) (ret := (some .int)) (own := RL) (by decide) rfl rfl (Nat.le_of_ble_eq_true rfl) ?_
  obtain ⟨hn0, hn1, hn2, hn3, hn4⟩ := id hN
  intro p e s m_ below meth cd F ls hF hsz E0 hXB hNc htab
  obtain ⟨S, hr, hlocks, hK, hW, hA, hl⟩ := E0
  have hX_ := S.1
  have hB_ := S.2.1
  have hts := S.2.2.2.2
  have hl : lv_has ls 4 [(0, .ref (a 0)), (1, .int x), (2, .ref o)] := hl
  have w0 := hts (.classLink RL 19 "java/lang/IndexOutOfBoundsException") (List.mem_cons_of_mem _ (List.mem_append_left _ (List.mem_append_left _ (List.mem_append_left _ (List.mem_append_left _ (List.mem_append_left _ (List.mem_append_left _ (List.mem_append_left _ (List.mem_append_left _ (List.mem_append_left _ (List.mem_append_left _ (List.mem_append_left _ (List.mem_of_getElem? (i := 0) rfl)))))))))))))
  refine lv_aload_n hX_ hB_ dL_barrier_0 rfl (lv_at hl 2 rfl) ?_
  refine lv_iconst (v := 0) hX_ hB_ dL_barrier_1 (by decide) ?_
  refine lv_aload_n hX_ hB_ dL_barrier_2 rfl (lv_at hl 0 rfl) ?_
  refine lv_iload_n hX_ hB_ dL_barrier_3 rfl (lv_at hl 1 rfl) ?_
  refine zx_FVc (As := [.int x]) (rest := [.int 0, .ref o]) (ci := 8) (q0 := 0) (k := (RX8, TX8, 8)) S (zt_barrier_t1_n l D hst c a n A B E x hN hx) (cwV 1 hts gL_barrier_X8_barrier_n rfl rfl rfl (by decide +kernel) ⟨(Nat.le_of_ble_eq_true rfl), (Nat.le_of_ble_eq_true rfl)⟩) hK hW hXB hA rfl (ze_at0 0 rfl) rfl hl.1 rfl (lv_room (Nat.le_of_ble_eq_true rfl)) dL_barrier_4 ⟨(Nat.le_of_ble_eq_true rfl), (Nat.le_of_ble_eq_true rfl)⟩ [] ⟨0, 9, 12, 19⟩ [⟨0, 9, 15, 38⟩] htab (by intro z hz; cases hz) (by decide) (by decide) w0 (va_Nw.use rfl (hXB.2.2.2 _ (List.mem_of_getElem? (i := 7) rfl))) (fun q9 H locs hW => ?_)
  refine lv_astore_n (lv' := [(3, .ref q9), (0, .ref (a 0)), (1, .int x), (2, .ref o)]) hX_ hB_ dL_barrier_12 rfl hl (by decide) rfl (fun ls hl => ?_)
  refine lv_iconst (v := 1) hX_ hB_ dL_barrier_13 (by decide) ?_
  exact ze_iret S hr hlocks hF hK hW rfl dL_barrier_14 (Nat.le_of_ble_eq_true rfl) (Nat.le_of_ble_eq_true rfl) rfl rfl
set_option maxHeartbeats 4000000 in
set_option maxRecDepth 100000 in
theorem zl_barrier_t2_n (l : Launch) (D : va_G) (hst : l.stackTraces = false) (c : Nat → ClassId) (a n : Nat → Nat) (A : Nat → Nat → Int32) (B : Nat → Int64) (E : Nat → Nat → Int32) (o : Nat) (f : Nat → Int64)  (j : Nat) (hN : zf_N n) (hj : j < n 4) (hS : zf_S n A) (hk : zf_keepC n A (E 0) j (zf_bOf n A (E 0) (E 0 (ze_ix (A 19 j))))) : ze_Q l yL_barrier wsL_barrier_n 8 142 1 6 D c ((ze_wC c a n A B E) ++ [(o, .inl (c 6, 1, .inr (.inl f)))]) [.ref (a 0), .int (nI j), .ref o] 2 ((ze_wC c a n A B E) ++ [(o, .inl (c 6, 1, .inr (.inl f)))]) := by
  intro sz
  refine zq_start (cc := cL_barrier) (maxL := 4) (ret := (some .int)) (own := RL) (by decide) rfl rfl (Nat.le_of_ble_eq_true rfl) ?_
  obtain ⟨hn0, hn1, hn2, hn3, hn4⟩ := id hN
  intro p e s m_ below meth cd F ls hF hsz E0 hXB hNc htab
  obtain ⟨S, hr, hlocks, hK, hW, hA, hl⟩ := E0
  have hX_ := S.1
  have hB_ := S.2.1
  have hts := S.2.2.2.2
  have hl : lv_has ls 4 [(0, .ref (a 0)), (1, .int (nI j)), (2, .ref o)] := hl
  have w0 := hts (.classLink RL 19 "java/lang/IndexOutOfBoundsException") (List.mem_cons_of_mem _ (List.mem_append_left _ (List.mem_append_left _ (List.mem_append_left _ (List.mem_append_left _ (List.mem_append_left _ (List.mem_append_left _ (List.mem_append_left _ (List.mem_append_left _ (List.mem_append_left _ (List.mem_append_left _ (List.mem_append_left _ (List.mem_of_getElem? (i := 0) rfl)))))))))))))
  have w1 := hts (.classLink RL 38 "java/util/NoSuchElementException") (List.mem_cons_of_mem _ (List.mem_append_left _ (List.mem_append_left _ (List.mem_append_left _ (List.mem_append_left _ (List.mem_append_left _ (List.mem_append_left _ (List.mem_append_left _ (List.mem_append_left _ (List.mem_append_left _ (List.mem_append_left _ (List.mem_append_left _ (List.mem_of_getElem? (i := 1) rfl)))))))))))))
  refine lv_aload_n hX_ hB_ dL_barrier_0 rfl (lv_at hl 2 rfl) ?_
  refine lv_iconst (v := 0) hX_ hB_ dL_barrier_1 (by decide) ?_
  refine lv_aload_n hX_ hB_ dL_barrier_2 rfl (lv_at hl 0 rfl) ?_
  refine lv_iload_n hX_ hB_ dL_barrier_3 rfl (lv_at hl 1 rfl) ?_
  refine zx_FVc (As := [.int (nI j)]) (rest := [.int 0, .ref o]) (ci := 8) (q0 := 0) (k := (RX8, TX8, 8)) S (zt_barrier_t2_n l D hst c a n A B E j hN hj hS hk) (cwV 1 hts gL_barrier_X8_barrier_n rfl rfl rfl (by decide +kernel) ⟨(Nat.le_of_ble_eq_true rfl), (Nat.le_of_ble_eq_true rfl)⟩) hK hW hXB hA rfl (ze_at0 0 rfl) rfl hl.1 rfl (lv_room (Nat.le_of_ble_eq_true rfl)) dL_barrier_4 ⟨(Nat.le_of_ble_eq_true rfl), (Nat.le_of_ble_eq_true rfl)⟩ [⟨0, 9, 12, 19⟩] ⟨0, 9, 15, 38⟩ [] htab (by
      intro z hz
      simp only [List.mem_cons, List.not_mem_nil, or_false] at hz
      rcases hz with rfl
      exact Or.inr ⟨by decide, "java/lang/IndexOutOfBoundsException", w0, hNc ("java/util/NoSuchElementException", "java/lang/IndexOutOfBoundsException") (by decide +kernel)⟩) (by decide) (by decide) w1 (va_Nw.use rfl (hXB.2.2.2 _ (List.mem_of_getElem? (i := 6) rfl))) (fun q9 H locs hW => ?_)
  refine lv_astore_n (lv' := [(3, .ref q9), (0, .ref (a 0)), (1, .int (nI j)), (2, .ref o)]) hX_ hB_ dL_barrier_15 rfl hl (by decide) rfl (fun ls hl => ?_)
  refine lv_iconst (v := 2) hX_ hB_ dL_barrier_16 (by decide) ?_
  exact ze_iret S hr hlocks hF hK hW rfl dL_barrier_17 (Nat.le_of_ble_eq_true rfl) (Nat.le_of_ble_eq_true rfl) rfl rfl
set_option maxHeartbeats 4000000 in
set_option maxRecDepth 100000 in
theorem zl_behind_f_n (l : Launch) (D : va_G) (c : Nat → ClassId) (a n : Nat → Nat) (A : Nat → Nat → Int32) (B : Nat → Int64) (E : Nat → Nat → Int32) (o : Nat) (f : Nat → Int64)  (j : Nat) (hN : zf_N n) (hj : j < n 4) (hS : zf_S n A) (hk : ¬ zf_keepC n A (E 0) j (zf_bOf n A (E 0) (E 0 (ze_ix (A 19 j))))) : ze_Q l yL_behind wsL_behind_n 7 142 0 0 D c ((ze_wC c a n A B E) ++ [(o, .inl (c 6, 1, .inr (.inl f)))]) [.ref (a 0), .int (nI j), .ref o] 0 ((ze_wC c a n A B E) ++ [(o, .inl (c 6, 1, .inr (.inl (vp_updL f 0 ((zf_cua n A (E 0) j (zf_bOf n A (E 0) (E 0 (ze_ix (A 19 j)))) (n 4)).toInt64)))))]) := by
  intro sz
  refine zq_start (cc := cL_behind) (maxL := 4) (ret := (some .int)) (own := RL) (by decide) rfl rfl (Nat.le_of_ble_eq_true rfl) ?_
  obtain ⟨hn0, hn1, hn2, hn3, hn4⟩ := id hN
  intro p e s m_ below meth cd F ls hF hsz E0 hXB hNc htab
  obtain ⟨S, hr, hlocks, hK, hW, hA, hl⟩ := E0
  have hX_ := S.1
  have hB_ := S.2.1
  have hts := S.2.2.2.2
  have hl : lv_has ls 4 [(0, .ref (a 0)), (1, .int (nI j)), (2, .ref o)] := hl
  refine lv_aload_n hX_ hB_ dL_behind_0 rfl (lv_at hl 2 rfl) ?_
  refine lv_iconst (v := 0) hX_ hB_ dL_behind_1 (by decide) ?_
  refine lv_aload_n hX_ hB_ dL_behind_2 rfl (lv_at hl 0 rfl) ?_
  refine lv_iload_n hX_ hB_ dL_behind_3 rfl (lv_at hl 1 rfl) ?_
  refine ze_FVi (As := [.int (nI j)]) (rest := [.int 0, .ref o]) (ci := 8) (q0 := 0) (k := (RX8, TX8, 8)) S (zp_behind_f_n l D c a n A B E j hN hj hS hk) (cwV 1 hts gL_behind_X8_behind_n rfl rfl rfl (by decide +kernel) ⟨Nat.le_of_ble_eq_true rfl, Nat.le_of_ble_eq_true rfl⟩) hK hW hA rfl (ze_at0 0 rfl) rfl hl.1 rfl (lv_room (Nat.le_of_ble_eq_true rfl)) dL_behind_4 ⟨Nat.le_of_ble_eq_true rfl, Nat.le_of_ble_eq_true rfl⟩ (fun H locs hW => ?_)
  refine lv_i2l (v := (zf_cua n A (E 0) j (zf_bOf n A (E 0) (E 0 (ze_ix (A 19 j)))) (n 4)).toInt64) hX_ hB_ dL_behind_7 rfl ?_
  refine ze_last hX_ hB_ hK hW ((ze_wC c a n A B E).length + 0) (i := 0) (ze_appL (k := 0) rfl) (by decide) (by decide) dL_behind_8 (ze_appset rfl) (fun H locs hW => ?_)
  have hW : ze_W D ((ze_wC c a n A B E) ++ [(o, .inl (c 6, 1, .inr (.inl (vp_updL f 0 ((zf_cua n A (E 0) j (zf_bOf n A (E 0) (E 0 (ze_ix (A 19 j)))) (n 4)).toInt64)))))]) F s.heap _ _ := hW
  refine lv_goto (tgt := 18) hX_ hB_ dL_behind_9 (by decide) ?_
  refine lv_iconst (v := 0) hX_ hB_ dL_behind_18 (by decide) ?_
  exact ze_iret S hr hlocks hF hK hW rfl dL_behind_19 (Nat.le_of_ble_eq_true rfl) (Nat.le_of_ble_eq_true rfl) rfl rfl
set_option maxHeartbeats 4000000 in
set_option maxRecDepth 100000 in
theorem zl_behind_t1_n (l : Launch) (D : va_G) (hst : l.stackTraces = false) (c : Nat → ClassId) (a n : Nat → Nat) (A : Nat → Nat → Int32) (B : Nat → Int64) (E : Nat → Nat → Int32) (o : Nat) (f : Nat → Int64)  (x : Int32) (hN : zf_N n) (hx : ¬ zf_isIn x 0 (nI (n 4) - 1)) : ze_Q l yL_behind wsL_behind_n 10 168 1 6 D c ((ze_wC c a n A B E) ++ [(o, .inl (c 6, 1, .inr (.inl f)))]) [.ref (a 0), .int x, .ref o] 1 ((ze_wC c a n A B E) ++ [(o, .inl (c 6, 1, .inr (.inl f)))]) := by
  intro sz
  refine zq_start (cc := cL_behind) (maxL := 4) (ret := (some .int)) (own := RL) (by decide) rfl rfl (Nat.le_of_ble_eq_true rfl) ?_
  obtain ⟨hn0, hn1, hn2, hn3, hn4⟩ := id hN
  intro p e s m_ below meth cd F ls hF hsz E0 hXB hNc htab
  obtain ⟨S, hr, hlocks, hK, hW, hA, hl⟩ := E0
  have hX_ := S.1
  have hB_ := S.2.1
  have hts := S.2.2.2.2
  have hl : lv_has ls 4 [(0, .ref (a 0)), (1, .int x), (2, .ref o)] := hl
  have w0 := hts (.classLink RL 19 "java/lang/IndexOutOfBoundsException") (List.mem_cons_of_mem _ (List.mem_append_left _ (List.mem_append_left _ (List.mem_append_left _ (List.mem_append_left _ (List.mem_append_left _ (List.mem_append_left _ (List.mem_append_left _ (List.mem_append_left _ (List.mem_append_left _ (List.mem_append_left _ (List.mem_append_left _ (List.mem_of_getElem? (i := 0) rfl)))))))))))))
  refine lv_aload_n hX_ hB_ dL_behind_0 rfl (lv_at hl 2 rfl) ?_
  refine lv_iconst (v := 0) hX_ hB_ dL_behind_1 (by decide) ?_
  refine lv_aload_n hX_ hB_ dL_behind_2 rfl (lv_at hl 0 rfl) ?_
  refine lv_iload_n hX_ hB_ dL_behind_3 rfl (lv_at hl 1 rfl) ?_
  refine zx_FVc (As := [.int x]) (rest := [.int 0, .ref o]) (ci := 8) (q0 := 0) (k := (RX8, TX8, 8)) S (zt_behind_t1_n l D hst c a n A B E x hN hx) (cwV 1 hts gL_behind_X8_behind_n rfl rfl rfl (by decide +kernel) ⟨(Nat.le_of_ble_eq_true rfl), (Nat.le_of_ble_eq_true rfl)⟩) hK hW hXB hA rfl (ze_at0 0 rfl) rfl hl.1 rfl (lv_room (Nat.le_of_ble_eq_true rfl)) dL_behind_4 ⟨(Nat.le_of_ble_eq_true rfl), (Nat.le_of_ble_eq_true rfl)⟩ [] ⟨0, 9, 12, 19⟩ [⟨0, 9, 15, 38⟩] htab (by intro z hz; cases hz) (by decide) (by decide) w0 (va_Nw.use rfl (hXB.2.2.2 _ (List.mem_of_getElem? (i := 7) rfl))) (fun q9 H locs hW => ?_)
  refine lv_astore_n (lv' := [(3, .ref q9), (0, .ref (a 0)), (1, .int x), (2, .ref o)]) hX_ hB_ dL_behind_12 rfl hl (by decide) rfl (fun ls hl => ?_)
  refine lv_iconst (v := 1) hX_ hB_ dL_behind_13 (by decide) ?_
  exact ze_iret S hr hlocks hF hK hW rfl dL_behind_14 (Nat.le_of_ble_eq_true rfl) (Nat.le_of_ble_eq_true rfl) rfl rfl
set_option maxHeartbeats 4000000 in
set_option maxRecDepth 100000 in
theorem zl_behind_t2_n (l : Launch) (D : va_G) (hst : l.stackTraces = false) (c : Nat → ClassId) (a n : Nat → Nat) (A : Nat → Nat → Int32) (B : Nat → Int64) (E : Nat → Nat → Int32) (o : Nat) (f : Nat → Int64)  (j : Nat) (hN : zf_N n) (hj : j < n 4) (hS : zf_S n A) (hk : zf_keepC n A (E 0) j (zf_bOf n A (E 0) (E 0 (ze_ix (A 19 j))))) : ze_Q l yL_behind wsL_behind_n 8 142 1 6 D c ((ze_wC c a n A B E) ++ [(o, .inl (c 6, 1, .inr (.inl f)))]) [.ref (a 0), .int (nI j), .ref o] 2 ((ze_wC c a n A B E) ++ [(o, .inl (c 6, 1, .inr (.inl f)))]) := by
  intro sz
  refine zq_start (cc := cL_behind) (maxL := 4) (ret := (some .int)) (own := RL) (by decide) rfl rfl (Nat.le_of_ble_eq_true rfl) ?_
  obtain ⟨hn0, hn1, hn2, hn3, hn4⟩ := id hN
  intro p e s m_ below meth cd F ls hF hsz E0 hXB hNc htab
  obtain ⟨S, hr, hlocks, hK, hW, hA, hl⟩ := E0
  have hX_ := S.1
  have hB_ := S.2.1
  have hts := S.2.2.2.2
  have hl : lv_has ls 4 [(0, .ref (a 0)), (1, .int (nI j)), (2, .ref o)] := hl
  have w0 := hts (.classLink RL 19 "java/lang/IndexOutOfBoundsException") (List.mem_cons_of_mem _ (List.mem_append_left _ (List.mem_append_left _ (List.mem_append_left _ (List.mem_append_left _ (List.mem_append_left _ (List.mem_append_left _ (List.mem_append_left _ (List.mem_append_left _ (List.mem_append_left _ (List.mem_append_left _ (List.mem_append_left _ (List.mem_of_getElem? (i := 0) rfl)))))))))))))
  have w1 := hts (.classLink RL 38 "java/util/NoSuchElementException") (List.mem_cons_of_mem _ (List.mem_append_left _ (List.mem_append_left _ (List.mem_append_left _ (List.mem_append_left _ (List.mem_append_left _ (List.mem_append_left _ (List.mem_append_left _ (List.mem_append_left _ (List.mem_append_left _ (List.mem_append_left _ (List.mem_append_left _ (List.mem_of_getElem? (i := 1) rfl)))))))))))))
  refine lv_aload_n hX_ hB_ dL_behind_0 rfl (lv_at hl 2 rfl) ?_
  refine lv_iconst (v := 0) hX_ hB_ dL_behind_1 (by decide) ?_
  refine lv_aload_n hX_ hB_ dL_behind_2 rfl (lv_at hl 0 rfl) ?_
  refine lv_iload_n hX_ hB_ dL_behind_3 rfl (lv_at hl 1 rfl) ?_
  refine zx_FVc (As := [.int (nI j)]) (rest := [.int 0, .ref o]) (ci := 8) (q0 := 0) (k := (RX8, TX8, 8)) S (zt_behind_t2_n l D hst c a n A B E j hN hj hS hk) (cwV 1 hts gL_behind_X8_behind_n rfl rfl rfl (by decide +kernel) ⟨(Nat.le_of_ble_eq_true rfl), (Nat.le_of_ble_eq_true rfl)⟩) hK hW hXB hA rfl (ze_at0 0 rfl) rfl hl.1 rfl (lv_room (Nat.le_of_ble_eq_true rfl)) dL_behind_4 ⟨(Nat.le_of_ble_eq_true rfl), (Nat.le_of_ble_eq_true rfl)⟩ [⟨0, 9, 12, 19⟩] ⟨0, 9, 15, 38⟩ [] htab (by
      intro z hz
      simp only [List.mem_cons, List.not_mem_nil, or_false] at hz
      rcases hz with rfl
      exact Or.inr ⟨by decide, "java/lang/IndexOutOfBoundsException", w0, hNc ("java/util/NoSuchElementException", "java/lang/IndexOutOfBoundsException") (by decide +kernel)⟩) (by decide) (by decide) w1 (va_Nw.use rfl (hXB.2.2.2 _ (List.mem_of_getElem? (i := 6) rfl))) (fun q9 H locs hW => ?_)
  refine lv_astore_n (lv' := [(3, .ref q9), (0, .ref (a 0)), (1, .int (nI j)), (2, .ref o)]) hX_ hB_ dL_behind_15 rfl hl (by decide) rfl (fun ls hl => ?_)
  refine lv_iconst (v := 2) hX_ hB_ dL_behind_16 (by decide) ?_
  exact ze_iret S hr hlocks hF hK hW rfl dL_behind_17 (Nat.le_of_ble_eq_true rfl) (Nat.le_of_ble_eq_true rfl) rfl rfl
set_option maxHeartbeats 4000000 in
set_option maxRecDepth 100000 in
theorem zl_litShare_f_n (l : Launch) (D : va_G) (c : Nat → ClassId) (a n : Nat → Nat) (A : Nat → Nat → Int32) (B : Nat → Int64) (E : Nat → Nat → Int32) (o : Nat) (f : Nat → UInt64)  (hN : zf_N n) (h : ¬ n 4 = 0) : ze_Q l yL_litShare wsL_litShare_n 2 42 0 0 D c ((ze_wC c a n A B E) ++ [(o, .inl (c 7, 1, .inr (.inr (.inr (.inl f)))))]) [.ref (a 0), .ref o] 0 ((ze_wC c a n A B E) ++ [(o, .inl (c 7, 1, .inr (.inr (.inr (.inl (vf_upd f 0 (FP.f2d (FP.fdiv (FP.i2f (zf_lits A (n 4))) (FP.i2f (nI (n 4)))))))))))]) := by
  intro sz
  refine zq_start (cc := cL_litShare) (maxL := 3) (ret := (some .int)) (own := RL) (by decide) rfl rfl (Nat.le_of_ble_eq_true rfl) ?_
  obtain ⟨hn0, hn1, hn2, hn3, hn4⟩ := id hN
  intro p e s m_ below meth cd F ls hF hsz E0 hXB hNc htab
  obtain ⟨S, hr, hlocks, hK, hW, hA, hl⟩ := E0
  have hX_ := S.1
  have hB_ := S.2.1
  have hts := S.2.2.2.2
  have hl : lv_has ls 3 [(0, .ref (a 0)), (1, .ref o)] := hl
  refine lv_aload_n hX_ hB_ dL_litShare_0 rfl (lv_at hl 1 rfl) ?_
  refine lv_iconst (v := 0) hX_ hB_ dL_litShare_1 (by decide) ?_
  refine lv_aload_n hX_ hB_ dL_litShare_2 rfl (lv_at hl 0 rfl) ?_
  refine ze_FVf (As := []) (rest := [.int 0, .ref o]) (ci := 8) (q0 := 0) (k := (RX8, TX8, 8)) S (zp_litShare_f_n l D c a n A B E hN h) (cwV 0 hts gL_litShare_X8_litShare_n rfl rfl rfl (by decide +kernel) ⟨Nat.le_of_ble_eq_true rfl, Nat.le_of_ble_eq_true rfl⟩) hK hW hA rfl (ze_at0 0 rfl) rfl hl.1 rfl (lv_room (Nat.le_of_ble_eq_true rfl)) dL_litShare_3 ⟨Nat.le_of_ble_eq_true rfl, Nat.le_of_ble_eq_true rfl⟩ (fun H locs hW => ?_)
  refine lv_f2d hX_ hB_ dL_litShare_6 (zf_sh64 h hn4) ?_
  refine ze_dast hX_ hB_ hK hW ((ze_wC c a n A B E).length + 0) (i := 0) (ze_appL (k := 0) rfl) (by decide) (by decide) dL_litShare_7 (ze_appset rfl) (fun H locs hW => ?_)
  have hW : ze_W D ((ze_wC c a n A B E) ++ [(o, .inl (c 7, 1, .inr (.inr (.inr (.inl (vf_upd f 0 (FP.f2d (FP.fdiv (FP.i2f (zf_lits A (n 4))) (FP.i2f (nI (n 4)))))))))))]) F s.heap _ _ := hW
  refine lv_goto (tgt := 14) hX_ hB_ dL_litShare_8 (by decide) ?_
  refine lv_iconst (v := 0) hX_ hB_ dL_litShare_14 (by decide) ?_
  exact ze_iret S hr hlocks hF hK hW rfl dL_litShare_15 (Nat.le_of_ble_eq_true rfl) (Nat.le_of_ble_eq_true rfl) rfl rfl

set_option maxHeartbeats 4000000 in
set_option maxRecDepth 100000 in
theorem zl_litShare_t1_n (l : Launch) (D : va_G) (hst : l.stackTraces = false) (c : Nat → ClassId) (a n : Nat → Nat) (A : Nat → Nat → Int32) (B : Nat → Int64) (E : Nat → Nat → Int32) (o : Nat) (f : Nat → UInt64)  (hN : zf_N n) (h : n 4 = 0) : ze_Q l yL_litShare wsL_litShare_n 7 102 1 6 D c ((ze_wC c a n A B E) ++ [(o, .inl (c 7, 1, .inr (.inr (.inr (.inl f)))))]) [.ref (a 0), .ref o] 1 ((ze_wC c a n A B E) ++ [(o, .inl (c 7, 1, .inr (.inr (.inr (.inl f)))))]) := by
  intro sz
  refine zq_start (cc := cL_litShare) (maxL := 3) (ret := (some .int)) (own := RL) (by decide) rfl rfl (Nat.le_of_ble_eq_true rfl) ?_
  obtain ⟨hn0, hn1, hn2, hn3, hn4⟩ := id hN
  intro p e s m_ below meth cd F ls hF hsz E0 hXB hNc htab
  obtain ⟨S, hr, hlocks, hK, hW, hA, hl⟩ := E0
  have hX_ := S.1
  have hB_ := S.2.1
  have hts := S.2.2.2.2
  have hl : lv_has ls 3 [(0, .ref (a 0)), (1, .ref o)] := hl
  have w0 := hts (.classLink RL 38 "java/util/NoSuchElementException") (List.mem_cons_of_mem _ (List.mem_append_left _ (List.mem_append_left _ (List.mem_append_left _ (List.mem_append_left _ (List.mem_of_getElem? (i := 0) rfl))))))
  refine lv_aload_n hX_ hB_ dL_litShare_0 rfl (lv_at hl 1 rfl) ?_
  refine lv_iconst (v := 0) hX_ hB_ dL_litShare_1 (by decide) ?_
  refine lv_aload_n hX_ hB_ dL_litShare_2 rfl (lv_at hl 0 rfl) ?_
  refine zx_FVc (As := []) (rest := [.int 0, .ref o]) (ci := 8) (q0 := 0) (k := (RX8, TX8, 8)) S (zt_litShare_t1_n l D hst c a n A B E hN h) (cwV 0 hts gL_litShare_X8_litShare_n rfl rfl rfl (by decide +kernel) ⟨(Nat.le_of_ble_eq_true rfl), (Nat.le_of_ble_eq_true rfl)⟩) hK hW hXB hA rfl (ze_at0 0 rfl) rfl hl.1 rfl (lv_room (Nat.le_of_ble_eq_true rfl)) dL_litShare_3 ⟨(Nat.le_of_ble_eq_true rfl), (Nat.le_of_ble_eq_true rfl)⟩ [] ⟨0, 8, 11, 38⟩ [] htab (by intro z hz; cases hz) (by decide) (by decide) w0 (va_Nw.use rfl (hXB.2.2.2 _ (List.mem_of_getElem? (i := 6) rfl))) (fun q9 H locs hW => ?_)
  refine lv_astore_n (lv' := [(2, .ref q9), (0, .ref (a 0)), (1, .ref o)]) hX_ hB_ dL_litShare_11 rfl hl (by decide) rfl (fun ls hl => ?_)
  refine lv_iconst (v := 1) hX_ hB_ dL_litShare_12 (by decide) ?_
  exact ze_iret S hr hlocks hF hK hW rfl dL_litShare_13 (Nat.le_of_ble_eq_true rfl) (Nat.le_of_ble_eq_true rfl) rfl rfl
set_option maxHeartbeats 4000000 in
set_option maxRecDepth 100000 in
theorem zl_share_f_n (l : Launch) (D : va_G) (c : Nat → ClassId) (a n : Nat → Nat) (A : Nat → Nat → Int32) (B : Nat → Int64) (E : Nat → Nat → Int32) (o : Nat) (f : Nat → Int64)  (j : Nat) (hN : zf_N n) (hj : j < n 0) (y : Int32) (k : Nat) (hk : k < n 2) (hS : zf_S n A) (hy : zf_isIn y 0 1200) (hrn : zf_runs A (E 0) k (E 0 j)) : ze_Q l yL_share wsL_share_n 6 121 0 0 D c ((ze_wC c a n A B E) ++ [(o, .inl (c 6, 1, .inr (.inl f)))]) [.ref (a 0), .int (nI j), .int y, .int (nI k), .ref o] 0 ((ze_wC c a n A B (ze_sA E 3 (ze_up (zf_stp A (E 0) (E 0 j)) (E 3) (n 2)))) ++ [(o, .inl (c 6, 1, .inr (.inl (vp_updL f 0 ((A 7 k + zf_swr (ze_up (zf_stp A (E 0) (E 0 j)) (E 3) (n 2)) (n 2) k (y - zf_gs A (E 0) (E 0 j) (n 2))).toInt64)))))]) := by
  intro sz
  refine zq_start (cc := cL_share) (maxL := 6) (ret := (some .int)) (own := RL) (by decide) rfl rfl (Nat.le_of_ble_eq_true rfl) ?_
  obtain ⟨hn0, hn1, hn2, hn3, hn4⟩ := id hN
  intro p e s m_ below meth cd F ls hF hsz E0 hXB hNc htab
  obtain ⟨S, hr, hlocks, hK, hW, hA, hl⟩ := E0
  have hX_ := S.1
  have hB_ := S.2.1
  have hts := S.2.2.2.2
  have hl : lv_has ls 6 [(0, .ref (a 0)), (1, .int (nI j)), (2, .int y), (3, .int (nI k)), (4, .ref o)] := hl
  refine lv_aload hX_ hB_ dL_share_0 (lv_at hl 4 rfl) ?_
  refine lv_iconst (v := 0) hX_ hB_ dL_share_2 (by decide) ?_
  refine lv_aload_n hX_ hB_ dL_share_3 rfl (lv_at hl 0 rfl) ?_
  refine lv_iload_n hX_ hB_ dL_share_4 rfl (lv_at hl 1 rfl) ?_
  refine lv_iload_n hX_ hB_ dL_share_5 rfl (lv_at hl 2 rfl) ?_
  refine lv_iload_n hX_ hB_ dL_share_6 rfl (lv_at hl 3 rfl) ?_
  refine ze_FVi (As := [.int (nI j), .int y, .int (nI k)]) (rest := [.int 0, .ref o]) (ci := 8) (q0 := 0) (k := (RX8, TX8, 8)) S (zp_share_f_n l D c a n A B E j hN hj y k hk hS hy hrn) (cwV 3 hts gL_share_X8_share_n rfl rfl rfl (by decide +kernel) ⟨Nat.le_of_ble_eq_true rfl, Nat.le_of_ble_eq_true rfl⟩) hK hW hA rfl (ze_at0 0 rfl) rfl hl.1 rfl (lv_room (Nat.le_of_ble_eq_true rfl)) dL_share_7 ⟨Nat.le_of_ble_eq_true rfl, Nat.le_of_ble_eq_true rfl⟩ (fun H locs hW => ?_)
  have hW : ze_W D ((ze_wC c a n A B (ze_sA E 3 (ze_up (zf_stp A (E 0) (E 0 j)) (E 3) (n 2)))) ++ [(o, .inl (c 6, 1, .inr (.inl f)))]) F s.heap _ _ := hW
  refine lv_i2l (v := (A 7 k + zf_swr (ze_up (zf_stp A (E 0) (E 0 j)) (E 3) (n 2)) (n 2) k (y - zf_gs A (E 0) (E 0 j) (n 2))).toInt64) hX_ hB_ dL_share_10 rfl ?_
  refine ze_last hX_ hB_ hK hW ((ze_wC c a n A B (ze_sA E 3 (ze_up (zf_stp A (E 0) (E 0 j)) (E 3) (n 2)))).length + 0) (i := 0) (ze_appL (k := 0) rfl) (by decide) (by decide) dL_share_11 (ze_appset rfl) (fun H locs hW => ?_)
  have hW : ze_W D ((ze_wC c a n A B (ze_sA E 3 (ze_up (zf_stp A (E 0) (E 0 j)) (E 3) (n 2)))) ++ [(o, .inl (c 6, 1, .inr (.inl (vp_updL f 0 ((A 7 k + zf_swr (ze_up (zf_stp A (E 0) (E 0 j)) (E 3) (n 2)) (n 2) k (y - zf_gs A (E 0) (E 0 j) (n 2))).toInt64)))))]) F s.heap _ _ := hW
  refine lv_goto (tgt := 27) hX_ hB_ dL_share_12 (by decide) ?_
  refine lv_iconst (v := 0) hX_ hB_ dL_share_27 (by decide) ?_
  exact ze_iret S hr hlocks hF hK hW rfl dL_share_28 (Nat.le_of_ble_eq_true rfl) (Nat.le_of_ble_eq_true rfl) rfl rfl
set_option maxHeartbeats 4000000 in
set_option maxRecDepth 100000 in
theorem zl_share_t1a_n (l : Launch) (D : va_G) (hst : l.stackTraces = false) (c : Nat → ClassId) (a n : Nat → Nat) (A : Nat → Nat → Int32) (B : Nat → Int64) (E : Nat → Nat → Int32) (o : Nat) (f : Nat → Int64)  (x : Int32) (hN : zf_N n) (hx : ¬ zf_isIn x 0 (nI (n 0) - 1)) (y z : Int32) : ze_Q l yL_share wsL_share_n 10 170 1 6 D c ((ze_wC c a n A B E) ++ [(o, .inl (c 6, 1, .inr (.inl f)))]) [.ref (a 0), .int x, .int y, .int z, .ref o] 1 ((ze_wC c a n A B E) ++ [(o, .inl (c 6, 1, .inr (.inl f)))]) := by
  intro sz
  refine zq_start (cc := cL_share) (maxL := 6) (ret := (some .int)) (own := RL) (by decide) rfl rfl (Nat.le_of_ble_eq_true rfl) ?_
  obtain ⟨hn0, hn1, hn2, hn3, hn4⟩ := id hN
  intro p e s m_ below meth cd F ls hF hsz E0 hXB hNc htab
  obtain ⟨S, hr, hlocks, hK, hW, hA, hl⟩ := E0
  have hX_ := S.1
  have hB_ := S.2.1
  have hts := S.2.2.2.2
  have hl : lv_has ls 6 [(0, .ref (a 0)), (1, .int x), (2, .int y), (3, .int z), (4, .ref o)] := hl
  have w0 := hts (.classLink RL 19 "java/lang/IndexOutOfBoundsException") (List.mem_cons_of_mem _ (List.mem_append_left _ (List.mem_append_left _ (List.mem_append_left _ (List.mem_append_left _ (List.mem_append_left _ (List.mem_append_left _ (List.mem_append_left _ (List.mem_append_left _ (List.mem_of_getElem? (i := 0) rfl))))))))))
  refine lv_aload hX_ hB_ dL_share_0 (lv_at hl 4 rfl) ?_
  refine lv_iconst (v := 0) hX_ hB_ dL_share_2 (by decide) ?_
  refine lv_aload_n hX_ hB_ dL_share_3 rfl (lv_at hl 0 rfl) ?_
  refine lv_iload_n hX_ hB_ dL_share_4 rfl (lv_at hl 1 rfl) ?_
  refine lv_iload_n hX_ hB_ dL_share_5 rfl (lv_at hl 2 rfl) ?_
  refine lv_iload_n hX_ hB_ dL_share_6 rfl (lv_at hl 3 rfl) ?_
  refine zx_FVc (As := [.int x, .int y, .int z]) (rest := [.int 0, .ref o]) (ci := 8) (q0 := 0) (k := (RX8, TX8, 8)) S (zt_share_t1a_n l D hst c a n A B E x hN hx y z) (cwV 3 hts gL_share_X8_share_n rfl rfl rfl (by decide +kernel) ⟨(Nat.le_of_ble_eq_true rfl), (Nat.le_of_ble_eq_true rfl)⟩) hK hW hXB hA rfl (ze_at0 0 rfl) rfl hl.1 rfl (lv_room (Nat.le_of_ble_eq_true rfl)) dL_share_7 ⟨(Nat.le_of_ble_eq_true rfl), (Nat.le_of_ble_eq_true rfl)⟩ [] ⟨0, 12, 15, 19⟩ [⟨0, 12, 19, 21⟩, ⟨0, 12, 23, 38⟩] htab (by intro z hz; cases hz) (by decide) (by decide) w0 (va_Nw.use rfl (hXB.2.2.2 _ (List.mem_of_getElem? (i := 7) rfl))) (fun q9 H locs hW => ?_)
  refine lv_astore (lv' := [(5, .ref q9), (0, .ref (a 0)), (1, .int x), (2, .int y), (3, .int z), (4, .ref o)]) hX_ hB_ dL_share_15 hl (by decide) rfl (fun ls hl => ?_)
  refine lv_iconst (v := 1) hX_ hB_ dL_share_17 (by decide) ?_
  exact ze_iret S hr hlocks hF hK hW rfl dL_share_18 (Nat.le_of_ble_eq_true rfl) (Nat.le_of_ble_eq_true rfl) rfl rfl
set_option maxHeartbeats 4000000 in
set_option maxRecDepth 100000 in
theorem zl_share_t1b_n (l : Launch) (D : va_G) (hst : l.stackTraces = false) (c : Nat → ClassId) (a n : Nat → Nat) (A : Nat → Nat → Int32) (B : Nat → Int64) (E : Nat → Nat → Int32) (o : Nat) (f : Nat → Int64)  (j : Nat) (hN : zf_N n) (hj : j < n 0) (y z : Int32) (hzo : ¬ zf_isIn z 0 (nI (n 2) - 1)) : ze_Q l yL_share wsL_share_n 9 149 1 6 D c ((ze_wC c a n A B E) ++ [(o, .inl (c 6, 1, .inr (.inl f)))]) [.ref (a 0), .int (nI j), .int y, .int z, .ref o] 1 ((ze_wC c a n A B E) ++ [(o, .inl (c 6, 1, .inr (.inl f)))]) := by
  intro sz
  refine zq_start (cc := cL_share) (maxL := 6) (ret := (some .int)) (own := RL) (by decide) rfl rfl (Nat.le_of_ble_eq_true rfl) ?_
  obtain ⟨hn0, hn1, hn2, hn3, hn4⟩ := id hN
  intro p e s m_ below meth cd F ls hF hsz E0 hXB hNc htab
  obtain ⟨S, hr, hlocks, hK, hW, hA, hl⟩ := E0
  have hX_ := S.1
  have hB_ := S.2.1
  have hts := S.2.2.2.2
  have hl : lv_has ls 6 [(0, .ref (a 0)), (1, .int (nI j)), (2, .int y), (3, .int z), (4, .ref o)] := hl
  have w0 := hts (.classLink RL 19 "java/lang/IndexOutOfBoundsException") (List.mem_cons_of_mem _ (List.mem_append_left _ (List.mem_append_left _ (List.mem_append_left _ (List.mem_append_left _ (List.mem_append_left _ (List.mem_append_left _ (List.mem_append_left _ (List.mem_append_left _ (List.mem_of_getElem? (i := 0) rfl))))))))))
  refine lv_aload hX_ hB_ dL_share_0 (lv_at hl 4 rfl) ?_
  refine lv_iconst (v := 0) hX_ hB_ dL_share_2 (by decide) ?_
  refine lv_aload_n hX_ hB_ dL_share_3 rfl (lv_at hl 0 rfl) ?_
  refine lv_iload_n hX_ hB_ dL_share_4 rfl (lv_at hl 1 rfl) ?_
  refine lv_iload_n hX_ hB_ dL_share_5 rfl (lv_at hl 2 rfl) ?_
  refine lv_iload_n hX_ hB_ dL_share_6 rfl (lv_at hl 3 rfl) ?_
  refine zx_FVc (As := [.int (nI j), .int y, .int z]) (rest := [.int 0, .ref o]) (ci := 8) (q0 := 0) (k := (RX8, TX8, 8)) S (zt_share_t1b_n l D hst c a n A B E j hN hj y z hzo) (cwV 3 hts gL_share_X8_share_n rfl rfl rfl (by decide +kernel) ⟨(Nat.le_of_ble_eq_true rfl), (Nat.le_of_ble_eq_true rfl)⟩) hK hW hXB hA rfl (ze_at0 0 rfl) rfl hl.1 rfl (lv_room (Nat.le_of_ble_eq_true rfl)) dL_share_7 ⟨(Nat.le_of_ble_eq_true rfl), (Nat.le_of_ble_eq_true rfl)⟩ [] ⟨0, 12, 15, 19⟩ [⟨0, 12, 19, 21⟩, ⟨0, 12, 23, 38⟩] htab (by intro z hz; cases hz) (by decide) (by decide) w0 (va_Nw.use rfl (hXB.2.2.2 _ (List.mem_of_getElem? (i := 7) rfl))) (fun q9 H locs hW => ?_)
  refine lv_astore (lv' := [(5, .ref q9), (0, .ref (a 0)), (1, .int (nI j)), (2, .int y), (3, .int z), (4, .ref o)]) hX_ hB_ dL_share_15 hl (by decide) rfl (fun ls hl => ?_)
  refine lv_iconst (v := 1) hX_ hB_ dL_share_17 (by decide) ?_
  exact ze_iret S hr hlocks hF hK hW rfl dL_share_18 (Nat.le_of_ble_eq_true rfl) (Nat.le_of_ble_eq_true rfl) rfl rfl
set_option maxHeartbeats 4000000 in
set_option maxRecDepth 100000 in
theorem zl_share_t2_n (l : Launch) (D : va_G) (hst : l.stackTraces = false) (c : Nat → ClassId) (a n : Nat → Nat) (A : Nat → Nat → Int32) (B : Nat → Int64) (E : Nat → Nat → Int32) (o : Nat) (f : Nat → Int64)  (j : Nat) (hN : zf_N n) (hj : j < n 0) (y : Int32) (k : Nat) (hk : k < n 2) (hy : ¬ zf_isIn y 0 1200) : ze_Q l yL_share wsL_share_n 9 150 1 6 D c ((ze_wC c a n A B E) ++ [(o, .inl (c 6, 1, .inr (.inl f)))]) [.ref (a 0), .int (nI j), .int y, .int (nI k), .ref o] 2 ((ze_wC c a n A B E) ++ [(o, .inl (c 6, 1, .inr (.inl f)))]) := by
  intro sz
  refine zq_start (cc := cL_share) (maxL := 6) (ret := (some .int)) (own := RL) (by decide) rfl rfl (Nat.le_of_ble_eq_true rfl) ?_
  obtain ⟨hn0, hn1, hn2, hn3, hn4⟩ := id hN
  intro p e s m_ below meth cd F ls hF hsz E0 hXB hNc htab
  obtain ⟨S, hr, hlocks, hK, hW, hA, hl⟩ := E0
  have hX_ := S.1
  have hB_ := S.2.1
  have hts := S.2.2.2.2
  have hl : lv_has ls 6 [(0, .ref (a 0)), (1, .int (nI j)), (2, .int y), (3, .int (nI k)), (4, .ref o)] := hl
  have w0 := hts (.classLink RL 19 "java/lang/IndexOutOfBoundsException") (List.mem_cons_of_mem _ (List.mem_append_left _ (List.mem_append_left _ (List.mem_append_left _ (List.mem_append_left _ (List.mem_append_left _ (List.mem_append_left _ (List.mem_append_left _ (List.mem_append_left _ (List.mem_of_getElem? (i := 0) rfl))))))))))
  have w1 := hts (.classLink RL 21 "java/lang/IllegalArgumentException") (List.mem_cons_of_mem _ (List.mem_append_left _ (List.mem_append_left _ (List.mem_append_left _ (List.mem_append_left _ (List.mem_append_left _ (List.mem_append_left _ (List.mem_append_left _ (List.mem_append_left _ (List.mem_of_getElem? (i := 1) rfl))))))))))
  refine lv_aload hX_ hB_ dL_share_0 (lv_at hl 4 rfl) ?_
  refine lv_iconst (v := 0) hX_ hB_ dL_share_2 (by decide) ?_
  refine lv_aload_n hX_ hB_ dL_share_3 rfl (lv_at hl 0 rfl) ?_
  refine lv_iload_n hX_ hB_ dL_share_4 rfl (lv_at hl 1 rfl) ?_
  refine lv_iload_n hX_ hB_ dL_share_5 rfl (lv_at hl 2 rfl) ?_
  refine lv_iload_n hX_ hB_ dL_share_6 rfl (lv_at hl 3 rfl) ?_
  refine zx_FVc (As := [.int (nI j), .int y, .int (nI k)]) (rest := [.int 0, .ref o]) (ci := 8) (q0 := 0) (k := (RX8, TX8, 8)) S (zt_share_t2_n l D hst c a n A B E j hN hj y k hk hy) (cwV 3 hts gL_share_X8_share_n rfl rfl rfl (by decide +kernel) ⟨(Nat.le_of_ble_eq_true rfl), (Nat.le_of_ble_eq_true rfl)⟩) hK hW hXB hA rfl (ze_at0 0 rfl) rfl hl.1 rfl (lv_room (Nat.le_of_ble_eq_true rfl)) dL_share_7 ⟨(Nat.le_of_ble_eq_true rfl), (Nat.le_of_ble_eq_true rfl)⟩ [⟨0, 12, 15, 19⟩] ⟨0, 12, 19, 21⟩ [⟨0, 12, 23, 38⟩] htab (by
      intro z hz
      simp only [List.mem_cons, List.not_mem_nil, or_false] at hz
      rcases hz with rfl
      exact Or.inr ⟨by decide, "java/lang/IndexOutOfBoundsException", w0, hNc ("java/lang/IllegalArgumentException", "java/lang/IndexOutOfBoundsException") (by decide +kernel)⟩) (by decide) (by decide) w1 (va_Nw.use rfl (hXB.2.2.2 _ (List.mem_of_getElem? (i := 4) rfl))) (fun q9 H locs hW => ?_)
  refine lv_astore (lv' := [(5, .ref q9), (0, .ref (a 0)), (1, .int (nI j)), (2, .int y), (3, .int (nI k)), (4, .ref o)]) hX_ hB_ dL_share_19 hl (by decide) rfl (fun ls hl => ?_)
  refine lv_iconst (v := 2) hX_ hB_ dL_share_21 (by decide) ?_
  exact ze_iret S hr hlocks hF hK hW rfl dL_share_22 (Nat.le_of_ble_eq_true rfl) (Nat.le_of_ble_eq_true rfl) rfl rfl
set_option maxHeartbeats 4000000 in
set_option maxRecDepth 100000 in
theorem zl_share_t3_n (l : Launch) (D : va_G) (hst : l.stackTraces = false) (c : Nat → ClassId) (a n : Nat → Nat) (A : Nat → Nat → Int32) (B : Nat → Int64) (E : Nat → Nat → Int32) (o : Nat) (f : Nat → Int64)  (j : Nat) (hN : zf_N n) (hj : j < n 0) (y : Int32) (k : Nat) (hk : k < n 2) (hS : zf_S n A) (hy : zf_isIn y 0 1200) (hrn : ¬ zf_runs A (E 0) k (E 0 j)) : ze_Q l yL_share wsL_share_n 8 128 1 6 D c ((ze_wC c a n A B E) ++ [(o, .inl (c 6, 1, .inr (.inl f)))]) [.ref (a 0), .int (nI j), .int y, .int (nI k), .ref o] 3 ((ze_wC c a n A B E) ++ [(o, .inl (c 6, 1, .inr (.inl f)))]) := by
  intro sz
  refine zq_start (cc := cL_share) (maxL := 6) (ret := (some .int)) (own := RL) (by decide) rfl rfl (Nat.le_of_ble_eq_true rfl) ?_
  obtain ⟨hn0, hn1, hn2, hn3, hn4⟩ := id hN
  intro p e s m_ below meth cd F ls hF hsz E0 hXB hNc htab
  obtain ⟨S, hr, hlocks, hK, hW, hA, hl⟩ := E0
  have hX_ := S.1
  have hB_ := S.2.1
  have hts := S.2.2.2.2
  have hl : lv_has ls 6 [(0, .ref (a 0)), (1, .int (nI j)), (2, .int y), (3, .int (nI k)), (4, .ref o)] := hl
  have w0 := hts (.classLink RL 19 "java/lang/IndexOutOfBoundsException") (List.mem_cons_of_mem _ (List.mem_append_left _ (List.mem_append_left _ (List.mem_append_left _ (List.mem_append_left _ (List.mem_append_left _ (List.mem_append_left _ (List.mem_append_left _ (List.mem_append_left _ (List.mem_of_getElem? (i := 0) rfl))))))))))
  have w1 := hts (.classLink RL 21 "java/lang/IllegalArgumentException") (List.mem_cons_of_mem _ (List.mem_append_left _ (List.mem_append_left _ (List.mem_append_left _ (List.mem_append_left _ (List.mem_append_left _ (List.mem_append_left _ (List.mem_append_left _ (List.mem_append_left _ (List.mem_of_getElem? (i := 1) rfl))))))))))
  have w2 := hts (.classLink RL 38 "java/util/NoSuchElementException") (List.mem_cons_of_mem _ (List.mem_append_left _ (List.mem_append_left _ (List.mem_append_left _ (List.mem_append_left _ (List.mem_append_left _ (List.mem_append_left _ (List.mem_append_left _ (List.mem_append_left _ (List.mem_of_getElem? (i := 2) rfl))))))))))
  refine lv_aload hX_ hB_ dL_share_0 (lv_at hl 4 rfl) ?_
  refine lv_iconst (v := 0) hX_ hB_ dL_share_2 (by decide) ?_
  refine lv_aload_n hX_ hB_ dL_share_3 rfl (lv_at hl 0 rfl) ?_
  refine lv_iload_n hX_ hB_ dL_share_4 rfl (lv_at hl 1 rfl) ?_
  refine lv_iload_n hX_ hB_ dL_share_5 rfl (lv_at hl 2 rfl) ?_
  refine lv_iload_n hX_ hB_ dL_share_6 rfl (lv_at hl 3 rfl) ?_
  refine zx_FVc (As := [.int (nI j), .int y, .int (nI k)]) (rest := [.int 0, .ref o]) (ci := 8) (q0 := 0) (k := (RX8, TX8, 8)) S (zt_share_t3_n l D hst c a n A B E j hN hj y k hk hS hy hrn) (cwV 3 hts gL_share_X8_share_n rfl rfl rfl (by decide +kernel) ⟨(Nat.le_of_ble_eq_true rfl), (Nat.le_of_ble_eq_true rfl)⟩) hK hW hXB hA rfl (ze_at0 0 rfl) rfl hl.1 rfl (lv_room (Nat.le_of_ble_eq_true rfl)) dL_share_7 ⟨(Nat.le_of_ble_eq_true rfl), (Nat.le_of_ble_eq_true rfl)⟩ [⟨0, 12, 15, 19⟩, ⟨0, 12, 19, 21⟩] ⟨0, 12, 23, 38⟩ [] htab (by
      intro z hz
      simp only [List.mem_cons, List.not_mem_nil, or_false] at hz
      rcases hz with rfl | rfl
      · exact Or.inr ⟨by decide, "java/lang/IndexOutOfBoundsException", w0, hNc ("java/util/NoSuchElementException", "java/lang/IndexOutOfBoundsException") (by decide +kernel)⟩
      · exact Or.inr ⟨by decide, "java/lang/IllegalArgumentException", w1, hNc ("java/util/NoSuchElementException", "java/lang/IllegalArgumentException") (by decide +kernel)⟩) (by decide) (by decide) w2 (va_Nw.use rfl (hXB.2.2.2 _ (List.mem_of_getElem? (i := 6) rfl))) (fun q9 H locs hW => ?_)
  refine lv_astore (lv' := [(5, .ref q9), (0, .ref (a 0)), (1, .int (nI j)), (2, .int y), (3, .int (nI k)), (4, .ref o)]) hX_ hB_ dL_share_23 hl (by decide) rfl (fun ls hl => ?_)
  refine lv_iconst (v := 3) hX_ hB_ dL_share_25 (by decide) ?_
  exact ze_iret S hr hlocks hF hK hW rfl dL_share_26 (Nat.le_of_ble_eq_true rfl) (Nat.le_of_ble_eq_true rfl) rfl rfl
set_option maxHeartbeats 4000000 in
set_option maxRecDepth 100000 in
theorem zl_shareBySteps_f_n (l : Launch) (D : va_G) (c : Nat → ClassId) (a n : Nat → Nat) (A : Nat → Nat → Int32) (B : Nat → Int64) (E : Nat → Nat → Int32) (o : Nat) (f : Nat → Int64)  (j : Nat) (hN : zf_N n) (hj : j < n 0) (y : Int32) (k : Nat) (hk : k < n 2) (hS : zf_S n A) (hy : zf_isIn y 0 1200) (hrn : zf_runs A (E 0) k (E 0 j)) : ze_Q l yL_shareBySteps wsL_shareBySteps_n 6 124 0 0 D c ((ze_wC c a n A B E) ++ [(o, .inl (c 6, 1, .inr (.inl f)))]) [.ref (a 0), .int (nI j), .int y, .int (nI k), .ref o] 0 ((ze_wC c a n A B (ze_sA (ze_sA E 3 (ze_up (zf_stp A (E 0) (E 0 j)) (E 3) (n 2))) 4 (zf_tlr n A (E 0) (E 3) (E 4) (E 0 j) y))) ++ [(o, .inl (c 6, 1, .inr (.inl (vp_updL f 0 ((A 7 k + (zf_tlr n A (E 0) (E 3) (E 4) (E 0 j) y) k).toInt64)))))]) := by
  intro sz
  refine zq_start (cc := cL_shareBySteps) (maxL := 6) (ret := (some .int)) (own := RL) (by decide) rfl rfl (Nat.le_of_ble_eq_true rfl) ?_
  obtain ⟨hn0, hn1, hn2, hn3, hn4⟩ := id hN
  intro p e s m_ below meth cd F ls hF hsz E0 hXB hNc htab
  obtain ⟨S, hr, hlocks, hK, hW, hA, hl⟩ := E0
  have hX_ := S.1
  have hB_ := S.2.1
  have hts := S.2.2.2.2
  have hl : lv_has ls 6 [(0, .ref (a 0)), (1, .int (nI j)), (2, .int y), (3, .int (nI k)), (4, .ref o)] := hl
  refine lv_aload hX_ hB_ dL_shareBySteps_0 (lv_at hl 4 rfl) ?_
  refine lv_iconst (v := 0) hX_ hB_ dL_shareBySteps_2 (by decide) ?_
  refine lv_aload_n hX_ hB_ dL_shareBySteps_3 rfl (lv_at hl 0 rfl) ?_
  refine lv_iload_n hX_ hB_ dL_shareBySteps_4 rfl (lv_at hl 1 rfl) ?_
  refine lv_iload_n hX_ hB_ dL_shareBySteps_5 rfl (lv_at hl 2 rfl) ?_
  refine lv_iload_n hX_ hB_ dL_shareBySteps_6 rfl (lv_at hl 3 rfl) ?_
  refine ze_FVi (As := [.int (nI j), .int y, .int (nI k)]) (rest := [.int 0, .ref o]) (ci := 8) (q0 := 0) (k := (RX8, TX8, 8)) S (zp_shareBySteps_f_n l D c a n A B E j hN hj y k hk hS hy hrn) (cwV 3 hts gL_shareBySteps_X8_shareBySteps_n rfl rfl rfl (by decide +kernel) ⟨Nat.le_of_ble_eq_true rfl, Nat.le_of_ble_eq_true rfl⟩) hK hW hA rfl (ze_at0 0 rfl) rfl hl.1 rfl (lv_room (Nat.le_of_ble_eq_true rfl)) dL_shareBySteps_7 ⟨Nat.le_of_ble_eq_true rfl, Nat.le_of_ble_eq_true rfl⟩ (fun H locs hW => ?_)
  have hW : ze_W D ((ze_wC c a n A B (ze_sA (ze_sA E 3 (ze_up (zf_stp A (E 0) (E 0 j)) (E 3) (n 2))) 4 (zf_tlr n A (E 0) (E 3) (E 4) (E 0 j) y))) ++ [(o, .inl (c 6, 1, .inr (.inl f)))]) F s.heap _ _ := hW
  refine lv_i2l (v := (A 7 k + (zf_tlr n A (E 0) (E 3) (E 4) (E 0 j) y) k).toInt64) hX_ hB_ dL_shareBySteps_10 rfl ?_
  refine ze_last hX_ hB_ hK hW ((ze_wC c a n A B (ze_sA (ze_sA E 3 (ze_up (zf_stp A (E 0) (E 0 j)) (E 3) (n 2))) 4 (zf_tlr n A (E 0) (E 3) (E 4) (E 0 j) y))).length + 0) (i := 0) (ze_appL (k := 0) rfl) (by decide) (by decide) dL_shareBySteps_11 (ze_appset rfl) (fun H locs hW => ?_)
  have hW : ze_W D ((ze_wC c a n A B (ze_sA (ze_sA E 3 (ze_up (zf_stp A (E 0) (E 0 j)) (E 3) (n 2))) 4 (zf_tlr n A (E 0) (E 3) (E 4) (E 0 j) y))) ++ [(o, .inl (c 6, 1, .inr (.inl (vp_updL f 0 ((A 7 k + (zf_tlr n A (E 0) (E 3) (E 4) (E 0 j) y) k).toInt64)))))]) F s.heap _ _ := hW
  refine lv_goto (tgt := 27) hX_ hB_ dL_shareBySteps_12 (by decide) ?_
  refine lv_iconst (v := 0) hX_ hB_ dL_shareBySteps_27 (by decide) ?_
  exact ze_iret S hr hlocks hF hK hW rfl dL_shareBySteps_28 (Nat.le_of_ble_eq_true rfl) (Nat.le_of_ble_eq_true rfl) rfl rfl
set_option maxHeartbeats 4000000 in
set_option maxRecDepth 100000 in
theorem zl_shareBySteps_t1a_n (l : Launch) (D : va_G) (hst : l.stackTraces = false) (c : Nat → ClassId) (a n : Nat → Nat) (A : Nat → Nat → Int32) (B : Nat → Int64) (E : Nat → Nat → Int32) (o : Nat) (f : Nat → Int64)  (x : Int32) (hN : zf_N n) (hx : ¬ zf_isIn x 0 (nI (n 0) - 1)) (y z : Int32) : ze_Q l yL_shareBySteps wsL_shareBySteps_n 10 170 1 6 D c ((ze_wC c a n A B E) ++ [(o, .inl (c 6, 1, .inr (.inl f)))]) [.ref (a 0), .int x, .int y, .int z, .ref o] 1 ((ze_wC c a n A B E) ++ [(o, .inl (c 6, 1, .inr (.inl f)))]) := by
  intro sz
  refine zq_start (cc := cL_shareBySteps) (maxL := 6) (ret := (some .int)) (own := RL) (by decide) rfl rfl (Nat.le_of_ble_eq_true rfl) ?_
  obtain ⟨hn0, hn1, hn2, hn3, hn4⟩ := id hN
  intro p e s m_ below meth cd F ls hF hsz E0 hXB hNc htab
  obtain ⟨S, hr, hlocks, hK, hW, hA, hl⟩ := E0
  have hX_ := S.1
  have hB_ := S.2.1
  have hts := S.2.2.2.2
  have hl : lv_has ls 6 [(0, .ref (a 0)), (1, .int x), (2, .int y), (3, .int z), (4, .ref o)] := hl
  have w0 := hts (.classLink RL 19 "java/lang/IndexOutOfBoundsException") (List.mem_cons_of_mem _ (List.mem_append_left _ (List.mem_append_left _ (List.mem_append_left _ (List.mem_append_left _ (List.mem_append_left _ (List.mem_append_left _ (List.mem_append_left _ (List.mem_append_left _ (List.mem_of_getElem? (i := 0) rfl))))))))))
  refine lv_aload hX_ hB_ dL_shareBySteps_0 (lv_at hl 4 rfl) ?_
  refine lv_iconst (v := 0) hX_ hB_ dL_shareBySteps_2 (by decide) ?_
  refine lv_aload_n hX_ hB_ dL_shareBySteps_3 rfl (lv_at hl 0 rfl) ?_
  refine lv_iload_n hX_ hB_ dL_shareBySteps_4 rfl (lv_at hl 1 rfl) ?_
  refine lv_iload_n hX_ hB_ dL_shareBySteps_5 rfl (lv_at hl 2 rfl) ?_
  refine lv_iload_n hX_ hB_ dL_shareBySteps_6 rfl (lv_at hl 3 rfl) ?_
  refine zx_FVc (As := [.int x, .int y, .int z]) (rest := [.int 0, .ref o]) (ci := 8) (q0 := 0) (k := (RX8, TX8, 8)) S (zt_shareBySteps_t1a_n l D hst c a n A B E x hN hx y z) (cwV 3 hts gL_shareBySteps_X8_shareBySteps_n rfl rfl rfl (by decide +kernel) ⟨(Nat.le_of_ble_eq_true rfl), (Nat.le_of_ble_eq_true rfl)⟩) hK hW hXB hA rfl (ze_at0 0 rfl) rfl hl.1 rfl (lv_room (Nat.le_of_ble_eq_true rfl)) dL_shareBySteps_7 ⟨(Nat.le_of_ble_eq_true rfl), (Nat.le_of_ble_eq_true rfl)⟩ [] ⟨0, 12, 15, 19⟩ [⟨0, 12, 19, 21⟩, ⟨0, 12, 23, 38⟩] htab (by intro z hz; cases hz) (by decide) (by decide) w0 (va_Nw.use rfl (hXB.2.2.2 _ (List.mem_of_getElem? (i := 7) rfl))) (fun q9 H locs hW => ?_)
  refine lv_astore (lv' := [(5, .ref q9), (0, .ref (a 0)), (1, .int x), (2, .int y), (3, .int z), (4, .ref o)]) hX_ hB_ dL_shareBySteps_15 hl (by decide) rfl (fun ls hl => ?_)
  refine lv_iconst (v := 1) hX_ hB_ dL_shareBySteps_17 (by decide) ?_
  exact ze_iret S hr hlocks hF hK hW rfl dL_shareBySteps_18 (Nat.le_of_ble_eq_true rfl) (Nat.le_of_ble_eq_true rfl) rfl rfl
set_option maxHeartbeats 4000000 in
set_option maxRecDepth 100000 in
theorem zl_shareBySteps_t1b_n (l : Launch) (D : va_G) (hst : l.stackTraces = false) (c : Nat → ClassId) (a n : Nat → Nat) (A : Nat → Nat → Int32) (B : Nat → Int64) (E : Nat → Nat → Int32) (o : Nat) (f : Nat → Int64)  (j : Nat) (hN : zf_N n) (hj : j < n 0) (y z : Int32) (hzo : ¬ zf_isIn z 0 (nI (n 2) - 1)) : ze_Q l yL_shareBySteps wsL_shareBySteps_n 9 149 1 6 D c ((ze_wC c a n A B E) ++ [(o, .inl (c 6, 1, .inr (.inl f)))]) [.ref (a 0), .int (nI j), .int y, .int z, .ref o] 1 ((ze_wC c a n A B E) ++ [(o, .inl (c 6, 1, .inr (.inl f)))]) := by
  intro sz
  refine zq_start (cc := cL_shareBySteps) (maxL := 6) (ret := (some .int)) (own := RL) (by decide) rfl rfl (Nat.le_of_ble_eq_true rfl) ?_
  obtain ⟨hn0, hn1, hn2, hn3, hn4⟩ := id hN
  intro p e s m_ below meth cd F ls hF hsz E0 hXB hNc htab
  obtain ⟨S, hr, hlocks, hK, hW, hA, hl⟩ := E0
  have hX_ := S.1
  have hB_ := S.2.1
  have hts := S.2.2.2.2
  have hl : lv_has ls 6 [(0, .ref (a 0)), (1, .int (nI j)), (2, .int y), (3, .int z), (4, .ref o)] := hl
  have w0 := hts (.classLink RL 19 "java/lang/IndexOutOfBoundsException") (List.mem_cons_of_mem _ (List.mem_append_left _ (List.mem_append_left _ (List.mem_append_left _ (List.mem_append_left _ (List.mem_append_left _ (List.mem_append_left _ (List.mem_append_left _ (List.mem_append_left _ (List.mem_of_getElem? (i := 0) rfl))))))))))
  refine lv_aload hX_ hB_ dL_shareBySteps_0 (lv_at hl 4 rfl) ?_
  refine lv_iconst (v := 0) hX_ hB_ dL_shareBySteps_2 (by decide) ?_
  refine lv_aload_n hX_ hB_ dL_shareBySteps_3 rfl (lv_at hl 0 rfl) ?_
  refine lv_iload_n hX_ hB_ dL_shareBySteps_4 rfl (lv_at hl 1 rfl) ?_
  refine lv_iload_n hX_ hB_ dL_shareBySteps_5 rfl (lv_at hl 2 rfl) ?_
  refine lv_iload_n hX_ hB_ dL_shareBySteps_6 rfl (lv_at hl 3 rfl) ?_
  refine zx_FVc (As := [.int (nI j), .int y, .int z]) (rest := [.int 0, .ref o]) (ci := 8) (q0 := 0) (k := (RX8, TX8, 8)) S (zt_shareBySteps_t1b_n l D hst c a n A B E j hN hj y z hzo) (cwV 3 hts gL_shareBySteps_X8_shareBySteps_n rfl rfl rfl (by decide +kernel) ⟨(Nat.le_of_ble_eq_true rfl), (Nat.le_of_ble_eq_true rfl)⟩) hK hW hXB hA rfl (ze_at0 0 rfl) rfl hl.1 rfl (lv_room (Nat.le_of_ble_eq_true rfl)) dL_shareBySteps_7 ⟨(Nat.le_of_ble_eq_true rfl), (Nat.le_of_ble_eq_true rfl)⟩ [] ⟨0, 12, 15, 19⟩ [⟨0, 12, 19, 21⟩, ⟨0, 12, 23, 38⟩] htab (by intro z hz; cases hz) (by decide) (by decide) w0 (va_Nw.use rfl (hXB.2.2.2 _ (List.mem_of_getElem? (i := 7) rfl))) (fun q9 H locs hW => ?_)
  refine lv_astore (lv' := [(5, .ref q9), (0, .ref (a 0)), (1, .int (nI j)), (2, .int y), (3, .int z), (4, .ref o)]) hX_ hB_ dL_shareBySteps_15 hl (by decide) rfl (fun ls hl => ?_)
  refine lv_iconst (v := 1) hX_ hB_ dL_shareBySteps_17 (by decide) ?_
  exact ze_iret S hr hlocks hF hK hW rfl dL_shareBySteps_18 (Nat.le_of_ble_eq_true rfl) (Nat.le_of_ble_eq_true rfl) rfl rfl
set_option maxHeartbeats 4000000 in
set_option maxRecDepth 100000 in
theorem zl_shareBySteps_t2_n (l : Launch) (D : va_G) (hst : l.stackTraces = false) (c : Nat → ClassId) (a n : Nat → Nat) (A : Nat → Nat → Int32) (B : Nat → Int64) (E : Nat → Nat → Int32) (o : Nat) (f : Nat → Int64)  (j : Nat) (hN : zf_N n) (hj : j < n 0) (y : Int32) (k : Nat) (hk : k < n 2) (hy : ¬ zf_isIn y 0 1200) : ze_Q l yL_shareBySteps wsL_shareBySteps_n 9 150 1 6 D c ((ze_wC c a n A B E) ++ [(o, .inl (c 6, 1, .inr (.inl f)))]) [.ref (a 0), .int (nI j), .int y, .int (nI k), .ref o] 2 ((ze_wC c a n A B E) ++ [(o, .inl (c 6, 1, .inr (.inl f)))]) := by
  intro sz
  refine zq_start (cc := cL_shareBySteps) (maxL := 6) (ret := (some .int)) (own := RL) (by decide) rfl rfl (Nat.le_of_ble_eq_true rfl) ?_
  obtain ⟨hn0, hn1, hn2, hn3, hn4⟩ := id hN
  intro p e s m_ below meth cd F ls hF hsz E0 hXB hNc htab
  obtain ⟨S, hr, hlocks, hK, hW, hA, hl⟩ := E0
  have hX_ := S.1
  have hB_ := S.2.1
  have hts := S.2.2.2.2
  have hl : lv_has ls 6 [(0, .ref (a 0)), (1, .int (nI j)), (2, .int y), (3, .int (nI k)), (4, .ref o)] := hl
  have w0 := hts (.classLink RL 19 "java/lang/IndexOutOfBoundsException") (List.mem_cons_of_mem _ (List.mem_append_left _ (List.mem_append_left _ (List.mem_append_left _ (List.mem_append_left _ (List.mem_append_left _ (List.mem_append_left _ (List.mem_append_left _ (List.mem_append_left _ (List.mem_of_getElem? (i := 0) rfl))))))))))
  have w1 := hts (.classLink RL 21 "java/lang/IllegalArgumentException") (List.mem_cons_of_mem _ (List.mem_append_left _ (List.mem_append_left _ (List.mem_append_left _ (List.mem_append_left _ (List.mem_append_left _ (List.mem_append_left _ (List.mem_append_left _ (List.mem_append_left _ (List.mem_of_getElem? (i := 1) rfl))))))))))
  refine lv_aload hX_ hB_ dL_shareBySteps_0 (lv_at hl 4 rfl) ?_
  refine lv_iconst (v := 0) hX_ hB_ dL_shareBySteps_2 (by decide) ?_
  refine lv_aload_n hX_ hB_ dL_shareBySteps_3 rfl (lv_at hl 0 rfl) ?_
  refine lv_iload_n hX_ hB_ dL_shareBySteps_4 rfl (lv_at hl 1 rfl) ?_
  refine lv_iload_n hX_ hB_ dL_shareBySteps_5 rfl (lv_at hl 2 rfl) ?_
  refine lv_iload_n hX_ hB_ dL_shareBySteps_6 rfl (lv_at hl 3 rfl) ?_
  refine zx_FVc (As := [.int (nI j), .int y, .int (nI k)]) (rest := [.int 0, .ref o]) (ci := 8) (q0 := 0) (k := (RX8, TX8, 8)) S (zt_shareBySteps_t2_n l D hst c a n A B E j hN hj y k hk hy) (cwV 3 hts gL_shareBySteps_X8_shareBySteps_n rfl rfl rfl (by decide +kernel) ⟨(Nat.le_of_ble_eq_true rfl), (Nat.le_of_ble_eq_true rfl)⟩) hK hW hXB hA rfl (ze_at0 0 rfl) rfl hl.1 rfl (lv_room (Nat.le_of_ble_eq_true rfl)) dL_shareBySteps_7 ⟨(Nat.le_of_ble_eq_true rfl), (Nat.le_of_ble_eq_true rfl)⟩ [⟨0, 12, 15, 19⟩] ⟨0, 12, 19, 21⟩ [⟨0, 12, 23, 38⟩] htab (by
      intro z hz
      simp only [List.mem_cons, List.not_mem_nil, or_false] at hz
      rcases hz with rfl
      exact Or.inr ⟨by decide, "java/lang/IndexOutOfBoundsException", w0, hNc ("java/lang/IllegalArgumentException", "java/lang/IndexOutOfBoundsException") (by decide +kernel)⟩) (by decide) (by decide) w1 (va_Nw.use rfl (hXB.2.2.2 _ (List.mem_of_getElem? (i := 4) rfl))) (fun q9 H locs hW => ?_)
  refine lv_astore (lv' := [(5, .ref q9), (0, .ref (a 0)), (1, .int (nI j)), (2, .int y), (3, .int (nI k)), (4, .ref o)]) hX_ hB_ dL_shareBySteps_19 hl (by decide) rfl (fun ls hl => ?_)
  refine lv_iconst (v := 2) hX_ hB_ dL_shareBySteps_21 (by decide) ?_
  exact ze_iret S hr hlocks hF hK hW rfl dL_shareBySteps_22 (Nat.le_of_ble_eq_true rfl) (Nat.le_of_ble_eq_true rfl) rfl rfl
set_option maxHeartbeats 4000000 in
set_option maxRecDepth 100000 in
theorem zl_shareBySteps_t3_n (l : Launch) (D : va_G) (hst : l.stackTraces = false) (c : Nat → ClassId) (a n : Nat → Nat) (A : Nat → Nat → Int32) (B : Nat → Int64) (E : Nat → Nat → Int32) (o : Nat) (f : Nat → Int64)  (j : Nat) (hN : zf_N n) (hj : j < n 0) (y : Int32) (k : Nat) (hk : k < n 2) (hS : zf_S n A) (hy : zf_isIn y 0 1200) (hrn : ¬ zf_runs A (E 0) k (E 0 j)) : ze_Q l yL_shareBySteps wsL_shareBySteps_n 8 128 1 6 D c ((ze_wC c a n A B E) ++ [(o, .inl (c 6, 1, .inr (.inl f)))]) [.ref (a 0), .int (nI j), .int y, .int (nI k), .ref o] 3 ((ze_wC c a n A B E) ++ [(o, .inl (c 6, 1, .inr (.inl f)))]) := by
  intro sz
  refine zq_start (cc := cL_shareBySteps) (maxL := 6) (ret := (some .int)) (own := RL) (by decide) rfl rfl (Nat.le_of_ble_eq_true rfl) ?_
  obtain ⟨hn0, hn1, hn2, hn3, hn4⟩ := id hN
  intro p e s m_ below meth cd F ls hF hsz E0 hXB hNc htab
  obtain ⟨S, hr, hlocks, hK, hW, hA, hl⟩ := E0
  have hX_ := S.1
  have hB_ := S.2.1
  have hts := S.2.2.2.2
  have hl : lv_has ls 6 [(0, .ref (a 0)), (1, .int (nI j)), (2, .int y), (3, .int (nI k)), (4, .ref o)] := hl
  have w0 := hts (.classLink RL 19 "java/lang/IndexOutOfBoundsException") (List.mem_cons_of_mem _ (List.mem_append_left _ (List.mem_append_left _ (List.mem_append_left _ (List.mem_append_left _ (List.mem_append_left _ (List.mem_append_left _ (List.mem_append_left _ (List.mem_append_left _ (List.mem_of_getElem? (i := 0) rfl))))))))))
  have w1 := hts (.classLink RL 21 "java/lang/IllegalArgumentException") (List.mem_cons_of_mem _ (List.mem_append_left _ (List.mem_append_left _ (List.mem_append_left _ (List.mem_append_left _ (List.mem_append_left _ (List.mem_append_left _ (List.mem_append_left _ (List.mem_append_left _ (List.mem_of_getElem? (i := 1) rfl))))))))))
  have w2 := hts (.classLink RL 38 "java/util/NoSuchElementException") (List.mem_cons_of_mem _ (List.mem_append_left _ (List.mem_append_left _ (List.mem_append_left _ (List.mem_append_left _ (List.mem_append_left _ (List.mem_append_left _ (List.mem_append_left _ (List.mem_append_left _ (List.mem_of_getElem? (i := 2) rfl))))))))))
  refine lv_aload hX_ hB_ dL_shareBySteps_0 (lv_at hl 4 rfl) ?_
  refine lv_iconst (v := 0) hX_ hB_ dL_shareBySteps_2 (by decide) ?_
  refine lv_aload_n hX_ hB_ dL_shareBySteps_3 rfl (lv_at hl 0 rfl) ?_
  refine lv_iload_n hX_ hB_ dL_shareBySteps_4 rfl (lv_at hl 1 rfl) ?_
  refine lv_iload_n hX_ hB_ dL_shareBySteps_5 rfl (lv_at hl 2 rfl) ?_
  refine lv_iload_n hX_ hB_ dL_shareBySteps_6 rfl (lv_at hl 3 rfl) ?_
  refine zx_FVc (As := [.int (nI j), .int y, .int (nI k)]) (rest := [.int 0, .ref o]) (ci := 8) (q0 := 0) (k := (RX8, TX8, 8)) S (zt_shareBySteps_t3_n l D hst c a n A B E j hN hj y k hk hS hy hrn) (cwV 3 hts gL_shareBySteps_X8_shareBySteps_n rfl rfl rfl (by decide +kernel) ⟨(Nat.le_of_ble_eq_true rfl), (Nat.le_of_ble_eq_true rfl)⟩) hK hW hXB hA rfl (ze_at0 0 rfl) rfl hl.1 rfl (lv_room (Nat.le_of_ble_eq_true rfl)) dL_shareBySteps_7 ⟨(Nat.le_of_ble_eq_true rfl), (Nat.le_of_ble_eq_true rfl)⟩ [⟨0, 12, 15, 19⟩, ⟨0, 12, 19, 21⟩] ⟨0, 12, 23, 38⟩ [] htab (by
      intro z hz
      simp only [List.mem_cons, List.not_mem_nil, or_false] at hz
      rcases hz with rfl | rfl
      · exact Or.inr ⟨by decide, "java/lang/IndexOutOfBoundsException", w0, hNc ("java/util/NoSuchElementException", "java/lang/IndexOutOfBoundsException") (by decide +kernel)⟩
      · exact Or.inr ⟨by decide, "java/lang/IllegalArgumentException", w1, hNc ("java/util/NoSuchElementException", "java/lang/IllegalArgumentException") (by decide +kernel)⟩) (by decide) (by decide) w2 (va_Nw.use rfl (hXB.2.2.2 _ (List.mem_of_getElem? (i := 6) rfl))) (fun q9 H locs hW => ?_)
  refine lv_astore (lv' := [(5, .ref q9), (0, .ref (a 0)), (1, .int (nI j)), (2, .int y), (3, .int (nI k)), (4, .ref o)]) hX_ hB_ dL_shareBySteps_23 hl (by decide) rfl (fun ls hl => ?_)
  refine lv_iconst (v := 3) hX_ hB_ dL_shareBySteps_25 (by decide) ?_
  exact ze_iret S hr hlocks hF hK hW rfl dL_shareBySteps_26 (Nat.le_of_ble_eq_true rfl) (Nat.le_of_ble_eq_true rfl) rfl rfl
set_option maxHeartbeats 4000000 in
set_option maxRecDepth 100000 in
theorem zl_start_f_n (l : Launch) (D : va_G) (c : Nat → ClassId) (a n : Nat → Nat) (A : Nat → Nat → Int32) (B : Nat → Int64) (E : Nat → Nat → Int32) (o : Nat) (f : Nat → Int64)  (j : Nat) (hN : zf_N n) (hj : j < n 2) (h : A 13 j = 111) (h2 : ¬ zf_short A j) : ze_Q l yL_start wsL_start_n 3 64 0 0 D c ((ze_wC c a n A B E) ++ [(o, .inl (c 6, 1, .inr (.inl f)))]) [.ref (a 0), .int (nI j), .ref o] 0 ((ze_wC c a n (zf_start A j) B E) ++ [(o, .inl (c 6, 1, .inr (.inl (vp_updL f 0 ((zf_start A j 11 j).toInt64)))))]) := by
  intro sz
  refine zq_start (cc := cL_start) (maxL := 4) (ret := (some .int)) (own := RL) (by decide) rfl rfl (Nat.le_of_ble_eq_true rfl) ?_
  obtain ⟨hn0, hn1, hn2, hn3, hn4⟩ := id hN
  intro p e s m_ below meth cd F ls hF hsz E0 hXB hNc htab
  obtain ⟨S, hr, hlocks, hK, hW, hA, hl⟩ := E0
  have hX_ := S.1
  have hB_ := S.2.1
  have hts := S.2.2.2.2
  have hl : lv_has ls 4 [(0, .ref (a 0)), (1, .int (nI j)), (2, .ref o)] := hl
  refine lv_aload_n hX_ hB_ dL_start_0 rfl (lv_at hl 2 rfl) ?_
  refine lv_iconst (v := 0) hX_ hB_ dL_start_1 (by decide) ?_
  refine lv_aload_n hX_ hB_ dL_start_2 rfl (lv_at hl 0 rfl) ?_
  refine lv_iload_n hX_ hB_ dL_start_3 rfl (lv_at hl 1 rfl) ?_
  refine ze_FVi (As := [.int (nI j)]) (rest := [.int 0, .ref o]) (ci := 8) (q0 := 0) (k := (RX8, TX8, 8)) S (zp_start_f_n l D c a n A B E j hN hj h h2) (cwV 1 hts gL_start_X8_start_n rfl rfl rfl (by decide +kernel) ⟨Nat.le_of_ble_eq_true rfl, Nat.le_of_ble_eq_true rfl⟩) hK hW hA rfl (ze_at0 0 rfl) rfl hl.1 rfl (lv_room (Nat.le_of_ble_eq_true rfl)) dL_start_4 ⟨Nat.le_of_ble_eq_true rfl, Nat.le_of_ble_eq_true rfl⟩ (fun H locs hW => ?_)
  have hW : ze_W D ((ze_wC c a n (zf_start A j) B E) ++ [(o, .inl (c 6, 1, .inr (.inl f)))]) F s.heap _ _ := hW
  refine lv_i2l (v := (zf_start A j 11 j).toInt64) hX_ hB_ dL_start_7 rfl ?_
  refine ze_last hX_ hB_ hK hW ((ze_wC c a n (zf_start A j) B E).length + 0) (i := 0) (ze_appL (k := 0) rfl) (by decide) (by decide) dL_start_8 (ze_appset rfl) (fun H locs hW => ?_)
  have hW : ze_W D ((ze_wC c a n (zf_start A j) B E) ++ [(o, .inl (c 6, 1, .inr (.inl (vp_updL f 0 ((zf_start A j 11 j).toInt64)))))]) F s.heap _ _ := hW
  refine lv_goto (tgt := 21) hX_ hB_ dL_start_9 (by decide) ?_
  refine lv_iconst (v := 0) hX_ hB_ dL_start_21 (by decide) ?_
  exact ze_iret S hr hlocks hF hK hW rfl dL_start_22 (Nat.le_of_ble_eq_true rfl) (Nat.le_of_ble_eq_true rfl) rfl rfl
set_option maxHeartbeats 4000000 in
set_option maxRecDepth 100000 in
theorem zl_start_t1_n (l : Launch) (D : va_G) (hst : l.stackTraces = false) (c : Nat → ClassId) (a n : Nat → Nat) (A : Nat → Nat → Int32) (B : Nat → Int64) (E : Nat → Nat → Int32) (o : Nat) (f : Nat → Int64)  (x : Int32) (hN : zf_N n) (hx : ¬ zf_isIn x 0 (nI (n 2) - 1)) : ze_Q l yL_start wsL_start_n 9 146 1 6 D c ((ze_wC c a n A B E) ++ [(o, .inl (c 6, 1, .inr (.inl f)))]) [.ref (a 0), .int x, .ref o] 1 ((ze_wC c a n A B E) ++ [(o, .inl (c 6, 1, .inr (.inl f)))]) := by
  intro sz
  refine zq_start (cc := cL_start) (maxL := 4) (ret := (some .int)) (own := RL) (by decide) rfl rfl (Nat.le_of_ble_eq_true rfl) ?_
  obtain ⟨hn0, hn1, hn2, hn3, hn4⟩ := id hN
  intro p e s m_ below meth cd F ls hF hsz E0 hXB hNc htab
  obtain ⟨S, hr, hlocks, hK, hW, hA, hl⟩ := E0
  have hX_ := S.1
  have hB_ := S.2.1
  have hts := S.2.2.2.2
  have hl : lv_has ls 4 [(0, .ref (a 0)), (1, .int x), (2, .ref o)] := hl
  have w0 := hts (.classLink RL 19 "java/lang/IndexOutOfBoundsException") (List.mem_cons_of_mem _ (List.mem_append_left _ (List.mem_append_left _ (List.mem_append_left _ (List.mem_append_left _ (List.mem_append_left _ (List.mem_append_left _ (List.mem_append_left _ (List.mem_of_getElem? (i := 0) rfl)))))))))
  refine lv_aload_n hX_ hB_ dL_start_0 rfl (lv_at hl 2 rfl) ?_
  refine lv_iconst (v := 0) hX_ hB_ dL_start_1 (by decide) ?_
  refine lv_aload_n hX_ hB_ dL_start_2 rfl (lv_at hl 0 rfl) ?_
  refine lv_iload_n hX_ hB_ dL_start_3 rfl (lv_at hl 1 rfl) ?_
  refine zx_FVc (As := [.int x]) (rest := [.int 0, .ref o]) (ci := 8) (q0 := 0) (k := (RX8, TX8, 8)) S (zt_start_t1_n l D hst c a n A B E x hN hx) (cwV 1 hts gL_start_X8_start_n rfl rfl rfl (by decide +kernel) ⟨(Nat.le_of_ble_eq_true rfl), (Nat.le_of_ble_eq_true rfl)⟩) hK hW hXB hA rfl (ze_at0 0 rfl) rfl hl.1 rfl (lv_room (Nat.le_of_ble_eq_true rfl)) dL_start_4 ⟨(Nat.le_of_ble_eq_true rfl), (Nat.le_of_ble_eq_true rfl)⟩ [] ⟨0, 9, 12, 19⟩ [⟨0, 9, 15, 13⟩, ⟨0, 9, 18, 38⟩] htab (by intro z hz; cases hz) (by decide) (by decide) w0 (va_Nw.use rfl (hXB.2.2.2 _ (List.mem_of_getElem? (i := 7) rfl))) (fun q9 H locs hW => ?_)
  refine lv_astore_n (lv' := [(3, .ref q9), (0, .ref (a 0)), (1, .int x), (2, .ref o)]) hX_ hB_ dL_start_12 rfl hl (by decide) rfl (fun ls hl => ?_)
  refine lv_iconst (v := 1) hX_ hB_ dL_start_13 (by decide) ?_
  exact ze_iret S hr hlocks hF hK hW rfl dL_start_14 (Nat.le_of_ble_eq_true rfl) (Nat.le_of_ble_eq_true rfl) rfl rfl
set_option maxHeartbeats 4000000 in
set_option maxRecDepth 100000 in
theorem zl_start_t2_n (l : Launch) (D : va_G) (hst : l.stackTraces = false) (c : Nat → ClassId) (a n : Nat → Nat) (A : Nat → Nat → Int32) (B : Nat → Int64) (E : Nat → Nat → Int32) (o : Nat) (f : Nat → Int64)  (j : Nat) (hN : zf_N n) (hj : j < n 2) (h : ¬ A 13 j = 111) : ze_Q l yL_start wsL_start_n 7 104 1 6 D c ((ze_wC c a n A B E) ++ [(o, .inl (c 6, 1, .inr (.inl f)))]) [.ref (a 0), .int (nI j), .ref o] 2 ((ze_wC c a n A B E) ++ [(o, .inl (c 6, 1, .inr (.inl f)))]) := by
  intro sz
  refine zq_start (cc := cL_start) (maxL := 4) (ret := (some .int)) (own := RL) (by decide) rfl rfl (Nat.le_of_ble_eq_true rfl) ?_
  obtain ⟨hn0, hn1, hn2, hn3, hn4⟩ := id hN
  intro p e s m_ below meth cd F ls hF hsz E0 hXB hNc htab
  obtain ⟨S, hr, hlocks, hK, hW, hA, hl⟩ := E0
  have hX_ := S.1
  have hB_ := S.2.1
  have hts := S.2.2.2.2
  have hl : lv_has ls 4 [(0, .ref (a 0)), (1, .int (nI j)), (2, .ref o)] := hl
  have w0 := hts (.classLink RL 19 "java/lang/IndexOutOfBoundsException") (List.mem_cons_of_mem _ (List.mem_append_left _ (List.mem_append_left _ (List.mem_append_left _ (List.mem_append_left _ (List.mem_append_left _ (List.mem_append_left _ (List.mem_append_left _ (List.mem_of_getElem? (i := 0) rfl)))))))))
  have w1 := hts (.classLink RL 13 "java/lang/IllegalStateException") (List.mem_cons_of_mem _ (List.mem_append_left _ (List.mem_append_left _ (List.mem_append_left _ (List.mem_append_left _ (List.mem_append_left _ (List.mem_append_left _ (List.mem_append_left _ (List.mem_of_getElem? (i := 1) rfl)))))))))
  refine lv_aload_n hX_ hB_ dL_start_0 rfl (lv_at hl 2 rfl) ?_
  refine lv_iconst (v := 0) hX_ hB_ dL_start_1 (by decide) ?_
  refine lv_aload_n hX_ hB_ dL_start_2 rfl (lv_at hl 0 rfl) ?_
  refine lv_iload_n hX_ hB_ dL_start_3 rfl (lv_at hl 1 rfl) ?_
  refine zx_FVc (As := [.int (nI j)]) (rest := [.int 0, .ref o]) (ci := 8) (q0 := 0) (k := (RX8, TX8, 8)) S (zt_start_t2_n l D hst c a n A B E j hN hj h) (cwV 1 hts gL_start_X8_start_n rfl rfl rfl (by decide +kernel) ⟨(Nat.le_of_ble_eq_true rfl), (Nat.le_of_ble_eq_true rfl)⟩) hK hW hXB hA rfl (ze_at0 0 rfl) rfl hl.1 rfl (lv_room (Nat.le_of_ble_eq_true rfl)) dL_start_4 ⟨(Nat.le_of_ble_eq_true rfl), (Nat.le_of_ble_eq_true rfl)⟩ [⟨0, 9, 12, 19⟩] ⟨0, 9, 15, 13⟩ [⟨0, 9, 18, 38⟩] htab (by
      intro z hz
      simp only [List.mem_cons, List.not_mem_nil, or_false] at hz
      rcases hz with rfl
      exact Or.inr ⟨by decide, "java/lang/IndexOutOfBoundsException", w0, hNc ("java/lang/IllegalStateException", "java/lang/IndexOutOfBoundsException") (by decide +kernel)⟩) (by decide) (by decide) w1 (va_Nw.use rfl (hXB.2.2.2 _ (List.mem_of_getElem? (i := 3) rfl))) (fun q9 H locs hW => ?_)
  refine lv_astore_n (lv' := [(3, .ref q9), (0, .ref (a 0)), (1, .int (nI j)), (2, .ref o)]) hX_ hB_ dL_start_15 rfl hl (by decide) rfl (fun ls hl => ?_)
  refine lv_iconst (v := 2) hX_ hB_ dL_start_16 (by decide) ?_
  exact ze_iret S hr hlocks hF hK hW rfl dL_start_17 (Nat.le_of_ble_eq_true rfl) (Nat.le_of_ble_eq_true rfl) rfl rfl
set_option maxHeartbeats 4000000 in
set_option maxRecDepth 100000 in
theorem zl_start_t3_n (l : Launch) (D : va_G) (hst : l.stackTraces = false) (c : Nat → ClassId) (a n : Nat → Nat) (A : Nat → Nat → Int32) (B : Nat → Int64) (E : Nat → Nat → Int32) (o : Nat) (f : Nat → Int64)  (j : Nat) (hN : zf_N n) (hj : j < n 2) (h : A 13 j = 111) (h2 : zf_short A j) : ze_Q l yL_start wsL_start_n 7 104 1 6 D c ((ze_wC c a n A B E) ++ [(o, .inl (c 6, 1, .inr (.inl f)))]) [.ref (a 0), .int (nI j), .ref o] 3 ((ze_wC c a n A B E) ++ [(o, .inl (c 6, 1, .inr (.inl f)))]) := by
  intro sz
  refine zq_start (cc := cL_start) (maxL := 4) (ret := (some .int)) (own := RL) (by decide) rfl rfl (Nat.le_of_ble_eq_true rfl) ?_
  obtain ⟨hn0, hn1, hn2, hn3, hn4⟩ := id hN
  intro p e s m_ below meth cd F ls hF hsz E0 hXB hNc htab
  obtain ⟨S, hr, hlocks, hK, hW, hA, hl⟩ := E0
  have hX_ := S.1
  have hB_ := S.2.1
  have hts := S.2.2.2.2
  have hl : lv_has ls 4 [(0, .ref (a 0)), (1, .int (nI j)), (2, .ref o)] := hl
  have w0 := hts (.classLink RL 19 "java/lang/IndexOutOfBoundsException") (List.mem_cons_of_mem _ (List.mem_append_left _ (List.mem_append_left _ (List.mem_append_left _ (List.mem_append_left _ (List.mem_append_left _ (List.mem_append_left _ (List.mem_append_left _ (List.mem_of_getElem? (i := 0) rfl)))))))))
  have w1 := hts (.classLink RL 13 "java/lang/IllegalStateException") (List.mem_cons_of_mem _ (List.mem_append_left _ (List.mem_append_left _ (List.mem_append_left _ (List.mem_append_left _ (List.mem_append_left _ (List.mem_append_left _ (List.mem_append_left _ (List.mem_of_getElem? (i := 1) rfl)))))))))
  have w2 := hts (.classLink RL 38 "java/util/NoSuchElementException") (List.mem_cons_of_mem _ (List.mem_append_left _ (List.mem_append_left _ (List.mem_append_left _ (List.mem_append_left _ (List.mem_append_left _ (List.mem_append_left _ (List.mem_append_left _ (List.mem_of_getElem? (i := 2) rfl)))))))))
  refine lv_aload_n hX_ hB_ dL_start_0 rfl (lv_at hl 2 rfl) ?_
  refine lv_iconst (v := 0) hX_ hB_ dL_start_1 (by decide) ?_
  refine lv_aload_n hX_ hB_ dL_start_2 rfl (lv_at hl 0 rfl) ?_
  refine lv_iload_n hX_ hB_ dL_start_3 rfl (lv_at hl 1 rfl) ?_
  refine zx_FVc (As := [.int (nI j)]) (rest := [.int 0, .ref o]) (ci := 8) (q0 := 0) (k := (RX8, TX8, 8)) S (zt_start_t3_n l D hst c a n A B E j hN hj h h2) (cwV 1 hts gL_start_X8_start_n rfl rfl rfl (by decide +kernel) ⟨(Nat.le_of_ble_eq_true rfl), (Nat.le_of_ble_eq_true rfl)⟩) hK hW hXB hA rfl (ze_at0 0 rfl) rfl hl.1 rfl (lv_room (Nat.le_of_ble_eq_true rfl)) dL_start_4 ⟨(Nat.le_of_ble_eq_true rfl), (Nat.le_of_ble_eq_true rfl)⟩ [⟨0, 9, 12, 19⟩, ⟨0, 9, 15, 13⟩] ⟨0, 9, 18, 38⟩ [] htab (by
      intro z hz
      simp only [List.mem_cons, List.not_mem_nil, or_false] at hz
      rcases hz with rfl | rfl
      · exact Or.inr ⟨by decide, "java/lang/IndexOutOfBoundsException", w0, hNc ("java/util/NoSuchElementException", "java/lang/IndexOutOfBoundsException") (by decide +kernel)⟩
      · exact Or.inr ⟨by decide, "java/lang/IllegalStateException", w1, hNc ("java/util/NoSuchElementException", "java/lang/IllegalStateException") (by decide +kernel)⟩) (by decide) (by decide) w2 (va_Nw.use rfl (hXB.2.2.2 _ (List.mem_of_getElem? (i := 6) rfl))) (fun q9 H locs hW => ?_)
  refine lv_astore_n (lv' := [(3, .ref q9), (0, .ref (a 0)), (1, .int (nI j)), (2, .ref o)]) hX_ hB_ dL_start_18 rfl hl (by decide) rfl (fun ls hl => ?_)
  refine lv_iconst (v := 3) hX_ hB_ dL_start_19 (by decide) ?_
  exact ze_iret S hr hlocks hF hK hW rfl dL_start_20 (Nat.le_of_ble_eq_true rfl) (Nat.le_of_ble_eq_true rfl) rfl rfl
set_option maxHeartbeats 4000000 in
set_option maxRecDepth 100000 in
theorem zl_startNext_f_n (l : Launch) (D : va_G) (c : Nat → ClassId) (a n : Nat → Nat) (A : Nat → Nat → Int32) (B : Nat → Int64) (E : Nat → Nat → Int32) (o : Nat) (f : Nat → Int64)  (j : Nat) (hN : zf_N n) (hj : j < n 0) (hS : zf_S n A) (v : Nat) (hpick : zf_nx A (E 0) (E 0 j) (n 2) = some v) : ze_Q l yL_startNext wsL_startNext_n 3 68 0 0 D c ((ze_wC c a n A B E) ++ [(o, .inl (c 6, 1, .inr (.inl f)))]) [.ref (a 0), .int (nI j), .ref o] 0 ((ze_wC c a n (zf_start A v) B E) ++ [(o, .inl (c 6, 1, .inr (.inl (vp_updL f 0 ((nI v).toInt64)))))]) := by
  intro sz
  refine zq_start (cc := cL_startNext) (maxL := 4) (ret := (some .int)) (own := RL) (by decide) rfl rfl (Nat.le_of_ble_eq_true rfl) ?_
  obtain ⟨hn0, hn1, hn2, hn3, hn4⟩ := id hN
  intro p e s m_ below meth cd F ls hF hsz E0 hXB hNc htab
  obtain ⟨S, hr, hlocks, hK, hW, hA, hl⟩ := E0
  have hX_ := S.1
  have hB_ := S.2.1
  have hts := S.2.2.2.2
  have hl : lv_has ls 4 [(0, .ref (a 0)), (1, .int (nI j)), (2, .ref o)] := hl
  refine lv_aload_n hX_ hB_ dL_startNext_0 rfl (lv_at hl 2 rfl) ?_
  refine lv_iconst (v := 0) hX_ hB_ dL_startNext_1 (by decide) ?_
  refine lv_aload_n hX_ hB_ dL_startNext_2 rfl (lv_at hl 0 rfl) ?_
  refine lv_iload_n hX_ hB_ dL_startNext_3 rfl (lv_at hl 1 rfl) ?_
  refine ze_FVi (As := [.int (nI j)]) (rest := [.int 0, .ref o]) (ci := 8) (q0 := 0) (k := (RX8, TX8, 8)) S (zp_startNext_f_n l D c a n A B E j hN hj hS v hpick) (cwV 1 hts gL_startNext_X8_startNext_n rfl rfl rfl (by decide +kernel) ⟨Nat.le_of_ble_eq_true rfl, Nat.le_of_ble_eq_true rfl⟩) hK hW hA rfl (ze_at0 0 rfl) rfl hl.1 rfl (lv_room (Nat.le_of_ble_eq_true rfl)) dL_startNext_4 ⟨Nat.le_of_ble_eq_true rfl, Nat.le_of_ble_eq_true rfl⟩ (fun H locs hW => ?_)
  have hW : ze_W D ((ze_wC c a n (zf_start A v) B E) ++ [(o, .inl (c 6, 1, .inr (.inl f)))]) F s.heap _ _ := hW
  refine lv_i2l (v := (nI v).toInt64) hX_ hB_ dL_startNext_7 rfl ?_
  refine ze_last hX_ hB_ hK hW ((ze_wC c a n (zf_start A v) B E).length + 0) (i := 0) (ze_appL (k := 0) rfl) (by decide) (by decide) dL_startNext_8 (ze_appset rfl) (fun H locs hW => ?_)
  have hW : ze_W D ((ze_wC c a n (zf_start A v) B E) ++ [(o, .inl (c 6, 1, .inr (.inl (vp_updL f 0 ((nI v).toInt64)))))]) F s.heap _ _ := hW
  refine lv_goto (tgt := 18) hX_ hB_ dL_startNext_9 (by decide) ?_
  refine lv_iconst (v := 0) hX_ hB_ dL_startNext_18 (by decide) ?_
  exact ze_iret S hr hlocks hF hK hW rfl dL_startNext_19 (Nat.le_of_ble_eq_true rfl) (Nat.le_of_ble_eq_true rfl) rfl rfl
set_option maxHeartbeats 4000000 in
set_option maxRecDepth 100000 in
theorem zl_startNext_t1_n (l : Launch) (D : va_G) (hst : l.stackTraces = false) (c : Nat → ClassId) (a n : Nat → Nat) (A : Nat → Nat → Int32) (B : Nat → Int64) (E : Nat → Nat → Int32) (o : Nat) (f : Nat → Int64)  (x : Int32) (hN : zf_N n) (hx : ¬ zf_isIn x 0 (nI (n 0) - 1)) : ze_Q l yL_startNext wsL_startNext_n 9 146 1 6 D c ((ze_wC c a n A B E) ++ [(o, .inl (c 6, 1, .inr (.inl f)))]) [.ref (a 0), .int x, .ref o] 1 ((ze_wC c a n A B E) ++ [(o, .inl (c 6, 1, .inr (.inl f)))]) := by
  intro sz
  refine zq_start (cc := cL_startNext) (maxL := 4) (ret := (some .int)) (own := RL) (by decide) rfl rfl (Nat.le_of_ble_eq_true rfl) ?_
  obtain ⟨hn0, hn1, hn2, hn3, hn4⟩ := id hN
  intro p e s m_ below meth cd F ls hF hsz E0 hXB hNc htab
  obtain ⟨S, hr, hlocks, hK, hW, hA, hl⟩ := E0
  have hX_ := S.1
  have hB_ := S.2.1
  have hts := S.2.2.2.2
  have hl : lv_has ls 4 [(0, .ref (a 0)), (1, .int x), (2, .ref o)] := hl
  have w0 := hts (.classLink RL 19 "java/lang/IndexOutOfBoundsException") (List.mem_cons_of_mem _ (List.mem_append_left _ (List.mem_append_left _ (List.mem_append_left _ (List.mem_append_left _ (List.mem_append_left _ (List.mem_append_left _ (List.mem_append_left _ (List.mem_of_getElem? (i := 0) rfl)))))))))
  refine lv_aload_n hX_ hB_ dL_startNext_0 rfl (lv_at hl 2 rfl) ?_
  refine lv_iconst (v := 0) hX_ hB_ dL_startNext_1 (by decide) ?_
  refine lv_aload_n hX_ hB_ dL_startNext_2 rfl (lv_at hl 0 rfl) ?_
  refine lv_iload_n hX_ hB_ dL_startNext_3 rfl (lv_at hl 1 rfl) ?_
  refine zx_FVc (As := [.int x]) (rest := [.int 0, .ref o]) (ci := 8) (q0 := 0) (k := (RX8, TX8, 8)) S (zt_startNext_t1_n l D hst c a n A B E x hN hx) (cwV 1 hts gL_startNext_X8_startNext_n rfl rfl rfl (by decide +kernel) ⟨(Nat.le_of_ble_eq_true rfl), (Nat.le_of_ble_eq_true rfl)⟩) hK hW hXB hA rfl (ze_at0 0 rfl) rfl hl.1 rfl (lv_room (Nat.le_of_ble_eq_true rfl)) dL_startNext_4 ⟨(Nat.le_of_ble_eq_true rfl), (Nat.le_of_ble_eq_true rfl)⟩ [] ⟨0, 9, 12, 19⟩ [⟨0, 9, 15, 38⟩] htab (by intro z hz; cases hz) (by decide) (by decide) w0 (va_Nw.use rfl (hXB.2.2.2 _ (List.mem_of_getElem? (i := 7) rfl))) (fun q9 H locs hW => ?_)
  refine lv_astore_n (lv' := [(3, .ref q9), (0, .ref (a 0)), (1, .int x), (2, .ref o)]) hX_ hB_ dL_startNext_12 rfl hl (by decide) rfl (fun ls hl => ?_)
  refine lv_iconst (v := 1) hX_ hB_ dL_startNext_13 (by decide) ?_
  exact ze_iret S hr hlocks hF hK hW rfl dL_startNext_14 (Nat.le_of_ble_eq_true rfl) (Nat.le_of_ble_eq_true rfl) rfl rfl
set_option maxHeartbeats 4000000 in
set_option maxRecDepth 100000 in
theorem zl_startNext_t2_n (l : Launch) (D : va_G) (hst : l.stackTraces = false) (c : Nat → ClassId) (a n : Nat → Nat) (A : Nat → Nat → Int32) (B : Nat → Int64) (E : Nat → Nat → Int32) (o : Nat) (f : Nat → Int64)  (j : Nat) (hN : zf_N n) (hj : j < n 0) (hS : zf_S n A) (hpick : zf_nx A (E 0) (E 0 j) (n 2) = none) : ze_Q l yL_startNext wsL_startNext_n 7 104 1 6 D c ((ze_wC c a n A B E) ++ [(o, .inl (c 6, 1, .inr (.inl f)))]) [.ref (a 0), .int (nI j), .ref o] 2 ((ze_wC c a n A B E) ++ [(o, .inl (c 6, 1, .inr (.inl f)))]) := by
  intro sz
  refine zq_start (cc := cL_startNext) (maxL := 4) (ret := (some .int)) (own := RL) (by decide) rfl rfl (Nat.le_of_ble_eq_true rfl) ?_
  obtain ⟨hn0, hn1, hn2, hn3, hn4⟩ := id hN
  intro p e s m_ below meth cd F ls hF hsz E0 hXB hNc htab
  obtain ⟨S, hr, hlocks, hK, hW, hA, hl⟩ := E0
  have hX_ := S.1
  have hB_ := S.2.1
  have hts := S.2.2.2.2
  have hl : lv_has ls 4 [(0, .ref (a 0)), (1, .int (nI j)), (2, .ref o)] := hl
  have w0 := hts (.classLink RL 19 "java/lang/IndexOutOfBoundsException") (List.mem_cons_of_mem _ (List.mem_append_left _ (List.mem_append_left _ (List.mem_append_left _ (List.mem_append_left _ (List.mem_append_left _ (List.mem_append_left _ (List.mem_append_left _ (List.mem_of_getElem? (i := 0) rfl)))))))))
  have w1 := hts (.classLink RL 38 "java/util/NoSuchElementException") (List.mem_cons_of_mem _ (List.mem_append_left _ (List.mem_append_left _ (List.mem_append_left _ (List.mem_append_left _ (List.mem_append_left _ (List.mem_append_left _ (List.mem_append_left _ (List.mem_of_getElem? (i := 1) rfl)))))))))
  refine lv_aload_n hX_ hB_ dL_startNext_0 rfl (lv_at hl 2 rfl) ?_
  refine lv_iconst (v := 0) hX_ hB_ dL_startNext_1 (by decide) ?_
  refine lv_aload_n hX_ hB_ dL_startNext_2 rfl (lv_at hl 0 rfl) ?_
  refine lv_iload_n hX_ hB_ dL_startNext_3 rfl (lv_at hl 1 rfl) ?_
  refine zx_FVc (As := [.int (nI j)]) (rest := [.int 0, .ref o]) (ci := 8) (q0 := 0) (k := (RX8, TX8, 8)) S (zt_startNext_t2_n l D hst c a n A B E j hN hj hS hpick) (cwV 1 hts gL_startNext_X8_startNext_n rfl rfl rfl (by decide +kernel) ⟨(Nat.le_of_ble_eq_true rfl), (Nat.le_of_ble_eq_true rfl)⟩) hK hW hXB hA rfl (ze_at0 0 rfl) rfl hl.1 rfl (lv_room (Nat.le_of_ble_eq_true rfl)) dL_startNext_4 ⟨(Nat.le_of_ble_eq_true rfl), (Nat.le_of_ble_eq_true rfl)⟩ [⟨0, 9, 12, 19⟩] ⟨0, 9, 15, 38⟩ [] htab (by
      intro z hz
      simp only [List.mem_cons, List.not_mem_nil, or_false] at hz
      rcases hz with rfl
      exact Or.inr ⟨by decide, "java/lang/IndexOutOfBoundsException", w0, hNc ("java/util/NoSuchElementException", "java/lang/IndexOutOfBoundsException") (by decide +kernel)⟩) (by decide) (by decide) w1 (va_Nw.use rfl (hXB.2.2.2 _ (List.mem_of_getElem? (i := 6) rfl))) (fun q9 H locs hW => ?_)
  refine lv_astore_n (lv' := [(3, .ref q9), (0, .ref (a 0)), (1, .int (nI j)), (2, .ref o)]) hX_ hB_ dL_startNext_15 rfl hl (by decide) rfl (fun ls hl => ?_)
  refine lv_iconst (v := 2) hX_ hB_ dL_startNext_16 (by decide) ?_
  exact ze_iret S hr hlocks hF hK hW rfl dL_startNext_17 (Nat.le_of_ble_eq_true rfl) (Nat.le_of_ble_eq_true rfl) rfl rfl
set_option maxHeartbeats 4000000 in
set_option maxRecDepth 100000 in
theorem zl_tie_f_n (l : Launch) (D : va_G) (c : Nat → ClassId) (a n : Nat → Nat) (A : Nat → Nat → Int32) (B : Nat → Int64) (E : Nat → Nat → Int32) (o : Nat) (f : Nat → Int64)  (hN : zf_N n) (h : ¬ n 0 = 0) (h2 : A 38 0 = 0) (h3 : ze_mn (ze_ab ((if zf_tied A 0 then 0 else A 0 (ze_ix 0)) - 0)) (360 - ze_ab ((if zf_tied A 0 then 0 else A 0 (ze_ix 0)) - 0)) ≤ 10) : ze_Q l yL_tie wsL_tie_n 3 62 0 0 D c ((ze_wC c a n A B E) ++ [(o, .inl (c 6, 1, .inr (.inl f)))]) [.ref (a 0), .ref o] 0 ((ze_wC c a n (ze_sC A 38 1) B E) ++ [(o, .inl (c 6, 1, .inr (.inl (vp_updL f 0 ((ze_sum 0 (fun s => if E 0 s = 0 then 1 else 0) (n 0)).toInt64)))))]) := by
  intro sz
  refine zq_start (cc := cL_tie) (maxL := 3) (ret := (some .int)) (own := RL) (by decide) rfl rfl (Nat.le_of_ble_eq_true rfl) ?_
  obtain ⟨hn0, hn1, hn2, hn3, hn4⟩ := id hN
  intro p e s m_ below meth cd F ls hF hsz E0 hXB hNc htab
  obtain ⟨S, hr, hlocks, hK, hW, hA, hl⟩ := E0
  have hX_ := S.1
  have hB_ := S.2.1
  have hts := S.2.2.2.2
  have hl : lv_has ls 3 [(0, .ref (a 0)), (1, .ref o)] := hl
  refine lv_aload_n hX_ hB_ dL_tie_0 rfl (lv_at hl 1 rfl) ?_
  refine lv_iconst (v := 0) hX_ hB_ dL_tie_1 (by decide) ?_
  refine lv_aload_n hX_ hB_ dL_tie_2 rfl (lv_at hl 0 rfl) ?_
  refine ze_FVi (As := []) (rest := [.int 0, .ref o]) (ci := 8) (q0 := 0) (k := (RX8, TX8, 8)) S (zp_tie_f_n l D c a n A B E hN h h2 h3) (cwV 0 hts gL_tie_X8_tie_n rfl rfl rfl (by decide +kernel) ⟨Nat.le_of_ble_eq_true rfl, Nat.le_of_ble_eq_true rfl⟩) hK hW hA rfl (ze_at0 0 rfl) rfl hl.1 rfl (lv_room (Nat.le_of_ble_eq_true rfl)) dL_tie_3 ⟨Nat.le_of_ble_eq_true rfl, Nat.le_of_ble_eq_true rfl⟩ (fun H locs hW => ?_)
  have hW : ze_W D ((ze_wC c a n (ze_sC A 38 1) B E) ++ [(o, .inl (c 6, 1, .inr (.inl f)))]) F s.heap _ _ := hW
  refine lv_i2l (v := (ze_sum 0 (fun s => if E 0 s = 0 then 1 else 0) (n 0)).toInt64) hX_ hB_ dL_tie_6 rfl ?_
  refine ze_last hX_ hB_ hK hW ((ze_wC c a n (ze_sC A 38 1) B E).length + 0) (i := 0) (ze_appL (k := 0) rfl) (by decide) (by decide) dL_tie_7 (ze_appset rfl) (fun H locs hW => ?_)
  have hW : ze_W D ((ze_wC c a n (ze_sC A 38 1) B E) ++ [(o, .inl (c 6, 1, .inr (.inl (vp_updL f 0 ((ze_sum 0 (fun s => if E 0 s = 0 then 1 else 0) (n 0)).toInt64)))))]) F s.heap _ _ := hW
  refine lv_goto (tgt := 20) hX_ hB_ dL_tie_8 (by decide) ?_
  refine lv_iconst (v := 0) hX_ hB_ dL_tie_20 (by decide) ?_
  exact ze_iret S hr hlocks hF hK hW rfl dL_tie_21 (Nat.le_of_ble_eq_true rfl) (Nat.le_of_ble_eq_true rfl) rfl rfl
set_option maxHeartbeats 4000000 in
set_option maxRecDepth 100000 in
theorem zl_tie_t1_n (l : Launch) (D : va_G) (hst : l.stackTraces = false) (c : Nat → ClassId) (a n : Nat → Nat) (A : Nat → Nat → Int32) (B : Nat → Int64) (E : Nat → Nat → Int32) (o : Nat) (f : Nat → Int64)  (hN : zf_N n) (h : n 0 = 0) : ze_Q l yL_tie wsL_tie_n 7 102 1 6 D c ((ze_wC c a n A B E) ++ [(o, .inl (c 6, 1, .inr (.inl f)))]) [.ref (a 0), .ref o] 1 ((ze_wC c a n A B E) ++ [(o, .inl (c 6, 1, .inr (.inl f)))]) := by
  intro sz
  refine zq_start (cc := cL_tie) (maxL := 3) (ret := (some .int)) (own := RL) (by decide) rfl rfl (Nat.le_of_ble_eq_true rfl) ?_
  obtain ⟨hn0, hn1, hn2, hn3, hn4⟩ := id hN
  intro p e s m_ below meth cd F ls hF hsz E0 hXB hNc htab
  obtain ⟨S, hr, hlocks, hK, hW, hA, hl⟩ := E0
  have hX_ := S.1
  have hB_ := S.2.1
  have hts := S.2.2.2.2
  have hl : lv_has ls 3 [(0, .ref (a 0)), (1, .ref o)] := hl
  have w0 := hts (.classLink RL 38 "java/util/NoSuchElementException") (List.mem_cons_of_mem _ (List.mem_append_left _ (List.mem_append_left _ (List.mem_append_left _ (List.mem_append_left _ (List.mem_append_left _ (List.mem_append_left _ (List.mem_of_getElem? (i := 0) rfl))))))))
  refine lv_aload_n hX_ hB_ dL_tie_0 rfl (lv_at hl 1 rfl) ?_
  refine lv_iconst (v := 0) hX_ hB_ dL_tie_1 (by decide) ?_
  refine lv_aload_n hX_ hB_ dL_tie_2 rfl (lv_at hl 0 rfl) ?_
  refine zx_FVc (As := []) (rest := [.int 0, .ref o]) (ci := 8) (q0 := 0) (k := (RX8, TX8, 8)) S (zt_tie_t1_n l D hst c a n A B E hN h) (cwV 0 hts gL_tie_X8_tie_n rfl rfl rfl (by decide +kernel) ⟨(Nat.le_of_ble_eq_true rfl), (Nat.le_of_ble_eq_true rfl)⟩) hK hW hXB hA rfl (ze_at0 0 rfl) rfl hl.1 rfl (lv_room (Nat.le_of_ble_eq_true rfl)) dL_tie_3 ⟨(Nat.le_of_ble_eq_true rfl), (Nat.le_of_ble_eq_true rfl)⟩ [] ⟨0, 8, 11, 38⟩ [⟨0, 8, 14, 13⟩, ⟨0, 8, 17, 30⟩] htab (by intro z hz; cases hz) (by decide) (by decide) w0 (va_Nw.use rfl (hXB.2.2.2 _ (List.mem_of_getElem? (i := 6) rfl))) (fun q9 H locs hW => ?_)
  refine lv_astore_n (lv' := [(2, .ref q9), (0, .ref (a 0)), (1, .ref o)]) hX_ hB_ dL_tie_11 rfl hl (by decide) rfl (fun ls hl => ?_)
  refine lv_iconst (v := 1) hX_ hB_ dL_tie_12 (by decide) ?_
  exact ze_iret S hr hlocks hF hK hW rfl dL_tie_13 (Nat.le_of_ble_eq_true rfl) (Nat.le_of_ble_eq_true rfl) rfl rfl
set_option maxHeartbeats 4000000 in
set_option maxRecDepth 100000 in
theorem zl_tie_t2_n (l : Launch) (D : va_G) (hst : l.stackTraces = false) (c : Nat → ClassId) (a n : Nat → Nat) (A : Nat → Nat → Int32) (B : Nat → Int64) (E : Nat → Nat → Int32) (o : Nat) (f : Nat → Int64)  (hN : zf_N n) (h : ¬ n 0 = 0) (h2 : ¬ A 38 0 = 0) : ze_Q l yL_tie wsL_tie_n 7 102 1 6 D c ((ze_wC c a n A B E) ++ [(o, .inl (c 6, 1, .inr (.inl f)))]) [.ref (a 0), .ref o] 2 ((ze_wC c a n A B E) ++ [(o, .inl (c 6, 1, .inr (.inl f)))]) := by
  intro sz
  refine zq_start (cc := cL_tie) (maxL := 3) (ret := (some .int)) (own := RL) (by decide) rfl rfl (Nat.le_of_ble_eq_true rfl) ?_
  obtain ⟨hn0, hn1, hn2, hn3, hn4⟩ := id hN
  intro p e s m_ below meth cd F ls hF hsz E0 hXB hNc htab
  obtain ⟨S, hr, hlocks, hK, hW, hA, hl⟩ := E0
  have hX_ := S.1
  have hB_ := S.2.1
  have hts := S.2.2.2.2
  have hl : lv_has ls 3 [(0, .ref (a 0)), (1, .ref o)] := hl
  have w0 := hts (.classLink RL 38 "java/util/NoSuchElementException") (List.mem_cons_of_mem _ (List.mem_append_left _ (List.mem_append_left _ (List.mem_append_left _ (List.mem_append_left _ (List.mem_append_left _ (List.mem_append_left _ (List.mem_of_getElem? (i := 0) rfl))))))))
  have w1 := hts (.classLink RL 13 "java/lang/IllegalStateException") (List.mem_cons_of_mem _ (List.mem_append_left _ (List.mem_append_left _ (List.mem_append_left _ (List.mem_append_left _ (List.mem_append_left _ (List.mem_append_left _ (List.mem_of_getElem? (i := 1) rfl))))))))
  refine lv_aload_n hX_ hB_ dL_tie_0 rfl (lv_at hl 1 rfl) ?_
  refine lv_iconst (v := 0) hX_ hB_ dL_tie_1 (by decide) ?_
  refine lv_aload_n hX_ hB_ dL_tie_2 rfl (lv_at hl 0 rfl) ?_
  refine zx_FVc (As := []) (rest := [.int 0, .ref o]) (ci := 8) (q0 := 0) (k := (RX8, TX8, 8)) S (zt_tie_t2_n l D hst c a n A B E hN h h2) (cwV 0 hts gL_tie_X8_tie_n rfl rfl rfl (by decide +kernel) ⟨(Nat.le_of_ble_eq_true rfl), (Nat.le_of_ble_eq_true rfl)⟩) hK hW hXB hA rfl (ze_at0 0 rfl) rfl hl.1 rfl (lv_room (Nat.le_of_ble_eq_true rfl)) dL_tie_3 ⟨(Nat.le_of_ble_eq_true rfl), (Nat.le_of_ble_eq_true rfl)⟩ [⟨0, 8, 11, 38⟩] ⟨0, 8, 14, 13⟩ [⟨0, 8, 17, 30⟩] htab (by
      intro z hz
      simp only [List.mem_cons, List.not_mem_nil, or_false] at hz
      rcases hz with rfl
      exact Or.inr ⟨by decide, "java/util/NoSuchElementException", w0, hNc ("java/lang/IllegalStateException", "java/util/NoSuchElementException") (by decide +kernel)⟩) (by decide) (by decide) w1 (va_Nw.use rfl (hXB.2.2.2 _ (List.mem_of_getElem? (i := 3) rfl))) (fun q9 H locs hW => ?_)
  refine lv_astore_n (lv' := [(2, .ref q9), (0, .ref (a 0)), (1, .ref o)]) hX_ hB_ dL_tie_14 rfl hl (by decide) rfl (fun ls hl => ?_)
  refine lv_iconst (v := 2) hX_ hB_ dL_tie_15 (by decide) ?_
  exact ze_iret S hr hlocks hF hK hW rfl dL_tie_16 (Nat.le_of_ble_eq_true rfl) (Nat.le_of_ble_eq_true rfl) rfl rfl
set_option maxHeartbeats 4000000 in
set_option maxRecDepth 100000 in
theorem zl_tie_t3_n (l : Launch) (D : va_G) (hst : l.stackTraces = false) (c : Nat → ClassId) (a n : Nat → Nat) (A : Nat → Nat → Int32) (B : Nat → Int64) (E : Nat → Nat → Int32) (o : Nat) (f : Nat → Int64)  (hN : zf_N n) (h : ¬ n 0 = 0) (h2 : A 38 0 = 0) (h3 : ¬ ze_mn (ze_ab ((if zf_tied A 0 then 0 else A 0 (ze_ix 0)) - 0)) (360 - ze_ab ((if zf_tied A 0 then 0 else A 0 (ze_ix 0)) - 0)) ≤ 10) : ze_Q l yL_tie wsL_tie_n 7 102 1 6 D c ((ze_wC c a n A B E) ++ [(o, .inl (c 6, 1, .inr (.inl f)))]) [.ref (a 0), .ref o] 3 ((ze_wC c a n A B E) ++ [(o, .inl (c 6, 1, .inr (.inl f)))]) := by
  intro sz
  refine zq_start (cc := cL_tie) (maxL := 3) (ret := (some .int)) (own := RL) (by decide) rfl rfl (Nat.le_of_ble_eq_true rfl) ?_
  obtain ⟨hn0, hn1, hn2, hn3, hn4⟩ := id hN
  intro p e s m_ below meth cd F ls hF hsz E0 hXB hNc htab
  obtain ⟨S, hr, hlocks, hK, hW, hA, hl⟩ := E0
  have hX_ := S.1
  have hB_ := S.2.1
  have hts := S.2.2.2.2
  have hl : lv_has ls 3 [(0, .ref (a 0)), (1, .ref o)] := hl
  have w0 := hts (.classLink RL 38 "java/util/NoSuchElementException") (List.mem_cons_of_mem _ (List.mem_append_left _ (List.mem_append_left _ (List.mem_append_left _ (List.mem_append_left _ (List.mem_append_left _ (List.mem_append_left _ (List.mem_of_getElem? (i := 0) rfl))))))))
  have w1 := hts (.classLink RL 13 "java/lang/IllegalStateException") (List.mem_cons_of_mem _ (List.mem_append_left _ (List.mem_append_left _ (List.mem_append_left _ (List.mem_append_left _ (List.mem_append_left _ (List.mem_append_left _ (List.mem_of_getElem? (i := 1) rfl))))))))
  have w2 := hts (.classLink RL 30 "java/lang/UnsupportedOperationException") (List.mem_cons_of_mem _ (List.mem_append_left _ (List.mem_append_left _ (List.mem_append_left _ (List.mem_append_left _ (List.mem_append_left _ (List.mem_append_left _ (List.mem_of_getElem? (i := 2) rfl))))))))
  refine lv_aload_n hX_ hB_ dL_tie_0 rfl (lv_at hl 1 rfl) ?_
  refine lv_iconst (v := 0) hX_ hB_ dL_tie_1 (by decide) ?_
  refine lv_aload_n hX_ hB_ dL_tie_2 rfl (lv_at hl 0 rfl) ?_
  refine zx_FVc (As := []) (rest := [.int 0, .ref o]) (ci := 8) (q0 := 0) (k := (RX8, TX8, 8)) S (zt_tie_t3_n l D hst c a n A B E hN h h2 h3) (cwV 0 hts gL_tie_X8_tie_n rfl rfl rfl (by decide +kernel) ⟨(Nat.le_of_ble_eq_true rfl), (Nat.le_of_ble_eq_true rfl)⟩) hK hW hXB hA rfl (ze_at0 0 rfl) rfl hl.1 rfl (lv_room (Nat.le_of_ble_eq_true rfl)) dL_tie_3 ⟨(Nat.le_of_ble_eq_true rfl), (Nat.le_of_ble_eq_true rfl)⟩ [⟨0, 8, 11, 38⟩, ⟨0, 8, 14, 13⟩] ⟨0, 8, 17, 30⟩ [] htab (by
      intro z hz
      simp only [List.mem_cons, List.not_mem_nil, or_false] at hz
      rcases hz with rfl | rfl
      · exact Or.inr ⟨by decide, "java/util/NoSuchElementException", w0, hNc ("java/lang/UnsupportedOperationException", "java/util/NoSuchElementException") (by decide +kernel)⟩
      · exact Or.inr ⟨by decide, "java/lang/IllegalStateException", w1, hNc ("java/lang/UnsupportedOperationException", "java/lang/IllegalStateException") (by decide +kernel)⟩) (by decide) (by decide) w2 (va_Nw.use rfl (hXB.2.2.2 _ (List.mem_of_getElem? (i := 5) rfl))) (fun q9 H locs hW => ?_)
  refine lv_astore_n (lv' := [(2, .ref q9), (0, .ref (a 0)), (1, .ref o)]) hX_ hB_ dL_tie_17 rfl hl (by decide) rfl (fun ls hl => ?_)
  refine lv_iconst (v := 3) hX_ hB_ dL_tie_18 (by decide) ?_
  exact ze_iret S hr hlocks hF hK hW rfl dL_tie_19 (Nat.le_of_ble_eq_true rfl) (Nat.le_of_ble_eq_true rfl) rfl rfl
set_option maxHeartbeats 4000000 in
set_option maxRecDepth 100000 in
theorem zl_toGo_f_n (l : Launch) (D : va_G) (c : Nat → ClassId) (a n : Nat → Nat) (A : Nat → Nat → Int32) (B : Nat → Int64) (E : Nat → Nat → Int32) (o : Nat) (f : Nat → Int64)  (j : Nat) (hN : zf_N n) (hj : j < n 2) (h : A 13 j = 119) : ze_Q l yL_toGo wsL_toGo_n 3 64 0 0 D c ((ze_wC c a n A B E) ++ [(o, .inl (c 6, 1, .inr (.inl f)))]) [.ref (a 0), .int (nI j), .ref o] 0 ((ze_wC c a n A B E) ++ [(o, .inl (c 6, 1, .inr (.inl (vp_updL f 0 ((A 11 j).toInt64)))))]) := by
  intro sz
  refine zq_start (cc := cL_toGo) (maxL := 4) (ret := (some .int)) (own := RL) (by decide) rfl rfl (Nat.le_of_ble_eq_true rfl) ?_
  obtain ⟨hn0, hn1, hn2, hn3, hn4⟩ := id hN
  intro p e s m_ below meth cd F ls hF hsz E0 hXB hNc htab
  obtain ⟨S, hr, hlocks, hK, hW, hA, hl⟩ := E0
  have hX_ := S.1
  have hB_ := S.2.1
  have hts := S.2.2.2.2
  have hl : lv_has ls 4 [(0, .ref (a 0)), (1, .int (nI j)), (2, .ref o)] := hl
  refine lv_aload_n hX_ hB_ dL_toGo_0 rfl (lv_at hl 2 rfl) ?_
  refine lv_iconst (v := 0) hX_ hB_ dL_toGo_1 (by decide) ?_
  refine lv_aload_n hX_ hB_ dL_toGo_2 rfl (lv_at hl 0 rfl) ?_
  refine lv_iload_n hX_ hB_ dL_toGo_3 rfl (lv_at hl 1 rfl) ?_
  refine ze_FVi (As := [.int (nI j)]) (rest := [.int 0, .ref o]) (ci := 8) (q0 := 0) (k := (RX8, TX8, 8)) S (zp_toGo_f_n l D c a n A B E j hN hj h) (cwV 1 hts gL_toGo_X8_toGo_n rfl rfl rfl (by decide +kernel) ⟨Nat.le_of_ble_eq_true rfl, Nat.le_of_ble_eq_true rfl⟩) hK hW hA rfl (ze_at0 0 rfl) rfl hl.1 rfl (lv_room (Nat.le_of_ble_eq_true rfl)) dL_toGo_4 ⟨Nat.le_of_ble_eq_true rfl, Nat.le_of_ble_eq_true rfl⟩ (fun H locs hW => ?_)
  refine lv_i2l (v := (A 11 j).toInt64) hX_ hB_ dL_toGo_7 rfl ?_
  refine ze_last hX_ hB_ hK hW ((ze_wC c a n A B E).length + 0) (i := 0) (ze_appL (k := 0) rfl) (by decide) (by decide) dL_toGo_8 (ze_appset rfl) (fun H locs hW => ?_)
  have hW : ze_W D ((ze_wC c a n A B E) ++ [(o, .inl (c 6, 1, .inr (.inl (vp_updL f 0 ((A 11 j).toInt64)))))]) F s.heap _ _ := hW
  refine lv_goto (tgt := 18) hX_ hB_ dL_toGo_9 (by decide) ?_
  refine lv_iconst (v := 0) hX_ hB_ dL_toGo_18 (by decide) ?_
  exact ze_iret S hr hlocks hF hK hW rfl dL_toGo_19 (Nat.le_of_ble_eq_true rfl) (Nat.le_of_ble_eq_true rfl) rfl rfl
set_option maxHeartbeats 4000000 in
set_option maxRecDepth 100000 in
theorem zl_toGo_t1_n (l : Launch) (D : va_G) (hst : l.stackTraces = false) (c : Nat → ClassId) (a n : Nat → Nat) (A : Nat → Nat → Int32) (B : Nat → Int64) (E : Nat → Nat → Int32) (o : Nat) (f : Nat → Int64)  (x : Int32) (hN : zf_N n) (hx : ¬ zf_isIn x 0 (nI (n 2) - 1)) : ze_Q l yL_toGo wsL_toGo_n 9 146 1 6 D c ((ze_wC c a n A B E) ++ [(o, .inl (c 6, 1, .inr (.inl f)))]) [.ref (a 0), .int x, .ref o] 1 ((ze_wC c a n A B E) ++ [(o, .inl (c 6, 1, .inr (.inl f)))]) := by
  intro sz
  refine zq_start (cc := cL_toGo) (maxL := 4) (ret := (some .int)) (own := RL) (by decide) rfl rfl (Nat.le_of_ble_eq_true rfl) ?_
  obtain ⟨hn0, hn1, hn2, hn3, hn4⟩ := id hN
  intro p e s m_ below meth cd F ls hF hsz E0 hXB hNc htab
  obtain ⟨S, hr, hlocks, hK, hW, hA, hl⟩ := E0
  have hX_ := S.1
  have hB_ := S.2.1
  have hts := S.2.2.2.2
  have hl : lv_has ls 4 [(0, .ref (a 0)), (1, .int x), (2, .ref o)] := hl
  have w0 := hts (.classLink RL 19 "java/lang/IndexOutOfBoundsException") (List.mem_cons_of_mem _ (List.mem_append_left _ (List.mem_append_left _ (List.mem_append_left _ (List.mem_append_left _ (List.mem_append_left _ (List.mem_of_getElem? (i := 0) rfl)))))))
  refine lv_aload_n hX_ hB_ dL_toGo_0 rfl (lv_at hl 2 rfl) ?_
  refine lv_iconst (v := 0) hX_ hB_ dL_toGo_1 (by decide) ?_
  refine lv_aload_n hX_ hB_ dL_toGo_2 rfl (lv_at hl 0 rfl) ?_
  refine lv_iload_n hX_ hB_ dL_toGo_3 rfl (lv_at hl 1 rfl) ?_
  refine zx_FVc (As := [.int x]) (rest := [.int 0, .ref o]) (ci := 8) (q0 := 0) (k := (RX8, TX8, 8)) S (zt_toGo_t1_n l D hst c a n A B E x hN hx) (cwV 1 hts gL_toGo_X8_toGo_n rfl rfl rfl (by decide +kernel) ⟨(Nat.le_of_ble_eq_true rfl), (Nat.le_of_ble_eq_true rfl)⟩) hK hW hXB hA rfl (ze_at0 0 rfl) rfl hl.1 rfl (lv_room (Nat.le_of_ble_eq_true rfl)) dL_toGo_4 ⟨(Nat.le_of_ble_eq_true rfl), (Nat.le_of_ble_eq_true rfl)⟩ [] ⟨0, 9, 12, 19⟩ [⟨0, 9, 15, 38⟩] htab (by intro z hz; cases hz) (by decide) (by decide) w0 (va_Nw.use rfl (hXB.2.2.2 _ (List.mem_of_getElem? (i := 7) rfl))) (fun q9 H locs hW => ?_)
  refine lv_astore_n (lv' := [(3, .ref q9), (0, .ref (a 0)), (1, .int x), (2, .ref o)]) hX_ hB_ dL_toGo_12 rfl hl (by decide) rfl (fun ls hl => ?_)
  refine lv_iconst (v := 1) hX_ hB_ dL_toGo_13 (by decide) ?_
  exact ze_iret S hr hlocks hF hK hW rfl dL_toGo_14 (Nat.le_of_ble_eq_true rfl) (Nat.le_of_ble_eq_true rfl) rfl rfl
set_option maxHeartbeats 4000000 in
set_option maxRecDepth 100000 in
theorem zl_toGo_t2_n (l : Launch) (D : va_G) (hst : l.stackTraces = false) (c : Nat → ClassId) (a n : Nat → Nat) (A : Nat → Nat → Int32) (B : Nat → Int64) (E : Nat → Nat → Int32) (o : Nat) (f : Nat → Int64)  (j : Nat) (hN : zf_N n) (hj : j < n 2) (h : ¬ A 13 j = 119) : ze_Q l yL_toGo wsL_toGo_n 7 104 1 6 D c ((ze_wC c a n A B E) ++ [(o, .inl (c 6, 1, .inr (.inl f)))]) [.ref (a 0), .int (nI j), .ref o] 2 ((ze_wC c a n A B E) ++ [(o, .inl (c 6, 1, .inr (.inl f)))]) := by
  intro sz
  refine zq_start (cc := cL_toGo) (maxL := 4) (ret := (some .int)) (own := RL) (by decide) rfl rfl (Nat.le_of_ble_eq_true rfl) ?_
  obtain ⟨hn0, hn1, hn2, hn3, hn4⟩ := id hN
  intro p e s m_ below meth cd F ls hF hsz E0 hXB hNc htab
  obtain ⟨S, hr, hlocks, hK, hW, hA, hl⟩ := E0
  have hX_ := S.1
  have hB_ := S.2.1
  have hts := S.2.2.2.2
  have hl : lv_has ls 4 [(0, .ref (a 0)), (1, .int (nI j)), (2, .ref o)] := hl
  have w0 := hts (.classLink RL 19 "java/lang/IndexOutOfBoundsException") (List.mem_cons_of_mem _ (List.mem_append_left _ (List.mem_append_left _ (List.mem_append_left _ (List.mem_append_left _ (List.mem_append_left _ (List.mem_of_getElem? (i := 0) rfl)))))))
  have w1 := hts (.classLink RL 38 "java/util/NoSuchElementException") (List.mem_cons_of_mem _ (List.mem_append_left _ (List.mem_append_left _ (List.mem_append_left _ (List.mem_append_left _ (List.mem_append_left _ (List.mem_of_getElem? (i := 1) rfl)))))))
  refine lv_aload_n hX_ hB_ dL_toGo_0 rfl (lv_at hl 2 rfl) ?_
  refine lv_iconst (v := 0) hX_ hB_ dL_toGo_1 (by decide) ?_
  refine lv_aload_n hX_ hB_ dL_toGo_2 rfl (lv_at hl 0 rfl) ?_
  refine lv_iload_n hX_ hB_ dL_toGo_3 rfl (lv_at hl 1 rfl) ?_
  refine zx_FVc (As := [.int (nI j)]) (rest := [.int 0, .ref o]) (ci := 8) (q0 := 0) (k := (RX8, TX8, 8)) S (zt_toGo_t2_n l D hst c a n A B E j hN hj h) (cwV 1 hts gL_toGo_X8_toGo_n rfl rfl rfl (by decide +kernel) ⟨(Nat.le_of_ble_eq_true rfl), (Nat.le_of_ble_eq_true rfl)⟩) hK hW hXB hA rfl (ze_at0 0 rfl) rfl hl.1 rfl (lv_room (Nat.le_of_ble_eq_true rfl)) dL_toGo_4 ⟨(Nat.le_of_ble_eq_true rfl), (Nat.le_of_ble_eq_true rfl)⟩ [⟨0, 9, 12, 19⟩] ⟨0, 9, 15, 38⟩ [] htab (by
      intro z hz
      simp only [List.mem_cons, List.not_mem_nil, or_false] at hz
      rcases hz with rfl
      exact Or.inr ⟨by decide, "java/lang/IndexOutOfBoundsException", w0, hNc ("java/util/NoSuchElementException", "java/lang/IndexOutOfBoundsException") (by decide +kernel)⟩) (by decide) (by decide) w1 (va_Nw.use rfl (hXB.2.2.2 _ (List.mem_of_getElem? (i := 6) rfl))) (fun q9 H locs hW => ?_)
  refine lv_astore_n (lv' := [(3, .ref q9), (0, .ref (a 0)), (1, .int (nI j)), (2, .ref o)]) hX_ hB_ dL_toGo_15 rfl hl (by decide) rfl (fun ls hl => ?_)
  refine lv_iconst (v := 2) hX_ hB_ dL_toGo_16 (by decide) ?_
  exact ze_iret S hr hlocks hF hK hW rfl dL_toGo_17 (Nat.le_of_ble_eq_true rfl) (Nat.le_of_ble_eq_true rfl) rfl rfl
set_option maxHeartbeats 4000000 in
set_option maxRecDepth 100000 in
theorem zl_waits_f_n (l : Launch) (D : va_G) (c : Nat → ClassId) (a n : Nat → Nat) (A : Nat → Nat → Int32) (B : Nat → Int64) (E : Nat → Nat → Int32) (o : Nat) (f : Nat → Int64)  (j : Nat) (hN : zf_N n) (hj : j < n 4) (h : ¬ A 5 j = 0) : ze_Q l yL_waits wsL_waits_n 3 64 0 0 D c ((ze_wC c a n A B E) ++ [(o, .inl (c 6, 1, .inr (.inl f)))]) [.ref (a 0), .int (nI j), .ref o] 0 ((ze_wC c a n A B E) ++ [(o, .inl (c 6, 1, .inr (.inl (vp_updL f 0 ((A 22 j).toInt64)))))]) := by
  intro sz
  refine zq_start (cc := cL_waits) (maxL := 4) (ret := (some .int)) (own := RL) (by decide) rfl rfl (Nat.le_of_ble_eq_true rfl) ?_
  obtain ⟨hn0, hn1, hn2, hn3, hn4⟩ := id hN
  intro p e s m_ below meth cd F ls hF hsz E0 hXB hNc htab
  obtain ⟨S, hr, hlocks, hK, hW, hA, hl⟩ := E0
  have hX_ := S.1
  have hB_ := S.2.1
  have hts := S.2.2.2.2
  have hl : lv_has ls 4 [(0, .ref (a 0)), (1, .int (nI j)), (2, .ref o)] := hl
  refine lv_aload_n hX_ hB_ dL_waits_0 rfl (lv_at hl 2 rfl) ?_
  refine lv_iconst (v := 0) hX_ hB_ dL_waits_1 (by decide) ?_
  refine lv_aload_n hX_ hB_ dL_waits_2 rfl (lv_at hl 0 rfl) ?_
  refine lv_iload_n hX_ hB_ dL_waits_3 rfl (lv_at hl 1 rfl) ?_
  refine ze_FVi (As := [.int (nI j)]) (rest := [.int 0, .ref o]) (ci := 8) (q0 := 0) (k := (RX8, TX8, 8)) S (zp_waits_f_n l D c a n A B E j hN hj h) (cwV 1 hts gL_waits_X8_waits_n rfl rfl rfl (by decide +kernel) ⟨Nat.le_of_ble_eq_true rfl, Nat.le_of_ble_eq_true rfl⟩) hK hW hA rfl (ze_at0 0 rfl) rfl hl.1 rfl (lv_room (Nat.le_of_ble_eq_true rfl)) dL_waits_4 ⟨Nat.le_of_ble_eq_true rfl, Nat.le_of_ble_eq_true rfl⟩ (fun H locs hW => ?_)
  refine lv_i2l (v := (A 22 j).toInt64) hX_ hB_ dL_waits_7 rfl ?_
  refine ze_last hX_ hB_ hK hW ((ze_wC c a n A B E).length + 0) (i := 0) (ze_appL (k := 0) rfl) (by decide) (by decide) dL_waits_8 (ze_appset rfl) (fun H locs hW => ?_)
  have hW : ze_W D ((ze_wC c a n A B E) ++ [(o, .inl (c 6, 1, .inr (.inl (vp_updL f 0 ((A 22 j).toInt64)))))]) F s.heap _ _ := hW
  refine lv_goto (tgt := 18) hX_ hB_ dL_waits_9 (by decide) ?_
  refine lv_iconst (v := 0) hX_ hB_ dL_waits_18 (by decide) ?_
  exact ze_iret S hr hlocks hF hK hW rfl dL_waits_19 (Nat.le_of_ble_eq_true rfl) (Nat.le_of_ble_eq_true rfl) rfl rfl
set_option maxHeartbeats 4000000 in
set_option maxRecDepth 100000 in
theorem zl_waits_t1_n (l : Launch) (D : va_G) (hst : l.stackTraces = false) (c : Nat → ClassId) (a n : Nat → Nat) (A : Nat → Nat → Int32) (B : Nat → Int64) (E : Nat → Nat → Int32) (o : Nat) (f : Nat → Int64)  (x : Int32) (hN : zf_N n) (hx : ¬ zf_isIn x 0 (nI (n 4) - 1)) : ze_Q l yL_waits wsL_waits_n 9 146 1 6 D c ((ze_wC c a n A B E) ++ [(o, .inl (c 6, 1, .inr (.inl f)))]) [.ref (a 0), .int x, .ref o] 1 ((ze_wC c a n A B E) ++ [(o, .inl (c 6, 1, .inr (.inl f)))]) := by
  intro sz
  refine zq_start (cc := cL_waits) (maxL := 4) (ret := (some .int)) (own := RL) (by decide) rfl rfl (Nat.le_of_ble_eq_true rfl) ?_
  obtain ⟨hn0, hn1, hn2, hn3, hn4⟩ := id hN
  intro p e s m_ below meth cd F ls hF hsz E0 hXB hNc htab
  obtain ⟨S, hr, hlocks, hK, hW, hA, hl⟩ := E0
  have hX_ := S.1
  have hB_ := S.2.1
  have hts := S.2.2.2.2
  have hl : lv_has ls 4 [(0, .ref (a 0)), (1, .int x), (2, .ref o)] := hl
  have w0 := hts (.classLink RL 19 "java/lang/IndexOutOfBoundsException") (List.mem_cons_of_mem _ (List.mem_append_left _ (List.mem_append_left _ (List.mem_append_left _ (List.mem_append_left _ (List.mem_append_left _ (List.mem_of_getElem? (i := 0) rfl)))))))
  refine lv_aload_n hX_ hB_ dL_waits_0 rfl (lv_at hl 2 rfl) ?_
  refine lv_iconst (v := 0) hX_ hB_ dL_waits_1 (by decide) ?_
  refine lv_aload_n hX_ hB_ dL_waits_2 rfl (lv_at hl 0 rfl) ?_
  refine lv_iload_n hX_ hB_ dL_waits_3 rfl (lv_at hl 1 rfl) ?_
  refine zx_FVc (As := [.int x]) (rest := [.int 0, .ref o]) (ci := 8) (q0 := 0) (k := (RX8, TX8, 8)) S (zt_waits_t1_n l D hst c a n A B E x hN hx) (cwV 1 hts gL_waits_X8_waits_n rfl rfl rfl (by decide +kernel) ⟨(Nat.le_of_ble_eq_true rfl), (Nat.le_of_ble_eq_true rfl)⟩) hK hW hXB hA rfl (ze_at0 0 rfl) rfl hl.1 rfl (lv_room (Nat.le_of_ble_eq_true rfl)) dL_waits_4 ⟨(Nat.le_of_ble_eq_true rfl), (Nat.le_of_ble_eq_true rfl)⟩ [] ⟨0, 9, 12, 19⟩ [⟨0, 9, 15, 38⟩] htab (by intro z hz; cases hz) (by decide) (by decide) w0 (va_Nw.use rfl (hXB.2.2.2 _ (List.mem_of_getElem? (i := 7) rfl))) (fun q9 H locs hW => ?_)
  refine lv_astore_n (lv' := [(3, .ref q9), (0, .ref (a 0)), (1, .int x), (2, .ref o)]) hX_ hB_ dL_waits_12 rfl hl (by decide) rfl (fun ls hl => ?_)
  refine lv_iconst (v := 1) hX_ hB_ dL_waits_13 (by decide) ?_
  exact ze_iret S hr hlocks hF hK hW rfl dL_waits_14 (Nat.le_of_ble_eq_true rfl) (Nat.le_of_ble_eq_true rfl) rfl rfl
set_option maxHeartbeats 4000000 in
set_option maxRecDepth 100000 in
theorem zl_waits_t2_n (l : Launch) (D : va_G) (hst : l.stackTraces = false) (c : Nat → ClassId) (a n : Nat → Nat) (A : Nat → Nat → Int32) (B : Nat → Int64) (E : Nat → Nat → Int32) (o : Nat) (f : Nat → Int64)  (j : Nat) (hN : zf_N n) (hj : j < n 4) (h : A 5 j = 0) : ze_Q l yL_waits wsL_waits_n 7 104 1 6 D c ((ze_wC c a n A B E) ++ [(o, .inl (c 6, 1, .inr (.inl f)))]) [.ref (a 0), .int (nI j), .ref o] 2 ((ze_wC c a n A B E) ++ [(o, .inl (c 6, 1, .inr (.inl f)))]) := by
  intro sz
  refine zq_start (cc := cL_waits) (maxL := 4) (ret := (some .int)) (own := RL) (by decide) rfl rfl (Nat.le_of_ble_eq_true rfl) ?_
  obtain ⟨hn0, hn1, hn2, hn3, hn4⟩ := id hN
  intro p e s m_ below meth cd F ls hF hsz E0 hXB hNc htab
  obtain ⟨S, hr, hlocks, hK, hW, hA, hl⟩ := E0
  have hX_ := S.1
  have hB_ := S.2.1
  have hts := S.2.2.2.2
  have hl : lv_has ls 4 [(0, .ref (a 0)), (1, .int (nI j)), (2, .ref o)] := hl
  have w0 := hts (.classLink RL 19 "java/lang/IndexOutOfBoundsException") (List.mem_cons_of_mem _ (List.mem_append_left _ (List.mem_append_left _ (List.mem_append_left _ (List.mem_append_left _ (List.mem_append_left _ (List.mem_of_getElem? (i := 0) rfl)))))))
  have w1 := hts (.classLink RL 38 "java/util/NoSuchElementException") (List.mem_cons_of_mem _ (List.mem_append_left _ (List.mem_append_left _ (List.mem_append_left _ (List.mem_append_left _ (List.mem_append_left _ (List.mem_of_getElem? (i := 1) rfl)))))))
  refine lv_aload_n hX_ hB_ dL_waits_0 rfl (lv_at hl 2 rfl) ?_
  refine lv_iconst (v := 0) hX_ hB_ dL_waits_1 (by decide) ?_
  refine lv_aload_n hX_ hB_ dL_waits_2 rfl (lv_at hl 0 rfl) ?_
  refine lv_iload_n hX_ hB_ dL_waits_3 rfl (lv_at hl 1 rfl) ?_
  refine zx_FVc (As := [.int (nI j)]) (rest := [.int 0, .ref o]) (ci := 8) (q0 := 0) (k := (RX8, TX8, 8)) S (zt_waits_t2_n l D hst c a n A B E j hN hj h) (cwV 1 hts gL_waits_X8_waits_n rfl rfl rfl (by decide +kernel) ⟨(Nat.le_of_ble_eq_true rfl), (Nat.le_of_ble_eq_true rfl)⟩) hK hW hXB hA rfl (ze_at0 0 rfl) rfl hl.1 rfl (lv_room (Nat.le_of_ble_eq_true rfl)) dL_waits_4 ⟨(Nat.le_of_ble_eq_true rfl), (Nat.le_of_ble_eq_true rfl)⟩ [⟨0, 9, 12, 19⟩] ⟨0, 9, 15, 38⟩ [] htab (by
      intro z hz
      simp only [List.mem_cons, List.not_mem_nil, or_false] at hz
      rcases hz with rfl
      exact Or.inr ⟨by decide, "java/lang/IndexOutOfBoundsException", w0, hNc ("java/util/NoSuchElementException", "java/lang/IndexOutOfBoundsException") (by decide +kernel)⟩) (by decide) (by decide) w1 (va_Nw.use rfl (hXB.2.2.2 _ (List.mem_of_getElem? (i := 6) rfl))) (fun q9 H locs hW => ?_)
  refine lv_astore_n (lv' := [(3, .ref q9), (0, .ref (a 0)), (1, .int (nI j)), (2, .ref o)]) hX_ hB_ dL_waits_15 rfl hl (by decide) rfl (fun ls hl => ?_)
  refine lv_iconst (v := 2) hX_ hB_ dL_waits_16 (by decide) ?_
  exact ze_iret S hr hlocks hF hK hW rfl dL_waits_17 (Nat.le_of_ble_eq_true rfl) (Nat.le_of_ble_eq_true rfl) rfl rfl

section ZW
variable {l : Launch} {D : va_G} {c : Nat → ClassId} {a d n : Nat → Nat} {A : Nat → Nat → Int32} {B : Nat → Int64} {E : Nat → Nat → Int32} {mk : Nat → Int32} {th : Int32} {o : Nat} {f : Nat → Int64}
theorem zw_tie_n (hI : zv_I n A E mk) (hst : l.stackTraces = false) : zv_O l D c a d n A B E mk th o f yL_tie wsL_tie_n yX9_tie wsX9_tie [] (fun _ => True) := by
  obtain ⟨hN, hS, hE, hz, h4, h4z, hT, hC, ⟨P, hK⟩, hZ, hp⟩ := id hI
  have hEs := zv_hE hI
  have hci := zv_ci hI
  by_cases h : n 0 = 0
  · exact zv_thr hI hz (zl_tie_t1_n l D hst c a n A B E o f hN h) (zr_tie_t1 l D c d n A B mk th hN hT h) (by decide) trivial (by decide)
  · by_cases h2 : A 38 0 = 0
    · obtain ⟨p, ep, lp⟩ := hp
      have et : ze_mn (ze_ab ((if zf_tied A 0 then 0 else A 0 (ze_ix 0)) - 0)) (360 - ze_ab ((if zf_tied A 0 then 0 else A 0 (ze_ix 0)) - 0)) = ze_mn (A 0 0) (360 - A 0 0) := by
        have e0 : ze_ix 0 = 0 := rfl
        have e1 : ¬ zf_tied A 0 := fun z => z.1 h2
        rw [if_neg e1, e0, Int32.sub_zero, ep]
        unfold ze_ab
        have e2 : (0 : Int32) ≤ nI p := by
          have e3 : (0 : Int32) = nI 0 := rfl
          rw [e3, nI_leI (by decide) (by omega)]
          omega
        rw [if_pos e2]
      by_cases h3 : ze_mn (A 0 0) (360 - A 0 0) ≤ 10
      · exact zv_ok (zv_tie hI (Or.inr rfl) hci) (zl_tie_f_n l D c a n A B E o f hN h h2 (by rw [et]; exact h3)) (zr_tie_f l D c d n A B mk th hN hT hS hz h h2 h3) (by rw [hE]; rfl) trivial (by decide)
      · exact zv_thr hI hz (zl_tie_t3_n l D hst c a n A B E o f hN h h2 (by rw [et]; exact h3)) (zr_tie_t3 l D c d n A B mk th hN hT h h2 h3) (by decide) trivial (by decide)
    · exact zv_thr hI hz (zl_tie_t2_n l D hst c a n A B E o f hN h h2) (zr_tie_t2 l D c d n A B mk th hN hT h h2) (by decide) trivial (by decide)
theorem zw_start_n (hI : zv_I n A E mk) (hst : l.stackTraces = false) (x : Int32) : zv_O l D c a d n A B E mk th o f yL_start wsL_start_n yX9_start wsX9_start [.int x] (fun _ => True) := by
  obtain ⟨hN, hS, hE, hz, h4, h4z, hT, hC, ⟨P, hK⟩, hZ, hp⟩ := id hI
  have hEs := zv_hE hI
  have hci := zv_ci hI
  have bj : n 2 < 2 ^ 31 := by
    have q := hN.2.2.1
    omega
  by_cases hx : zf_isIn x 0 (nI (n 2) - 1)
  · obtain ⟨j, hj, rfl⟩ := zf_isInO bj hx
    by_cases h : A 13 j = 111
    · by_cases h2 : A 7 j ≤ A 10 j
      · exact zv_ok (zv_start hI hj) (zl_start_f_n l D c a n A B E o f j hN hj h (fun z => z h2)) (zr_start_f l D c d n A B mk th j hN hj h h2) (by simp [zf_start, ze_sE, ze_sA, upd]) trivial (by decide)
      · exact zv_thr hI hz (zl_start_t3_n l D hst c a n A B E o f j hN hj h h2) (zr_start_t3 l D c d n A B mk th j hN hj h h2) (by decide) trivial (by decide)
    · exact zv_thr hI hz (zl_start_t2_n l D hst c a n A B E o f j hN hj h) (zr_start_t2 l D c d n A B mk th j hN hj h) (by decide) trivial (by decide)
  · exact zv_thr hI hz (zl_start_t1_n l D hst c a n A B E o f x hN hx) (zr_start_t1 l D c d n A B mk th x hN hx) (by decide) trivial (by decide)
theorem zw_startNext_n (hI : zv_I n A E mk) (hst : l.stackTraces = false) (x : Int32) : zv_O l D c a d n A B E mk th o f yL_startNext wsL_startNext_n yX9_startNext wsX9_startNext [.int x] (fun _ => True) := by
  obtain ⟨hN, hS, hE, hz, h4, h4z, hT, hC, ⟨P, hK⟩, hZ, hp⟩ := id hI
  have hEs := zv_hE hI
  have hci := zv_ci hI
  have bj : n 0 < 2 ^ 31 := by
    have q := hN.1
    omega
  by_cases hx : zf_isIn x 0 (nI (n 0) - 1)
  · obtain ⟨j, hj, rfl⟩ := zf_isInO bj hx
    have hnx : zf_nx A (E 0) (E 0 j) (n 2) = zf_nr A (zf_CI n A) (zf_CI n A j) (n 2) := by rw [hE, zf_nxE]
    cases hpk : zf_nr A (zf_CI n A) (zf_CI n A j) (n 2) with
    | none => exact zv_thr hI hci (zl_startNext_t2_n l D hst c a n A B E o f j hN hj hS (hnx.trans hpk)) (zr_startNext_t2 l D c d n A B mk th j hN hj hS hz hpk) (by decide) trivial (by decide)
    | some v => exact zv_ok (zv_mk (zv_start hI (zf_nrlt (Nat.le_refl _) hpk)) hci) (zl_startNext_f_n l D c a n A B E o f j hN hj hS v (hnx.trans hpk)) (zr_startNext_f l D c d n A B mk th j hN hj hS hz v hpk) rfl trivial (by decide)
  · exact zv_thr hI hz (zl_startNext_t1_n l D hst c a n A B E o f x hN hx) (zr_startNext_t1 l D c d n A B mk th x hN hx) (by decide) trivial (by decide)
theorem zw_toGo_n (hI : zv_I n A E mk) (hst : l.stackTraces = false) (x : Int32) : zv_O l D c a d n A B E mk th o f yL_toGo wsL_toGo_n yX9_toGo wsX9_toGo [.int x] (fun _ => True) := by
  obtain ⟨hN, hS, hE, hz, h4, h4z, hT, hC, ⟨P, hK⟩, hZ, hp⟩ := id hI
  have hEs := zv_hE hI
  have hci := zv_ci hI
  have bj : n 2 < 2 ^ 31 := by
    have q := hN.2.2.1
    omega
  by_cases hx : zf_isIn x 0 (nI (n 2) - 1)
  · obtain ⟨j, hj, rfl⟩ := zf_isInO bj hx
    by_cases h : A 13 j = 119
    · exact zv_ok hI (zl_toGo_f_n l D c a n A B E o f j hN hj h) (zr_toGo_f l D c d n A B mk th j hN hj h) rfl trivial (by decide)
    · exact zv_thr hI hz (zl_toGo_t2_n l D hst c a n A B E o f j hN hj h) (zr_toGo_t2 l D c d n A B mk th j hN hj h) (by decide) trivial (by decide)
  · exact zv_thr hI hz (zl_toGo_t1_n l D hst c a n A B E o f x hN hx) (zr_toGo_t1 l D c d n A B mk th x hN hx) (by decide) trivial (by decide)
theorem zw_waits_n (hI : zv_I n A E mk) (hst : l.stackTraces = false) (x : Int32) : zv_O l D c a d n A B E mk th o f yL_waits wsL_waits_n yX9_waits wsX9_waits [.int x] (fun _ => True) := by
  obtain ⟨hN, hS, hE, hz, h4, h4z, hT, hC, ⟨P, hK⟩, hZ, hp⟩ := id hI
  have hEs := zv_hE hI
  have hci := zv_ci hI
  have bj : n 4 < 2 ^ 31 := by
    have q := hN.2.2.2.2
    omega
  by_cases hx : zf_isIn x 0 (nI (n 4) - 1)
  · obtain ⟨j, hj, rfl⟩ := zf_isInO bj hx
    by_cases h : A 5 j = 0
    · exact zv_thr hI hz (zl_waits_t2_n l D hst c a n A B E o f j hN hj h) (zr_waits_t2 l D c d n A B mk th j hN hj h) (by decide) trivial (by decide)
    · exact zv_ok hI (zl_waits_f_n l D c a n A B E o f j hN hj h) (zr_waits_f l D c d n A B mk th j hN hj h) rfl trivial (by decide)
  · exact zv_thr hI hz (zl_waits_t1_n l D hst c a n A B E o f x hN hx) (zr_waits_t1 l D c d n A B mk th x hN hx) (by decide) trivial (by decide)
theorem zw_barrier_n (hI : zv_I n A E mk) (hst : l.stackTraces = false) (x : Int32) : zv_O l D c a d n A B E mk th o f yL_barrier wsL_barrier_n yX9_barrier wsX9_barrier [.int x] (fun _ => True) := by
  obtain ⟨hN, hS, hE, hz, h4, h4z, hT, hC, ⟨P, hK⟩, hZ, hp⟩ := id hI
  have hEs := zv_hE hI
  have hci := zv_ci hI
  have bj : n 4 < 2 ^ 31 := by
    have q := hN.2.2.2.2
    omega
  by_cases hx : zf_isIn x 0 (nI (n 4) - 1)
  · obtain ⟨j, hj, rfl⟩ := zf_isInO bj hx
    have key : zf_keepC n A (E 0) j (zf_bOf n A (E 0) (E 0 (ze_ix (A 19 j)))) ↔ zf_keeps n A (zf_CI n A) j := by
      rw [hE]
      exact zf_keepE rfl
    by_cases hk : zf_keeps n A (zf_CI n A) j
    · exact zv_thr hI hci (zl_barrier_t2_n l D hst c a n A B E o f j hN hj hS (key.mpr hk)) (zr_barrier_t2 l D c d n A B mk th j hN hj hS hz hk) (by decide) trivial (by decide)
    · exact zv_ok (zv_mk hI hci) (zl_barrier_f_n l D c a n A B E o f j hN hj hS (fun z => hk (key.mp z))) (zr_barrier_f l D c d n A B mk th j hN hj hS hz hk) (by rw [hE, zg_barrier hj hk]; rfl) trivial (by decide)
  · exact zv_thr hI hci (zl_barrier_t1_n l D hst c a n A B E o f x hN hx) (zr_barrier_t1 l D c d n A B mk th x hN hx hS hz) (by decide) trivial (by decide)
theorem zw_behind_n (hI : zv_I n A E mk) (hst : l.stackTraces = false) (x : Int32) : zv_O l D c a d n A B E mk th o f yL_behind wsL_behind_n yX9_behind wsX9_behind [.int x] (fun _ => True) := by
  obtain ⟨hN, hS, hE, hz, h4, h4z, hT, hC, ⟨P, hK⟩, hZ, hp⟩ := id hI
  have hEs := zv_hE hI
  have hci := zv_ci hI
  have bj : n 4 < 2 ^ 31 := by
    have q := hN.2.2.2.2
    omega
  by_cases hx : zf_isIn x 0 (nI (n 4) - 1)
  · obtain ⟨j, hj, rfl⟩ := zf_isInO bj hx
    have key : zf_keepC n A (E 0) j (zf_bOf n A (E 0) (E 0 (ze_ix (A 19 j)))) ↔ zf_keeps n A (zf_CI n A) j := by
      rw [hE]
      exact zf_keepE rfl
    by_cases hk : zf_keeps n A (zf_CI n A) j
    · exact zv_thr hI hci (zl_behind_t2_n l D hst c a n A B E o f j hN hj hS (key.mpr hk)) (zr_behind_t2 l D c d n A B mk th j hN hj hS hz hk) (by decide) trivial (by decide)
    · exact zv_ok (zv_mk hI hci) (zl_behind_f_n l D c a n A B E o f j hN hj hS (fun z => hk (key.mp z))) (zr_behind_f l D c d n A B mk th j hN hj hS hz hk) (by rw [hE, zg_behind hN hK.2.2.1 hj hk]) trivial (by decide)
  · exact zv_thr hI hci (zl_behind_t1_n l D hst c a n A B E o f x hN hx) (zr_behind_t1 l D c d n A B mk th x hN hx hS hz) (by decide) trivial (by decide)
theorem zw_share_n (hI : zv_I n A E mk) (hst : l.stackTraces = false) (x y z : Int32) : zv_O l D c a d n A B E mk th o f yL_share wsL_share_n yX9_share wsX9_share [.int x, .int y, .int z] (fun _ => True) := by
  obtain ⟨hN, hS, hE, hz, h4, h4z, hT, hC, ⟨P, hK⟩, hZ, hp⟩ := id hI
  have hEs := zv_hE hI
  have hci := zv_ci hI
  have bj : n 0 < 2 ^ 31 := by
    have q := hN.1
    omega
  by_cases hx : zf_isIn x 0 (nI (n 0) - 1)
  · obtain ⟨j, hj, rfl⟩ := zf_isInO bj hx
    have bk : n 2 < 2 ^ 31 := by
      have q := hN.2.2.1
      omega
    by_cases hzz : zf_isIn z 0 (nI (n 2) - 1)
    · obtain ⟨k, hk, rfl⟩ := zf_isInO bk hzz
      by_cases hy : zf_isIn y 0 1200
      · by_cases hrr : zf_runs A (zf_CI n A) k (zf_CI n A j)
        · obtain ⟨q, eq, -, lq⟩ := zv_rng (a := 0) (b := 1200) hy (by decide) (by decide)
          have hfit := zh_fit (io := zf_CI n A) (m := zf_CI n A j) (t := y) hN hK.1 eq (by omega)
          exact zv_ok (zv_E (zv_mk hI hci) (by rfl)) (zl_share_f_n l D c a n A B E o f j hN hj y k hk hS hy (by rw [hE]; exact hrr)) (zr_share_f l D c d n A B mk th j hN hj y k hk hS hz hy hrr) (by rw [hE, zg_share hN hK.1 hfit hk hrr]) trivial (by decide)
        · exact zv_thr hI hci (zl_share_t3_n l D hst c a n A B E o f j hN hj y k hk hS hy (by rw [hE]; exact hrr)) (zr_share_t3 l D c d n A B mk th j hN hj y k hk hS hz hy hrr) (by decide) trivial (by decide)
      · exact zv_thr hI hz (zl_share_t2_n l D hst c a n A B E o f j hN hj y k hk hy) (zr_share_t2 l D c d n A B mk th j hN hj y k hk hy) (by decide) trivial (by decide)
    · exact zv_thr hI hz (zl_share_t1b_n l D hst c a n A B E o f j hN hj y z hzz) (zr_share_t1b l D c d n A B mk th j hN hj y z hzz) (by decide) trivial (by decide)
  · exact zv_thr hI hz (zl_share_t1a_n l D hst c a n A B E o f x hN hx y z) (zr_share_t1a l D c d n A B mk th x y z hN hx) (by decide) trivial (by decide)
theorem zw_shareBySteps_n (hI : zv_I n A E mk) (hst : l.stackTraces = false) (x y z : Int32) : zv_O l D c a d n A B E mk th o f yL_shareBySteps wsL_shareBySteps_n yX9_shareBySteps wsX9_shareBySteps [.int x, .int y, .int z] (fun _ => True) := by
  obtain ⟨hN, hS, hE, hz, h4, h4z, hT, hC, ⟨P, hK⟩, hZ, hp⟩ := id hI
  have hEs := zv_hE hI
  have hci := zv_ci hI
  have bj : n 0 < 2 ^ 31 := by
    have q := hN.1
    omega
  by_cases hx : zf_isIn x 0 (nI (n 0) - 1)
  · obtain ⟨j, hj, rfl⟩ := zf_isInO bj hx
    have bk : n 2 < 2 ^ 31 := by
      have q := hN.2.2.1
      omega
    by_cases hzz : zf_isIn z 0 (nI (n 2) - 1)
    · obtain ⟨k, hk, rfl⟩ := zf_isInO bk hzz
      by_cases hy : zf_isIn y 0 1200
      · by_cases hrr : zf_runs A (zf_CI n A) k (zf_CI n A j)
        · obtain ⟨q, eq, -, lq⟩ := zv_rng (a := 0) (b := 1200) hy (by decide) (by decide)
          have hfit := zh_fit (io := zf_CI n A) (m := zf_CI n A j) (t := y) hN hK.1 eq (by omega)
          exact zv_ok (zv_E (zv_mk hI hci) (by rfl)) (zl_shareBySteps_f_n l D c a n A B E o f j hN hj y k hk hS hy (by rw [hE]; exact hrr)) (zr_shareBySteps_f l D c d n A B mk th j hN hj y k hk hS hz hy hrr) (by rw [hE, zg_shareS hK.1 hk hrr]) trivial (by decide)
        · exact zv_thr hI hci (zl_shareBySteps_t3_n l D hst c a n A B E o f j hN hj y k hk hS hy (by rw [hE]; exact hrr)) (zr_shareBySteps_t3 l D c d n A B mk th j hN hj y k hk hS hz hy hrr) (by decide) trivial (by decide)
      · exact zv_thr hI hz (zl_shareBySteps_t2_n l D hst c a n A B E o f j hN hj y k hk hy) (zr_shareBySteps_t2 l D c d n A B mk th j hN hj y k hk hy) (by decide) trivial (by decide)
    · exact zv_thr hI hz (zl_shareBySteps_t1b_n l D hst c a n A B E o f j hN hj y z hzz) (zr_shareBySteps_t1b l D c d n A B mk th j hN hj y z hzz) (by decide) trivial (by decide)
  · exact zv_thr hI hz (zl_shareBySteps_t1a_n l D hst c a n A B E o f x hN hx y z) (zr_shareBySteps_t1a l D c d n A B mk th x y z hN hx) (by decide) trivial (by decide)
end ZW
