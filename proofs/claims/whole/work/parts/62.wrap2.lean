set_option maxHeartbeats 4000000 in
set_option maxRecDepth 100000 in
theorem zl_litShare_t1 (l : Launch) (D : va_G) (hst : l.stackTraces = false) (c : Nat → ClassId) (a n : Nat → Nat) (A : Nat → Nat → Int32) (B : Nat → Int64) (E : Nat → Nat → Int32) (o : Nat) (f : Nat → UInt64)  (hN : zf_N n) (h : n 4 = 0) : ze_Q l yL_litShare wsL_litShare 7 102 1 6 D c ((ze_wC c a n A B E) ++ [(o, .inl (c 7, 1, .inr (.inr (.inr (.inl f)))))]) [.ref (a 0), .ref o] 1 ((ze_wC c a n A B E) ++ [(o, .inl (c 7, 1, .inr (.inr (.inr (.inl f)))))]) := by
  intro sz
  refine zq_start (cc := cL_litShare) (maxL := 3) (ret := (some .int)) (own := RL) (by decide) rfl rfl (Nat.le_of_ble_eq_true rfl) ?_
  obtain ⟨hn0, hn1, hn2, hn3, hn4⟩ := id hN
  intro p e s m_ below meth cd F ls hF hsz E0 hXB hNc htab
  obtain ⟨S, hr, hlocks, hK, hW, hA, hl⟩ := E0
  have hX_ := S.1
  have hB_ := S.2.1
  have hts := S.2.2.2.2
  have hl : lv_has ls 3 [(0, .ref (a 0)), (1, .ref o)] := hl
  have w0 := hts (.classLink RL 38 "java/util/NoSuchElementException") (List.mem_cons_of_mem _ (List.mem_append_left _ (List.mem_append_left _ (List.mem_append_left _ (List.mem_append_left _ (List.mem_of_getElem? (i := 0) rfl))))))
  refine lv_aload_n hX_ hB_ dL_litShare_0 rfl (lv_at hl 1 rfl) ?_
  refine lv_iconst (v := 0) hX_ hB_ dL_litShare_1 (by decide) ?_
  refine lv_aload_n hX_ hB_ dL_litShare_2 rfl (lv_at hl 0 rfl) ?_
  refine zx_FVc (As := []) (rest := [.int 0, .ref o]) (ci := 8) (q0 := 0) (k := (RX8, TX8, 8)) S (zt_litShare_t1 l D hst c a n A B E hN h) (cwV 0 hts gL_litShare_X8_litShare rfl rfl rfl (by decide +kernel) ⟨(Nat.le_of_ble_eq_true rfl), (Nat.le_of_ble_eq_true rfl)⟩) hK hW hXB hA rfl (ze_at0 0 rfl) rfl hl.1 rfl (lv_room (Nat.le_of_ble_eq_true rfl)) dL_litShare_3 ⟨(Nat.le_of_ble_eq_true rfl), (Nat.le_of_ble_eq_true rfl)⟩ [] ⟨0, 8, 11, 38⟩ [] htab (by intro z hz; cases hz) (by decide) (by decide) w0 (va_Nw.use rfl (hXB.2.2.2 _ (List.mem_of_getElem? (i := 6) rfl))) (fun q9 H locs hW => ?_)
  refine lv_astore_n (lv' := [(2, .ref q9), (0, .ref (a 0)), (1, .ref o)]) hX_ hB_ dL_litShare_11 rfl hl (by decide) rfl (fun ls hl => ?_)
  refine lv_iconst (v := 1) hX_ hB_ dL_litShare_12 (by decide) ?_
  exact ze_iret S hr hlocks hF hK hW rfl dL_litShare_13 (Nat.le_of_ble_eq_true rfl) (Nat.le_of_ble_eq_true rfl) rfl rfl
set_option maxHeartbeats 4000000 in
set_option maxRecDepth 100000 in
theorem zl_open_f (l : Launch) (D : va_G) (c : Nat → ClassId) (a n : Nat → Nat) (A : Nat → Nat → Int32) (B : Nat → Int64) (E : Nat → Nat → Int32) (o : Nat) (f : Nat → Int64)  (j : Nat) (hN : zf_N n) (hj : j < n 1) (hS : zf_S n A) (h4 : ¬ A 4 j = 0) : ze_Q l yL_open wsL_open 5 112 0 0 D c ((ze_wC c a n A B E) ++ [(o, .inl (c 6, 1, .inr (.inl f)))]) [.ref (a 0), .int (nI j), .ref o] 0 ((ze_wC c a n (ze_sE A 4 j 0) B (ze_sA (ze_sA E 0 ((zf_fi n (ze_sE A 4 j 0) (E 0) (E 1) (n 0)).1)) 1 ((zf_fi n (ze_sE A 4 j 0) (E 0) (E 1) (n 0)).2))) ++ [(o, .inl (c 6, 1, .inr (.inl (vp_updL f 0 ((zf_many ((zf_fi n (ze_sE A 4 j 0) (E 0) (E 1) (n 0)).1) (n 0)).toInt64)))))]) := by
  intro sz
  refine zq_start (cc := cL_open) (maxL := 4) (ret := (some .int)) (own := RL) (by decide) rfl rfl (Nat.le_of_ble_eq_true rfl) ?_
  obtain ⟨hn0, hn1, hn2, hn3, hn4⟩ := id hN
  intro p e s m_ below meth cd F ls hF hsz E0 hXB hNc htab
  obtain ⟨S, hr, hlocks, hK, hW, hA, hl⟩ := E0
  have hX_ := S.1
  have hB_ := S.2.1
  have hts := S.2.2.2.2
  have hl : lv_has ls 4 [(0, .ref (a 0)), (1, .int (nI j)), (2, .ref o)] := hl
  refine lv_aload_n hX_ hB_ dL_open_0 rfl (lv_at hl 2 rfl) ?_
  refine lv_iconst (v := 0) hX_ hB_ dL_open_1 (by decide) ?_
  refine lv_aload_n hX_ hB_ dL_open_2 rfl (lv_at hl 0 rfl) ?_
  refine lv_iload_n hX_ hB_ dL_open_3 rfl (lv_at hl 1 rfl) ?_
  refine ze_FVi (As := [.int (nI j)]) (rest := [.int 0, .ref o]) (ci := 8) (q0 := 0) (k := (RX8, TX8, 8)) S (zp_open_f l D c a n A B E j hN hj hS h4) (cwV 1 hts gL_open_X8_open rfl rfl rfl (by decide +kernel) ⟨Nat.le_of_ble_eq_true rfl, Nat.le_of_ble_eq_true rfl⟩) hK hW hA rfl (ze_at0 0 rfl) rfl hl.1 rfl (lv_room (Nat.le_of_ble_eq_true rfl)) dL_open_4 ⟨Nat.le_of_ble_eq_true rfl, Nat.le_of_ble_eq_true rfl⟩ (fun H locs hW => ?_)
  have hW : ze_W D ((ze_wC c a n (ze_sE A 4 j 0) B (ze_sA (ze_sA E 0 ((zf_fi n (ze_sE A 4 j 0) (E 0) (E 1) (n 0)).1)) 1 ((zf_fi n (ze_sE A 4 j 0) (E 0) (E 1) (n 0)).2))) ++ [(o, .inl (c 6, 1, .inr (.inl f)))]) F s.heap _ _ := hW
  refine lv_i2l (v := (zf_many ((zf_fi n (ze_sE A 4 j 0) (E 0) (E 1) (n 0)).1) (n 0)).toInt64) hX_ hB_ dL_open_7 rfl ?_
  refine ze_last hX_ hB_ hK hW ((ze_wC c a n (ze_sE A 4 j 0) B (ze_sA (ze_sA E 0 ((zf_fi n (ze_sE A 4 j 0) (E 0) (E 1) (n 0)).1)) 1 ((zf_fi n (ze_sE A 4 j 0) (E 0) (E 1) (n 0)).2))).length + 0) (i := 0) (ze_appL (k := 0) rfl) (by decide) (by decide) dL_open_8 (ze_appset rfl) (fun H locs hW => ?_)
  have hW : ze_W D ((ze_wC c a n (ze_sE A 4 j 0) B (ze_sA (ze_sA E 0 ((zf_fi n (ze_sE A 4 j 0) (E 0) (E 1) (n 0)).1)) 1 ((zf_fi n (ze_sE A 4 j 0) (E 0) (E 1) (n 0)).2))) ++ [(o, .inl (c 6, 1, .inr (.inl (vp_updL f 0 ((zf_many ((zf_fi n (ze_sE A 4 j 0) (E 0) (E 1) (n 0)).1) (n 0)).toInt64)))))]) F s.heap _ _ := hW
  refine lv_goto (tgt := 18) hX_ hB_ dL_open_9 (by decide) ?_
  refine lv_iconst (v := 0) hX_ hB_ dL_open_18 (by decide) ?_
  exact ze_iret S hr hlocks hF hK hW rfl dL_open_19 (Nat.le_of_ble_eq_true rfl) (Nat.le_of_ble_eq_true rfl) rfl rfl
set_option maxHeartbeats 4000000 in
set_option maxRecDepth 100000 in
theorem zl_open_t1 (l : Launch) (D : va_G) (hst : l.stackTraces = false) (c : Nat → ClassId) (a n : Nat → Nat) (A : Nat → Nat → Int32) (B : Nat → Int64) (E : Nat → Nat → Int32) (o : Nat) (f : Nat → Int64)  (x : Int32) (hN : zf_N n) (hx : ¬ zf_isIn x 0 (nI (n 1) - 1)) : ze_Q l yL_open wsL_open 8 124 1 6 D c ((ze_wC c a n A B E) ++ [(o, .inl (c 6, 1, .inr (.inl f)))]) [.ref (a 0), .int x, .ref o] 1 ((ze_wC c a n A B E) ++ [(o, .inl (c 6, 1, .inr (.inl f)))]) := by
  intro sz
  refine zq_start (cc := cL_open) (maxL := 4) (ret := (some .int)) (own := RL) (by decide) rfl rfl (Nat.le_of_ble_eq_true rfl) ?_
  obtain ⟨hn0, hn1, hn2, hn3, hn4⟩ := id hN
  intro p e s m_ below meth cd F ls hF hsz E0 hXB hNc htab
  obtain ⟨S, hr, hlocks, hK, hW, hA, hl⟩ := E0
  have hX_ := S.1
  have hB_ := S.2.1
  have hts := S.2.2.2.2
  have hl : lv_has ls 4 [(0, .ref (a 0)), (1, .int x), (2, .ref o)] := hl
  have w0 := hts (.classLink RL 19 "java/lang/IndexOutOfBoundsException") (List.mem_cons_of_mem _ (List.mem_append_left _ (List.mem_append_left _ (List.mem_append_left _ (List.mem_append_left _ (List.mem_append_left _ (List.mem_of_getElem? (i := 0) rfl)))))))
  refine lv_aload_n hX_ hB_ dL_open_0 rfl (lv_at hl 2 rfl) ?_
  refine lv_iconst (v := 0) hX_ hB_ dL_open_1 (by decide) ?_
  refine lv_aload_n hX_ hB_ dL_open_2 rfl (lv_at hl 0 rfl) ?_
  refine lv_iload_n hX_ hB_ dL_open_3 rfl (lv_at hl 1 rfl) ?_
  refine zx_FVc (As := [.int x]) (rest := [.int 0, .ref o]) (ci := 8) (q0 := 0) (k := (RX8, TX8, 8)) S (zt_open_t1 l D hst c a n A B E x hN hx) (cwV 1 hts gL_open_X8_open rfl rfl rfl (by decide +kernel) ⟨(Nat.le_of_ble_eq_true rfl), (Nat.le_of_ble_eq_true rfl)⟩) hK hW hXB hA rfl (ze_at0 0 rfl) rfl hl.1 rfl (lv_room (Nat.le_of_ble_eq_true rfl)) dL_open_4 ⟨(Nat.le_of_ble_eq_true rfl), (Nat.le_of_ble_eq_true rfl)⟩ [] ⟨0, 9, 12, 19⟩ [⟨0, 9, 15, 13⟩] htab (by intro z hz; cases hz) (by decide) (by decide) w0 (va_Nw.use rfl (hXB.2.2.2 _ (List.mem_of_getElem? (i := 7) rfl))) (fun q9 H locs hW => ?_)
  refine lv_astore_n (lv' := [(3, .ref q9), (0, .ref (a 0)), (1, .int x), (2, .ref o)]) hX_ hB_ dL_open_12 rfl hl (by decide) rfl (fun ls hl => ?_)
  refine lv_iconst (v := 1) hX_ hB_ dL_open_13 (by decide) ?_
  exact ze_iret S hr hlocks hF hK hW rfl dL_open_14 (Nat.le_of_ble_eq_true rfl) (Nat.le_of_ble_eq_true rfl) rfl rfl
set_option maxHeartbeats 4000000 in
set_option maxRecDepth 100000 in
theorem zl_open_t2 (l : Launch) (D : va_G) (hst : l.stackTraces = false) (c : Nat → ClassId) (a n : Nat → Nat) (A : Nat → Nat → Int32) (B : Nat → Int64) (E : Nat → Nat → Int32) (o : Nat) (f : Nat → Int64)  (j : Nat) (hN : zf_N n) (hj : j < n 1) (h4 : A 4 j = 0) : ze_Q l yL_open wsL_open 7 103 1 6 D c ((ze_wC c a n A B E) ++ [(o, .inl (c 6, 1, .inr (.inl f)))]) [.ref (a 0), .int (nI j), .ref o] 2 ((ze_wC c a n A B E) ++ [(o, .inl (c 6, 1, .inr (.inl f)))]) := by
  intro sz
  refine zq_start (cc := cL_open) (maxL := 4) (ret := (some .int)) (own := RL) (by decide) rfl rfl (Nat.le_of_ble_eq_true rfl) ?_
  obtain ⟨hn0, hn1, hn2, hn3, hn4⟩ := id hN
  intro p e s m_ below meth cd F ls hF hsz E0 hXB hNc htab
  obtain ⟨S, hr, hlocks, hK, hW, hA, hl⟩ := E0
  have hX_ := S.1
  have hB_ := S.2.1
  have hts := S.2.2.2.2
  have hl : lv_has ls 4 [(0, .ref (a 0)), (1, .int (nI j)), (2, .ref o)] := hl
  have w0 := hts (.classLink RL 19 "java/lang/IndexOutOfBoundsException") (List.mem_cons_of_mem _ (List.mem_append_left _ (List.mem_append_left _ (List.mem_append_left _ (List.mem_append_left _ (List.mem_append_left _ (List.mem_of_getElem? (i := 0) rfl)))))))
  have w1 := hts (.classLink RL 13 "java/lang/IllegalStateException") (List.mem_cons_of_mem _ (List.mem_append_left _ (List.mem_append_left _ (List.mem_append_left _ (List.mem_append_left _ (List.mem_append_left _ (List.mem_of_getElem? (i := 1) rfl)))))))
  refine lv_aload_n hX_ hB_ dL_open_0 rfl (lv_at hl 2 rfl) ?_
  refine lv_iconst (v := 0) hX_ hB_ dL_open_1 (by decide) ?_
  refine lv_aload_n hX_ hB_ dL_open_2 rfl (lv_at hl 0 rfl) ?_
  refine lv_iload_n hX_ hB_ dL_open_3 rfl (lv_at hl 1 rfl) ?_
  refine zx_FVc (As := [.int (nI j)]) (rest := [.int 0, .ref o]) (ci := 8) (q0 := 0) (k := (RX8, TX8, 8)) S (zt_open_t2 l D hst c a n A B E j hN hj h4) (cwV 1 hts gL_open_X8_open rfl rfl rfl (by decide +kernel) ⟨(Nat.le_of_ble_eq_true rfl), (Nat.le_of_ble_eq_true rfl)⟩) hK hW hXB hA rfl (ze_at0 0 rfl) rfl hl.1 rfl (lv_room (Nat.le_of_ble_eq_true rfl)) dL_open_4 ⟨(Nat.le_of_ble_eq_true rfl), (Nat.le_of_ble_eq_true rfl)⟩ [⟨0, 9, 12, 19⟩] ⟨0, 9, 15, 13⟩ [] htab (by
      intro z hz
      simp only [List.mem_cons, List.not_mem_nil, or_false] at hz
      rcases hz with rfl
      exact Or.inr ⟨by decide, "java/lang/IndexOutOfBoundsException", w0, hNc ("java/lang/IllegalStateException", "java/lang/IndexOutOfBoundsException") (by decide +kernel)⟩) (by decide) (by decide) w1 (va_Nw.use rfl (hXB.2.2.2 _ (List.mem_of_getElem? (i := 3) rfl))) (fun q9 H locs hW => ?_)
  refine lv_astore_n (lv' := [(3, .ref q9), (0, .ref (a 0)), (1, .int (nI j)), (2, .ref o)]) hX_ hB_ dL_open_15 rfl hl (by decide) rfl (fun ls hl => ?_)
  refine lv_iconst (v := 2) hX_ hB_ dL_open_16 (by decide) ?_
  exact ze_iret S hr hlocks hF hK hW rfl dL_open_17 (Nat.le_of_ble_eq_true rfl) (Nat.le_of_ble_eq_true rfl) rfl rfl
set_option maxHeartbeats 4000000 in
set_option maxRecDepth 100000 in
theorem zl_pass_f (l : Launch) (D : va_G) (c : Nat → ClassId) (a n : Nat → Nat) (A : Nat → Nat → Int32) (B : Nat → Int64) (E : Nat → Nat → Int32) (o : Nat) (f : Nat → Int64)  (t : Nat) (h1 : 1 ≤ t) (h2 : t ≤ 12) (hN : zf_N n) (hS : zf_S n A) : ze_Q l yL_pass wsL_pass 8 167 0 0 D c ((ze_wC c a n A B E) ++ [(o, .inl (c 6, 1, .inr (.inl f)))]) [.ref (a 0), .int (nI t), .ref o] 0 ((ze_wC c a n ((zf_ctks n A B E t).1) ((zf_ctks n A B E t).2.1) ((zf_ctks n A B E t).2.2)) ++ [(o, .inl (c 6, 1, .inr (.inl (vp_updL f 0 ((zf_lits ((zf_ctks n A B E t).1) (n 4)).toInt64)))))]) := by
  intro sz
  refine zq_start (cc := cL_pass) (maxL := 4) (ret := (some .int)) (own := RL) (by decide) rfl rfl (Nat.le_of_ble_eq_true rfl) ?_
  obtain ⟨hn0, hn1, hn2, hn3, hn4⟩ := id hN
  intro p e s m_ below meth cd F ls hF hsz E0 hXB hNc htab
  obtain ⟨S, hr, hlocks, hK, hW, hA, hl⟩ := E0
  have hX_ := S.1
  have hB_ := S.2.1
  have hts := S.2.2.2.2
  have hl : lv_has ls 4 [(0, .ref (a 0)), (1, .int (nI t)), (2, .ref o)] := hl
  refine lv_aload_n hX_ hB_ dL_pass_0 rfl (lv_at hl 2 rfl) ?_
  refine lv_iconst (v := 0) hX_ hB_ dL_pass_1 (by decide) ?_
  refine lv_aload_n hX_ hB_ dL_pass_2 rfl (lv_at hl 0 rfl) ?_
  refine lv_iload_n hX_ hB_ dL_pass_3 rfl (lv_at hl 1 rfl) ?_
  refine ze_FVi (As := [.int (nI t)]) (rest := [.int 0, .ref o]) (ci := 8) (q0 := 0) (k := (RX8, TX8, 8)) S (zp_pass_f l D c a n A B E t h1 h2 hN hS) (cwV 1 hts gL_pass_X8_pass rfl rfl rfl (by decide +kernel) ⟨Nat.le_of_ble_eq_true rfl, Nat.le_of_ble_eq_true rfl⟩) hK hW hA rfl (ze_at0 0 rfl) rfl hl.1 rfl (lv_room (Nat.le_of_ble_eq_true rfl)) dL_pass_4 ⟨Nat.le_of_ble_eq_true rfl, Nat.le_of_ble_eq_true rfl⟩ (fun H locs hW => ?_)
  have hW : ze_W D ((ze_wC c a n ((zf_ctks n A B E t).1) ((zf_ctks n A B E t).2.1) ((zf_ctks n A B E t).2.2)) ++ [(o, .inl (c 6, 1, .inr (.inl f)))]) F s.heap _ _ := hW
  refine lv_i2l (v := (zf_lits ((zf_ctks n A B E t).1) (n 4)).toInt64) hX_ hB_ dL_pass_7 rfl ?_
  refine ze_last hX_ hB_ hK hW ((ze_wC c a n ((zf_ctks n A B E t).1) ((zf_ctks n A B E t).2.1) ((zf_ctks n A B E t).2.2)).length + 0) (i := 0) (ze_appL (k := 0) rfl) (by decide) (by decide) dL_pass_8 (ze_appset rfl) (fun H locs hW => ?_)
  have hW : ze_W D ((ze_wC c a n ((zf_ctks n A B E t).1) ((zf_ctks n A B E t).2.1) ((zf_ctks n A B E t).2.2)) ++ [(o, .inl (c 6, 1, .inr (.inl (vp_updL f 0 ((zf_lits ((zf_ctks n A B E t).1) (n 4)).toInt64)))))]) F s.heap _ _ := hW
  refine lv_goto (tgt := 15) hX_ hB_ dL_pass_9 (by decide) ?_
  refine lv_iconst (v := 0) hX_ hB_ dL_pass_15 (by decide) ?_
  exact ze_iret S hr hlocks hF hK hW rfl dL_pass_16 (Nat.le_of_ble_eq_true rfl) (Nat.le_of_ble_eq_true rfl) rfl rfl
set_option maxHeartbeats 4000000 in
set_option maxRecDepth 100000 in
theorem zl_pass_t1 (l : Launch) (D : va_G) (hst : l.stackTraces = false) (c : Nat → ClassId) (a n : Nat → Nat) (A : Nat → Nat → Int32) (B : Nat → Int64) (E : Nat → Nat → Int32) (o : Nat) (f : Nat → Int64)  (x : Int32) (h : ¬ zf_isIn x 1 12) : ze_Q l yL_pass wsL_pass 8 126 1 6 D c ((ze_wC c a n A B E) ++ [(o, .inl (c 6, 1, .inr (.inl f)))]) [.ref (a 0), .int x, .ref o] 1 ((ze_wC c a n A B E) ++ [(o, .inl (c 6, 1, .inr (.inl f)))]) := by
  intro sz
  refine zq_start (cc := cL_pass) (maxL := 4) (ret := (some .int)) (own := RL) (by decide) rfl rfl (Nat.le_of_ble_eq_true rfl) ?_
  intro p e s m_ below meth cd F ls hF hsz E0 hXB hNc htab
  obtain ⟨S, hr, hlocks, hK, hW, hA, hl⟩ := E0
  have hX_ := S.1
  have hB_ := S.2.1
  have hts := S.2.2.2.2
  have hl : lv_has ls 4 [(0, .ref (a 0)), (1, .int x), (2, .ref o)] := hl
  have w0 := hts (.classLink RL 21 "java/lang/IllegalArgumentException") (List.mem_cons_of_mem _ (List.mem_append_left _ (List.mem_append_left _ (List.mem_append_left _ (List.mem_append_left _ (List.mem_append_left _ (List.mem_append_left _ (List.mem_append_left _ (List.mem_append_left _ (List.mem_append_left _ (List.mem_append_left _ (List.mem_append_left _ (List.mem_of_getElem? (i := 0) rfl)))))))))))))
  refine lv_aload_n hX_ hB_ dL_pass_0 rfl (lv_at hl 2 rfl) ?_
  refine lv_iconst (v := 0) hX_ hB_ dL_pass_1 (by decide) ?_
  refine lv_aload_n hX_ hB_ dL_pass_2 rfl (lv_at hl 0 rfl) ?_
  refine lv_iload_n hX_ hB_ dL_pass_3 rfl (lv_at hl 1 rfl) ?_
  refine zx_FVc (As := [.int x]) (rest := [.int 0, .ref o]) (ci := 8) (q0 := 0) (k := (RX8, TX8, 8)) S (zt_pass_t1 l D hst c a n A B E x h) (cwV 1 hts gL_pass_X8_pass rfl rfl rfl (by decide +kernel) ⟨(Nat.le_of_ble_eq_true rfl), (Nat.le_of_ble_eq_true rfl)⟩) hK hW hXB hA rfl (ze_at0 0 rfl) rfl hl.1 rfl (lv_room (Nat.le_of_ble_eq_true rfl)) dL_pass_4 ⟨(Nat.le_of_ble_eq_true rfl), (Nat.le_of_ble_eq_true rfl)⟩ [] ⟨0, 9, 12, 21⟩ [] htab (by intro z hz; cases hz) (by decide) (by decide) w0 (va_Nw.use rfl (hXB.2.2.2 _ (List.mem_of_getElem? (i := 4) rfl))) (fun q9 H locs hW => ?_)
  refine lv_astore_n (lv' := [(3, .ref q9), (0, .ref (a 0)), (1, .int x), (2, .ref o)]) hX_ hB_ dL_pass_12 rfl hl (by decide) rfl (fun ls hl => ?_)
  refine lv_iconst (v := 1) hX_ hB_ dL_pass_13 (by decide) ?_
  exact ze_iret S hr hlocks hF hK hW rfl dL_pass_14 (Nat.le_of_ble_eq_true rfl) (Nat.le_of_ble_eq_true rfl) rfl rfl
set_option maxHeartbeats 4000000 in
set_option maxRecDepth 100000 in
theorem zl_phase_f (l : Launch) (D : va_G) (c : Nat → ClassId) (a n : Nat → Nat) (A : Nat → Nat → Int32) (B : Nat → Int64) (E : Nat → Nat → Int32) (o : Nat) (f : Nat → Int64)  (j : Nat) (hN : zf_N n) (hj : j < n 0) (hE : ∀ x, zf_site n x → zf_site n (E 0 (ze_ix x))) : ze_Q l yL_phase wsL_phase 3 63 0 0 D c ((ze_wC c a n A B E) ++ [(o, .inl (c 6, 1, .inr (.inl f)))]) [.ref (a 0), .int (nI j), .ref o] 0 ((ze_wC c a n A B E) ++ [(o, .inl (c 6, 1, .inr (.inl (vp_updL f 0 ((if zf_tied A (E 0 j) then 0 else A 0 (ze_ix (E 0 j))).toInt64)))))]) := by
  intro sz
  refine zq_start (cc := cL_phase) (maxL := 4) (ret := (some .int)) (own := RL) (by decide) rfl rfl (Nat.le_of_ble_eq_true rfl) ?_
  obtain ⟨hn0, hn1, hn2, hn3, hn4⟩ := id hN
  intro p e s m_ below meth cd F ls hF hsz E0 hXB hNc htab
  obtain ⟨S, hr, hlocks, hK, hW, hA, hl⟩ := E0
  have hX_ := S.1
  have hB_ := S.2.1
  have hts := S.2.2.2.2
  have hl : lv_has ls 4 [(0, .ref (a 0)), (1, .int (nI j)), (2, .ref o)] := hl
  refine lv_aload_n hX_ hB_ dL_phase_0 rfl (lv_at hl 2 rfl) ?_
  refine lv_iconst (v := 0) hX_ hB_ dL_phase_1 (by decide) ?_
  refine lv_aload_n hX_ hB_ dL_phase_2 rfl (lv_at hl 0 rfl) ?_
  refine lv_iload_n hX_ hB_ dL_phase_3 rfl (lv_at hl 1 rfl) ?_
  refine ze_FVi (As := [.int (nI j)]) (rest := [.int 0, .ref o]) (ci := 8) (q0 := 0) (k := (RX8, TX8, 8)) S (zp_phase_f l D c a n A B E j hN hj hE) (cwV 1 hts gL_phase_X8_phase rfl rfl rfl (by decide +kernel) ⟨Nat.le_of_ble_eq_true rfl, Nat.le_of_ble_eq_true rfl⟩) hK hW hA rfl (ze_at0 0 rfl) rfl hl.1 rfl (lv_room (Nat.le_of_ble_eq_true rfl)) dL_phase_4 ⟨Nat.le_of_ble_eq_true rfl, Nat.le_of_ble_eq_true rfl⟩ (fun H locs hW => ?_)
  refine lv_i2l (v := (if zf_tied A (E 0 j) then 0 else A 0 (ze_ix (E 0 j))).toInt64) hX_ hB_ dL_phase_7 rfl ?_
  refine ze_last hX_ hB_ hK hW ((ze_wC c a n A B E).length + 0) (i := 0) (ze_appL (k := 0) rfl) (by decide) (by decide) dL_phase_8 (ze_appset rfl) (fun H locs hW => ?_)
  have hW : ze_W D ((ze_wC c a n A B E) ++ [(o, .inl (c 6, 1, .inr (.inl (vp_updL f 0 ((if zf_tied A (E 0 j) then 0 else A 0 (ze_ix (E 0 j))).toInt64)))))]) F s.heap _ _ := hW
  refine lv_goto (tgt := 15) hX_ hB_ dL_phase_9 (by decide) ?_
  refine lv_iconst (v := 0) hX_ hB_ dL_phase_15 (by decide) ?_
  exact ze_iret S hr hlocks hF hK hW rfl dL_phase_16 (Nat.le_of_ble_eq_true rfl) (Nat.le_of_ble_eq_true rfl) rfl rfl
set_option maxHeartbeats 4000000 in
set_option maxRecDepth 100000 in
theorem zl_phase_t1 (l : Launch) (D : va_G) (hst : l.stackTraces = false) (c : Nat → ClassId) (a n : Nat → Nat) (A : Nat → Nat → Int32) (B : Nat → Int64) (E : Nat → Nat → Int32) (o : Nat) (f : Nat → Int64)  (x : Int32) (hN : zf_N n) (hx : ¬ zf_isIn x 0 (nI (n 0) - 1)) : ze_Q l yL_phase wsL_phase 9 145 1 6 D c ((ze_wC c a n A B E) ++ [(o, .inl (c 6, 1, .inr (.inl f)))]) [.ref (a 0), .int x, .ref o] 1 ((ze_wC c a n A B E) ++ [(o, .inl (c 6, 1, .inr (.inl f)))]) := by
  intro sz
  refine zq_start (cc := cL_phase) (maxL := 4) (ret := (some .int)) (own := RL) (by decide) rfl rfl (Nat.le_of_ble_eq_true rfl) ?_
  obtain ⟨hn0, hn1, hn2, hn3, hn4⟩ := id hN
  intro p e s m_ below meth cd F ls hF hsz E0 hXB hNc htab
  obtain ⟨S, hr, hlocks, hK, hW, hA, hl⟩ := E0
  have hX_ := S.1
  have hB_ := S.2.1
  have hts := S.2.2.2.2
  have hl : lv_has ls 4 [(0, .ref (a 0)), (1, .int x), (2, .ref o)] := hl
  have w0 := hts (.classLink RL 19 "java/lang/IndexOutOfBoundsException") (List.mem_cons_of_mem _ (List.mem_append_left _ (List.mem_append_left _ (List.mem_append_left _ (List.mem_append_left _ (List.mem_of_getElem? (i := 0) rfl))))))
  refine lv_aload_n hX_ hB_ dL_phase_0 rfl (lv_at hl 2 rfl) ?_
  refine lv_iconst (v := 0) hX_ hB_ dL_phase_1 (by decide) ?_
  refine lv_aload_n hX_ hB_ dL_phase_2 rfl (lv_at hl 0 rfl) ?_
  refine lv_iload_n hX_ hB_ dL_phase_3 rfl (lv_at hl 1 rfl) ?_
  refine zx_FVc (As := [.int x]) (rest := [.int 0, .ref o]) (ci := 8) (q0 := 0) (k := (RX8, TX8, 8)) S (zt_phase_t1 l D hst c a n A B E x hN hx) (cwV 1 hts gL_phase_X8_phase rfl rfl rfl (by decide +kernel) ⟨(Nat.le_of_ble_eq_true rfl), (Nat.le_of_ble_eq_true rfl)⟩) hK hW hXB hA rfl (ze_at0 0 rfl) rfl hl.1 rfl (lv_room (Nat.le_of_ble_eq_true rfl)) dL_phase_4 ⟨(Nat.le_of_ble_eq_true rfl), (Nat.le_of_ble_eq_true rfl)⟩ [] ⟨0, 9, 12, 19⟩ [] htab (by intro z hz; cases hz) (by decide) (by decide) w0 (va_Nw.use rfl (hXB.2.2.2 _ (List.mem_of_getElem? (i := 7) rfl))) (fun q9 H locs hW => ?_)
  refine lv_astore_n (lv' := [(3, .ref q9), (0, .ref (a 0)), (1, .int x), (2, .ref o)]) hX_ hB_ dL_phase_12 rfl hl (by decide) rfl (fun ls hl => ?_)
  refine lv_iconst (v := 1) hX_ hB_ dL_phase_13 (by decide) ?_
  exact ze_iret S hr hlocks hF hK hW rfl dL_phase_14 (Nat.le_of_ble_eq_true rfl) (Nat.le_of_ble_eq_true rfl) rfl rfl
set_option maxHeartbeats 4000000 in
set_option maxRecDepth 100000 in
theorem zl_refuel_f (l : Launch) (D : va_G) (c : Nat → ClassId) (a n : Nat → Nat) (A : Nat → Nat → Int32) (B : Nat → Int64) (E : Nat → Nat → Int32) (o : Nat) (f : Nat → Int64)  (j : Nat) (hN : zf_N n) (hj : j < n 2) (y : Int32) (h : zf_isIn y 1 9999) (h2 : A 10 j + y ≤ 99999) : ze_Q l yL_refuel wsL_refuel 3 65 0 0 D c ((ze_wC c a n A B E) ++ [(o, .inl (c 6, 1, .inr (.inl f)))]) [.ref (a 0), .int (nI j), .int y, .ref o] 0 ((ze_wC c a n (ze_sE A 10 j (A 10 j + y)) B E) ++ [(o, .inl (c 6, 1, .inr (.inl (vp_updL f 0 ((A 10 j + y).toInt64)))))]) := by
  intro sz
  refine zq_start (cc := cL_refuel) (maxL := 5) (ret := (some .int)) (own := RL) (by decide) rfl rfl (Nat.le_of_ble_eq_true rfl) ?_
  obtain ⟨hn0, hn1, hn2, hn3, hn4⟩ := id hN
  intro p e s m_ below meth cd F ls hF hsz E0 hXB hNc htab
  obtain ⟨S, hr, hlocks, hK, hW, hA, hl⟩ := E0
  have hX_ := S.1
  have hB_ := S.2.1
  have hts := S.2.2.2.2
  have hl : lv_has ls 5 [(0, .ref (a 0)), (1, .int (nI j)), (2, .int y), (3, .ref o)] := hl
  refine lv_aload_n hX_ hB_ dL_refuel_0 rfl (lv_at hl 3 rfl) ?_
  refine lv_iconst (v := 0) hX_ hB_ dL_refuel_1 (by decide) ?_
  refine lv_aload_n hX_ hB_ dL_refuel_2 rfl (lv_at hl 0 rfl) ?_
  refine lv_iload_n hX_ hB_ dL_refuel_3 rfl (lv_at hl 1 rfl) ?_
  refine lv_iload_n hX_ hB_ dL_refuel_4 rfl (lv_at hl 2 rfl) ?_
  refine ze_FVi (As := [.int (nI j), .int y]) (rest := [.int 0, .ref o]) (ci := 8) (q0 := 0) (k := (RX8, TX8, 8)) S (zp_refuel_f l D c a n A B E j hN hj y h h2) (cwV 2 hts gL_refuel_X8_refuel rfl rfl rfl (by decide +kernel) ⟨Nat.le_of_ble_eq_true rfl, Nat.le_of_ble_eq_true rfl⟩) hK hW hA rfl (ze_at0 0 rfl) rfl hl.1 rfl (lv_room (Nat.le_of_ble_eq_true rfl)) dL_refuel_5 ⟨Nat.le_of_ble_eq_true rfl, Nat.le_of_ble_eq_true rfl⟩ (fun H locs hW => ?_)
  have hW : ze_W D ((ze_wC c a n (ze_sE A 10 j (A 10 j + y)) B E) ++ [(o, .inl (c 6, 1, .inr (.inl f)))]) F s.heap _ _ := hW
  refine lv_i2l (v := (A 10 j + y).toInt64) hX_ hB_ dL_refuel_8 rfl ?_
  refine ze_last hX_ hB_ hK hW ((ze_wC c a n (ze_sE A 10 j (A 10 j + y)) B E).length + 0) (i := 0) (ze_appL (k := 0) rfl) (by decide) (by decide) dL_refuel_9 (ze_appset rfl) (fun H locs hW => ?_)
  have hW : ze_W D ((ze_wC c a n (ze_sE A 10 j (A 10 j + y)) B E) ++ [(o, .inl (c 6, 1, .inr (.inl (vp_updL f 0 ((A 10 j + y).toInt64)))))]) F s.heap _ _ := hW
  refine lv_goto (tgt := 25) hX_ hB_ dL_refuel_10 (by decide) ?_
  refine lv_iconst (v := 0) hX_ hB_ dL_refuel_25 (by decide) ?_
  exact ze_iret S hr hlocks hF hK hW rfl dL_refuel_26 (Nat.le_of_ble_eq_true rfl) (Nat.le_of_ble_eq_true rfl) rfl rfl
set_option maxHeartbeats 4000000 in
set_option maxRecDepth 100000 in
theorem zl_refuel_t1 (l : Launch) (D : va_G) (hst : l.stackTraces = false) (c : Nat → ClassId) (a n : Nat → Nat) (A : Nat → Nat → Int32) (B : Nat → Int64) (E : Nat → Nat → Int32) (o : Nat) (f : Nat → Int64)  (x : Int32) (hN : zf_N n) (hx : ¬ zf_isIn x 0 (nI (n 2) - 1)) (y : Int32) : ze_Q l yL_refuel wsL_refuel 9 147 1 6 D c ((ze_wC c a n A B E) ++ [(o, .inl (c 6, 1, .inr (.inl f)))]) [.ref (a 0), .int x, .int y, .ref o] 1 ((ze_wC c a n A B E) ++ [(o, .inl (c 6, 1, .inr (.inl f)))]) := by
  intro sz
  refine zq_start (cc := cL_refuel) (maxL := 5) (ret := (some .int)) (own := RL) (by decide) rfl rfl (Nat.le_of_ble_eq_true rfl) ?_
  obtain ⟨hn0, hn1, hn2, hn3, hn4⟩ := id hN
  intro p e s m_ below meth cd F ls hF hsz E0 hXB hNc htab
  obtain ⟨S, hr, hlocks, hK, hW, hA, hl⟩ := E0
  have hX_ := S.1
  have hB_ := S.2.1
  have hts := S.2.2.2.2
  have hl : lv_has ls 5 [(0, .ref (a 0)), (1, .int x), (2, .int y), (3, .ref o)] := hl
  have w0 := hts (.classLink RL 19 "java/lang/IndexOutOfBoundsException") (List.mem_cons_of_mem _ (List.mem_append_left _ (List.mem_append_left _ (List.mem_append_left _ (List.mem_append_left _ (List.mem_append_left _ (List.mem_append_left _ (List.mem_append_left _ (List.mem_of_getElem? (i := 0) rfl)))))))))
  refine lv_aload_n hX_ hB_ dL_refuel_0 rfl (lv_at hl 3 rfl) ?_
  refine lv_iconst (v := 0) hX_ hB_ dL_refuel_1 (by decide) ?_
  refine lv_aload_n hX_ hB_ dL_refuel_2 rfl (lv_at hl 0 rfl) ?_
  refine lv_iload_n hX_ hB_ dL_refuel_3 rfl (lv_at hl 1 rfl) ?_
  refine lv_iload_n hX_ hB_ dL_refuel_4 rfl (lv_at hl 2 rfl) ?_
  refine zx_FVc (As := [.int x, .int y]) (rest := [.int 0, .ref o]) (ci := 8) (q0 := 0) (k := (RX8, TX8, 8)) S (zt_refuel_t1 l D hst c a n A B E x hN hx y) (cwV 2 hts gL_refuel_X8_refuel rfl rfl rfl (by decide +kernel) ⟨(Nat.le_of_ble_eq_true rfl), (Nat.le_of_ble_eq_true rfl)⟩) hK hW hXB hA rfl (ze_at0 0 rfl) rfl hl.1 rfl (lv_room (Nat.le_of_ble_eq_true rfl)) dL_refuel_5 ⟨(Nat.le_of_ble_eq_true rfl), (Nat.le_of_ble_eq_true rfl)⟩ [] ⟨0, 10, 13, 19⟩ [⟨0, 10, 17, 21⟩, ⟨0, 10, 21, 13⟩] htab (by intro z hz; cases hz) (by decide) (by decide) w0 (va_Nw.use rfl (hXB.2.2.2 _ (List.mem_of_getElem? (i := 7) rfl))) (fun q9 H locs hW => ?_)
  refine lv_astore (lv' := [(4, .ref q9), (0, .ref (a 0)), (1, .int x), (2, .int y), (3, .ref o)]) hX_ hB_ dL_refuel_13 hl (by decide) rfl (fun ls hl => ?_)
  refine lv_iconst (v := 1) hX_ hB_ dL_refuel_15 (by decide) ?_
  exact ze_iret S hr hlocks hF hK hW rfl dL_refuel_16 (Nat.le_of_ble_eq_true rfl) (Nat.le_of_ble_eq_true rfl) rfl rfl
set_option maxHeartbeats 4000000 in
set_option maxRecDepth 100000 in
theorem zl_refuel_t2 (l : Launch) (D : va_G) (hst : l.stackTraces = false) (c : Nat → ClassId) (a n : Nat → Nat) (A : Nat → Nat → Int32) (B : Nat → Int64) (E : Nat → Nat → Int32) (o : Nat) (f : Nat → Int64)  (j : Nat) (hN : zf_N n) (hj : j < n 2) (y : Int32) (h : ¬ zf_isIn y 1 9999) : ze_Q l yL_refuel wsL_refuel 8 127 1 6 D c ((ze_wC c a n A B E) ++ [(o, .inl (c 6, 1, .inr (.inl f)))]) [.ref (a 0), .int (nI j), .int y, .ref o] 2 ((ze_wC c a n A B E) ++ [(o, .inl (c 6, 1, .inr (.inl f)))]) := by
  intro sz
  refine zq_start (cc := cL_refuel) (maxL := 5) (ret := (some .int)) (own := RL) (by decide) rfl rfl (Nat.le_of_ble_eq_true rfl) ?_
  obtain ⟨hn0, hn1, hn2, hn3, hn4⟩ := id hN
  intro p e s m_ below meth cd F ls hF hsz E0 hXB hNc htab
  obtain ⟨S, hr, hlocks, hK, hW, hA, hl⟩ := E0
  have hX_ := S.1
  have hB_ := S.2.1
  have hts := S.2.2.2.2
  have hl : lv_has ls 5 [(0, .ref (a 0)), (1, .int (nI j)), (2, .int y), (3, .ref o)] := hl
  have w0 := hts (.classLink RL 19 "java/lang/IndexOutOfBoundsException") (List.mem_cons_of_mem _ (List.mem_append_left _ (List.mem_append_left _ (List.mem_append_left _ (List.mem_append_left _ (List.mem_append_left _ (List.mem_append_left _ (List.mem_append_left _ (List.mem_of_getElem? (i := 0) rfl)))))))))
  have w1 := hts (.classLink RL 21 "java/lang/IllegalArgumentException") (List.mem_cons_of_mem _ (List.mem_append_left _ (List.mem_append_left _ (List.mem_append_left _ (List.mem_append_left _ (List.mem_append_left _ (List.mem_append_left _ (List.mem_append_left _ (List.mem_of_getElem? (i := 1) rfl)))))))))
  refine lv_aload_n hX_ hB_ dL_refuel_0 rfl (lv_at hl 3 rfl) ?_
  refine lv_iconst (v := 0) hX_ hB_ dL_refuel_1 (by decide) ?_
  refine lv_aload_n hX_ hB_ dL_refuel_2 rfl (lv_at hl 0 rfl) ?_
  refine lv_iload_n hX_ hB_ dL_refuel_3 rfl (lv_at hl 1 rfl) ?_
  refine lv_iload_n hX_ hB_ dL_refuel_4 rfl (lv_at hl 2 rfl) ?_
  refine zx_FVc (As := [.int (nI j), .int y]) (rest := [.int 0, .ref o]) (ci := 8) (q0 := 0) (k := (RX8, TX8, 8)) S (zt_refuel_t2 l D hst c a n A B E j hN hj y h) (cwV 2 hts gL_refuel_X8_refuel rfl rfl rfl (by decide +kernel) ⟨(Nat.le_of_ble_eq_true rfl), (Nat.le_of_ble_eq_true rfl)⟩) hK hW hXB hA rfl (ze_at0 0 rfl) rfl hl.1 rfl (lv_room (Nat.le_of_ble_eq_true rfl)) dL_refuel_5 ⟨(Nat.le_of_ble_eq_true rfl), (Nat.le_of_ble_eq_true rfl)⟩ [⟨0, 10, 13, 19⟩] ⟨0, 10, 17, 21⟩ [⟨0, 10, 21, 13⟩] htab (by
      intro z hz
      simp only [List.mem_cons, List.not_mem_nil, or_false] at hz
      rcases hz with rfl
      exact Or.inr ⟨by decide, "java/lang/IndexOutOfBoundsException", w0, hNc ("java/lang/IllegalArgumentException", "java/lang/IndexOutOfBoundsException") (by decide +kernel)⟩) (by decide) (by decide) w1 (va_Nw.use rfl (hXB.2.2.2 _ (List.mem_of_getElem? (i := 4) rfl))) (fun q9 H locs hW => ?_)
  refine lv_astore (lv' := [(4, .ref q9), (0, .ref (a 0)), (1, .int (nI j)), (2, .int y), (3, .ref o)]) hX_ hB_ dL_refuel_17 hl (by decide) rfl (fun ls hl => ?_)
  refine lv_iconst (v := 2) hX_ hB_ dL_refuel_19 (by decide) ?_
  exact ze_iret S hr hlocks hF hK hW rfl dL_refuel_20 (Nat.le_of_ble_eq_true rfl) (Nat.le_of_ble_eq_true rfl) rfl rfl
set_option maxHeartbeats 4000000 in
set_option maxRecDepth 100000 in
theorem zl_refuel_t3 (l : Launch) (D : va_G) (hst : l.stackTraces = false) (c : Nat → ClassId) (a n : Nat → Nat) (A : Nat → Nat → Int32) (B : Nat → Int64) (E : Nat → Nat → Int32) (o : Nat) (f : Nat → Int64)  (j : Nat) (hN : zf_N n) (hj : j < n 2) (y : Int32) (h : zf_isIn y 1 9999) (h2 : ¬ A 10 j + y ≤ 99999) : ze_Q l yL_refuel wsL_refuel 7 105 1 6 D c ((ze_wC c a n A B E) ++ [(o, .inl (c 6, 1, .inr (.inl f)))]) [.ref (a 0), .int (nI j), .int y, .ref o] 3 ((ze_wC c a n A B E) ++ [(o, .inl (c 6, 1, .inr (.inl f)))]) := by
  intro sz
  refine zq_start (cc := cL_refuel) (maxL := 5) (ret := (some .int)) (own := RL) (by decide) rfl rfl (Nat.le_of_ble_eq_true rfl) ?_
  obtain ⟨hn0, hn1, hn2, hn3, hn4⟩ := id hN
  intro p e s m_ below meth cd F ls hF hsz E0 hXB hNc htab
  obtain ⟨S, hr, hlocks, hK, hW, hA, hl⟩ := E0
  have hX_ := S.1
  have hB_ := S.2.1
  have hts := S.2.2.2.2
  have hl : lv_has ls 5 [(0, .ref (a 0)), (1, .int (nI j)), (2, .int y), (3, .ref o)] := hl
  have w0 := hts (.classLink RL 19 "java/lang/IndexOutOfBoundsException") (List.mem_cons_of_mem _ (List.mem_append_left _ (List.mem_append_left _ (List.mem_append_left _ (List.mem_append_left _ (List.mem_append_left _ (List.mem_append_left _ (List.mem_append_left _ (List.mem_of_getElem? (i := 0) rfl)))))))))
  have w1 := hts (.classLink RL 21 "java/lang/IllegalArgumentException") (List.mem_cons_of_mem _ (List.mem_append_left _ (List.mem_append_left _ (List.mem_append_left _ (List.mem_append_left _ (List.mem_append_left _ (List.mem_append_left _ (List.mem_append_left _ (List.mem_of_getElem? (i := 1) rfl)))))))))
  have w2 := hts (.classLink RL 13 "java/lang/IllegalStateException") (List.mem_cons_of_mem _ (List.mem_append_left _ (List.mem_append_left _ (List.mem_append_left _ (List.mem_append_left _ (List.mem_append_left _ (List.mem_append_left _ (List.mem_append_left _ (List.mem_of_getElem? (i := 2) rfl)))))))))
  refine lv_aload_n hX_ hB_ dL_refuel_0 rfl (lv_at hl 3 rfl) ?_
  refine lv_iconst (v := 0) hX_ hB_ dL_refuel_1 (by decide) ?_
  refine lv_aload_n hX_ hB_ dL_refuel_2 rfl (lv_at hl 0 rfl) ?_
  refine lv_iload_n hX_ hB_ dL_refuel_3 rfl (lv_at hl 1 rfl) ?_
  refine lv_iload_n hX_ hB_ dL_refuel_4 rfl (lv_at hl 2 rfl) ?_
  refine zx_FVc (As := [.int (nI j), .int y]) (rest := [.int 0, .ref o]) (ci := 8) (q0 := 0) (k := (RX8, TX8, 8)) S (zt_refuel_t3 l D hst c a n A B E j hN hj y h h2) (cwV 2 hts gL_refuel_X8_refuel rfl rfl rfl (by decide +kernel) ⟨(Nat.le_of_ble_eq_true rfl), (Nat.le_of_ble_eq_true rfl)⟩) hK hW hXB hA rfl (ze_at0 0 rfl) rfl hl.1 rfl (lv_room (Nat.le_of_ble_eq_true rfl)) dL_refuel_5 ⟨(Nat.le_of_ble_eq_true rfl), (Nat.le_of_ble_eq_true rfl)⟩ [⟨0, 10, 13, 19⟩, ⟨0, 10, 17, 21⟩] ⟨0, 10, 21, 13⟩ [] htab (by
      intro z hz
      simp only [List.mem_cons, List.not_mem_nil, or_false] at hz
      rcases hz with rfl | rfl
      · exact Or.inr ⟨by decide, "java/lang/IndexOutOfBoundsException", w0, hNc ("java/lang/IllegalStateException", "java/lang/IndexOutOfBoundsException") (by decide +kernel)⟩
      · exact Or.inr ⟨by decide, "java/lang/IllegalArgumentException", w1, hNc ("java/lang/IllegalStateException", "java/lang/IllegalArgumentException") (by decide +kernel)⟩) (by decide) (by decide) w2 (va_Nw.use rfl (hXB.2.2.2 _ (List.mem_of_getElem? (i := 3) rfl))) (fun q9 H locs hW => ?_)
  refine lv_astore (lv' := [(4, .ref q9), (0, .ref (a 0)), (1, .int (nI j)), (2, .int y), (3, .ref o)]) hX_ hB_ dL_refuel_21 hl (by decide) rfl (fun ls hl => ?_)
  refine lv_iconst (v := 3) hX_ hB_ dL_refuel_23 (by decide) ?_
  exact ze_iret S hr hlocks hF hK hW rfl dL_refuel_24 (Nat.le_of_ble_eq_true rfl) (Nat.le_of_ble_eq_true rfl) rfl rfl
set_option maxHeartbeats 4000000 in
set_option maxRecDepth 100000 in
theorem zl_setDelay_f (l : Launch) (D : va_G) (c : Nat → ClassId) (a n : Nat → Nat) (A : Nat → Nat → Int32) (B : Nat → Int64) (E : Nat → Nat → Int32) (o : Nat) (f : Nat → Int64)  (y : Int32) (h : zf_isIn y 0 9) : ze_Q l yL_setDelay wsL_setDelay 2 44 0 0 D c ((ze_wC c a n A B E) ++ [(o, .inl (c 6, 1, .inr (.inl f)))]) [.ref (a 0), .int y, .ref o] 0 ((ze_wC c a n (ze_sC A 29 y) B E) ++ [(o, .inl (c 6, 1, .inr (.inl (vp_updL f 0 ((A 29 0).toInt64)))))]) := by
  intro sz
  refine zq_start (cc := cL_setDelay) (maxL := 4) (ret := (some .int)) (own := RL) (by decide) rfl rfl (Nat.le_of_ble_eq_true rfl) ?_
  intro p e s m_ below meth cd F ls hF hsz E0 hXB hNc htab
  obtain ⟨S, hr, hlocks, hK, hW, hA, hl⟩ := E0
  have hX_ := S.1
  have hB_ := S.2.1
  have hts := S.2.2.2.2
  have hl : lv_has ls 4 [(0, .ref (a 0)), (1, .int y), (2, .ref o)] := hl
  refine lv_aload_n hX_ hB_ dL_setDelay_0 rfl (lv_at hl 2 rfl) ?_
  refine lv_iconst (v := 0) hX_ hB_ dL_setDelay_1 (by decide) ?_
  refine lv_aload_n hX_ hB_ dL_setDelay_2 rfl (lv_at hl 0 rfl) ?_
  refine lv_iload_n hX_ hB_ dL_setDelay_3 rfl (lv_at hl 1 rfl) ?_
  refine ze_FVi (As := [.int y]) (rest := [.int 0, .ref o]) (ci := 8) (q0 := 0) (k := (RX8, TX8, 8)) S (zp_setDelay_f l D c a n A B E y h) (cwV 1 hts gL_setDelay_X8_setDelay rfl rfl rfl (by decide +kernel) ⟨Nat.le_of_ble_eq_true rfl, Nat.le_of_ble_eq_true rfl⟩) hK hW hA rfl (ze_at0 0 rfl) rfl hl.1 rfl (lv_room (Nat.le_of_ble_eq_true rfl)) dL_setDelay_4 ⟨Nat.le_of_ble_eq_true rfl, Nat.le_of_ble_eq_true rfl⟩ (fun H locs hW => ?_)
  have hW : ze_W D ((ze_wC c a n (ze_sC A 29 y) B E) ++ [(o, .inl (c 6, 1, .inr (.inl f)))]) F s.heap _ _ := hW
  refine lv_i2l (v := (A 29 0).toInt64) hX_ hB_ dL_setDelay_7 rfl ?_
  refine ze_last hX_ hB_ hK hW ((ze_wC c a n (ze_sC A 29 y) B E).length + 0) (i := 0) (ze_appL (k := 0) rfl) (by decide) (by decide) dL_setDelay_8 (ze_appset rfl) (fun H locs hW => ?_)
  have hW : ze_W D ((ze_wC c a n (ze_sC A 29 y) B E) ++ [(o, .inl (c 6, 1, .inr (.inl (vp_updL f 0 ((A 29 0).toInt64)))))]) F s.heap _ _ := hW
  refine lv_goto (tgt := 15) hX_ hB_ dL_setDelay_9 (by decide) ?_
  refine lv_iconst (v := 0) hX_ hB_ dL_setDelay_15 (by decide) ?_
  exact ze_iret S hr hlocks hF hK hW rfl dL_setDelay_16 (Nat.le_of_ble_eq_true rfl) (Nat.le_of_ble_eq_true rfl) rfl rfl
set_option maxHeartbeats 4000000 in
set_option maxRecDepth 100000 in
theorem zl_setDelay_t1 (l : Launch) (D : va_G) (hst : l.stackTraces = false) (c : Nat → ClassId) (a n : Nat → Nat) (A : Nat → Nat → Int32) (B : Nat → Int64) (E : Nat → Nat → Int32) (o : Nat) (f : Nat → Int64)  (y : Int32) (h : ¬ zf_isIn y 0 9) : ze_Q l yL_setDelay wsL_setDelay 8 126 1 6 D c ((ze_wC c a n A B E) ++ [(o, .inl (c 6, 1, .inr (.inl f)))]) [.ref (a 0), .int y, .ref o] 1 ((ze_wC c a n A B E) ++ [(o, .inl (c 6, 1, .inr (.inl f)))]) := by
  intro sz
  refine zq_start (cc := cL_setDelay) (maxL := 4) (ret := (some .int)) (own := RL) (by decide) rfl rfl (Nat.le_of_ble_eq_true rfl) ?_
  intro p e s m_ below meth cd F ls hF hsz E0 hXB hNc htab
  obtain ⟨S, hr, hlocks, hK, hW, hA, hl⟩ := E0
  have hX_ := S.1
  have hB_ := S.2.1
  have hts := S.2.2.2.2
  have hl : lv_has ls 4 [(0, .ref (a 0)), (1, .int y), (2, .ref o)] := hl
  have w0 := hts (.classLink RL 21 "java/lang/IllegalArgumentException") (List.mem_cons_of_mem _ (List.mem_append_left _ (List.mem_append_left _ (List.mem_of_getElem? (i := 0) rfl))))
  refine lv_aload_n hX_ hB_ dL_setDelay_0 rfl (lv_at hl 2 rfl) ?_
  refine lv_iconst (v := 0) hX_ hB_ dL_setDelay_1 (by decide) ?_
  refine lv_aload_n hX_ hB_ dL_setDelay_2 rfl (lv_at hl 0 rfl) ?_
  refine lv_iload_n hX_ hB_ dL_setDelay_3 rfl (lv_at hl 1 rfl) ?_
  refine zx_FVc (As := [.int y]) (rest := [.int 0, .ref o]) (ci := 8) (q0 := 0) (k := (RX8, TX8, 8)) S (zt_setDelay_t1 l D hst c a n A B E y h) (cwV 1 hts gL_setDelay_X8_setDelay rfl rfl rfl (by decide +kernel) ⟨(Nat.le_of_ble_eq_true rfl), (Nat.le_of_ble_eq_true rfl)⟩) hK hW hXB hA rfl (ze_at0 0 rfl) rfl hl.1 rfl (lv_room (Nat.le_of_ble_eq_true rfl)) dL_setDelay_4 ⟨(Nat.le_of_ble_eq_true rfl), (Nat.le_of_ble_eq_true rfl)⟩ [] ⟨0, 9, 12, 21⟩ [] htab (by intro z hz; cases hz) (by decide) (by decide) w0 (va_Nw.use rfl (hXB.2.2.2 _ (List.mem_of_getElem? (i := 4) rfl))) (fun q9 H locs hW => ?_)
  refine lv_astore_n (lv' := [(3, .ref q9), (0, .ref (a 0)), (1, .int y), (2, .ref o)]) hX_ hB_ dL_setDelay_12 rfl hl (by decide) rfl (fun ls hl => ?_)
  refine lv_iconst (v := 1) hX_ hB_ dL_setDelay_13 (by decide) ?_
  exact ze_iret S hr hlocks hF hK hW rfl dL_setDelay_14 (Nat.le_of_ble_eq_true rfl) (Nat.le_of_ble_eq_true rfl) rfl rfl
set_option maxHeartbeats 4000000 in
set_option maxRecDepth 100000 in
theorem zl_setPhase_f (l : Launch) (D : va_G) (c : Nat → ClassId) (a n : Nat → Nat) (A : Nat → Nat → Int32) (B : Nat → Int64) (E : Nat → Nat → Int32) (o : Nat) (f : Nat → Int64)  (j : Nat) (hN : zf_N n) (hj : j < n 0) (y : Int32) (hy : zf_isIn y 0 359) : ze_Q l yL_setPhase wsL_setPhase 3 65 0 0 D c ((ze_wC c a n A B E) ++ [(o, .inl (c 6, 1, .inr (.inl f)))]) [.ref (a 0), .int (nI j), .int y, .ref o] 0 ((ze_wC c a n (ze_sE A 0 j y) B E) ++ [(o, .inl (c 6, 1, .inr (.inl (vp_updL f 0 ((A 0 j).toInt64)))))]) := by
  intro sz
  refine zq_start (cc := cL_setPhase) (maxL := 5) (ret := (some .int)) (own := RL) (by decide) rfl rfl (Nat.le_of_ble_eq_true rfl) ?_
  obtain ⟨hn0, hn1, hn2, hn3, hn4⟩ := id hN
  intro p e s m_ below meth cd F ls hF hsz E0 hXB hNc htab
  obtain ⟨S, hr, hlocks, hK, hW, hA, hl⟩ := E0
  have hX_ := S.1
  have hB_ := S.2.1
  have hts := S.2.2.2.2
  have hl : lv_has ls 5 [(0, .ref (a 0)), (1, .int (nI j)), (2, .int y), (3, .ref o)] := hl
  refine lv_aload_n hX_ hB_ dL_setPhase_0 rfl (lv_at hl 3 rfl) ?_
  refine lv_iconst (v := 0) hX_ hB_ dL_setPhase_1 (by decide) ?_
  refine lv_aload_n hX_ hB_ dL_setPhase_2 rfl (lv_at hl 0 rfl) ?_
  refine lv_iload_n hX_ hB_ dL_setPhase_3 rfl (lv_at hl 1 rfl) ?_
  refine lv_iload_n hX_ hB_ dL_setPhase_4 rfl (lv_at hl 2 rfl) ?_
  refine ze_FVi (As := [.int (nI j), .int y]) (rest := [.int 0, .ref o]) (ci := 8) (q0 := 0) (k := (RX8, TX8, 8)) S (zp_setPhase_f l D c a n A B E j hN hj y hy) (cwV 2 hts gL_setPhase_X8_setPhase rfl rfl rfl (by decide +kernel) ⟨Nat.le_of_ble_eq_true rfl, Nat.le_of_ble_eq_true rfl⟩) hK hW hA rfl (ze_at0 0 rfl) rfl hl.1 rfl (lv_room (Nat.le_of_ble_eq_true rfl)) dL_setPhase_5 ⟨Nat.le_of_ble_eq_true rfl, Nat.le_of_ble_eq_true rfl⟩ (fun H locs hW => ?_)
  have hW : ze_W D ((ze_wC c a n (ze_sE A 0 j y) B E) ++ [(o, .inl (c 6, 1, .inr (.inl f)))]) F s.heap _ _ := hW
  refine lv_i2l (v := (A 0 j).toInt64) hX_ hB_ dL_setPhase_8 rfl ?_
  refine ze_last hX_ hB_ hK hW ((ze_wC c a n (ze_sE A 0 j y) B E).length + 0) (i := 0) (ze_appL (k := 0) rfl) (by decide) (by decide) dL_setPhase_9 (ze_appset rfl) (fun H locs hW => ?_)
  have hW : ze_W D ((ze_wC c a n (ze_sE A 0 j y) B E) ++ [(o, .inl (c 6, 1, .inr (.inl (vp_updL f 0 ((A 0 j).toInt64)))))]) F s.heap _ _ := hW
  refine lv_goto (tgt := 21) hX_ hB_ dL_setPhase_10 (by decide) ?_
  refine lv_iconst (v := 0) hX_ hB_ dL_setPhase_21 (by decide) ?_
  exact ze_iret S hr hlocks hF hK hW rfl dL_setPhase_22 (Nat.le_of_ble_eq_true rfl) (Nat.le_of_ble_eq_true rfl) rfl rfl
set_option maxHeartbeats 4000000 in
set_option maxRecDepth 100000 in
theorem zl_setPhase_t1 (l : Launch) (D : va_G) (hst : l.stackTraces = false) (c : Nat → ClassId) (a n : Nat → Nat) (A : Nat → Nat → Int32) (B : Nat → Int64) (E : Nat → Nat → Int32) (o : Nat) (f : Nat → Int64)  (x : Int32) (hN : zf_N n) (hx : ¬ zf_isIn x 0 (nI (n 0) - 1)) (y : Int32) : ze_Q l yL_setPhase wsL_setPhase 9 147 1 6 D c ((ze_wC c a n A B E) ++ [(o, .inl (c 6, 1, .inr (.inl f)))]) [.ref (a 0), .int x, .int y, .ref o] 1 ((ze_wC c a n A B E) ++ [(o, .inl (c 6, 1, .inr (.inl f)))]) := by
  intro sz
  refine zq_start (cc := cL_setPhase) (maxL := 5) (ret := (some .int)) (own := RL) (by decide) rfl rfl (Nat.le_of_ble_eq_true rfl) ?_
  obtain ⟨hn0, hn1, hn2, hn3, hn4⟩ := id hN
  intro p e s m_ below meth cd F ls hF hsz E0 hXB hNc htab
  obtain ⟨S, hr, hlocks, hK, hW, hA, hl⟩ := E0
  have hX_ := S.1
  have hB_ := S.2.1
  have hts := S.2.2.2.2
  have hl : lv_has ls 5 [(0, .ref (a 0)), (1, .int x), (2, .int y), (3, .ref o)] := hl
  have w0 := hts (.classLink RL 19 "java/lang/IndexOutOfBoundsException") (List.mem_cons_of_mem _ (List.mem_append_left _ (List.mem_append_left _ (List.mem_append_left _ (List.mem_append_left _ (List.mem_of_getElem? (i := 0) rfl))))))
  refine lv_aload_n hX_ hB_ dL_setPhase_0 rfl (lv_at hl 3 rfl) ?_
  refine lv_iconst (v := 0) hX_ hB_ dL_setPhase_1 (by decide) ?_
  refine lv_aload_n hX_ hB_ dL_setPhase_2 rfl (lv_at hl 0 rfl) ?_
  refine lv_iload_n hX_ hB_ dL_setPhase_3 rfl (lv_at hl 1 rfl) ?_
  refine lv_iload_n hX_ hB_ dL_setPhase_4 rfl (lv_at hl 2 rfl) ?_
  refine zx_FVc (As := [.int x, .int y]) (rest := [.int 0, .ref o]) (ci := 8) (q0 := 0) (k := (RX8, TX8, 8)) S (zt_setPhase_t1 l D hst c a n A B E x hN hx y) (cwV 2 hts gL_setPhase_X8_setPhase rfl rfl rfl (by decide +kernel) ⟨(Nat.le_of_ble_eq_true rfl), (Nat.le_of_ble_eq_true rfl)⟩) hK hW hXB hA rfl (ze_at0 0 rfl) rfl hl.1 rfl (lv_room (Nat.le_of_ble_eq_true rfl)) dL_setPhase_5 ⟨(Nat.le_of_ble_eq_true rfl), (Nat.le_of_ble_eq_true rfl)⟩ [] ⟨0, 10, 13, 19⟩ [⟨0, 10, 17, 21⟩] htab (by intro z hz; cases hz) (by decide) (by decide) w0 (va_Nw.use rfl (hXB.2.2.2 _ (List.mem_of_getElem? (i := 7) rfl))) (fun q9 H locs hW => ?_)
  refine lv_astore (lv' := [(4, .ref q9), (0, .ref (a 0)), (1, .int x), (2, .int y), (3, .ref o)]) hX_ hB_ dL_setPhase_13 hl (by decide) rfl (fun ls hl => ?_)
  refine lv_iconst (v := 1) hX_ hB_ dL_setPhase_15 (by decide) ?_
  exact ze_iret S hr hlocks hF hK hW rfl dL_setPhase_16 (Nat.le_of_ble_eq_true rfl) (Nat.le_of_ble_eq_true rfl) rfl rfl
set_option maxHeartbeats 4000000 in
set_option maxRecDepth 100000 in
theorem zl_setPhase_t2 (l : Launch) (D : va_G) (hst : l.stackTraces = false) (c : Nat → ClassId) (a n : Nat → Nat) (A : Nat → Nat → Int32) (B : Nat → Int64) (E : Nat → Nat → Int32) (o : Nat) (f : Nat → Int64)  (j : Nat) (hN : zf_N n) (hj : j < n 0) (y : Int32) (hy : ¬ zf_isIn y 0 359) : ze_Q l yL_setPhase wsL_setPhase 8 127 1 6 D c ((ze_wC c a n A B E) ++ [(o, .inl (c 6, 1, .inr (.inl f)))]) [.ref (a 0), .int (nI j), .int y, .ref o] 2 ((ze_wC c a n A B E) ++ [(o, .inl (c 6, 1, .inr (.inl f)))]) := by
  intro sz
  refine zq_start (cc := cL_setPhase) (maxL := 5) (ret := (some .int)) (own := RL) (by decide) rfl rfl (Nat.le_of_ble_eq_true rfl) ?_
  obtain ⟨hn0, hn1, hn2, hn3, hn4⟩ := id hN
  intro p e s m_ below meth cd F ls hF hsz E0 hXB hNc htab
  obtain ⟨S, hr, hlocks, hK, hW, hA, hl⟩ := E0
  have hX_ := S.1
  have hB_ := S.2.1
  have hts := S.2.2.2.2
  have hl : lv_has ls 5 [(0, .ref (a 0)), (1, .int (nI j)), (2, .int y), (3, .ref o)] := hl
  have w0 := hts (.classLink RL 19 "java/lang/IndexOutOfBoundsException") (List.mem_cons_of_mem _ (List.mem_append_left _ (List.mem_append_left _ (List.mem_append_left _ (List.mem_append_left _ (List.mem_of_getElem? (i := 0) rfl))))))
  have w1 := hts (.classLink RL 21 "java/lang/IllegalArgumentException") (List.mem_cons_of_mem _ (List.mem_append_left _ (List.mem_append_left _ (List.mem_append_left _ (List.mem_append_left _ (List.mem_of_getElem? (i := 1) rfl))))))
  refine lv_aload_n hX_ hB_ dL_setPhase_0 rfl (lv_at hl 3 rfl) ?_
  refine lv_iconst (v := 0) hX_ hB_ dL_setPhase_1 (by decide) ?_
  refine lv_aload_n hX_ hB_ dL_setPhase_2 rfl (lv_at hl 0 rfl) ?_
  refine lv_iload_n hX_ hB_ dL_setPhase_3 rfl (lv_at hl 1 rfl) ?_
  refine lv_iload_n hX_ hB_ dL_setPhase_4 rfl (lv_at hl 2 rfl) ?_
  refine zx_FVc (As := [.int (nI j), .int y]) (rest := [.int 0, .ref o]) (ci := 8) (q0 := 0) (k := (RX8, TX8, 8)) S (zt_setPhase_t2 l D hst c a n A B E j hN hj y hy) (cwV 2 hts gL_setPhase_X8_setPhase rfl rfl rfl (by decide +kernel) ⟨(Nat.le_of_ble_eq_true rfl), (Nat.le_of_ble_eq_true rfl)⟩) hK hW hXB hA rfl (ze_at0 0 rfl) rfl hl.1 rfl (lv_room (Nat.le_of_ble_eq_true rfl)) dL_setPhase_5 ⟨(Nat.le_of_ble_eq_true rfl), (Nat.le_of_ble_eq_true rfl)⟩ [⟨0, 10, 13, 19⟩] ⟨0, 10, 17, 21⟩ [] htab (by
      intro z hz
      simp only [List.mem_cons, List.not_mem_nil, or_false] at hz
      rcases hz with rfl
      exact Or.inr ⟨by decide, "java/lang/IndexOutOfBoundsException", w0, hNc ("java/lang/IllegalArgumentException", "java/lang/IndexOutOfBoundsException") (by decide +kernel)⟩) (by decide) (by decide) w1 (va_Nw.use rfl (hXB.2.2.2 _ (List.mem_of_getElem? (i := 4) rfl))) (fun q9 H locs hW => ?_)
  refine lv_astore (lv' := [(4, .ref q9), (0, .ref (a 0)), (1, .int (nI j)), (2, .int y), (3, .ref o)]) hX_ hB_ dL_setPhase_17 hl (by decide) rfl (fun ls hl => ?_)
  refine lv_iconst (v := 2) hX_ hB_ dL_setPhase_19 (by decide) ?_
  exact ze_iret S hr hlocks hF hK hW rfl dL_setPhase_20 (Nat.le_of_ble_eq_true rfl) (Nat.le_of_ble_eq_true rfl) rfl rfl
set_option maxHeartbeats 4000000 in
set_option maxRecDepth 100000 in
theorem zl_setRank_f (l : Launch) (D : va_G) (c : Nat → ClassId) (a n : Nat → Nat) (A : Nat → Nat → Int32) (B : Nat → Int64) (E : Nat → Nat → Int32) (o : Nat) (f : Nat → Int64)  (j : Nat) (hN : zf_N n) (hj : j < n 4) (y : Int32) (h : zf_isIn y 1 9) : ze_Q l yL_setRank wsL_setRank 3 66 0 0 D c ((ze_wC c a n A B E) ++ [(o, .inl (c 6, 1, .inr (.inl f)))]) [.ref (a 0), .int (nI j), .int y, .ref o] 0 ((ze_wC c a n (ze_sE A 21 j y) B E) ++ [(o, .inl (c 6, 1, .inr (.inl (vp_updL f 0 ((A 21 j).toInt64)))))]) := by
  intro sz
  refine zq_start (cc := cL_setRank) (maxL := 5) (ret := (some .int)) (own := RL) (by decide) rfl rfl (Nat.le_of_ble_eq_true rfl) ?_
  obtain ⟨hn0, hn1, hn2, hn3, hn4⟩ := id hN
  intro p e s m_ below meth cd F ls hF hsz E0 hXB hNc htab
  obtain ⟨S, hr, hlocks, hK, hW, hA, hl⟩ := E0
  have hX_ := S.1
  have hB_ := S.2.1
  have hts := S.2.2.2.2
  have hl : lv_has ls 5 [(0, .ref (a 0)), (1, .int (nI j)), (2, .int y), (3, .ref o)] := hl
  refine lv_aload_n hX_ hB_ dL_setRank_0 rfl (lv_at hl 3 rfl) ?_
  refine lv_iconst (v := 0) hX_ hB_ dL_setRank_1 (by decide) ?_
  refine lv_aload_n hX_ hB_ dL_setRank_2 rfl (lv_at hl 0 rfl) ?_
  refine lv_iload_n hX_ hB_ dL_setRank_3 rfl (lv_at hl 1 rfl) ?_
  refine lv_iload_n hX_ hB_ dL_setRank_4 rfl (lv_at hl 2 rfl) ?_
  refine ze_FVi (As := [.int (nI j), .int y]) (rest := [.int 0, .ref o]) (ci := 8) (q0 := 0) (k := (RX8, TX8, 8)) S (zp_setRank_f l D c a n A B E j hN hj y h) (cwV 2 hts gL_setRank_X8_setRank rfl rfl rfl (by decide +kernel) ⟨Nat.le_of_ble_eq_true rfl, Nat.le_of_ble_eq_true rfl⟩) hK hW hA rfl (ze_at0 0 rfl) rfl hl.1 rfl (lv_room (Nat.le_of_ble_eq_true rfl)) dL_setRank_5 ⟨Nat.le_of_ble_eq_true rfl, Nat.le_of_ble_eq_true rfl⟩ (fun H locs hW => ?_)
  have hW : ze_W D ((ze_wC c a n (ze_sE A 21 j y) B E) ++ [(o, .inl (c 6, 1, .inr (.inl f)))]) F s.heap _ _ := hW
  refine lv_i2l (v := (A 21 j).toInt64) hX_ hB_ dL_setRank_8 rfl ?_
  refine ze_last hX_ hB_ hK hW ((ze_wC c a n (ze_sE A 21 j y) B E).length + 0) (i := 0) (ze_appL (k := 0) rfl) (by decide) (by decide) dL_setRank_9 (ze_appset rfl) (fun H locs hW => ?_)
  have hW : ze_W D ((ze_wC c a n (ze_sE A 21 j y) B E) ++ [(o, .inl (c 6, 1, .inr (.inl (vp_updL f 0 ((A 21 j).toInt64)))))]) F s.heap _ _ := hW
  refine lv_goto (tgt := 21) hX_ hB_ dL_setRank_10 (by decide) ?_
  refine lv_iconst (v := 0) hX_ hB_ dL_setRank_21 (by decide) ?_
  exact ze_iret S hr hlocks hF hK hW rfl dL_setRank_22 (Nat.le_of_ble_eq_true rfl) (Nat.le_of_ble_eq_true rfl) rfl rfl
set_option maxHeartbeats 4000000 in
set_option maxRecDepth 100000 in
theorem zl_setRank_t1 (l : Launch) (D : va_G) (hst : l.stackTraces = false) (c : Nat → ClassId) (a n : Nat → Nat) (A : Nat → Nat → Int32) (B : Nat → Int64) (E : Nat → Nat → Int32) (o : Nat) (f : Nat → Int64)  (x : Int32) (hN : zf_N n) (hx : ¬ zf_isIn x 0 (nI (n 4) - 1)) (y : Int32) : ze_Q l yL_setRank wsL_setRank 9 148 1 6 D c ((ze_wC c a n A B E) ++ [(o, .inl (c 6, 1, .inr (.inl f)))]) [.ref (a 0), .int x, .int y, .ref o] 1 ((ze_wC c a n A B E) ++ [(o, .inl (c 6, 1, .inr (.inl f)))]) := by
  intro sz
  refine zq_start (cc := cL_setRank) (maxL := 5) (ret := (some .int)) (own := RL) (by decide) rfl rfl (Nat.le_of_ble_eq_true rfl) ?_
  obtain ⟨hn0, hn1, hn2, hn3, hn4⟩ := id hN
  intro p e s m_ below meth cd F ls hF hsz E0 hXB hNc htab
  obtain ⟨S, hr, hlocks, hK, hW, hA, hl⟩ := E0
  have hX_ := S.1
  have hB_ := S.2.1
  have hts := S.2.2.2.2
  have hl : lv_has ls 5 [(0, .ref (a 0)), (1, .int x), (2, .int y), (3, .ref o)] := hl
  have w0 := hts (.classLink RL 19 "java/lang/IndexOutOfBoundsException") (List.mem_cons_of_mem _ (List.mem_append_left _ (List.mem_append_left _ (List.mem_append_left _ (List.mem_append_left _ (List.mem_append_left _ (List.mem_append_left _ (List.mem_of_getElem? (i := 0) rfl))))))))
  refine lv_aload_n hX_ hB_ dL_setRank_0 rfl (lv_at hl 3 rfl) ?_
  refine lv_iconst (v := 0) hX_ hB_ dL_setRank_1 (by decide) ?_
  refine lv_aload_n hX_ hB_ dL_setRank_2 rfl (lv_at hl 0 rfl) ?_
  refine lv_iload_n hX_ hB_ dL_setRank_3 rfl (lv_at hl 1 rfl) ?_
  refine lv_iload_n hX_ hB_ dL_setRank_4 rfl (lv_at hl 2 rfl) ?_
  refine zx_FVc (As := [.int x, .int y]) (rest := [.int 0, .ref o]) (ci := 8) (q0 := 0) (k := (RX8, TX8, 8)) S (zt_setRank_t1 l D hst c a n A B E x hN hx y) (cwV 2 hts gL_setRank_X8_setRank rfl rfl rfl (by decide +kernel) ⟨(Nat.le_of_ble_eq_true rfl), (Nat.le_of_ble_eq_true rfl)⟩) hK hW hXB hA rfl (ze_at0 0 rfl) rfl hl.1 rfl (lv_room (Nat.le_of_ble_eq_true rfl)) dL_setRank_5 ⟨(Nat.le_of_ble_eq_true rfl), (Nat.le_of_ble_eq_true rfl)⟩ [] ⟨0, 10, 13, 19⟩ [⟨0, 10, 17, 21⟩] htab (by intro z hz; cases hz) (by decide) (by decide) w0 (va_Nw.use rfl (hXB.2.2.2 _ (List.mem_of_getElem? (i := 7) rfl))) (fun q9 H locs hW => ?_)
  refine lv_astore (lv' := [(4, .ref q9), (0, .ref (a 0)), (1, .int x), (2, .int y), (3, .ref o)]) hX_ hB_ dL_setRank_13 hl (by decide) rfl (fun ls hl => ?_)
  refine lv_iconst (v := 1) hX_ hB_ dL_setRank_15 (by decide) ?_
  exact ze_iret S hr hlocks hF hK hW rfl dL_setRank_16 (Nat.le_of_ble_eq_true rfl) (Nat.le_of_ble_eq_true rfl) rfl rfl
set_option maxHeartbeats 4000000 in
set_option maxRecDepth 100000 in
theorem zl_setRank_t2 (l : Launch) (D : va_G) (hst : l.stackTraces = false) (c : Nat → ClassId) (a n : Nat → Nat) (A : Nat → Nat → Int32) (B : Nat → Int64) (E : Nat → Nat → Int32) (o : Nat) (f : Nat → Int64)  (j : Nat) (hN : zf_N n) (hj : j < n 4) (y : Int32) (h : ¬ zf_isIn y 1 9) : ze_Q l yL_setRank wsL_setRank 8 128 1 6 D c ((ze_wC c a n A B E) ++ [(o, .inl (c 6, 1, .inr (.inl f)))]) [.ref (a 0), .int (nI j), .int y, .ref o] 2 ((ze_wC c a n A B E) ++ [(o, .inl (c 6, 1, .inr (.inl f)))]) := by
  intro sz
  refine zq_start (cc := cL_setRank) (maxL := 5) (ret := (some .int)) (own := RL) (by decide) rfl rfl (Nat.le_of_ble_eq_true rfl) ?_
  obtain ⟨hn0, hn1, hn2, hn3, hn4⟩ := id hN
  intro p e s m_ below meth cd F ls hF hsz E0 hXB hNc htab
  obtain ⟨S, hr, hlocks, hK, hW, hA, hl⟩ := E0
  have hX_ := S.1
  have hB_ := S.2.1
  have hts := S.2.2.2.2
  have hl : lv_has ls 5 [(0, .ref (a 0)), (1, .int (nI j)), (2, .int y), (3, .ref o)] := hl
  have w0 := hts (.classLink RL 19 "java/lang/IndexOutOfBoundsException") (List.mem_cons_of_mem _ (List.mem_append_left _ (List.mem_append_left _ (List.mem_append_left _ (List.mem_append_left _ (List.mem_append_left _ (List.mem_append_left _ (List.mem_of_getElem? (i := 0) rfl))))))))
  have w1 := hts (.classLink RL 21 "java/lang/IllegalArgumentException") (List.mem_cons_of_mem _ (List.mem_append_left _ (List.mem_append_left _ (List.mem_append_left _ (List.mem_append_left _ (List.mem_append_left _ (List.mem_append_left _ (List.mem_of_getElem? (i := 1) rfl))))))))
  refine lv_aload_n hX_ hB_ dL_setRank_0 rfl (lv_at hl 3 rfl) ?_
  refine lv_iconst (v := 0) hX_ hB_ dL_setRank_1 (by decide) ?_
  refine lv_aload_n hX_ hB_ dL_setRank_2 rfl (lv_at hl 0 rfl) ?_
  refine lv_iload_n hX_ hB_ dL_setRank_3 rfl (lv_at hl 1 rfl) ?_
  refine lv_iload_n hX_ hB_ dL_setRank_4 rfl (lv_at hl 2 rfl) ?_
  refine zx_FVc (As := [.int (nI j), .int y]) (rest := [.int 0, .ref o]) (ci := 8) (q0 := 0) (k := (RX8, TX8, 8)) S (zt_setRank_t2 l D hst c a n A B E j hN hj y h) (cwV 2 hts gL_setRank_X8_setRank rfl rfl rfl (by decide +kernel) ⟨(Nat.le_of_ble_eq_true rfl), (Nat.le_of_ble_eq_true rfl)⟩) hK hW hXB hA rfl (ze_at0 0 rfl) rfl hl.1 rfl (lv_room (Nat.le_of_ble_eq_true rfl)) dL_setRank_5 ⟨(Nat.le_of_ble_eq_true rfl), (Nat.le_of_ble_eq_true rfl)⟩ [⟨0, 10, 13, 19⟩] ⟨0, 10, 17, 21⟩ [] htab (by
      intro z hz
      simp only [List.mem_cons, List.not_mem_nil, or_false] at hz
      rcases hz with rfl
      exact Or.inr ⟨by decide, "java/lang/IndexOutOfBoundsException", w0, hNc ("java/lang/IllegalArgumentException", "java/lang/IndexOutOfBoundsException") (by decide +kernel)⟩) (by decide) (by decide) w1 (va_Nw.use rfl (hXB.2.2.2 _ (List.mem_of_getElem? (i := 4) rfl))) (fun q9 H locs hW => ?_)
  refine lv_astore (lv' := [(4, .ref q9), (0, .ref (a 0)), (1, .int (nI j)), (2, .int y), (3, .ref o)]) hX_ hB_ dL_setRank_17 hl (by decide) rfl (fun ls hl => ?_)
  refine lv_iconst (v := 2) hX_ hB_ dL_setRank_19 (by decide) ?_
  exact ze_iret S hr hlocks hF hK hW rfl dL_setRank_20 (Nat.le_of_ble_eq_true rfl) (Nat.le_of_ble_eq_true rfl) rfl rfl
set_option maxHeartbeats 4000000 in
set_option maxRecDepth 100000 in
theorem zl_setReserve_f (l : Launch) (D : va_G) (c : Nat → ClassId) (a n : Nat → Nat) (A : Nat → Nat → Int32) (B : Nat → Int64) (E : Nat → Nat → Int32) (o : Nat) (f : Nat → Int64)  (y : Int32) (h : zf_isIn y 0 999) : ze_Q l yL_setReserve wsL_setReserve 2 44 0 0 D c ((ze_wC c a n A B E) ++ [(o, .inl (c 6, 1, .inr (.inl f)))]) [.ref (a 0), .int y, .ref o] 0 ((ze_wC c a n (ze_sC A 28 y) B E) ++ [(o, .inl (c 6, 1, .inr (.inl (vp_updL f 0 ((A 28 0).toInt64)))))]) := by
  intro sz
  refine zq_start (cc := cL_setReserve) (maxL := 4) (ret := (some .int)) (own := RL) (by decide) rfl rfl (Nat.le_of_ble_eq_true rfl) ?_
  intro p e s m_ below meth cd F ls hF hsz E0 hXB hNc htab
  obtain ⟨S, hr, hlocks, hK, hW, hA, hl⟩ := E0
  have hX_ := S.1
  have hB_ := S.2.1
  have hts := S.2.2.2.2
  have hl : lv_has ls 4 [(0, .ref (a 0)), (1, .int y), (2, .ref o)] := hl
  refine lv_aload_n hX_ hB_ dL_setReserve_0 rfl (lv_at hl 2 rfl) ?_
  refine lv_iconst (v := 0) hX_ hB_ dL_setReserve_1 (by decide) ?_
  refine lv_aload_n hX_ hB_ dL_setReserve_2 rfl (lv_at hl 0 rfl) ?_
  refine lv_iload_n hX_ hB_ dL_setReserve_3 rfl (lv_at hl 1 rfl) ?_
  refine ze_FVi (As := [.int y]) (rest := [.int 0, .ref o]) (ci := 8) (q0 := 0) (k := (RX8, TX8, 8)) S (zp_setReserve_f l D c a n A B E y h) (cwV 1 hts gL_setReserve_X8_setReserve rfl rfl rfl (by decide +kernel) ⟨Nat.le_of_ble_eq_true rfl, Nat.le_of_ble_eq_true rfl⟩) hK hW hA rfl (ze_at0 0 rfl) rfl hl.1 rfl (lv_room (Nat.le_of_ble_eq_true rfl)) dL_setReserve_4 ⟨Nat.le_of_ble_eq_true rfl, Nat.le_of_ble_eq_true rfl⟩ (fun H locs hW => ?_)
  have hW : ze_W D ((ze_wC c a n (ze_sC A 28 y) B E) ++ [(o, .inl (c 6, 1, .inr (.inl f)))]) F s.heap _ _ := hW
  refine lv_i2l (v := (A 28 0).toInt64) hX_ hB_ dL_setReserve_7 rfl ?_
  refine ze_last hX_ hB_ hK hW ((ze_wC c a n (ze_sC A 28 y) B E).length + 0) (i := 0) (ze_appL (k := 0) rfl) (by decide) (by decide) dL_setReserve_8 (ze_appset rfl) (fun H locs hW => ?_)
  have hW : ze_W D ((ze_wC c a n (ze_sC A 28 y) B E) ++ [(o, .inl (c 6, 1, .inr (.inl (vp_updL f 0 ((A 28 0).toInt64)))))]) F s.heap _ _ := hW
  refine lv_goto (tgt := 15) hX_ hB_ dL_setReserve_9 (by decide) ?_
  refine lv_iconst (v := 0) hX_ hB_ dL_setReserve_15 (by decide) ?_
  exact ze_iret S hr hlocks hF hK hW rfl dL_setReserve_16 (Nat.le_of_ble_eq_true rfl) (Nat.le_of_ble_eq_true rfl) rfl rfl
set_option maxHeartbeats 4000000 in
set_option maxRecDepth 100000 in
theorem zl_setReserve_t1 (l : Launch) (D : va_G) (hst : l.stackTraces = false) (c : Nat → ClassId) (a n : Nat → Nat) (A : Nat → Nat → Int32) (B : Nat → Int64) (E : Nat → Nat → Int32) (o : Nat) (f : Nat → Int64)  (y : Int32) (h : ¬ zf_isIn y 0 999) : ze_Q l yL_setReserve wsL_setReserve 8 126 1 6 D c ((ze_wC c a n A B E) ++ [(o, .inl (c 6, 1, .inr (.inl f)))]) [.ref (a 0), .int y, .ref o] 1 ((ze_wC c a n A B E) ++ [(o, .inl (c 6, 1, .inr (.inl f)))]) := by
  intro sz
  refine zq_start (cc := cL_setReserve) (maxL := 4) (ret := (some .int)) (own := RL) (by decide) rfl rfl (Nat.le_of_ble_eq_true rfl) ?_
  intro p e s m_ below meth cd F ls hF hsz E0 hXB hNc htab
  obtain ⟨S, hr, hlocks, hK, hW, hA, hl⟩ := E0
  have hX_ := S.1
  have hB_ := S.2.1
  have hts := S.2.2.2.2
  have hl : lv_has ls 4 [(0, .ref (a 0)), (1, .int y), (2, .ref o)] := hl
  have w0 := hts (.classLink RL 21 "java/lang/IllegalArgumentException") (List.mem_cons_of_mem _ (List.mem_append_left _ (List.mem_append_left _ (List.mem_of_getElem? (i := 0) rfl))))
  refine lv_aload_n hX_ hB_ dL_setReserve_0 rfl (lv_at hl 2 rfl) ?_
  refine lv_iconst (v := 0) hX_ hB_ dL_setReserve_1 (by decide) ?_
  refine lv_aload_n hX_ hB_ dL_setReserve_2 rfl (lv_at hl 0 rfl) ?_
  refine lv_iload_n hX_ hB_ dL_setReserve_3 rfl (lv_at hl 1 rfl) ?_
  refine zx_FVc (As := [.int y]) (rest := [.int 0, .ref o]) (ci := 8) (q0 := 0) (k := (RX8, TX8, 8)) S (zt_setReserve_t1 l D hst c a n A B E y h) (cwV 1 hts gL_setReserve_X8_setReserve rfl rfl rfl (by decide +kernel) ⟨(Nat.le_of_ble_eq_true rfl), (Nat.le_of_ble_eq_true rfl)⟩) hK hW hXB hA rfl (ze_at0 0 rfl) rfl hl.1 rfl (lv_room (Nat.le_of_ble_eq_true rfl)) dL_setReserve_4 ⟨(Nat.le_of_ble_eq_true rfl), (Nat.le_of_ble_eq_true rfl)⟩ [] ⟨0, 9, 12, 21⟩ [] htab (by intro z hz; cases hz) (by decide) (by decide) w0 (va_Nw.use rfl (hXB.2.2.2 _ (List.mem_of_getElem? (i := 4) rfl))) (fun q9 H locs hW => ?_)
  refine lv_astore_n (lv' := [(3, .ref q9), (0, .ref (a 0)), (1, .int y), (2, .ref o)]) hX_ hB_ dL_setReserve_12 rfl hl (by decide) rfl (fun ls hl => ?_)
  refine lv_iconst (v := 1) hX_ hB_ dL_setReserve_13 (by decide) ?_
  exact ze_iret S hr hlocks hF hK hW rfl dL_setReserve_14 (Nat.le_of_ble_eq_true rfl) (Nat.le_of_ble_eq_true rfl) rfl rfl
set_option maxHeartbeats 4000000 in
set_option maxRecDepth 100000 in
theorem zl_share_f (l : Launch) (D : va_G) (c : Nat → ClassId) (a n : Nat → Nat) (A : Nat → Nat → Int32) (B : Nat → Int64) (E : Nat → Nat → Int32) (o : Nat) (f : Nat → Int64)  (j : Nat) (hN : zf_N n) (hj : j < n 0) (y : Int32) (k : Nat) (hk : k < n 2) (hS : zf_S n A) (hy : zf_isIn y 0 1200) (hrn : zf_runs A (E 0) k (E 0 j)) : ze_Q l yL_share wsL_share 6 121 0 0 D c ((ze_wC c a n A B E) ++ [(o, .inl (c 6, 1, .inr (.inl f)))]) [.ref (a 0), .int (nI j), .int y, .int (nI k), .ref o] 0 ((ze_wC c a n A B (ze_sA E 3 (ze_up (zf_stp A (E 0) (E 0 j)) (E 3) (n 2)))) ++ [(o, .inl (c 6, 1, .inr (.inl (vp_updL f 0 ((A 7 k + zf_swr (ze_up (zf_stp A (E 0) (E 0 j)) (E 3) (n 2)) (n 2) k (y - zf_gs A (E 0) (E 0 j) (n 2))).toInt64)))))]) := by
  intro sz
  refine zq_start (cc := cL_share) (maxL := 6) (ret := (some .int)) (own := RL) (by decide) rfl rfl (Nat.le_of_ble_eq_true rfl) ?_
  obtain ⟨hn0, hn1, hn2, hn3, hn4⟩ := id hN
  intro p e s m_ below meth cd F ls hF hsz E0 hXB hNc htab
  obtain ⟨S, hr, hlocks, hK, hW, hA, hl⟩ := E0
  have hX_ := S.1
  have hB_ := S.2.1
  have hts := S.2.2.2.2
  have hl : lv_has ls 6 [(0, .ref (a 0)), (1, .int (nI j)), (2, .int y), (3, .int (nI k)), (4, .ref o)] := hl
  refine lv_aload hX_ hB_ dL_share_0 (lv_at hl 4 rfl) ?_
  refine lv_iconst (v := 0) hX_ hB_ dL_share_2 (by decide) ?_
  refine lv_aload_n hX_ hB_ dL_share_3 rfl (lv_at hl 0 rfl) ?_
  refine lv_iload_n hX_ hB_ dL_share_4 rfl (lv_at hl 1 rfl) ?_
  refine lv_iload_n hX_ hB_ dL_share_5 rfl (lv_at hl 2 rfl) ?_
  refine lv_iload_n hX_ hB_ dL_share_6 rfl (lv_at hl 3 rfl) ?_
  refine ze_FVi (As := [.int (nI j), .int y, .int (nI k)]) (rest := [.int 0, .ref o]) (ci := 8) (q0 := 0) (k := (RX8, TX8, 8)) S (zp_share_f l D c a n A B E j hN hj y k hk hS hy hrn) (cwV 3 hts gL_share_X8_share rfl rfl rfl (by decide +kernel) ⟨Nat.le_of_ble_eq_true rfl, Nat.le_of_ble_eq_true rfl⟩) hK hW hA rfl (ze_at0 0 rfl) rfl hl.1 rfl (lv_room (Nat.le_of_ble_eq_true rfl)) dL_share_7 ⟨Nat.le_of_ble_eq_true rfl, Nat.le_of_ble_eq_true rfl⟩ (fun H locs hW => ?_)
  have hW : ze_W D ((ze_wC c a n A B (ze_sA E 3 (ze_up (zf_stp A (E 0) (E 0 j)) (E 3) (n 2)))) ++ [(o, .inl (c 6, 1, .inr (.inl f)))]) F s.heap _ _ := hW
  refine lv_i2l (v := (A 7 k + zf_swr (ze_up (zf_stp A (E 0) (E 0 j)) (E 3) (n 2)) (n 2) k (y - zf_gs A (E 0) (E 0 j) (n 2))).toInt64) hX_ hB_ dL_share_10 rfl ?_
  refine ze_last hX_ hB_ hK hW ((ze_wC c a n A B (ze_sA E 3 (ze_up (zf_stp A (E 0) (E 0 j)) (E 3) (n 2)))).length + 0) (i := 0) (ze_appL (k := 0) rfl) (by decide) (by decide) dL_share_11 (ze_appset rfl) (fun H locs hW => ?_)
  have hW : ze_W D ((ze_wC c a n A B (ze_sA E 3 (ze_up (zf_stp A (E 0) (E 0 j)) (E 3) (n 2)))) ++ [(o, .inl (c 6, 1, .inr (.inl (vp_updL f 0 ((A 7 k + zf_swr (ze_up (zf_stp A (E 0) (E 0 j)) (E 3) (n 2)) (n 2) k (y - zf_gs A (E 0) (E 0 j) (n 2))).toInt64)))))]) F s.heap _ _ := hW
  refine lv_goto (tgt := 27) hX_ hB_ dL_share_12 (by decide) ?_
  refine lv_iconst (v := 0) hX_ hB_ dL_share_27 (by decide) ?_
  exact ze_iret S hr hlocks hF hK hW rfl dL_share_28 (Nat.le_of_ble_eq_true rfl) (Nat.le_of_ble_eq_true rfl) rfl rfl
set_option maxHeartbeats 4000000 in
set_option maxRecDepth 100000 in
theorem zl_share_t1a (l : Launch) (D : va_G) (hst : l.stackTraces = false) (c : Nat → ClassId) (a n : Nat → Nat) (A : Nat → Nat → Int32) (B : Nat → Int64) (E : Nat → Nat → Int32) (o : Nat) (f : Nat → Int64)  (x : Int32) (hN : zf_N n) (hx : ¬ zf_isIn x 0 (nI (n 0) - 1)) (y z : Int32) : ze_Q l yL_share wsL_share 10 170 1 6 D c ((ze_wC c a n A B E) ++ [(o, .inl (c 6, 1, .inr (.inl f)))]) [.ref (a 0), .int x, .int y, .int z, .ref o] 1 ((ze_wC c a n A B E) ++ [(o, .inl (c 6, 1, .inr (.inl f)))]) := by
  intro sz
  refine zq_start (cc := cL_share) (maxL := 6) (ret := (some .int)) (own := RL) (by decide) rfl rfl (Nat.le_of_ble_eq_true rfl) ?_
  obtain ⟨hn0, hn1, hn2, hn3, hn4⟩ := id hN
  intro p e s m_ below meth cd F ls hF hsz E0 hXB hNc htab
  obtain ⟨S, hr, hlocks, hK, hW, hA, hl⟩ := E0
  have hX_ := S.1
  have hB_ := S.2.1
  have hts := S.2.2.2.2
  have hl : lv_has ls 6 [(0, .ref (a 0)), (1, .int x), (2, .int y), (3, .int z), (4, .ref o)] := hl
  have w0 := hts (.classLink RL 19 "java/lang/IndexOutOfBoundsException") (List.mem_cons_of_mem _ (List.mem_append_left _ (List.mem_append_left _ (List.mem_append_left _ (List.mem_append_left _ (List.mem_append_left _ (List.mem_append_left _ (List.mem_append_left _ (List.mem_append_left _ (List.mem_of_getElem? (i := 0) rfl))))))))))
  refine lv_aload hX_ hB_ dL_share_0 (lv_at hl 4 rfl) ?_
  refine lv_iconst (v := 0) hX_ hB_ dL_share_2 (by decide) ?_
  refine lv_aload_n hX_ hB_ dL_share_3 rfl (lv_at hl 0 rfl) ?_
  refine lv_iload_n hX_ hB_ dL_share_4 rfl (lv_at hl 1 rfl) ?_
  refine lv_iload_n hX_ hB_ dL_share_5 rfl (lv_at hl 2 rfl) ?_
  refine lv_iload_n hX_ hB_ dL_share_6 rfl (lv_at hl 3 rfl) ?_
  refine zx_FVc (As := [.int x, .int y, .int z]) (rest := [.int 0, .ref o]) (ci := 8) (q0 := 0) (k := (RX8, TX8, 8)) S (zt_share_t1a l D hst c a n A B E x hN hx y z) (cwV 3 hts gL_share_X8_share rfl rfl rfl (by decide +kernel) ⟨(Nat.le_of_ble_eq_true rfl), (Nat.le_of_ble_eq_true rfl)⟩) hK hW hXB hA rfl (ze_at0 0 rfl) rfl hl.1 rfl (lv_room (Nat.le_of_ble_eq_true rfl)) dL_share_7 ⟨(Nat.le_of_ble_eq_true rfl), (Nat.le_of_ble_eq_true rfl)⟩ [] ⟨0, 12, 15, 19⟩ [⟨0, 12, 19, 21⟩, ⟨0, 12, 23, 38⟩] htab (by intro z hz; cases hz) (by decide) (by decide) w0 (va_Nw.use rfl (hXB.2.2.2 _ (List.mem_of_getElem? (i := 7) rfl))) (fun q9 H locs hW => ?_)
  refine lv_astore (lv' := [(5, .ref q9), (0, .ref (a 0)), (1, .int x), (2, .int y), (3, .int z), (4, .ref o)]) hX_ hB_ dL_share_15 hl (by decide) rfl (fun ls hl => ?_)
  refine lv_iconst (v := 1) hX_ hB_ dL_share_17 (by decide) ?_
  exact ze_iret S hr hlocks hF hK hW rfl dL_share_18 (Nat.le_of_ble_eq_true rfl) (Nat.le_of_ble_eq_true rfl) rfl rfl
set_option maxHeartbeats 4000000 in
set_option maxRecDepth 100000 in
theorem zl_share_t1b (l : Launch) (D : va_G) (hst : l.stackTraces = false) (c : Nat → ClassId) (a n : Nat → Nat) (A : Nat → Nat → Int32) (B : Nat → Int64) (E : Nat → Nat → Int32) (o : Nat) (f : Nat → Int64)  (j : Nat) (hN : zf_N n) (hj : j < n 0) (y z : Int32) (hzo : ¬ zf_isIn z 0 (nI (n 2) - 1)) : ze_Q l yL_share wsL_share 9 149 1 6 D c ((ze_wC c a n A B E) ++ [(o, .inl (c 6, 1, .inr (.inl f)))]) [.ref (a 0), .int (nI j), .int y, .int z, .ref o] 1 ((ze_wC c a n A B E) ++ [(o, .inl (c 6, 1, .inr (.inl f)))]) := by
  intro sz
  refine zq_start (cc := cL_share) (maxL := 6) (ret := (some .int)) (own := RL) (by decide) rfl rfl (Nat.le_of_ble_eq_true rfl) ?_
  obtain ⟨hn0, hn1, hn2, hn3, hn4⟩ := id hN
  intro p e s m_ below meth cd F ls hF hsz E0 hXB hNc htab
  obtain ⟨S, hr, hlocks, hK, hW, hA, hl⟩ := E0
  have hX_ := S.1
  have hB_ := S.2.1
  have hts := S.2.2.2.2
  have hl : lv_has ls 6 [(0, .ref (a 0)), (1, .int (nI j)), (2, .int y), (3, .int z), (4, .ref o)] := hl
  have w0 := hts (.classLink RL 19 "java/lang/IndexOutOfBoundsException") (List.mem_cons_of_mem _ (List.mem_append_left _ (List.mem_append_left _ (List.mem_append_left _ (List.mem_append_left _ (List.mem_append_left _ (List.mem_append_left _ (List.mem_append_left _ (List.mem_append_left _ (List.mem_of_getElem? (i := 0) rfl))))))))))
  refine lv_aload hX_ hB_ dL_share_0 (lv_at hl 4 rfl) ?_
  refine lv_iconst (v := 0) hX_ hB_ dL_share_2 (by decide) ?_
  refine lv_aload_n hX_ hB_ dL_share_3 rfl (lv_at hl 0 rfl) ?_
  refine lv_iload_n hX_ hB_ dL_share_4 rfl (lv_at hl 1 rfl) ?_
  refine lv_iload_n hX_ hB_ dL_share_5 rfl (lv_at hl 2 rfl) ?_
  refine lv_iload_n hX_ hB_ dL_share_6 rfl (lv_at hl 3 rfl) ?_
  refine zx_FVc (As := [.int (nI j), .int y, .int z]) (rest := [.int 0, .ref o]) (ci := 8) (q0 := 0) (k := (RX8, TX8, 8)) S (zt_share_t1b l D hst c a n A B E j hN hj y z hzo) (cwV 3 hts gL_share_X8_share rfl rfl rfl (by decide +kernel) ⟨(Nat.le_of_ble_eq_true rfl), (Nat.le_of_ble_eq_true rfl)⟩) hK hW hXB hA rfl (ze_at0 0 rfl) rfl hl.1 rfl (lv_room (Nat.le_of_ble_eq_true rfl)) dL_share_7 ⟨(Nat.le_of_ble_eq_true rfl), (Nat.le_of_ble_eq_true rfl)⟩ [] ⟨0, 12, 15, 19⟩ [⟨0, 12, 19, 21⟩, ⟨0, 12, 23, 38⟩] htab (by intro z hz; cases hz) (by decide) (by decide) w0 (va_Nw.use rfl (hXB.2.2.2 _ (List.mem_of_getElem? (i := 7) rfl))) (fun q9 H locs hW => ?_)
  refine lv_astore (lv' := [(5, .ref q9), (0, .ref (a 0)), (1, .int (nI j)), (2, .int y), (3, .int z), (4, .ref o)]) hX_ hB_ dL_share_15 hl (by decide) rfl (fun ls hl => ?_)
  refine lv_iconst (v := 1) hX_ hB_ dL_share_17 (by decide) ?_
  exact ze_iret S hr hlocks hF hK hW rfl dL_share_18 (Nat.le_of_ble_eq_true rfl) (Nat.le_of_ble_eq_true rfl) rfl rfl
set_option maxHeartbeats 4000000 in
set_option maxRecDepth 100000 in
theorem zl_share_t2 (l : Launch) (D : va_G) (hst : l.stackTraces = false) (c : Nat → ClassId) (a n : Nat → Nat) (A : Nat → Nat → Int32) (B : Nat → Int64) (E : Nat → Nat → Int32) (o : Nat) (f : Nat → Int64)  (j : Nat) (hN : zf_N n) (hj : j < n 0) (y : Int32) (k : Nat) (hk : k < n 2) (hy : ¬ zf_isIn y 0 1200) : ze_Q l yL_share wsL_share 9 150 1 6 D c ((ze_wC c a n A B E) ++ [(o, .inl (c 6, 1, .inr (.inl f)))]) [.ref (a 0), .int (nI j), .int y, .int (nI k), .ref o] 2 ((ze_wC c a n A B E) ++ [(o, .inl (c 6, 1, .inr (.inl f)))]) := by
  intro sz
  refine zq_start (cc := cL_share) (maxL := 6) (ret := (some .int)) (own := RL) (by decide) rfl rfl (Nat.le_of_ble_eq_true rfl) ?_
  obtain ⟨hn0, hn1, hn2, hn3, hn4⟩ := id hN
  intro p e s m_ below meth cd F ls hF hsz E0 hXB hNc htab
  obtain ⟨S, hr, hlocks, hK, hW, hA, hl⟩ := E0
  have hX_ := S.1
  have hB_ := S.2.1
  have hts := S.2.2.2.2
  have hl : lv_has ls 6 [(0, .ref (a 0)), (1, .int (nI j)), (2, .int y), (3, .int (nI k)), (4, .ref o)] := hl
  have w0 := hts (.classLink RL 19 "java/lang/IndexOutOfBoundsException") (List.mem_cons_of_mem _ (List.mem_append_left _ (List.mem_append_left _ (List.mem_append_left _ (List.mem_append_left _ (List.mem_append_left _ (List.mem_append_left _ (List.mem_append_left _ (List.mem_append_left _ (List.mem_of_getElem? (i := 0) rfl))))))))))
  have w1 := hts (.classLink RL 21 "java/lang/IllegalArgumentException") (List.mem_cons_of_mem _ (List.mem_append_left _ (List.mem_append_left _ (List.mem_append_left _ (List.mem_append_left _ (List.mem_append_left _ (List.mem_append_left _ (List.mem_append_left _ (List.mem_append_left _ (List.mem_of_getElem? (i := 1) rfl))))))))))
  refine lv_aload hX_ hB_ dL_share_0 (lv_at hl 4 rfl) ?_
  refine lv_iconst (v := 0) hX_ hB_ dL_share_2 (by decide) ?_
  refine lv_aload_n hX_ hB_ dL_share_3 rfl (lv_at hl 0 rfl) ?_
  refine lv_iload_n hX_ hB_ dL_share_4 rfl (lv_at hl 1 rfl) ?_
  refine lv_iload_n hX_ hB_ dL_share_5 rfl (lv_at hl 2 rfl) ?_
  refine lv_iload_n hX_ hB_ dL_share_6 rfl (lv_at hl 3 rfl) ?_
  refine zx_FVc (As := [.int (nI j), .int y, .int (nI k)]) (rest := [.int 0, .ref o]) (ci := 8) (q0 := 0) (k := (RX8, TX8, 8)) S (zt_share_t2 l D hst c a n A B E j hN hj y k hk hy) (cwV 3 hts gL_share_X8_share rfl rfl rfl (by decide +kernel) ⟨(Nat.le_of_ble_eq_true rfl), (Nat.le_of_ble_eq_true rfl)⟩) hK hW hXB hA rfl (ze_at0 0 rfl) rfl hl.1 rfl (lv_room (Nat.le_of_ble_eq_true rfl)) dL_share_7 ⟨(Nat.le_of_ble_eq_true rfl), (Nat.le_of_ble_eq_true rfl)⟩ [⟨0, 12, 15, 19⟩] ⟨0, 12, 19, 21⟩ [⟨0, 12, 23, 38⟩] htab (by
      intro z hz
      simp only [List.mem_cons, List.not_mem_nil, or_false] at hz
      rcases hz with rfl
      exact Or.inr ⟨by decide, "java/lang/IndexOutOfBoundsException", w0, hNc ("java/lang/IllegalArgumentException", "java/lang/IndexOutOfBoundsException") (by decide +kernel)⟩) (by decide) (by decide) w1 (va_Nw.use rfl (hXB.2.2.2 _ (List.mem_of_getElem? (i := 4) rfl))) (fun q9 H locs hW => ?_)
  refine lv_astore (lv' := [(5, .ref q9), (0, .ref (a 0)), (1, .int (nI j)), (2, .int y), (3, .int (nI k)), (4, .ref o)]) hX_ hB_ dL_share_19 hl (by decide) rfl (fun ls hl => ?_)
  refine lv_iconst (v := 2) hX_ hB_ dL_share_21 (by decide) ?_
  exact ze_iret S hr hlocks hF hK hW rfl dL_share_22 (Nat.le_of_ble_eq_true rfl) (Nat.le_of_ble_eq_true rfl) rfl rfl
set_option maxHeartbeats 4000000 in
set_option maxRecDepth 100000 in
theorem zl_share_t3 (l : Launch) (D : va_G) (hst : l.stackTraces = false) (c : Nat → ClassId) (a n : Nat → Nat) (A : Nat → Nat → Int32) (B : Nat → Int64) (E : Nat → Nat → Int32) (o : Nat) (f : Nat → Int64)  (j : Nat) (hN : zf_N n) (hj : j < n 0) (y : Int32) (k : Nat) (hk : k < n 2) (hS : zf_S n A) (hy : zf_isIn y 0 1200) (hrn : ¬ zf_runs A (E 0) k (E 0 j)) : ze_Q l yL_share wsL_share 8 128 1 6 D c ((ze_wC c a n A B E) ++ [(o, .inl (c 6, 1, .inr (.inl f)))]) [.ref (a 0), .int (nI j), .int y, .int (nI k), .ref o] 3 ((ze_wC c a n A B E) ++ [(o, .inl (c 6, 1, .inr (.inl f)))]) := by
  intro sz
  refine zq_start (cc := cL_share) (maxL := 6) (ret := (some .int)) (own := RL) (by decide) rfl rfl (Nat.le_of_ble_eq_true rfl) ?_
  obtain ⟨hn0, hn1, hn2, hn3, hn4⟩ := id hN
  intro p e s m_ below meth cd F ls hF hsz E0 hXB hNc htab
  obtain ⟨S, hr, hlocks, hK, hW, hA, hl⟩ := E0
  have hX_ := S.1
  have hB_ := S.2.1
  have hts := S.2.2.2.2
  have hl : lv_has ls 6 [(0, .ref (a 0)), (1, .int (nI j)), (2, .int y), (3, .int (nI k)), (4, .ref o)] := hl
  have w0 := hts (.classLink RL 19 "java/lang/IndexOutOfBoundsException") (List.mem_cons_of_mem _ (List.mem_append_left _ (List.mem_append_left _ (List.mem_append_left _ (List.mem_append_left _ (List.mem_append_left _ (List.mem_append_left _ (List.mem_append_left _ (List.mem_append_left _ (List.mem_of_getElem? (i := 0) rfl))))))))))
  have w1 := hts (.classLink RL 21 "java/lang/IllegalArgumentException") (List.mem_cons_of_mem _ (List.mem_append_left _ (List.mem_append_left _ (List.mem_append_left _ (List.mem_append_left _ (List.mem_append_left _ (List.mem_append_left _ (List.mem_append_left _ (List.mem_append_left _ (List.mem_of_getElem? (i := 1) rfl))))))))))
  have w2 := hts (.classLink RL 38 "java/util/NoSuchElementException") (List.mem_cons_of_mem _ (List.mem_append_left _ (List.mem_append_left _ (List.mem_append_left _ (List.mem_append_left _ (List.mem_append_left _ (List.mem_append_left _ (List.mem_append_left _ (List.mem_append_left _ (List.mem_of_getElem? (i := 2) rfl))))))))))
  refine lv_aload hX_ hB_ dL_share_0 (lv_at hl 4 rfl) ?_
  refine lv_iconst (v := 0) hX_ hB_ dL_share_2 (by decide) ?_
  refine lv_aload_n hX_ hB_ dL_share_3 rfl (lv_at hl 0 rfl) ?_
  refine lv_iload_n hX_ hB_ dL_share_4 rfl (lv_at hl 1 rfl) ?_
  refine lv_iload_n hX_ hB_ dL_share_5 rfl (lv_at hl 2 rfl) ?_
  refine lv_iload_n hX_ hB_ dL_share_6 rfl (lv_at hl 3 rfl) ?_
  refine zx_FVc (As := [.int (nI j), .int y, .int (nI k)]) (rest := [.int 0, .ref o]) (ci := 8) (q0 := 0) (k := (RX8, TX8, 8)) S (zt_share_t3 l D hst c a n A B E j hN hj y k hk hS hy hrn) (cwV 3 hts gL_share_X8_share rfl rfl rfl (by decide +kernel) ⟨(Nat.le_of_ble_eq_true rfl), (Nat.le_of_ble_eq_true rfl)⟩) hK hW hXB hA rfl (ze_at0 0 rfl) rfl hl.1 rfl (lv_room (Nat.le_of_ble_eq_true rfl)) dL_share_7 ⟨(Nat.le_of_ble_eq_true rfl), (Nat.le_of_ble_eq_true rfl)⟩ [⟨0, 12, 15, 19⟩, ⟨0, 12, 19, 21⟩] ⟨0, 12, 23, 38⟩ [] htab (by
      intro z hz
      simp only [List.mem_cons, List.not_mem_nil, or_false] at hz
      rcases hz with rfl | rfl
      · exact Or.inr ⟨by decide, "java/lang/IndexOutOfBoundsException", w0, hNc ("java/util/NoSuchElementException", "java/lang/IndexOutOfBoundsException") (by decide +kernel)⟩
      · exact Or.inr ⟨by decide, "java/lang/IllegalArgumentException", w1, hNc ("java/util/NoSuchElementException", "java/lang/IllegalArgumentException") (by decide +kernel)⟩) (by decide) (by decide) w2 (va_Nw.use rfl (hXB.2.2.2 _ (List.mem_of_getElem? (i := 6) rfl))) (fun q9 H locs hW => ?_)
  refine lv_astore (lv' := [(5, .ref q9), (0, .ref (a 0)), (1, .int (nI j)), (2, .int y), (3, .int (nI k)), (4, .ref o)]) hX_ hB_ dL_share_23 hl (by decide) rfl (fun ls hl => ?_)
  refine lv_iconst (v := 3) hX_ hB_ dL_share_25 (by decide) ?_
  exact ze_iret S hr hlocks hF hK hW rfl dL_share_26 (Nat.le_of_ble_eq_true rfl) (Nat.le_of_ble_eq_true rfl) rfl rfl
set_option maxHeartbeats 4000000 in
set_option maxRecDepth 100000 in
theorem zl_shareBySteps_f (l : Launch) (D : va_G) (c : Nat → ClassId) (a n : Nat → Nat) (A : Nat → Nat → Int32) (B : Nat → Int64) (E : Nat → Nat → Int32) (o : Nat) (f : Nat → Int64)  (j : Nat) (hN : zf_N n) (hj : j < n 0) (y : Int32) (k : Nat) (hk : k < n 2) (hS : zf_S n A) (hy : zf_isIn y 0 1200) (hrn : zf_runs A (E 0) k (E 0 j)) : ze_Q l yL_shareBySteps wsL_shareBySteps 6 124 0 0 D c ((ze_wC c a n A B E) ++ [(o, .inl (c 6, 1, .inr (.inl f)))]) [.ref (a 0), .int (nI j), .int y, .int (nI k), .ref o] 0 ((ze_wC c a n A B (ze_sA (ze_sA E 3 (ze_up (zf_stp A (E 0) (E 0 j)) (E 3) (n 2))) 4 (zf_tlr n A (E 0) (E 3) (E 4) (E 0 j) y))) ++ [(o, .inl (c 6, 1, .inr (.inl (vp_updL f 0 ((A 7 k + (zf_tlr n A (E 0) (E 3) (E 4) (E 0 j) y) k).toInt64)))))]) := by
  intro sz
  refine zq_start (cc := cL_shareBySteps) (maxL := 6) (ret := (some .int)) (own := RL) (by decide) rfl rfl (Nat.le_of_ble_eq_true rfl) ?_
  obtain ⟨hn0, hn1, hn2, hn3, hn4⟩ := id hN
  intro p e s m_ below meth cd F ls hF hsz E0 hXB hNc htab
  obtain ⟨S, hr, hlocks, hK, hW, hA, hl⟩ := E0
  have hX_ := S.1
  have hB_ := S.2.1
  have hts := S.2.2.2.2
  have hl : lv_has ls 6 [(0, .ref (a 0)), (1, .int (nI j)), (2, .int y), (3, .int (nI k)), (4, .ref o)] := hl
  refine lv_aload hX_ hB_ dL_shareBySteps_0 (lv_at hl 4 rfl) ?_
  refine lv_iconst (v := 0) hX_ hB_ dL_shareBySteps_2 (by decide) ?_
  refine lv_aload_n hX_ hB_ dL_shareBySteps_3 rfl (lv_at hl 0 rfl) ?_
  refine lv_iload_n hX_ hB_ dL_shareBySteps_4 rfl (lv_at hl 1 rfl) ?_
  refine lv_iload_n hX_ hB_ dL_shareBySteps_5 rfl (lv_at hl 2 rfl) ?_
  refine lv_iload_n hX_ hB_ dL_shareBySteps_6 rfl (lv_at hl 3 rfl) ?_
  refine ze_FVi (As := [.int (nI j), .int y, .int (nI k)]) (rest := [.int 0, .ref o]) (ci := 8) (q0 := 0) (k := (RX8, TX8, 8)) S (zp_shareBySteps_f l D c a n A B E j hN hj y k hk hS hy hrn) (cwV 3 hts gL_shareBySteps_X8_shareBySteps rfl rfl rfl (by decide +kernel) ⟨Nat.le_of_ble_eq_true rfl, Nat.le_of_ble_eq_true rfl⟩) hK hW hA rfl (ze_at0 0 rfl) rfl hl.1 rfl (lv_room (Nat.le_of_ble_eq_true rfl)) dL_shareBySteps_7 ⟨Nat.le_of_ble_eq_true rfl, Nat.le_of_ble_eq_true rfl⟩ (fun H locs hW => ?_)
  have hW : ze_W D ((ze_wC c a n A B (ze_sA (ze_sA E 3 (ze_up (zf_stp A (E 0) (E 0 j)) (E 3) (n 2))) 4 (zf_tlr n A (E 0) (E 3) (E 4) (E 0 j) y))) ++ [(o, .inl (c 6, 1, .inr (.inl f)))]) F s.heap _ _ := hW
  refine lv_i2l (v := (A 7 k + (zf_tlr n A (E 0) (E 3) (E 4) (E 0 j) y) k).toInt64) hX_ hB_ dL_shareBySteps_10 rfl ?_
  refine ze_last hX_ hB_ hK hW ((ze_wC c a n A B (ze_sA (ze_sA E 3 (ze_up (zf_stp A (E 0) (E 0 j)) (E 3) (n 2))) 4 (zf_tlr n A (E 0) (E 3) (E 4) (E 0 j) y))).length + 0) (i := 0) (ze_appL (k := 0) rfl) (by decide) (by decide) dL_shareBySteps_11 (ze_appset rfl) (fun H locs hW => ?_)
  have hW : ze_W D ((ze_wC c a n A B (ze_sA (ze_sA E 3 (ze_up (zf_stp A (E 0) (E 0 j)) (E 3) (n 2))) 4 (zf_tlr n A (E 0) (E 3) (E 4) (E 0 j) y))) ++ [(o, .inl (c 6, 1, .inr (.inl (vp_updL f 0 ((A 7 k + (zf_tlr n A (E 0) (E 3) (E 4) (E 0 j) y) k).toInt64)))))]) F s.heap _ _ := hW
  refine lv_goto (tgt := 27) hX_ hB_ dL_shareBySteps_12 (by decide) ?_
  refine lv_iconst (v := 0) hX_ hB_ dL_shareBySteps_27 (by decide) ?_
  exact ze_iret S hr hlocks hF hK hW rfl dL_shareBySteps_28 (Nat.le_of_ble_eq_true rfl) (Nat.le_of_ble_eq_true rfl) rfl rfl
set_option maxHeartbeats 4000000 in
set_option maxRecDepth 100000 in
theorem zl_shareBySteps_t1a (l : Launch) (D : va_G) (hst : l.stackTraces = false) (c : Nat → ClassId) (a n : Nat → Nat) (A : Nat → Nat → Int32) (B : Nat → Int64) (E : Nat → Nat → Int32) (o : Nat) (f : Nat → Int64)  (x : Int32) (hN : zf_N n) (hx : ¬ zf_isIn x 0 (nI (n 0) - 1)) (y z : Int32) : ze_Q l yL_shareBySteps wsL_shareBySteps 10 170 1 6 D c ((ze_wC c a n A B E) ++ [(o, .inl (c 6, 1, .inr (.inl f)))]) [.ref (a 0), .int x, .int y, .int z, .ref o] 1 ((ze_wC c a n A B E) ++ [(o, .inl (c 6, 1, .inr (.inl f)))]) := by
  intro sz
  refine zq_start (cc := cL_shareBySteps) (maxL := 6) (ret := (some .int)) (own := RL) (by decide) rfl rfl (Nat.le_of_ble_eq_true rfl) ?_
  obtain ⟨hn0, hn1, hn2, hn3, hn4⟩ := id hN
  intro p e s m_ below meth cd F ls hF hsz E0 hXB hNc htab
  obtain ⟨S, hr, hlocks, hK, hW, hA, hl⟩ := E0
  have hX_ := S.1
  have hB_ := S.2.1
  have hts := S.2.2.2.2
  have hl : lv_has ls 6 [(0, .ref (a 0)), (1, .int x), (2, .int y), (3, .int z), (4, .ref o)] := hl
  have w0 := hts (.classLink RL 19 "java/lang/IndexOutOfBoundsException") (List.mem_cons_of_mem _ (List.mem_append_left _ (List.mem_append_left _ (List.mem_append_left _ (List.mem_append_left _ (List.mem_append_left _ (List.mem_append_left _ (List.mem_append_left _ (List.mem_append_left _ (List.mem_of_getElem? (i := 0) rfl))))))))))
  refine lv_aload hX_ hB_ dL_shareBySteps_0 (lv_at hl 4 rfl) ?_
  refine lv_iconst (v := 0) hX_ hB_ dL_shareBySteps_2 (by decide) ?_
  refine lv_aload_n hX_ hB_ dL_shareBySteps_3 rfl (lv_at hl 0 rfl) ?_
  refine lv_iload_n hX_ hB_ dL_shareBySteps_4 rfl (lv_at hl 1 rfl) ?_
  refine lv_iload_n hX_ hB_ dL_shareBySteps_5 rfl (lv_at hl 2 rfl) ?_
  refine lv_iload_n hX_ hB_ dL_shareBySteps_6 rfl (lv_at hl 3 rfl) ?_
  refine zx_FVc (As := [.int x, .int y, .int z]) (rest := [.int 0, .ref o]) (ci := 8) (q0 := 0) (k := (RX8, TX8, 8)) S (zt_shareBySteps_t1a l D hst c a n A B E x hN hx y z) (cwV 3 hts gL_shareBySteps_X8_shareBySteps rfl rfl rfl (by decide +kernel) ⟨(Nat.le_of_ble_eq_true rfl), (Nat.le_of_ble_eq_true rfl)⟩) hK hW hXB hA rfl (ze_at0 0 rfl) rfl hl.1 rfl (lv_room (Nat.le_of_ble_eq_true rfl)) dL_shareBySteps_7 ⟨(Nat.le_of_ble_eq_true rfl), (Nat.le_of_ble_eq_true rfl)⟩ [] ⟨0, 12, 15, 19⟩ [⟨0, 12, 19, 21⟩, ⟨0, 12, 23, 38⟩] htab (by intro z hz; cases hz) (by decide) (by decide) w0 (va_Nw.use rfl (hXB.2.2.2 _ (List.mem_of_getElem? (i := 7) rfl))) (fun q9 H locs hW => ?_)
  refine lv_astore (lv' := [(5, .ref q9), (0, .ref (a 0)), (1, .int x), (2, .int y), (3, .int z), (4, .ref o)]) hX_ hB_ dL_shareBySteps_15 hl (by decide) rfl (fun ls hl => ?_)
  refine lv_iconst (v := 1) hX_ hB_ dL_shareBySteps_17 (by decide) ?_
  exact ze_iret S hr hlocks hF hK hW rfl dL_shareBySteps_18 (Nat.le_of_ble_eq_true rfl) (Nat.le_of_ble_eq_true rfl) rfl rfl
set_option maxHeartbeats 4000000 in
set_option maxRecDepth 100000 in
theorem zl_shareBySteps_t1b (l : Launch) (D : va_G) (hst : l.stackTraces = false) (c : Nat → ClassId) (a n : Nat → Nat) (A : Nat → Nat → Int32) (B : Nat → Int64) (E : Nat → Nat → Int32) (o : Nat) (f : Nat → Int64)  (j : Nat) (hN : zf_N n) (hj : j < n 0) (y z : Int32) (hzo : ¬ zf_isIn z 0 (nI (n 2) - 1)) : ze_Q l yL_shareBySteps wsL_shareBySteps 9 149 1 6 D c ((ze_wC c a n A B E) ++ [(o, .inl (c 6, 1, .inr (.inl f)))]) [.ref (a 0), .int (nI j), .int y, .int z, .ref o] 1 ((ze_wC c a n A B E) ++ [(o, .inl (c 6, 1, .inr (.inl f)))]) := by
  intro sz
  refine zq_start (cc := cL_shareBySteps) (maxL := 6) (ret := (some .int)) (own := RL) (by decide) rfl rfl (Nat.le_of_ble_eq_true rfl) ?_
  obtain ⟨hn0, hn1, hn2, hn3, hn4⟩ := id hN
  intro p e s m_ below meth cd F ls hF hsz E0 hXB hNc htab
  obtain ⟨S, hr, hlocks, hK, hW, hA, hl⟩ := E0
  have hX_ := S.1
  have hB_ := S.2.1
  have hts := S.2.2.2.2
  have hl : lv_has ls 6 [(0, .ref (a 0)), (1, .int (nI j)), (2, .int y), (3, .int z), (4, .ref o)] := hl
  have w0 := hts (.classLink RL 19 "java/lang/IndexOutOfBoundsException") (List.mem_cons_of_mem _ (List.mem_append_left _ (List.mem_append_left _ (List.mem_append_left _ (List.mem_append_left _ (List.mem_append_left _ (List.mem_append_left _ (List.mem_append_left _ (List.mem_append_left _ (List.mem_of_getElem? (i := 0) rfl))))))))))
  refine lv_aload hX_ hB_ dL_shareBySteps_0 (lv_at hl 4 rfl) ?_
  refine lv_iconst (v := 0) hX_ hB_ dL_shareBySteps_2 (by decide) ?_
  refine lv_aload_n hX_ hB_ dL_shareBySteps_3 rfl (lv_at hl 0 rfl) ?_
  refine lv_iload_n hX_ hB_ dL_shareBySteps_4 rfl (lv_at hl 1 rfl) ?_
  refine lv_iload_n hX_ hB_ dL_shareBySteps_5 rfl (lv_at hl 2 rfl) ?_
  refine lv_iload_n hX_ hB_ dL_shareBySteps_6 rfl (lv_at hl 3 rfl) ?_
  refine zx_FVc (As := [.int (nI j), .int y, .int z]) (rest := [.int 0, .ref o]) (ci := 8) (q0 := 0) (k := (RX8, TX8, 8)) S (zt_shareBySteps_t1b l D hst c a n A B E j hN hj y z hzo) (cwV 3 hts gL_shareBySteps_X8_shareBySteps rfl rfl rfl (by decide +kernel) ⟨(Nat.le_of_ble_eq_true rfl), (Nat.le_of_ble_eq_true rfl)⟩) hK hW hXB hA rfl (ze_at0 0 rfl) rfl hl.1 rfl (lv_room (Nat.le_of_ble_eq_true rfl)) dL_shareBySteps_7 ⟨(Nat.le_of_ble_eq_true rfl), (Nat.le_of_ble_eq_true rfl)⟩ [] ⟨0, 12, 15, 19⟩ [⟨0, 12, 19, 21⟩, ⟨0, 12, 23, 38⟩] htab (by intro z hz; cases hz) (by decide) (by decide) w0 (va_Nw.use rfl (hXB.2.2.2 _ (List.mem_of_getElem? (i := 7) rfl))) (fun q9 H locs hW => ?_)
  refine lv_astore (lv' := [(5, .ref q9), (0, .ref (a 0)), (1, .int (nI j)), (2, .int y), (3, .int z), (4, .ref o)]) hX_ hB_ dL_shareBySteps_15 hl (by decide) rfl (fun ls hl => ?_)
  refine lv_iconst (v := 1) hX_ hB_ dL_shareBySteps_17 (by decide) ?_
  exact ze_iret S hr hlocks hF hK hW rfl dL_shareBySteps_18 (Nat.le_of_ble_eq_true rfl) (Nat.le_of_ble_eq_true rfl) rfl rfl
set_option maxHeartbeats 4000000 in
set_option maxRecDepth 100000 in
theorem zl_shareBySteps_t2 (l : Launch) (D : va_G) (hst : l.stackTraces = false) (c : Nat → ClassId) (a n : Nat → Nat) (A : Nat → Nat → Int32) (B : Nat → Int64) (E : Nat → Nat → Int32) (o : Nat) (f : Nat → Int64)  (j : Nat) (hN : zf_N n) (hj : j < n 0) (y : Int32) (k : Nat) (hk : k < n 2) (hy : ¬ zf_isIn y 0 1200) : ze_Q l yL_shareBySteps wsL_shareBySteps 9 150 1 6 D c ((ze_wC c a n A B E) ++ [(o, .inl (c 6, 1, .inr (.inl f)))]) [.ref (a 0), .int (nI j), .int y, .int (nI k), .ref o] 2 ((ze_wC c a n A B E) ++ [(o, .inl (c 6, 1, .inr (.inl f)))]) := by
  intro sz
  refine zq_start (cc := cL_shareBySteps) (maxL := 6) (ret := (some .int)) (own := RL) (by decide) rfl rfl (Nat.le_of_ble_eq_true rfl) ?_
  obtain ⟨hn0, hn1, hn2, hn3, hn4⟩ := id hN
  intro p e s m_ below meth cd F ls hF hsz E0 hXB hNc htab
  obtain ⟨S, hr, hlocks, hK, hW, hA, hl⟩ := E0
  have hX_ := S.1
  have hB_ := S.2.1
  have hts := S.2.2.2.2
  have hl : lv_has ls 6 [(0, .ref (a 0)), (1, .int (nI j)), (2, .int y), (3, .int (nI k)), (4, .ref o)] := hl
  have w0 := hts (.classLink RL 19 "java/lang/IndexOutOfBoundsException") (List.mem_cons_of_mem _ (List.mem_append_left _ (List.mem_append_left _ (List.mem_append_left _ (List.mem_append_left _ (List.mem_append_left _ (List.mem_append_left _ (List.mem_append_left _ (List.mem_append_left _ (List.mem_of_getElem? (i := 0) rfl))))))))))
  have w1 := hts (.classLink RL 21 "java/lang/IllegalArgumentException") (List.mem_cons_of_mem _ (List.mem_append_left _ (List.mem_append_left _ (List.mem_append_left _ (List.mem_append_left _ (List.mem_append_left _ (List.mem_append_left _ (List.mem_append_left _ (List.mem_append_left _ (List.mem_of_getElem? (i := 1) rfl))))))))))
  refine lv_aload hX_ hB_ dL_shareBySteps_0 (lv_at hl 4 rfl) ?_
  refine lv_iconst (v := 0) hX_ hB_ dL_shareBySteps_2 (by decide) ?_
  refine lv_aload_n hX_ hB_ dL_shareBySteps_3 rfl (lv_at hl 0 rfl) ?_
  refine lv_iload_n hX_ hB_ dL_shareBySteps_4 rfl (lv_at hl 1 rfl) ?_
  refine lv_iload_n hX_ hB_ dL_shareBySteps_5 rfl (lv_at hl 2 rfl) ?_
  refine lv_iload_n hX_ hB_ dL_shareBySteps_6 rfl (lv_at hl 3 rfl) ?_
  refine zx_FVc (As := [.int (nI j), .int y, .int (nI k)]) (rest := [.int 0, .ref o]) (ci := 8) (q0 := 0) (k := (RX8, TX8, 8)) S (zt_shareBySteps_t2 l D hst c a n A B E j hN hj y k hk hy) (cwV 3 hts gL_shareBySteps_X8_shareBySteps rfl rfl rfl (by decide +kernel) ⟨(Nat.le_of_ble_eq_true rfl), (Nat.le_of_ble_eq_true rfl)⟩) hK hW hXB hA rfl (ze_at0 0 rfl) rfl hl.1 rfl (lv_room (Nat.le_of_ble_eq_true rfl)) dL_shareBySteps_7 ⟨(Nat.le_of_ble_eq_true rfl), (Nat.le_of_ble_eq_true rfl)⟩ [⟨0, 12, 15, 19⟩] ⟨0, 12, 19, 21⟩ [⟨0, 12, 23, 38⟩] htab (by
      intro z hz
      simp only [List.mem_cons, List.not_mem_nil, or_false] at hz
      rcases hz with rfl
      exact Or.inr ⟨by decide, "java/lang/IndexOutOfBoundsException", w0, hNc ("java/lang/IllegalArgumentException", "java/lang/IndexOutOfBoundsException") (by decide +kernel)⟩) (by decide) (by decide) w1 (va_Nw.use rfl (hXB.2.2.2 _ (List.mem_of_getElem? (i := 4) rfl))) (fun q9 H locs hW => ?_)
  refine lv_astore (lv' := [(5, .ref q9), (0, .ref (a 0)), (1, .int (nI j)), (2, .int y), (3, .int (nI k)), (4, .ref o)]) hX_ hB_ dL_shareBySteps_19 hl (by decide) rfl (fun ls hl => ?_)
  refine lv_iconst (v := 2) hX_ hB_ dL_shareBySteps_21 (by decide) ?_
  exact ze_iret S hr hlocks hF hK hW rfl dL_shareBySteps_22 (Nat.le_of_ble_eq_true rfl) (Nat.le_of_ble_eq_true rfl) rfl rfl
set_option maxHeartbeats 4000000 in
set_option maxRecDepth 100000 in
theorem zl_shareBySteps_t3 (l : Launch) (D : va_G) (hst : l.stackTraces = false) (c : Nat → ClassId) (a n : Nat → Nat) (A : Nat → Nat → Int32) (B : Nat → Int64) (E : Nat → Nat → Int32) (o : Nat) (f : Nat → Int64)  (j : Nat) (hN : zf_N n) (hj : j < n 0) (y : Int32) (k : Nat) (hk : k < n 2) (hS : zf_S n A) (hy : zf_isIn y 0 1200) (hrn : ¬ zf_runs A (E 0) k (E 0 j)) : ze_Q l yL_shareBySteps wsL_shareBySteps 8 128 1 6 D c ((ze_wC c a n A B E) ++ [(o, .inl (c 6, 1, .inr (.inl f)))]) [.ref (a 0), .int (nI j), .int y, .int (nI k), .ref o] 3 ((ze_wC c a n A B E) ++ [(o, .inl (c 6, 1, .inr (.inl f)))]) := by
  intro sz
  refine zq_start (cc := cL_shareBySteps) (maxL := 6) (ret := (some .int)) (own := RL) (by decide) rfl rfl (Nat.le_of_ble_eq_true rfl) ?_
  obtain ⟨hn0, hn1, hn2, hn3, hn4⟩ := id hN
  intro p e s m_ below meth cd F ls hF hsz E0 hXB hNc htab
  obtain ⟨S, hr, hlocks, hK, hW, hA, hl⟩ := E0
  have hX_ := S.1
  have hB_ := S.2.1
  have hts := S.2.2.2.2
  have hl : lv_has ls 6 [(0, .ref (a 0)), (1, .int (nI j)), (2, .int y), (3, .int (nI k)), (4, .ref o)] := hl
  have w0 := hts (.classLink RL 19 "java/lang/IndexOutOfBoundsException") (List.mem_cons_of_mem _ (List.mem_append_left _ (List.mem_append_left _ (List.mem_append_left _ (List.mem_append_left _ (List.mem_append_left _ (List.mem_append_left _ (List.mem_append_left _ (List.mem_append_left _ (List.mem_of_getElem? (i := 0) rfl))))))))))
  have w1 := hts (.classLink RL 21 "java/lang/IllegalArgumentException") (List.mem_cons_of_mem _ (List.mem_append_left _ (List.mem_append_left _ (List.mem_append_left _ (List.mem_append_left _ (List.mem_append_left _ (List.mem_append_left _ (List.mem_append_left _ (List.mem_append_left _ (List.mem_of_getElem? (i := 1) rfl))))))))))
  have w2 := hts (.classLink RL 38 "java/util/NoSuchElementException") (List.mem_cons_of_mem _ (List.mem_append_left _ (List.mem_append_left _ (List.mem_append_left _ (List.mem_append_left _ (List.mem_append_left _ (List.mem_append_left _ (List.mem_append_left _ (List.mem_append_left _ (List.mem_of_getElem? (i := 2) rfl))))))))))
  refine lv_aload hX_ hB_ dL_shareBySteps_0 (lv_at hl 4 rfl) ?_
  refine lv_iconst (v := 0) hX_ hB_ dL_shareBySteps_2 (by decide) ?_
  refine lv_aload_n hX_ hB_ dL_shareBySteps_3 rfl (lv_at hl 0 rfl) ?_
  refine lv_iload_n hX_ hB_ dL_shareBySteps_4 rfl (lv_at hl 1 rfl) ?_
  refine lv_iload_n hX_ hB_ dL_shareBySteps_5 rfl (lv_at hl 2 rfl) ?_
  refine lv_iload_n hX_ hB_ dL_shareBySteps_6 rfl (lv_at hl 3 rfl) ?_
  refine zx_FVc (As := [.int (nI j), .int y, .int (nI k)]) (rest := [.int 0, .ref o]) (ci := 8) (q0 := 0) (k := (RX8, TX8, 8)) S (zt_shareBySteps_t3 l D hst c a n A B E j hN hj y k hk hS hy hrn) (cwV 3 hts gL_shareBySteps_X8_shareBySteps rfl rfl rfl (by decide +kernel) ⟨(Nat.le_of_ble_eq_true rfl), (Nat.le_of_ble_eq_true rfl)⟩) hK hW hXB hA rfl (ze_at0 0 rfl) rfl hl.1 rfl (lv_room (Nat.le_of_ble_eq_true rfl)) dL_shareBySteps_7 ⟨(Nat.le_of_ble_eq_true rfl), (Nat.le_of_ble_eq_true rfl)⟩ [⟨0, 12, 15, 19⟩, ⟨0, 12, 19, 21⟩] ⟨0, 12, 23, 38⟩ [] htab (by
      intro z hz
      simp only [List.mem_cons, List.not_mem_nil, or_false] at hz
      rcases hz with rfl | rfl
      · exact Or.inr ⟨by decide, "java/lang/IndexOutOfBoundsException", w0, hNc ("java/util/NoSuchElementException", "java/lang/IndexOutOfBoundsException") (by decide +kernel)⟩
      · exact Or.inr ⟨by decide, "java/lang/IllegalArgumentException", w1, hNc ("java/util/NoSuchElementException", "java/lang/IllegalArgumentException") (by decide +kernel)⟩) (by decide) (by decide) w2 (va_Nw.use rfl (hXB.2.2.2 _ (List.mem_of_getElem? (i := 6) rfl))) (fun q9 H locs hW => ?_)
  refine lv_astore (lv' := [(5, .ref q9), (0, .ref (a 0)), (1, .int (nI j)), (2, .int y), (3, .int (nI k)), (4, .ref o)]) hX_ hB_ dL_shareBySteps_23 hl (by decide) rfl (fun ls hl => ?_)
  refine lv_iconst (v := 3) hX_ hB_ dL_shareBySteps_25 (by decide) ?_
  exact ze_iret S hr hlocks hF hK hW rfl dL_shareBySteps_26 (Nat.le_of_ble_eq_true rfl) (Nat.le_of_ble_eq_true rfl) rfl rfl
set_option maxHeartbeats 4000000 in
set_option maxRecDepth 100000 in
theorem zl_start_f (l : Launch) (D : va_G) (c : Nat → ClassId) (a n : Nat → Nat) (A : Nat → Nat → Int32) (B : Nat → Int64) (E : Nat → Nat → Int32) (o : Nat) (f : Nat → Int64)  (j : Nat) (hN : zf_N n) (hj : j < n 2) (h : A 13 j = 111) (h2 : ¬ zf_short A j) : ze_Q l yL_start wsL_start 3 64 0 0 D c ((ze_wC c a n A B E) ++ [(o, .inl (c 6, 1, .inr (.inl f)))]) [.ref (a 0), .int (nI j), .ref o] 0 ((ze_wC c a n (zf_start A j) B E) ++ [(o, .inl (c 6, 1, .inr (.inl (vp_updL f 0 ((zf_start A j 11 j).toInt64)))))]) := by
  intro sz
  refine zq_start (cc := cL_start) (maxL := 4) (ret := (some .int)) (own := RL) (by decide) rfl rfl (Nat.le_of_ble_eq_true rfl) ?_
  obtain ⟨hn0, hn1, hn2, hn3, hn4⟩ := id hN
  intro p e s m_ below meth cd F ls hF hsz E0 hXB hNc htab
  obtain ⟨S, hr, hlocks, hK, hW, hA, hl⟩ := E0
  have hX_ := S.1
  have hB_ := S.2.1
  have hts := S.2.2.2.2
  have hl : lv_has ls 4 [(0, .ref (a 0)), (1, .int (nI j)), (2, .ref o)] := hl
  refine lv_aload_n hX_ hB_ dL_start_0 rfl (lv_at hl 2 rfl) ?_
  refine lv_iconst (v := 0) hX_ hB_ dL_start_1 (by decide) ?_
  refine lv_aload_n hX_ hB_ dL_start_2 rfl (lv_at hl 0 rfl) ?_
  refine lv_iload_n hX_ hB_ dL_start_3 rfl (lv_at hl 1 rfl) ?_
  refine ze_FVi (As := [.int (nI j)]) (rest := [.int 0, .ref o]) (ci := 8) (q0 := 0) (k := (RX8, TX8, 8)) S (zp_start_f l D c a n A B E j hN hj h h2) (cwV 1 hts gL_start_X8_start rfl rfl rfl (by decide +kernel) ⟨Nat.le_of_ble_eq_true rfl, Nat.le_of_ble_eq_true rfl⟩) hK hW hA rfl (ze_at0 0 rfl) rfl hl.1 rfl (lv_room (Nat.le_of_ble_eq_true rfl)) dL_start_4 ⟨Nat.le_of_ble_eq_true rfl, Nat.le_of_ble_eq_true rfl⟩ (fun H locs hW => ?_)
  have hW : ze_W D ((ze_wC c a n (zf_start A j) B E) ++ [(o, .inl (c 6, 1, .inr (.inl f)))]) F s.heap _ _ := hW
  refine lv_i2l (v := (zf_start A j 11 j).toInt64) hX_ hB_ dL_start_7 rfl ?_
  refine ze_last hX_ hB_ hK hW ((ze_wC c a n (zf_start A j) B E).length + 0) (i := 0) (ze_appL (k := 0) rfl) (by decide) (by decide) dL_start_8 (ze_appset rfl) (fun H locs hW => ?_)
  have hW : ze_W D ((ze_wC c a n (zf_start A j) B E) ++ [(o, .inl (c 6, 1, .inr (.inl (vp_updL f 0 ((zf_start A j 11 j).toInt64)))))]) F s.heap _ _ := hW
  refine lv_goto (tgt := 21) hX_ hB_ dL_start_9 (by decide) ?_
  refine lv_iconst (v := 0) hX_ hB_ dL_start_21 (by decide) ?_
  exact ze_iret S hr hlocks hF hK hW rfl dL_start_22 (Nat.le_of_ble_eq_true rfl) (Nat.le_of_ble_eq_true rfl) rfl rfl
set_option maxHeartbeats 4000000 in
set_option maxRecDepth 100000 in
theorem zl_start_t1 (l : Launch) (D : va_G) (hst : l.stackTraces = false) (c : Nat → ClassId) (a n : Nat → Nat) (A : Nat → Nat → Int32) (B : Nat → Int64) (E : Nat → Nat → Int32) (o : Nat) (f : Nat → Int64)  (x : Int32) (hN : zf_N n) (hx : ¬ zf_isIn x 0 (nI (n 2) - 1)) : ze_Q l yL_start wsL_start 9 146 1 6 D c ((ze_wC c a n A B E) ++ [(o, .inl (c 6, 1, .inr (.inl f)))]) [.ref (a 0), .int x, .ref o] 1 ((ze_wC c a n A B E) ++ [(o, .inl (c 6, 1, .inr (.inl f)))]) := by
  intro sz
  refine zq_start (cc := cL_start) (maxL := 4) (ret := (some .int)) (own := RL) (by decide) rfl rfl (Nat.le_of_ble_eq_true rfl) ?_
  obtain ⟨hn0, hn1, hn2, hn3, hn4⟩ := id hN
  intro p e s m_ below meth cd F ls hF hsz E0 hXB hNc htab
  obtain ⟨S, hr, hlocks, hK, hW, hA, hl⟩ := E0
  have hX_ := S.1
  have hB_ := S.2.1
  have hts := S.2.2.2.2
  have hl : lv_has ls 4 [(0, .ref (a 0)), (1, .int x), (2, .ref o)] := hl
  have w0 := hts (.classLink RL 19 "java/lang/IndexOutOfBoundsException") (List.mem_cons_of_mem _ (List.mem_append_left _ (List.mem_append_left _ (List.mem_append_left _ (List.mem_append_left _ (List.mem_append_left _ (List.mem_append_left _ (List.mem_append_left _ (List.mem_of_getElem? (i := 0) rfl)))))))))
  refine lv_aload_n hX_ hB_ dL_start_0 rfl (lv_at hl 2 rfl) ?_
  refine lv_iconst (v := 0) hX_ hB_ dL_start_1 (by decide) ?_
  refine lv_aload_n hX_ hB_ dL_start_2 rfl (lv_at hl 0 rfl) ?_
  refine lv_iload_n hX_ hB_ dL_start_3 rfl (lv_at hl 1 rfl) ?_
  refine zx_FVc (As := [.int x]) (rest := [.int 0, .ref o]) (ci := 8) (q0 := 0) (k := (RX8, TX8, 8)) S (zt_start_t1 l D hst c a n A B E x hN hx) (cwV 1 hts gL_start_X8_start rfl rfl rfl (by decide +kernel) ⟨(Nat.le_of_ble_eq_true rfl), (Nat.le_of_ble_eq_true rfl)⟩) hK hW hXB hA rfl (ze_at0 0 rfl) rfl hl.1 rfl (lv_room (Nat.le_of_ble_eq_true rfl)) dL_start_4 ⟨(Nat.le_of_ble_eq_true rfl), (Nat.le_of_ble_eq_true rfl)⟩ [] ⟨0, 9, 12, 19⟩ [⟨0, 9, 15, 13⟩, ⟨0, 9, 18, 38⟩] htab (by intro z hz; cases hz) (by decide) (by decide) w0 (va_Nw.use rfl (hXB.2.2.2 _ (List.mem_of_getElem? (i := 7) rfl))) (fun q9 H locs hW => ?_)
  refine lv_astore_n (lv' := [(3, .ref q9), (0, .ref (a 0)), (1, .int x), (2, .ref o)]) hX_ hB_ dL_start_12 rfl hl (by decide) rfl (fun ls hl => ?_)
  refine lv_iconst (v := 1) hX_ hB_ dL_start_13 (by decide) ?_
  exact ze_iret S hr hlocks hF hK hW rfl dL_start_14 (Nat.le_of_ble_eq_true rfl) (Nat.le_of_ble_eq_true rfl) rfl rfl
set_option maxHeartbeats 4000000 in
set_option maxRecDepth 100000 in
theorem zl_start_t2 (l : Launch) (D : va_G) (hst : l.stackTraces = false) (c : Nat → ClassId) (a n : Nat → Nat) (A : Nat → Nat → Int32) (B : Nat → Int64) (E : Nat → Nat → Int32) (o : Nat) (f : Nat → Int64)  (j : Nat) (hN : zf_N n) (hj : j < n 2) (h : ¬ A 13 j = 111) : ze_Q l yL_start wsL_start 7 104 1 6 D c ((ze_wC c a n A B E) ++ [(o, .inl (c 6, 1, .inr (.inl f)))]) [.ref (a 0), .int (nI j), .ref o] 2 ((ze_wC c a n A B E) ++ [(o, .inl (c 6, 1, .inr (.inl f)))]) := by
  intro sz
  refine zq_start (cc := cL_start) (maxL := 4) (ret := (some .int)) (own := RL) (by decide) rfl rfl (Nat.le_of_ble_eq_true rfl) ?_
  obtain ⟨hn0, hn1, hn2, hn3, hn4⟩ := id hN
  intro p e s m_ below meth cd F ls hF hsz E0 hXB hNc htab
  obtain ⟨S, hr, hlocks, hK, hW, hA, hl⟩ := E0
  have hX_ := S.1
  have hB_ := S.2.1
  have hts := S.2.2.2.2
  have hl : lv_has ls 4 [(0, .ref (a 0)), (1, .int (nI j)), (2, .ref o)] := hl
  have w0 := hts (.classLink RL 19 "java/lang/IndexOutOfBoundsException") (List.mem_cons_of_mem _ (List.mem_append_left _ (List.mem_append_left _ (List.mem_append_left _ (List.mem_append_left _ (List.mem_append_left _ (List.mem_append_left _ (List.mem_append_left _ (List.mem_of_getElem? (i := 0) rfl)))))))))
  have w1 := hts (.classLink RL 13 "java/lang/IllegalStateException") (List.mem_cons_of_mem _ (List.mem_append_left _ (List.mem_append_left _ (List.mem_append_left _ (List.mem_append_left _ (List.mem_append_left _ (List.mem_append_left _ (List.mem_append_left _ (List.mem_of_getElem? (i := 1) rfl)))))))))
  refine lv_aload_n hX_ hB_ dL_start_0 rfl (lv_at hl 2 rfl) ?_
  refine lv_iconst (v := 0) hX_ hB_ dL_start_1 (by decide) ?_
  refine lv_aload_n hX_ hB_ dL_start_2 rfl (lv_at hl 0 rfl) ?_
  refine lv_iload_n hX_ hB_ dL_start_3 rfl (lv_at hl 1 rfl) ?_
  refine zx_FVc (As := [.int (nI j)]) (rest := [.int 0, .ref o]) (ci := 8) (q0 := 0) (k := (RX8, TX8, 8)) S (zt_start_t2 l D hst c a n A B E j hN hj h) (cwV 1 hts gL_start_X8_start rfl rfl rfl (by decide +kernel) ⟨(Nat.le_of_ble_eq_true rfl), (Nat.le_of_ble_eq_true rfl)⟩) hK hW hXB hA rfl (ze_at0 0 rfl) rfl hl.1 rfl (lv_room (Nat.le_of_ble_eq_true rfl)) dL_start_4 ⟨(Nat.le_of_ble_eq_true rfl), (Nat.le_of_ble_eq_true rfl)⟩ [⟨0, 9, 12, 19⟩] ⟨0, 9, 15, 13⟩ [⟨0, 9, 18, 38⟩] htab (by
      intro z hz
      simp only [List.mem_cons, List.not_mem_nil, or_false] at hz
      rcases hz with rfl
      exact Or.inr ⟨by decide, "java/lang/IndexOutOfBoundsException", w0, hNc ("java/lang/IllegalStateException", "java/lang/IndexOutOfBoundsException") (by decide +kernel)⟩) (by decide) (by decide) w1 (va_Nw.use rfl (hXB.2.2.2 _ (List.mem_of_getElem? (i := 3) rfl))) (fun q9 H locs hW => ?_)
  refine lv_astore_n (lv' := [(3, .ref q9), (0, .ref (a 0)), (1, .int (nI j)), (2, .ref o)]) hX_ hB_ dL_start_15 rfl hl (by decide) rfl (fun ls hl => ?_)
  refine lv_iconst (v := 2) hX_ hB_ dL_start_16 (by decide) ?_
  exact ze_iret S hr hlocks hF hK hW rfl dL_start_17 (Nat.le_of_ble_eq_true rfl) (Nat.le_of_ble_eq_true rfl) rfl rfl
set_option maxHeartbeats 4000000 in
set_option maxRecDepth 100000 in
theorem zl_start_t3 (l : Launch) (D : va_G) (hst : l.stackTraces = false) (c : Nat → ClassId) (a n : Nat → Nat) (A : Nat → Nat → Int32) (B : Nat → Int64) (E : Nat → Nat → Int32) (o : Nat) (f : Nat → Int64)  (j : Nat) (hN : zf_N n) (hj : j < n 2) (h : A 13 j = 111) (h2 : zf_short A j) : ze_Q l yL_start wsL_start 7 104 1 6 D c ((ze_wC c a n A B E) ++ [(o, .inl (c 6, 1, .inr (.inl f)))]) [.ref (a 0), .int (nI j), .ref o] 3 ((ze_wC c a n A B E) ++ [(o, .inl (c 6, 1, .inr (.inl f)))]) := by
  intro sz
  refine zq_start (cc := cL_start) (maxL := 4) (ret := (some .int)) (own := RL) (by decide) rfl rfl (Nat.le_of_ble_eq_true rfl) ?_
  obtain ⟨hn0, hn1, hn2, hn3, hn4⟩ := id hN
  intro p e s m_ below meth cd F ls hF hsz E0 hXB hNc htab
  obtain ⟨S, hr, hlocks, hK, hW, hA, hl⟩ := E0
  have hX_ := S.1
  have hB_ := S.2.1
  have hts := S.2.2.2.2
  have hl : lv_has ls 4 [(0, .ref (a 0)), (1, .int (nI j)), (2, .ref o)] := hl
  have w0 := hts (.classLink RL 19 "java/lang/IndexOutOfBoundsException") (List.mem_cons_of_mem _ (List.mem_append_left _ (List.mem_append_left _ (List.mem_append_left _ (List.mem_append_left _ (List.mem_append_left _ (List.mem_append_left _ (List.mem_append_left _ (List.mem_of_getElem? (i := 0) rfl)))))))))
  have w1 := hts (.classLink RL 13 "java/lang/IllegalStateException") (List.mem_cons_of_mem _ (List.mem_append_left _ (List.mem_append_left _ (List.mem_append_left _ (List.mem_append_left _ (List.mem_append_left _ (List.mem_append_left _ (List.mem_append_left _ (List.mem_of_getElem? (i := 1) rfl)))))))))
  have w2 := hts (.classLink RL 38 "java/util/NoSuchElementException") (List.mem_cons_of_mem _ (List.mem_append_left _ (List.mem_append_left _ (List.mem_append_left _ (List.mem_append_left _ (List.mem_append_left _ (List.mem_append_left _ (List.mem_append_left _ (List.mem_of_getElem? (i := 2) rfl)))))))))
  refine lv_aload_n hX_ hB_ dL_start_0 rfl (lv_at hl 2 rfl) ?_
  refine lv_iconst (v := 0) hX_ hB_ dL_start_1 (by decide) ?_
  refine lv_aload_n hX_ hB_ dL_start_2 rfl (lv_at hl 0 rfl) ?_
  refine lv_iload_n hX_ hB_ dL_start_3 rfl (lv_at hl 1 rfl) ?_
  refine zx_FVc (As := [.int (nI j)]) (rest := [.int 0, .ref o]) (ci := 8) (q0 := 0) (k := (RX8, TX8, 8)) S (zt_start_t3 l D hst c a n A B E j hN hj h h2) (cwV 1 hts gL_start_X8_start rfl rfl rfl (by decide +kernel) ⟨(Nat.le_of_ble_eq_true rfl), (Nat.le_of_ble_eq_true rfl)⟩) hK hW hXB hA rfl (ze_at0 0 rfl) rfl hl.1 rfl (lv_room (Nat.le_of_ble_eq_true rfl)) dL_start_4 ⟨(Nat.le_of_ble_eq_true rfl), (Nat.le_of_ble_eq_true rfl)⟩ [⟨0, 9, 12, 19⟩, ⟨0, 9, 15, 13⟩] ⟨0, 9, 18, 38⟩ [] htab (by
      intro z hz
      simp only [List.mem_cons, List.not_mem_nil, or_false] at hz
      rcases hz with rfl | rfl
      · exact Or.inr ⟨by decide, "java/lang/IndexOutOfBoundsException", w0, hNc ("java/util/NoSuchElementException", "java/lang/IndexOutOfBoundsException") (by decide +kernel)⟩
      · exact Or.inr ⟨by decide, "java/lang/IllegalStateException", w1, hNc ("java/util/NoSuchElementException", "java/lang/IllegalStateException") (by decide +kernel)⟩) (by decide) (by decide) w2 (va_Nw.use rfl (hXB.2.2.2 _ (List.mem_of_getElem? (i := 6) rfl))) (fun q9 H locs hW => ?_)
  refine lv_astore_n (lv' := [(3, .ref q9), (0, .ref (a 0)), (1, .int (nI j)), (2, .ref o)]) hX_ hB_ dL_start_18 rfl hl (by decide) rfl (fun ls hl => ?_)
  refine lv_iconst (v := 3) hX_ hB_ dL_start_19 (by decide) ?_
  exact ze_iret S hr hlocks hF hK hW rfl dL_start_20 (Nat.le_of_ble_eq_true rfl) (Nat.le_of_ble_eq_true rfl) rfl rfl
set_option maxHeartbeats 4000000 in
set_option maxRecDepth 100000 in
theorem zl_startNext_f (l : Launch) (D : va_G) (c : Nat → ClassId) (a n : Nat → Nat) (A : Nat → Nat → Int32) (B : Nat → Int64) (E : Nat → Nat → Int32) (o : Nat) (f : Nat → Int64)  (j : Nat) (hN : zf_N n) (hj : j < n 0) (hS : zf_S n A) (v : Nat) (hpick : zf_nx A (E 0) (E 0 j) (n 2) = some v) : ze_Q l yL_startNext wsL_startNext 3 68 0 0 D c ((ze_wC c a n A B E) ++ [(o, .inl (c 6, 1, .inr (.inl f)))]) [.ref (a 0), .int (nI j), .ref o] 0 ((ze_wC c a n (zf_start A v) B E) ++ [(o, .inl (c 6, 1, .inr (.inl (vp_updL f 0 ((nI v).toInt64)))))]) := by
  intro sz
  refine zq_start (cc := cL_startNext) (maxL := 4) (ret := (some .int)) (own := RL) (by decide) rfl rfl (Nat.le_of_ble_eq_true rfl) ?_
  obtain ⟨hn0, hn1, hn2, hn3, hn4⟩ := id hN
  intro p e s m_ below meth cd F ls hF hsz E0 hXB hNc htab
  obtain ⟨S, hr, hlocks, hK, hW, hA, hl⟩ := E0
  have hX_ := S.1
  have hB_ := S.2.1
  have hts := S.2.2.2.2
  have hl : lv_has ls 4 [(0, .ref (a 0)), (1, .int (nI j)), (2, .ref o)] := hl
  refine lv_aload_n hX_ hB_ dL_startNext_0 rfl (lv_at hl 2 rfl) ?_
  refine lv_iconst (v := 0) hX_ hB_ dL_startNext_1 (by decide) ?_
  refine lv_aload_n hX_ hB_ dL_startNext_2 rfl (lv_at hl 0 rfl) ?_
  refine lv_iload_n hX_ hB_ dL_startNext_3 rfl (lv_at hl 1 rfl) ?_
  refine ze_FVi (As := [.int (nI j)]) (rest := [.int 0, .ref o]) (ci := 8) (q0 := 0) (k := (RX8, TX8, 8)) S (zp_startNext_f l D c a n A B E j hN hj hS v hpick) (cwV 1 hts gL_startNext_X8_startNext rfl rfl rfl (by decide +kernel) ⟨Nat.le_of_ble_eq_true rfl, Nat.le_of_ble_eq_true rfl⟩) hK hW hA rfl (ze_at0 0 rfl) rfl hl.1 rfl (lv_room (Nat.le_of_ble_eq_true rfl)) dL_startNext_4 ⟨Nat.le_of_ble_eq_true rfl, Nat.le_of_ble_eq_true rfl⟩ (fun H locs hW => ?_)
  have hW : ze_W D ((ze_wC c a n (zf_start A v) B E) ++ [(o, .inl (c 6, 1, .inr (.inl f)))]) F s.heap _ _ := hW
  refine lv_i2l (v := (nI v).toInt64) hX_ hB_ dL_startNext_7 rfl ?_
  refine ze_last hX_ hB_ hK hW ((ze_wC c a n (zf_start A v) B E).length + 0) (i := 0) (ze_appL (k := 0) rfl) (by decide) (by decide) dL_startNext_8 (ze_appset rfl) (fun H locs hW => ?_)
  have hW : ze_W D ((ze_wC c a n (zf_start A v) B E) ++ [(o, .inl (c 6, 1, .inr (.inl (vp_updL f 0 ((nI v).toInt64)))))]) F s.heap _ _ := hW
  refine lv_goto (tgt := 18) hX_ hB_ dL_startNext_9 (by decide) ?_
  refine lv_iconst (v := 0) hX_ hB_ dL_startNext_18 (by decide) ?_
  exact ze_iret S hr hlocks hF hK hW rfl dL_startNext_19 (Nat.le_of_ble_eq_true rfl) (Nat.le_of_ble_eq_true rfl) rfl rfl
set_option maxHeartbeats 4000000 in
set_option maxRecDepth 100000 in
theorem zl_startNext_t1 (l : Launch) (D : va_G) (hst : l.stackTraces = false) (c : Nat → ClassId) (a n : Nat → Nat) (A : Nat → Nat → Int32) (B : Nat → Int64) (E : Nat → Nat → Int32) (o : Nat) (f : Nat → Int64)  (x : Int32) (hN : zf_N n) (hx : ¬ zf_isIn x 0 (nI (n 0) - 1)) : ze_Q l yL_startNext wsL_startNext 9 146 1 6 D c ((ze_wC c a n A B E) ++ [(o, .inl (c 6, 1, .inr (.inl f)))]) [.ref (a 0), .int x, .ref o] 1 ((ze_wC c a n A B E) ++ [(o, .inl (c 6, 1, .inr (.inl f)))]) := by
  intro sz
  refine zq_start (cc := cL_startNext) (maxL := 4) (ret := (some .int)) (own := RL) (by decide) rfl rfl (Nat.le_of_ble_eq_true rfl) ?_
  obtain ⟨hn0, hn1, hn2, hn3, hn4⟩ := id hN
  intro p e s m_ below meth cd F ls hF hsz E0 hXB hNc htab
  obtain ⟨S, hr, hlocks, hK, hW, hA, hl⟩ := E0
  have hX_ := S.1
  have hB_ := S.2.1
  have hts := S.2.2.2.2
  have hl : lv_has ls 4 [(0, .ref (a 0)), (1, .int x), (2, .ref o)] := hl
  have w0 := hts (.classLink RL 19 "java/lang/IndexOutOfBoundsException") (List.mem_cons_of_mem _ (List.mem_append_left _ (List.mem_append_left _ (List.mem_append_left _ (List.mem_append_left _ (List.mem_append_left _ (List.mem_append_left _ (List.mem_append_left _ (List.mem_of_getElem? (i := 0) rfl)))))))))
  refine lv_aload_n hX_ hB_ dL_startNext_0 rfl (lv_at hl 2 rfl) ?_
  refine lv_iconst (v := 0) hX_ hB_ dL_startNext_1 (by decide) ?_
  refine lv_aload_n hX_ hB_ dL_startNext_2 rfl (lv_at hl 0 rfl) ?_
  refine lv_iload_n hX_ hB_ dL_startNext_3 rfl (lv_at hl 1 rfl) ?_
  refine zx_FVc (As := [.int x]) (rest := [.int 0, .ref o]) (ci := 8) (q0 := 0) (k := (RX8, TX8, 8)) S (zt_startNext_t1 l D hst c a n A B E x hN hx) (cwV 1 hts gL_startNext_X8_startNext rfl rfl rfl (by decide +kernel) ⟨(Nat.le_of_ble_eq_true rfl), (Nat.le_of_ble_eq_true rfl)⟩) hK hW hXB hA rfl (ze_at0 0 rfl) rfl hl.1 rfl (lv_room (Nat.le_of_ble_eq_true rfl)) dL_startNext_4 ⟨(Nat.le_of_ble_eq_true rfl), (Nat.le_of_ble_eq_true rfl)⟩ [] ⟨0, 9, 12, 19⟩ [⟨0, 9, 15, 38⟩] htab (by intro z hz; cases hz) (by decide) (by decide) w0 (va_Nw.use rfl (hXB.2.2.2 _ (List.mem_of_getElem? (i := 7) rfl))) (fun q9 H locs hW => ?_)
  refine lv_astore_n (lv' := [(3, .ref q9), (0, .ref (a 0)), (1, .int x), (2, .ref o)]) hX_ hB_ dL_startNext_12 rfl hl (by decide) rfl (fun ls hl => ?_)
  refine lv_iconst (v := 1) hX_ hB_ dL_startNext_13 (by decide) ?_
  exact ze_iret S hr hlocks hF hK hW rfl dL_startNext_14 (Nat.le_of_ble_eq_true rfl) (Nat.le_of_ble_eq_true rfl) rfl rfl
set_option maxHeartbeats 4000000 in
set_option maxRecDepth 100000 in
theorem zl_startNext_t2 (l : Launch) (D : va_G) (hst : l.stackTraces = false) (c : Nat → ClassId) (a n : Nat → Nat) (A : Nat → Nat → Int32) (B : Nat → Int64) (E : Nat → Nat → Int32) (o : Nat) (f : Nat → Int64)  (j : Nat) (hN : zf_N n) (hj : j < n 0) (hS : zf_S n A) (hpick : zf_nx A (E 0) (E 0 j) (n 2) = none) : ze_Q l yL_startNext wsL_startNext 7 104 1 6 D c ((ze_wC c a n A B E) ++ [(o, .inl (c 6, 1, .inr (.inl f)))]) [.ref (a 0), .int (nI j), .ref o] 2 ((ze_wC c a n A B E) ++ [(o, .inl (c 6, 1, .inr (.inl f)))]) := by
  intro sz
  refine zq_start (cc := cL_startNext) (maxL := 4) (ret := (some .int)) (own := RL) (by decide) rfl rfl (Nat.le_of_ble_eq_true rfl) ?_
  obtain ⟨hn0, hn1, hn2, hn3, hn4⟩ := id hN
  intro p e s m_ below meth cd F ls hF hsz E0 hXB hNc htab
  obtain ⟨S, hr, hlocks, hK, hW, hA, hl⟩ := E0
  have hX_ := S.1
  have hB_ := S.2.1
  have hts := S.2.2.2.2
  have hl : lv_has ls 4 [(0, .ref (a 0)), (1, .int (nI j)), (2, .ref o)] := hl
  have w0 := hts (.classLink RL 19 "java/lang/IndexOutOfBoundsException") (List.mem_cons_of_mem _ (List.mem_append_left _ (List.mem_append_left _ (List.mem_append_left _ (List.mem_append_left _ (List.mem_append_left _ (List.mem_append_left _ (List.mem_append_left _ (List.mem_of_getElem? (i := 0) rfl)))))))))
  have w1 := hts (.classLink RL 38 "java/util/NoSuchElementException") (List.mem_cons_of_mem _ (List.mem_append_left _ (List.mem_append_left _ (List.mem_append_left _ (List.mem_append_left _ (List.mem_append_left _ (List.mem_append_left _ (List.mem_append_left _ (List.mem_of_getElem? (i := 1) rfl)))))))))
  refine lv_aload_n hX_ hB_ dL_startNext_0 rfl (lv_at hl 2 rfl) ?_
  refine lv_iconst (v := 0) hX_ hB_ dL_startNext_1 (by decide) ?_
  refine lv_aload_n hX_ hB_ dL_startNext_2 rfl (lv_at hl 0 rfl) ?_
  refine lv_iload_n hX_ hB_ dL_startNext_3 rfl (lv_at hl 1 rfl) ?_
  refine zx_FVc (As := [.int (nI j)]) (rest := [.int 0, .ref o]) (ci := 8) (q0 := 0) (k := (RX8, TX8, 8)) S (zt_startNext_t2 l D hst c a n A B E j hN hj hS hpick) (cwV 1 hts gL_startNext_X8_startNext rfl rfl rfl (by decide +kernel) ⟨(Nat.le_of_ble_eq_true rfl), (Nat.le_of_ble_eq_true rfl)⟩) hK hW hXB hA rfl (ze_at0 0 rfl) rfl hl.1 rfl (lv_room (Nat.le_of_ble_eq_true rfl)) dL_startNext_4 ⟨(Nat.le_of_ble_eq_true rfl), (Nat.le_of_ble_eq_true rfl)⟩ [⟨0, 9, 12, 19⟩] ⟨0, 9, 15, 38⟩ [] htab (by
      intro z hz
      simp only [List.mem_cons, List.not_mem_nil, or_false] at hz
      rcases hz with rfl
      exact Or.inr ⟨by decide, "java/lang/IndexOutOfBoundsException", w0, hNc ("java/util/NoSuchElementException", "java/lang/IndexOutOfBoundsException") (by decide +kernel)⟩) (by decide) (by decide) w1 (va_Nw.use rfl (hXB.2.2.2 _ (List.mem_of_getElem? (i := 6) rfl))) (fun q9 H locs hW => ?_)
  refine lv_astore_n (lv' := [(3, .ref q9), (0, .ref (a 0)), (1, .int (nI j)), (2, .ref o)]) hX_ hB_ dL_startNext_15 rfl hl (by decide) rfl (fun ls hl => ?_)
  refine lv_iconst (v := 2) hX_ hB_ dL_startNext_16 (by decide) ?_
  exact ze_iret S hr hlocks hF hK hW rfl dL_startNext_17 (Nat.le_of_ble_eq_true rfl) (Nat.le_of_ble_eq_true rfl) rfl rfl
set_option maxHeartbeats 4000000 in
set_option maxRecDepth 100000 in
theorem zl_state_f (l : Launch) (D : va_G) (c : Nat → ClassId) (a n : Nat → Nat) (A : Nat → Nat → Int32) (B : Nat → Int64) (E : Nat → Nat → Int32) (o : Nat) (f : Nat → Int64)  (j : Nat) (hN : zf_N n) (hj : j < n 2) (hC : zf_chr (A 13 j)) : ze_Q l yL_state wsL_state 3 63 0 0 D c ((ze_wC c a n A B E) ++ [(o, .inl (c 6, 1, .inr (.inl f)))]) [.ref (a 0), .int (nI j), .ref o] 0 ((ze_wC c a n A B E) ++ [(o, .inl (c 6, 1, .inr (.inl (vp_updL f 0 ((A 13 j).toInt64)))))]) := by
  intro sz
  refine zq_start (cc := cL_state) (maxL := 4) (ret := (some .int)) (own := RL) (by decide) rfl rfl (Nat.le_of_ble_eq_true rfl) ?_
  obtain ⟨hn0, hn1, hn2, hn3, hn4⟩ := id hN
  intro p e s m_ below meth cd F ls hF hsz E0 hXB hNc htab
  obtain ⟨S, hr, hlocks, hK, hW, hA, hl⟩ := E0
  have hX_ := S.1
  have hB_ := S.2.1
  have hts := S.2.2.2.2
  have hl : lv_has ls 4 [(0, .ref (a 0)), (1, .int (nI j)), (2, .ref o)] := hl
  refine lv_aload_n hX_ hB_ dL_state_0 rfl (lv_at hl 2 rfl) ?_
  refine lv_iconst (v := 0) hX_ hB_ dL_state_1 (by decide) ?_
  refine lv_aload_n hX_ hB_ dL_state_2 rfl (lv_at hl 0 rfl) ?_
  refine lv_iload_n hX_ hB_ dL_state_3 rfl (lv_at hl 1 rfl) ?_
  refine ze_FVi (As := [.int (nI j)]) (rest := [.int 0, .ref o]) (ci := 8) (q0 := 0) (k := (RX8, TX8, 8)) S (zp_state_f l D c a n A B E j hN hj hC) (cwV 1 hts gL_state_X8_state rfl rfl rfl (by decide +kernel) ⟨Nat.le_of_ble_eq_true rfl, Nat.le_of_ble_eq_true rfl⟩) hK hW hA rfl (ze_at0 0 rfl) rfl hl.1 rfl (lv_room (Nat.le_of_ble_eq_true rfl)) dL_state_4 ⟨Nat.le_of_ble_eq_true rfl, Nat.le_of_ble_eq_true rfl⟩ (fun H locs hW => ?_)
  refine lv_i2l (v := (A 13 j).toInt64) hX_ hB_ dL_state_7 rfl ?_
  refine ze_last hX_ hB_ hK hW ((ze_wC c a n A B E).length + 0) (i := 0) (ze_appL (k := 0) rfl) (by decide) (by decide) dL_state_8 (ze_appset rfl) (fun H locs hW => ?_)
  have hW : ze_W D ((ze_wC c a n A B E) ++ [(o, .inl (c 6, 1, .inr (.inl (vp_updL f 0 ((A 13 j).toInt64)))))]) F s.heap _ _ := hW
  refine lv_goto (tgt := 15) hX_ hB_ dL_state_9 (by decide) ?_
  refine lv_iconst (v := 0) hX_ hB_ dL_state_15 (by decide) ?_
  exact ze_iret S hr hlocks hF hK hW rfl dL_state_16 (Nat.le_of_ble_eq_true rfl) (Nat.le_of_ble_eq_true rfl) rfl rfl
set_option maxHeartbeats 4000000 in
set_option maxRecDepth 100000 in
theorem zl_state_t1 (l : Launch) (D : va_G) (hst : l.stackTraces = false) (c : Nat → ClassId) (a n : Nat → Nat) (A : Nat → Nat → Int32) (B : Nat → Int64) (E : Nat → Nat → Int32) (o : Nat) (f : Nat → Int64)  (x : Int32) (hN : zf_N n) (hx : ¬ zf_isIn x 0 (nI (n 2) - 1)) : ze_Q l yL_state wsL_state 9 145 1 6 D c ((ze_wC c a n A B E) ++ [(o, .inl (c 6, 1, .inr (.inl f)))]) [.ref (a 0), .int x, .ref o] 1 ((ze_wC c a n A B E) ++ [(o, .inl (c 6, 1, .inr (.inl f)))]) := by
  intro sz
  refine zq_start (cc := cL_state) (maxL := 4) (ret := (some .int)) (own := RL) (by decide) rfl rfl (Nat.le_of_ble_eq_true rfl) ?_
  obtain ⟨hn0, hn1, hn2, hn3, hn4⟩ := id hN
  intro p e s m_ below meth cd F ls hF hsz E0 hXB hNc htab
  obtain ⟨S, hr, hlocks, hK, hW, hA, hl⟩ := E0
  have hX_ := S.1
  have hB_ := S.2.1
  have hts := S.2.2.2.2
  have hl : lv_has ls 4 [(0, .ref (a 0)), (1, .int x), (2, .ref o)] := hl
  have w0 := hts (.classLink RL 19 "java/lang/IndexOutOfBoundsException") (List.mem_cons_of_mem _ (List.mem_append_left _ (List.mem_append_left _ (List.mem_append_left _ (List.mem_append_left _ (List.mem_of_getElem? (i := 0) rfl))))))
  refine lv_aload_n hX_ hB_ dL_state_0 rfl (lv_at hl 2 rfl) ?_
  refine lv_iconst (v := 0) hX_ hB_ dL_state_1 (by decide) ?_
  refine lv_aload_n hX_ hB_ dL_state_2 rfl (lv_at hl 0 rfl) ?_
  refine lv_iload_n hX_ hB_ dL_state_3 rfl (lv_at hl 1 rfl) ?_
  refine zx_FVc (As := [.int x]) (rest := [.int 0, .ref o]) (ci := 8) (q0 := 0) (k := (RX8, TX8, 8)) S (zt_state_t1 l D hst c a n A B E x hN hx) (cwV 1 hts gL_state_X8_state rfl rfl rfl (by decide +kernel) ⟨(Nat.le_of_ble_eq_true rfl), (Nat.le_of_ble_eq_true rfl)⟩) hK hW hXB hA rfl (ze_at0 0 rfl) rfl hl.1 rfl (lv_room (Nat.le_of_ble_eq_true rfl)) dL_state_4 ⟨(Nat.le_of_ble_eq_true rfl), (Nat.le_of_ble_eq_true rfl)⟩ [] ⟨0, 9, 12, 19⟩ [] htab (by intro z hz; cases hz) (by decide) (by decide) w0 (va_Nw.use rfl (hXB.2.2.2 _ (List.mem_of_getElem? (i := 7) rfl))) (fun q9 H locs hW => ?_)
  refine lv_astore_n (lv' := [(3, .ref q9), (0, .ref (a 0)), (1, .int x), (2, .ref o)]) hX_ hB_ dL_state_12 rfl hl (by decide) rfl (fun ls hl => ?_)
  refine lv_iconst (v := 1) hX_ hB_ dL_state_13 (by decide) ?_
  exact ze_iret S hr hlocks hF hK hW rfl dL_state_14 (Nat.le_of_ble_eq_true rfl) (Nat.le_of_ble_eq_true rfl) rfl rfl
set_option maxHeartbeats 4000000 in
set_option maxRecDepth 100000 in
theorem zl_stop_f (l : Launch) (D : va_G) (c : Nat → ClassId) (a n : Nat → Nat) (A : Nat → Nat → Int32) (B : Nat → Int64) (E : Nat → Nat → Int32) (o : Nat) (f : Nat → Int64)  (j : Nat) (hN : zf_N n) (hj : j < n 2) (h : ¬ A 13 j = 111) : ze_Q l yL_stop wsL_stop 3 64 0 0 D c ((ze_wC c a n A B E) ++ [(o, .inl (c 6, 1, .inr (.inl f)))]) [.ref (a 0), .int (nI j), .ref o] 0 ((ze_wC c a n (ze_sE A 13 j 111) B E) ++ [(o, .inl (c 6, 1, .inr (.inl (vp_updL f 0 ((A 10 j).toInt64)))))]) := by
  intro sz
  refine zq_start (cc := cL_stop) (maxL := 4) (ret := (some .int)) (own := RL) (by decide) rfl rfl (Nat.le_of_ble_eq_true rfl) ?_
  obtain ⟨hn0, hn1, hn2, hn3, hn4⟩ := id hN
  intro p e s m_ below meth cd F ls hF hsz E0 hXB hNc htab
  obtain ⟨S, hr, hlocks, hK, hW, hA, hl⟩ := E0
  have hX_ := S.1
  have hB_ := S.2.1
  have hts := S.2.2.2.2
  have hl : lv_has ls 4 [(0, .ref (a 0)), (1, .int (nI j)), (2, .ref o)] := hl
  refine lv_aload_n hX_ hB_ dL_stop_0 rfl (lv_at hl 2 rfl) ?_
  refine lv_iconst (v := 0) hX_ hB_ dL_stop_1 (by decide) ?_
  refine lv_aload_n hX_ hB_ dL_stop_2 rfl (lv_at hl 0 rfl) ?_
  refine lv_iload_n hX_ hB_ dL_stop_3 rfl (lv_at hl 1 rfl) ?_
  refine ze_FVi (As := [.int (nI j)]) (rest := [.int 0, .ref o]) (ci := 8) (q0 := 0) (k := (RX8, TX8, 8)) S (zp_stop_f l D c a n A B E j hN hj h) (cwV 1 hts gL_stop_X8_stop rfl rfl rfl (by decide +kernel) ⟨Nat.le_of_ble_eq_true rfl, Nat.le_of_ble_eq_true rfl⟩) hK hW hA rfl (ze_at0 0 rfl) rfl hl.1 rfl (lv_room (Nat.le_of_ble_eq_true rfl)) dL_stop_4 ⟨Nat.le_of_ble_eq_true rfl, Nat.le_of_ble_eq_true rfl⟩ (fun H locs hW => ?_)
  have hW : ze_W D ((ze_wC c a n (ze_sE A 13 j 111) B E) ++ [(o, .inl (c 6, 1, .inr (.inl f)))]) F s.heap _ _ := hW
  refine lv_i2l (v := (A 10 j).toInt64) hX_ hB_ dL_stop_7 rfl ?_
  refine ze_last hX_ hB_ hK hW ((ze_wC c a n (ze_sE A 13 j 111) B E).length + 0) (i := 0) (ze_appL (k := 0) rfl) (by decide) (by decide) dL_stop_8 (ze_appset rfl) (fun H locs hW => ?_)
  have hW : ze_W D ((ze_wC c a n (ze_sE A 13 j 111) B E) ++ [(o, .inl (c 6, 1, .inr (.inl (vp_updL f 0 ((A 10 j).toInt64)))))]) F s.heap _ _ := hW
  refine lv_goto (tgt := 18) hX_ hB_ dL_stop_9 (by decide) ?_
  refine lv_iconst (v := 0) hX_ hB_ dL_stop_18 (by decide) ?_
  exact ze_iret S hr hlocks hF hK hW rfl dL_stop_19 (Nat.le_of_ble_eq_true rfl) (Nat.le_of_ble_eq_true rfl) rfl rfl
set_option maxHeartbeats 4000000 in
set_option maxRecDepth 100000 in
theorem zl_stop_t1 (l : Launch) (D : va_G) (hst : l.stackTraces = false) (c : Nat → ClassId) (a n : Nat → Nat) (A : Nat → Nat → Int32) (B : Nat → Int64) (E : Nat → Nat → Int32) (o : Nat) (f : Nat → Int64)  (x : Int32) (hN : zf_N n) (hx : ¬ zf_isIn x 0 (nI (n 2) - 1)) : ze_Q l yL_stop wsL_stop 9 146 1 6 D c ((ze_wC c a n A B E) ++ [(o, .inl (c 6, 1, .inr (.inl f)))]) [.ref (a 0), .int x, .ref o] 1 ((ze_wC c a n A B E) ++ [(o, .inl (c 6, 1, .inr (.inl f)))]) := by
  intro sz
  refine zq_start (cc := cL_stop) (maxL := 4) (ret := (some .int)) (own := RL) (by decide) rfl rfl (Nat.le_of_ble_eq_true rfl) ?_
  obtain ⟨hn0, hn1, hn2, hn3, hn4⟩ := id hN
  intro p e s m_ below meth cd F ls hF hsz E0 hXB hNc htab
  obtain ⟨S, hr, hlocks, hK, hW, hA, hl⟩ := E0
  have hX_ := S.1
  have hB_ := S.2.1
  have hts := S.2.2.2.2
  have hl : lv_has ls 4 [(0, .ref (a 0)), (1, .int x), (2, .ref o)] := hl
  have w0 := hts (.classLink RL 19 "java/lang/IndexOutOfBoundsException") (List.mem_cons_of_mem _ (List.mem_append_left _ (List.mem_append_left _ (List.mem_append_left _ (List.mem_append_left _ (List.mem_append_left _ (List.mem_append_left _ (List.mem_of_getElem? (i := 0) rfl))))))))
  refine lv_aload_n hX_ hB_ dL_stop_0 rfl (lv_at hl 2 rfl) ?_
  refine lv_iconst (v := 0) hX_ hB_ dL_stop_1 (by decide) ?_
  refine lv_aload_n hX_ hB_ dL_stop_2 rfl (lv_at hl 0 rfl) ?_
  refine lv_iload_n hX_ hB_ dL_stop_3 rfl (lv_at hl 1 rfl) ?_
  refine zx_FVc (As := [.int x]) (rest := [.int 0, .ref o]) (ci := 8) (q0 := 0) (k := (RX8, TX8, 8)) S (zt_stop_t1 l D hst c a n A B E x hN hx) (cwV 1 hts gL_stop_X8_stop rfl rfl rfl (by decide +kernel) ⟨(Nat.le_of_ble_eq_true rfl), (Nat.le_of_ble_eq_true rfl)⟩) hK hW hXB hA rfl (ze_at0 0 rfl) rfl hl.1 rfl (lv_room (Nat.le_of_ble_eq_true rfl)) dL_stop_4 ⟨(Nat.le_of_ble_eq_true rfl), (Nat.le_of_ble_eq_true rfl)⟩ [] ⟨0, 9, 12, 19⟩ [⟨0, 9, 15, 13⟩] htab (by intro z hz; cases hz) (by decide) (by decide) w0 (va_Nw.use rfl (hXB.2.2.2 _ (List.mem_of_getElem? (i := 7) rfl))) (fun q9 H locs hW => ?_)
  refine lv_astore_n (lv' := [(3, .ref q9), (0, .ref (a 0)), (1, .int x), (2, .ref o)]) hX_ hB_ dL_stop_12 rfl hl (by decide) rfl (fun ls hl => ?_)
  refine lv_iconst (v := 1) hX_ hB_ dL_stop_13 (by decide) ?_
  exact ze_iret S hr hlocks hF hK hW rfl dL_stop_14 (Nat.le_of_ble_eq_true rfl) (Nat.le_of_ble_eq_true rfl) rfl rfl
set_option maxHeartbeats 4000000 in
set_option maxRecDepth 100000 in
theorem zl_stop_t2 (l : Launch) (D : va_G) (hst : l.stackTraces = false) (c : Nat → ClassId) (a n : Nat → Nat) (A : Nat → Nat → Int32) (B : Nat → Int64) (E : Nat → Nat → Int32) (o : Nat) (f : Nat → Int64)  (j : Nat) (hN : zf_N n) (hj : j < n 2) (h : A 13 j = 111) : ze_Q l yL_stop wsL_stop 7 104 1 6 D c ((ze_wC c a n A B E) ++ [(o, .inl (c 6, 1, .inr (.inl f)))]) [.ref (a 0), .int (nI j), .ref o] 2 ((ze_wC c a n A B E) ++ [(o, .inl (c 6, 1, .inr (.inl f)))]) := by
  intro sz
  refine zq_start (cc := cL_stop) (maxL := 4) (ret := (some .int)) (own := RL) (by decide) rfl rfl (Nat.le_of_ble_eq_true rfl) ?_
  obtain ⟨hn0, hn1, hn2, hn3, hn4⟩ := id hN
  intro p e s m_ below meth cd F ls hF hsz E0 hXB hNc htab
  obtain ⟨S, hr, hlocks, hK, hW, hA, hl⟩ := E0
  have hX_ := S.1
  have hB_ := S.2.1
  have hts := S.2.2.2.2
  have hl : lv_has ls 4 [(0, .ref (a 0)), (1, .int (nI j)), (2, .ref o)] := hl
  have w0 := hts (.classLink RL 19 "java/lang/IndexOutOfBoundsException") (List.mem_cons_of_mem _ (List.mem_append_left _ (List.mem_append_left _ (List.mem_append_left _ (List.mem_append_left _ (List.mem_append_left _ (List.mem_append_left _ (List.mem_of_getElem? (i := 0) rfl))))))))
  have w1 := hts (.classLink RL 13 "java/lang/IllegalStateException") (List.mem_cons_of_mem _ (List.mem_append_left _ (List.mem_append_left _ (List.mem_append_left _ (List.mem_append_left _ (List.mem_append_left _ (List.mem_append_left _ (List.mem_of_getElem? (i := 1) rfl))))))))
  refine lv_aload_n hX_ hB_ dL_stop_0 rfl (lv_at hl 2 rfl) ?_
  refine lv_iconst (v := 0) hX_ hB_ dL_stop_1 (by decide) ?_
  refine lv_aload_n hX_ hB_ dL_stop_2 rfl (lv_at hl 0 rfl) ?_
  refine lv_iload_n hX_ hB_ dL_stop_3 rfl (lv_at hl 1 rfl) ?_
  refine zx_FVc (As := [.int (nI j)]) (rest := [.int 0, .ref o]) (ci := 8) (q0 := 0) (k := (RX8, TX8, 8)) S (zt_stop_t2 l D hst c a n A B E j hN hj h) (cwV 1 hts gL_stop_X8_stop rfl rfl rfl (by decide +kernel) ⟨(Nat.le_of_ble_eq_true rfl), (Nat.le_of_ble_eq_true rfl)⟩) hK hW hXB hA rfl (ze_at0 0 rfl) rfl hl.1 rfl (lv_room (Nat.le_of_ble_eq_true rfl)) dL_stop_4 ⟨(Nat.le_of_ble_eq_true rfl), (Nat.le_of_ble_eq_true rfl)⟩ [⟨0, 9, 12, 19⟩] ⟨0, 9, 15, 13⟩ [] htab (by
      intro z hz
      simp only [List.mem_cons, List.not_mem_nil, or_false] at hz
      rcases hz with rfl
      exact Or.inr ⟨by decide, "java/lang/IndexOutOfBoundsException", w0, hNc ("java/lang/IllegalStateException", "java/lang/IndexOutOfBoundsException") (by decide +kernel)⟩) (by decide) (by decide) w1 (va_Nw.use rfl (hXB.2.2.2 _ (List.mem_of_getElem? (i := 3) rfl))) (fun q9 H locs hW => ?_)
  refine lv_astore_n (lv' := [(3, .ref q9), (0, .ref (a 0)), (1, .int (nI j)), (2, .ref o)]) hX_ hB_ dL_stop_15 rfl hl (by decide) rfl (fun ls hl => ?_)
  refine lv_iconst (v := 2) hX_ hB_ dL_stop_16 (by decide) ?_
  exact ze_iret S hr hlocks hF hK hW rfl dL_stop_17 (Nat.le_of_ble_eq_true rfl) (Nat.le_of_ble_eq_true rfl) rfl rfl
set_option maxHeartbeats 4000000 in
set_option maxRecDepth 100000 in
theorem zl_tie_f (l : Launch) (D : va_G) (c : Nat → ClassId) (a n : Nat → Nat) (A : Nat → Nat → Int32) (B : Nat → Int64) (E : Nat → Nat → Int32) (o : Nat) (f : Nat → Int64)  (hN : zf_N n) (h : ¬ n 0 = 0) (h2 : A 38 0 = 0) (h3 : ze_mn (ze_ab ((if zf_tied A 0 then 0 else A 0 (ze_ix 0)) - 0)) (360 - ze_ab ((if zf_tied A 0 then 0 else A 0 (ze_ix 0)) - 0)) ≤ 10) : ze_Q l yL_tie wsL_tie 3 62 0 0 D c ((ze_wC c a n A B E) ++ [(o, .inl (c 6, 1, .inr (.inl f)))]) [.ref (a 0), .ref o] 0 ((ze_wC c a n (ze_sC A 38 1) B E) ++ [(o, .inl (c 6, 1, .inr (.inl (vp_updL f 0 ((ze_sum 0 (fun s => if E 0 s = 0 then 1 else 0) (n 0)).toInt64)))))]) := by
  intro sz
  refine zq_start (cc := cL_tie) (maxL := 3) (ret := (some .int)) (own := RL) (by decide) rfl rfl (Nat.le_of_ble_eq_true rfl) ?_
  obtain ⟨hn0, hn1, hn2, hn3, hn4⟩ := id hN
  intro p e s m_ below meth cd F ls hF hsz E0 hXB hNc htab
  obtain ⟨S, hr, hlocks, hK, hW, hA, hl⟩ := E0
  have hX_ := S.1
  have hB_ := S.2.1
  have hts := S.2.2.2.2
  have hl : lv_has ls 3 [(0, .ref (a 0)), (1, .ref o)] := hl
  refine lv_aload_n hX_ hB_ dL_tie_0 rfl (lv_at hl 1 rfl) ?_
  refine lv_iconst (v := 0) hX_ hB_ dL_tie_1 (by decide) ?_
  refine lv_aload_n hX_ hB_ dL_tie_2 rfl (lv_at hl 0 rfl) ?_
  refine ze_FVi (As := []) (rest := [.int 0, .ref o]) (ci := 8) (q0 := 0) (k := (RX8, TX8, 8)) S (zp_tie_f l D c a n A B E hN h h2 h3) (cwV 0 hts gL_tie_X8_tie rfl rfl rfl (by decide +kernel) ⟨Nat.le_of_ble_eq_true rfl, Nat.le_of_ble_eq_true rfl⟩) hK hW hA rfl (ze_at0 0 rfl) rfl hl.1 rfl (lv_room (Nat.le_of_ble_eq_true rfl)) dL_tie_3 ⟨Nat.le_of_ble_eq_true rfl, Nat.le_of_ble_eq_true rfl⟩ (fun H locs hW => ?_)
  have hW : ze_W D ((ze_wC c a n (ze_sC A 38 1) B E) ++ [(o, .inl (c 6, 1, .inr (.inl f)))]) F s.heap _ _ := hW
  refine lv_i2l (v := (ze_sum 0 (fun s => if E 0 s = 0 then 1 else 0) (n 0)).toInt64) hX_ hB_ dL_tie_6 rfl ?_
  refine ze_last hX_ hB_ hK hW ((ze_wC c a n (ze_sC A 38 1) B E).length + 0) (i := 0) (ze_appL (k := 0) rfl) (by decide) (by decide) dL_tie_7 (ze_appset rfl) (fun H locs hW => ?_)
  have hW : ze_W D ((ze_wC c a n (ze_sC A 38 1) B E) ++ [(o, .inl (c 6, 1, .inr (.inl (vp_updL f 0 ((ze_sum 0 (fun s => if E 0 s = 0 then 1 else 0) (n 0)).toInt64)))))]) F s.heap _ _ := hW
  refine lv_goto (tgt := 20) hX_ hB_ dL_tie_8 (by decide) ?_
  refine lv_iconst (v := 0) hX_ hB_ dL_tie_20 (by decide) ?_
  exact ze_iret S hr hlocks hF hK hW rfl dL_tie_21 (Nat.le_of_ble_eq_true rfl) (Nat.le_of_ble_eq_true rfl) rfl rfl
set_option maxHeartbeats 4000000 in
set_option maxRecDepth 100000 in
theorem zl_tie_t1 (l : Launch) (D : va_G) (hst : l.stackTraces = false) (c : Nat → ClassId) (a n : Nat → Nat) (A : Nat → Nat → Int32) (B : Nat → Int64) (E : Nat → Nat → Int32) (o : Nat) (f : Nat → Int64)  (hN : zf_N n) (h : n 0 = 0) : ze_Q l yL_tie wsL_tie 7 102 1 6 D c ((ze_wC c a n A B E) ++ [(o, .inl (c 6, 1, .inr (.inl f)))]) [.ref (a 0), .ref o] 1 ((ze_wC c a n A B E) ++ [(o, .inl (c 6, 1, .inr (.inl f)))]) := by
  intro sz
  refine zq_start (cc := cL_tie) (maxL := 3) (ret := (some .int)) (own := RL) (by decide) rfl rfl (Nat.le_of_ble_eq_true rfl) ?_
  obtain ⟨hn0, hn1, hn2, hn3, hn4⟩ := id hN
  intro p e s m_ below meth cd F ls hF hsz E0 hXB hNc htab
  obtain ⟨S, hr, hlocks, hK, hW, hA, hl⟩ := E0
  have hX_ := S.1
  have hB_ := S.2.1
  have hts := S.2.2.2.2
  have hl : lv_has ls 3 [(0, .ref (a 0)), (1, .ref o)] := hl
  have w0 := hts (.classLink RL 38 "java/util/NoSuchElementException") (List.mem_cons_of_mem _ (List.mem_append_left _ (List.mem_append_left _ (List.mem_append_left _ (List.mem_append_left _ (List.mem_append_left _ (List.mem_append_left _ (List.mem_of_getElem? (i := 0) rfl))))))))
  refine lv_aload_n hX_ hB_ dL_tie_0 rfl (lv_at hl 1 rfl) ?_
  refine lv_iconst (v := 0) hX_ hB_ dL_tie_1 (by decide) ?_
  refine lv_aload_n hX_ hB_ dL_tie_2 rfl (lv_at hl 0 rfl) ?_
  refine zx_FVc (As := []) (rest := [.int 0, .ref o]) (ci := 8) (q0 := 0) (k := (RX8, TX8, 8)) S (zt_tie_t1 l D hst c a n A B E hN h) (cwV 0 hts gL_tie_X8_tie rfl rfl rfl (by decide +kernel) ⟨(Nat.le_of_ble_eq_true rfl), (Nat.le_of_ble_eq_true rfl)⟩) hK hW hXB hA rfl (ze_at0 0 rfl) rfl hl.1 rfl (lv_room (Nat.le_of_ble_eq_true rfl)) dL_tie_3 ⟨(Nat.le_of_ble_eq_true rfl), (Nat.le_of_ble_eq_true rfl)⟩ [] ⟨0, 8, 11, 38⟩ [⟨0, 8, 14, 13⟩, ⟨0, 8, 17, 30⟩] htab (by intro z hz; cases hz) (by decide) (by decide) w0 (va_Nw.use rfl (hXB.2.2.2 _ (List.mem_of_getElem? (i := 6) rfl))) (fun q9 H locs hW => ?_)
  refine lv_astore_n (lv' := [(2, .ref q9), (0, .ref (a 0)), (1, .ref o)]) hX_ hB_ dL_tie_11 rfl hl (by decide) rfl (fun ls hl => ?_)
  refine lv_iconst (v := 1) hX_ hB_ dL_tie_12 (by decide) ?_
  exact ze_iret S hr hlocks hF hK hW rfl dL_tie_13 (Nat.le_of_ble_eq_true rfl) (Nat.le_of_ble_eq_true rfl) rfl rfl
set_option maxHeartbeats 4000000 in
set_option maxRecDepth 100000 in
theorem zl_tie_t2 (l : Launch) (D : va_G) (hst : l.stackTraces = false) (c : Nat → ClassId) (a n : Nat → Nat) (A : Nat → Nat → Int32) (B : Nat → Int64) (E : Nat → Nat → Int32) (o : Nat) (f : Nat → Int64)  (hN : zf_N n) (h : ¬ n 0 = 0) (h2 : ¬ A 38 0 = 0) : ze_Q l yL_tie wsL_tie 7 102 1 6 D c ((ze_wC c a n A B E) ++ [(o, .inl (c 6, 1, .inr (.inl f)))]) [.ref (a 0), .ref o] 2 ((ze_wC c a n A B E) ++ [(o, .inl (c 6, 1, .inr (.inl f)))]) := by
  intro sz
  refine zq_start (cc := cL_tie) (maxL := 3) (ret := (some .int)) (own := RL) (by decide) rfl rfl (Nat.le_of_ble_eq_true rfl) ?_
  obtain ⟨hn0, hn1, hn2, hn3, hn4⟩ := id hN
  intro p e s m_ below meth cd F ls hF hsz E0 hXB hNc htab
  obtain ⟨S, hr, hlocks, hK, hW, hA, hl⟩ := E0
  have hX_ := S.1
  have hB_ := S.2.1
  have hts := S.2.2.2.2
  have hl : lv_has ls 3 [(0, .ref (a 0)), (1, .ref o)] := hl
  have w0 := hts (.classLink RL 38 "java/util/NoSuchElementException") (List.mem_cons_of_mem _ (List.mem_append_left _ (List.mem_append_left _ (List.mem_append_left _ (List.mem_append_left _ (List.mem_append_left _ (List.mem_append_left _ (List.mem_of_getElem? (i := 0) rfl))))))))
  have w1 := hts (.classLink RL 13 "java/lang/IllegalStateException") (List.mem_cons_of_mem _ (List.mem_append_left _ (List.mem_append_left _ (List.mem_append_left _ (List.mem_append_left _ (List.mem_append_left _ (List.mem_append_left _ (List.mem_of_getElem? (i := 1) rfl))))))))
  refine lv_aload_n hX_ hB_ dL_tie_0 rfl (lv_at hl 1 rfl) ?_
  refine lv_iconst (v := 0) hX_ hB_ dL_tie_1 (by decide) ?_
  refine lv_aload_n hX_ hB_ dL_tie_2 rfl (lv_at hl 0 rfl) ?_
  refine zx_FVc (As := []) (rest := [.int 0, .ref o]) (ci := 8) (q0 := 0) (k := (RX8, TX8, 8)) S (zt_tie_t2 l D hst c a n A B E hN h h2) (cwV 0 hts gL_tie_X8_tie rfl rfl rfl (by decide +kernel) ⟨(Nat.le_of_ble_eq_true rfl), (Nat.le_of_ble_eq_true rfl)⟩) hK hW hXB hA rfl (ze_at0 0 rfl) rfl hl.1 rfl (lv_room (Nat.le_of_ble_eq_true rfl)) dL_tie_3 ⟨(Nat.le_of_ble_eq_true rfl), (Nat.le_of_ble_eq_true rfl)⟩ [⟨0, 8, 11, 38⟩] ⟨0, 8, 14, 13⟩ [⟨0, 8, 17, 30⟩] htab (by
      intro z hz
      simp only [List.mem_cons, List.not_mem_nil, or_false] at hz
      rcases hz with rfl
      exact Or.inr ⟨by decide, "java/util/NoSuchElementException", w0, hNc ("java/lang/IllegalStateException", "java/util/NoSuchElementException") (by decide +kernel)⟩) (by decide) (by decide) w1 (va_Nw.use rfl (hXB.2.2.2 _ (List.mem_of_getElem? (i := 3) rfl))) (fun q9 H locs hW => ?_)
  refine lv_astore_n (lv' := [(2, .ref q9), (0, .ref (a 0)), (1, .ref o)]) hX_ hB_ dL_tie_14 rfl hl (by decide) rfl (fun ls hl => ?_)
  refine lv_iconst (v := 2) hX_ hB_ dL_tie_15 (by decide) ?_
  exact ze_iret S hr hlocks hF hK hW rfl dL_tie_16 (Nat.le_of_ble_eq_true rfl) (Nat.le_of_ble_eq_true rfl) rfl rfl
set_option maxHeartbeats 4000000 in
set_option maxRecDepth 100000 in
theorem zl_tie_t3 (l : Launch) (D : va_G) (hst : l.stackTraces = false) (c : Nat → ClassId) (a n : Nat → Nat) (A : Nat → Nat → Int32) (B : Nat → Int64) (E : Nat → Nat → Int32) (o : Nat) (f : Nat → Int64)  (hN : zf_N n) (h : ¬ n 0 = 0) (h2 : A 38 0 = 0) (h3 : ¬ ze_mn (ze_ab ((if zf_tied A 0 then 0 else A 0 (ze_ix 0)) - 0)) (360 - ze_ab ((if zf_tied A 0 then 0 else A 0 (ze_ix 0)) - 0)) ≤ 10) : ze_Q l yL_tie wsL_tie 7 102 1 6 D c ((ze_wC c a n A B E) ++ [(o, .inl (c 6, 1, .inr (.inl f)))]) [.ref (a 0), .ref o] 3 ((ze_wC c a n A B E) ++ [(o, .inl (c 6, 1, .inr (.inl f)))]) := by
  intro sz
  refine zq_start (cc := cL_tie) (maxL := 3) (ret := (some .int)) (own := RL) (by decide) rfl rfl (Nat.le_of_ble_eq_true rfl) ?_
  obtain ⟨hn0, hn1, hn2, hn3, hn4⟩ := id hN
  intro p e s m_ below meth cd F ls hF hsz E0 hXB hNc htab
  obtain ⟨S, hr, hlocks, hK, hW, hA, hl⟩ := E0
  have hX_ := S.1
  have hB_ := S.2.1
  have hts := S.2.2.2.2
  have hl : lv_has ls 3 [(0, .ref (a 0)), (1, .ref o)] := hl
  have w0 := hts (.classLink RL 38 "java/util/NoSuchElementException") (List.mem_cons_of_mem _ (List.mem_append_left _ (List.mem_append_left _ (List.mem_append_left _ (List.mem_append_left _ (List.mem_append_left _ (List.mem_append_left _ (List.mem_of_getElem? (i := 0) rfl))))))))
  have w1 := hts (.classLink RL 13 "java/lang/IllegalStateException") (List.mem_cons_of_mem _ (List.mem_append_left _ (List.mem_append_left _ (List.mem_append_left _ (List.mem_append_left _ (List.mem_append_left _ (List.mem_append_left _ (List.mem_of_getElem? (i := 1) rfl))))))))
  have w2 := hts (.classLink RL 30 "java/lang/UnsupportedOperationException") (List.mem_cons_of_mem _ (List.mem_append_left _ (List.mem_append_left _ (List.mem_append_left _ (List.mem_append_left _ (List.mem_append_left _ (List.mem_append_left _ (List.mem_of_getElem? (i := 2) rfl))))))))
  refine lv_aload_n hX_ hB_ dL_tie_0 rfl (lv_at hl 1 rfl) ?_
  refine lv_iconst (v := 0) hX_ hB_ dL_tie_1 (by decide) ?_
  refine lv_aload_n hX_ hB_ dL_tie_2 rfl (lv_at hl 0 rfl) ?_
  refine zx_FVc (As := []) (rest := [.int 0, .ref o]) (ci := 8) (q0 := 0) (k := (RX8, TX8, 8)) S (zt_tie_t3 l D hst c a n A B E hN h h2 h3) (cwV 0 hts gL_tie_X8_tie rfl rfl rfl (by decide +kernel) ⟨(Nat.le_of_ble_eq_true rfl), (Nat.le_of_ble_eq_true rfl)⟩) hK hW hXB hA rfl (ze_at0 0 rfl) rfl hl.1 rfl (lv_room (Nat.le_of_ble_eq_true rfl)) dL_tie_3 ⟨(Nat.le_of_ble_eq_true rfl), (Nat.le_of_ble_eq_true rfl)⟩ [⟨0, 8, 11, 38⟩, ⟨0, 8, 14, 13⟩] ⟨0, 8, 17, 30⟩ [] htab (by
      intro z hz
      simp only [List.mem_cons, List.not_mem_nil, or_false] at hz
      rcases hz with rfl | rfl
      · exact Or.inr ⟨by decide, "java/util/NoSuchElementException", w0, hNc ("java/lang/UnsupportedOperationException", "java/util/NoSuchElementException") (by decide +kernel)⟩
      · exact Or.inr ⟨by decide, "java/lang/IllegalStateException", w1, hNc ("java/lang/UnsupportedOperationException", "java/lang/IllegalStateException") (by decide +kernel)⟩) (by decide) (by decide) w2 (va_Nw.use rfl (hXB.2.2.2 _ (List.mem_of_getElem? (i := 5) rfl))) (fun q9 H locs hW => ?_)
  refine lv_astore_n (lv' := [(2, .ref q9), (0, .ref (a 0)), (1, .ref o)]) hX_ hB_ dL_tie_17 rfl hl (by decide) rfl (fun ls hl => ?_)
  refine lv_iconst (v := 3) hX_ hB_ dL_tie_18 (by decide) ?_
  exact ze_iret S hr hlocks hF hK hW rfl dL_tie_19 (Nat.le_of_ble_eq_true rfl) (Nat.le_of_ble_eq_true rfl) rfl rfl
set_option maxHeartbeats 4000000 in
set_option maxRecDepth 100000 in
theorem zl_toGo_f (l : Launch) (D : va_G) (c : Nat → ClassId) (a n : Nat → Nat) (A : Nat → Nat → Int32) (B : Nat → Int64) (E : Nat → Nat → Int32) (o : Nat) (f : Nat → Int64)  (j : Nat) (hN : zf_N n) (hj : j < n 2) (h : A 13 j = 119) : ze_Q l yL_toGo wsL_toGo 3 64 0 0 D c ((ze_wC c a n A B E) ++ [(o, .inl (c 6, 1, .inr (.inl f)))]) [.ref (a 0), .int (nI j), .ref o] 0 ((ze_wC c a n A B E) ++ [(o, .inl (c 6, 1, .inr (.inl (vp_updL f 0 ((A 11 j).toInt64)))))]) := by
  intro sz
  refine zq_start (cc := cL_toGo) (maxL := 4) (ret := (some .int)) (own := RL) (by decide) rfl rfl (Nat.le_of_ble_eq_true rfl) ?_
  obtain ⟨hn0, hn1, hn2, hn3, hn4⟩ := id hN
  intro p e s m_ below meth cd F ls hF hsz E0 hXB hNc htab
  obtain ⟨S, hr, hlocks, hK, hW, hA, hl⟩ := E0
  have hX_ := S.1
  have hB_ := S.2.1
  have hts := S.2.2.2.2
  have hl : lv_has ls 4 [(0, .ref (a 0)), (1, .int (nI j)), (2, .ref o)] := hl
  refine lv_aload_n hX_ hB_ dL_toGo_0 rfl (lv_at hl 2 rfl) ?_
  refine lv_iconst (v := 0) hX_ hB_ dL_toGo_1 (by decide) ?_
  refine lv_aload_n hX_ hB_ dL_toGo_2 rfl (lv_at hl 0 rfl) ?_
  refine lv_iload_n hX_ hB_ dL_toGo_3 rfl (lv_at hl 1 rfl) ?_
  refine ze_FVi (As := [.int (nI j)]) (rest := [.int 0, .ref o]) (ci := 8) (q0 := 0) (k := (RX8, TX8, 8)) S (zp_toGo_f l D c a n A B E j hN hj h) (cwV 1 hts gL_toGo_X8_toGo rfl rfl rfl (by decide +kernel) ⟨Nat.le_of_ble_eq_true rfl, Nat.le_of_ble_eq_true rfl⟩) hK hW hA rfl (ze_at0 0 rfl) rfl hl.1 rfl (lv_room (Nat.le_of_ble_eq_true rfl)) dL_toGo_4 ⟨Nat.le_of_ble_eq_true rfl, Nat.le_of_ble_eq_true rfl⟩ (fun H locs hW => ?_)
  refine lv_i2l (v := (A 11 j).toInt64) hX_ hB_ dL_toGo_7 rfl ?_
  refine ze_last hX_ hB_ hK hW ((ze_wC c a n A B E).length + 0) (i := 0) (ze_appL (k := 0) rfl) (by decide) (by decide) dL_toGo_8 (ze_appset rfl) (fun H locs hW => ?_)
  have hW : ze_W D ((ze_wC c a n A B E) ++ [(o, .inl (c 6, 1, .inr (.inl (vp_updL f 0 ((A 11 j).toInt64)))))]) F s.heap _ _ := hW
  refine lv_goto (tgt := 18) hX_ hB_ dL_toGo_9 (by decide) ?_
  refine lv_iconst (v := 0) hX_ hB_ dL_toGo_18 (by decide) ?_
  exact ze_iret S hr hlocks hF hK hW rfl dL_toGo_19 (Nat.le_of_ble_eq_true rfl) (Nat.le_of_ble_eq_true rfl) rfl rfl
set_option maxHeartbeats 4000000 in
set_option maxRecDepth 100000 in
theorem zl_toGo_t1 (l : Launch) (D : va_G) (hst : l.stackTraces = false) (c : Nat → ClassId) (a n : Nat → Nat) (A : Nat → Nat → Int32) (B : Nat → Int64) (E : Nat → Nat → Int32) (o : Nat) (f : Nat → Int64)  (x : Int32) (hN : zf_N n) (hx : ¬ zf_isIn x 0 (nI (n 2) - 1)) : ze_Q l yL_toGo wsL_toGo 9 146 1 6 D c ((ze_wC c a n A B E) ++ [(o, .inl (c 6, 1, .inr (.inl f)))]) [.ref (a 0), .int x, .ref o] 1 ((ze_wC c a n A B E) ++ [(o, .inl (c 6, 1, .inr (.inl f)))]) := by
  intro sz
  refine zq_start (cc := cL_toGo) (maxL := 4) (ret := (some .int)) (own := RL) (by decide) rfl rfl (Nat.le_of_ble_eq_true rfl) ?_
  obtain ⟨hn0, hn1, hn2, hn3, hn4⟩ := id hN
  intro p e s m_ below meth cd F ls hF hsz E0 hXB hNc htab
  obtain ⟨S, hr, hlocks, hK, hW, hA, hl⟩ := E0
  have hX_ := S.1
  have hB_ := S.2.1
  have hts := S.2.2.2.2
  have hl : lv_has ls 4 [(0, .ref (a 0)), (1, .int x), (2, .ref o)] := hl
  have w0 := hts (.classLink RL 19 "java/lang/IndexOutOfBoundsException") (List.mem_cons_of_mem _ (List.mem_append_left _ (List.mem_append_left _ (List.mem_append_left _ (List.mem_append_left _ (List.mem_append_left _ (List.mem_of_getElem? (i := 0) rfl)))))))
  refine lv_aload_n hX_ hB_ dL_toGo_0 rfl (lv_at hl 2 rfl) ?_
  refine lv_iconst (v := 0) hX_ hB_ dL_toGo_1 (by decide) ?_
  refine lv_aload_n hX_ hB_ dL_toGo_2 rfl (lv_at hl 0 rfl) ?_
  refine lv_iload_n hX_ hB_ dL_toGo_3 rfl (lv_at hl 1 rfl) ?_
  refine zx_FVc (As := [.int x]) (rest := [.int 0, .ref o]) (ci := 8) (q0 := 0) (k := (RX8, TX8, 8)) S (zt_toGo_t1 l D hst c a n A B E x hN hx) (cwV 1 hts gL_toGo_X8_toGo rfl rfl rfl (by decide +kernel) ⟨(Nat.le_of_ble_eq_true rfl), (Nat.le_of_ble_eq_true rfl)⟩) hK hW hXB hA rfl (ze_at0 0 rfl) rfl hl.1 rfl (lv_room (Nat.le_of_ble_eq_true rfl)) dL_toGo_4 ⟨(Nat.le_of_ble_eq_true rfl), (Nat.le_of_ble_eq_true rfl)⟩ [] ⟨0, 9, 12, 19⟩ [⟨0, 9, 15, 38⟩] htab (by intro z hz; cases hz) (by decide) (by decide) w0 (va_Nw.use rfl (hXB.2.2.2 _ (List.mem_of_getElem? (i := 7) rfl))) (fun q9 H locs hW => ?_)
  refine lv_astore_n (lv' := [(3, .ref q9), (0, .ref (a 0)), (1, .int x), (2, .ref o)]) hX_ hB_ dL_toGo_12 rfl hl (by decide) rfl (fun ls hl => ?_)
  refine lv_iconst (v := 1) hX_ hB_ dL_toGo_13 (by decide) ?_
  exact ze_iret S hr hlocks hF hK hW rfl dL_toGo_14 (Nat.le_of_ble_eq_true rfl) (Nat.le_of_ble_eq_true rfl) rfl rfl
set_option maxHeartbeats 4000000 in
set_option maxRecDepth 100000 in
theorem zl_toGo_t2 (l : Launch) (D : va_G) (hst : l.stackTraces = false) (c : Nat → ClassId) (a n : Nat → Nat) (A : Nat → Nat → Int32) (B : Nat → Int64) (E : Nat → Nat → Int32) (o : Nat) (f : Nat → Int64)  (j : Nat) (hN : zf_N n) (hj : j < n 2) (h : ¬ A 13 j = 119) : ze_Q l yL_toGo wsL_toGo 7 104 1 6 D c ((ze_wC c a n A B E) ++ [(o, .inl (c 6, 1, .inr (.inl f)))]) [.ref (a 0), .int (nI j), .ref o] 2 ((ze_wC c a n A B E) ++ [(o, .inl (c 6, 1, .inr (.inl f)))]) := by
  intro sz
  refine zq_start (cc := cL_toGo) (maxL := 4) (ret := (some .int)) (own := RL) (by decide) rfl rfl (Nat.le_of_ble_eq_true rfl) ?_
  obtain ⟨hn0, hn1, hn2, hn3, hn4⟩ := id hN
  intro p e s m_ below meth cd F ls hF hsz E0 hXB hNc htab
  obtain ⟨S, hr, hlocks, hK, hW, hA, hl⟩ := E0
  have hX_ := S.1
  have hB_ := S.2.1
  have hts := S.2.2.2.2
  have hl : lv_has ls 4 [(0, .ref (a 0)), (1, .int (nI j)), (2, .ref o)] := hl
  have w0 := hts (.classLink RL 19 "java/lang/IndexOutOfBoundsException") (List.mem_cons_of_mem _ (List.mem_append_left _ (List.mem_append_left _ (List.mem_append_left _ (List.mem_append_left _ (List.mem_append_left _ (List.mem_of_getElem? (i := 0) rfl)))))))
  have w1 := hts (.classLink RL 38 "java/util/NoSuchElementException") (List.mem_cons_of_mem _ (List.mem_append_left _ (List.mem_append_left _ (List.mem_append_left _ (List.mem_append_left _ (List.mem_append_left _ (List.mem_of_getElem? (i := 1) rfl)))))))
  refine lv_aload_n hX_ hB_ dL_toGo_0 rfl (lv_at hl 2 rfl) ?_
  refine lv_iconst (v := 0) hX_ hB_ dL_toGo_1 (by decide) ?_
  refine lv_aload_n hX_ hB_ dL_toGo_2 rfl (lv_at hl 0 rfl) ?_
  refine lv_iload_n hX_ hB_ dL_toGo_3 rfl (lv_at hl 1 rfl) ?_
  refine zx_FVc (As := [.int (nI j)]) (rest := [.int 0, .ref o]) (ci := 8) (q0 := 0) (k := (RX8, TX8, 8)) S (zt_toGo_t2 l D hst c a n A B E j hN hj h) (cwV 1 hts gL_toGo_X8_toGo rfl rfl rfl (by decide +kernel) ⟨(Nat.le_of_ble_eq_true rfl), (Nat.le_of_ble_eq_true rfl)⟩) hK hW hXB hA rfl (ze_at0 0 rfl) rfl hl.1 rfl (lv_room (Nat.le_of_ble_eq_true rfl)) dL_toGo_4 ⟨(Nat.le_of_ble_eq_true rfl), (Nat.le_of_ble_eq_true rfl)⟩ [⟨0, 9, 12, 19⟩] ⟨0, 9, 15, 38⟩ [] htab (by
      intro z hz
      simp only [List.mem_cons, List.not_mem_nil, or_false] at hz
      rcases hz with rfl
      exact Or.inr ⟨by decide, "java/lang/IndexOutOfBoundsException", w0, hNc ("java/util/NoSuchElementException", "java/lang/IndexOutOfBoundsException") (by decide +kernel)⟩) (by decide) (by decide) w1 (va_Nw.use rfl (hXB.2.2.2 _ (List.mem_of_getElem? (i := 6) rfl))) (fun q9 H locs hW => ?_)
  refine lv_astore_n (lv' := [(3, .ref q9), (0, .ref (a 0)), (1, .int (nI j)), (2, .ref o)]) hX_ hB_ dL_toGo_15 rfl hl (by decide) rfl (fun ls hl => ?_)
  refine lv_iconst (v := 2) hX_ hB_ dL_toGo_16 (by decide) ?_
  exact ze_iret S hr hlocks hF hK hW rfl dL_toGo_17 (Nat.le_of_ble_eq_true rfl) (Nat.le_of_ble_eq_true rfl) rfl rfl
set_option maxHeartbeats 4000000 in
set_option maxRecDepth 100000 in
theorem zl_untie_f (l : Launch) (D : va_G) (c : Nat → ClassId) (a n : Nat → Nat) (A : Nat → Nat → Int32) (B : Nat → Int64) (E : Nat → Nat → Int32) (o : Nat) (f : Nat → Int64)  (hN : zf_N n) (h2 : ¬ A 38 0 = 0) : ze_Q l yL_untie wsL_untie 2 43 0 0 D c ((ze_wC c a n A B E) ++ [(o, .inl (c 6, 1, .inr (.inl f)))]) [.ref (a 0), .ref o] 0 ((ze_wC c a n (ze_sC A 38 0) B E) ++ [(o, .inl (c 6, 1, .inr (.inl (vp_updL f 0 ((ze_sum 0 (fun s => if E 0 s = 0 then 1 else 0) (n 0)).toInt64)))))]) := by
  intro sz
  refine zq_start (cc := cL_untie) (maxL := 3) (ret := (some .int)) (own := RL) (by decide) rfl rfl (Nat.le_of_ble_eq_true rfl) ?_
  obtain ⟨hn0, hn1, hn2, hn3, hn4⟩ := id hN
  intro p e s m_ below meth cd F ls hF hsz E0 hXB hNc htab
  obtain ⟨S, hr, hlocks, hK, hW, hA, hl⟩ := E0
  have hX_ := S.1
  have hB_ := S.2.1
  have hts := S.2.2.2.2
  have hl : lv_has ls 3 [(0, .ref (a 0)), (1, .ref o)] := hl
  refine lv_aload_n hX_ hB_ dL_untie_0 rfl (lv_at hl 1 rfl) ?_
  refine lv_iconst (v := 0) hX_ hB_ dL_untie_1 (by decide) ?_
  refine lv_aload_n hX_ hB_ dL_untie_2 rfl (lv_at hl 0 rfl) ?_
  refine ze_FVi (As := []) (rest := [.int 0, .ref o]) (ci := 8) (q0 := 0) (k := (RX8, TX8, 8)) S (zp_untie_f l D c a n A B E hN h2) (cwV 0 hts gL_untie_X8_untie rfl rfl rfl (by decide +kernel) ⟨Nat.le_of_ble_eq_true rfl, Nat.le_of_ble_eq_true rfl⟩) hK hW hA rfl (ze_at0 0 rfl) rfl hl.1 rfl (lv_room (Nat.le_of_ble_eq_true rfl)) dL_untie_3 ⟨Nat.le_of_ble_eq_true rfl, Nat.le_of_ble_eq_true rfl⟩ (fun H locs hW => ?_)
  have hW : ze_W D ((ze_wC c a n (ze_sC A 38 0) B E) ++ [(o, .inl (c 6, 1, .inr (.inl f)))]) F s.heap _ _ := hW
  refine lv_i2l (v := (ze_sum 0 (fun s => if E 0 s = 0 then 1 else 0) (n 0)).toInt64) hX_ hB_ dL_untie_6 rfl ?_
  refine ze_last hX_ hB_ hK hW ((ze_wC c a n (ze_sC A 38 0) B E).length + 0) (i := 0) (ze_appL (k := 0) rfl) (by decide) (by decide) dL_untie_7 (ze_appset rfl) (fun H locs hW => ?_)
  have hW : ze_W D ((ze_wC c a n (ze_sC A 38 0) B E) ++ [(o, .inl (c 6, 1, .inr (.inl (vp_updL f 0 ((ze_sum 0 (fun s => if E 0 s = 0 then 1 else 0) (n 0)).toInt64)))))]) F s.heap _ _ := hW
  refine lv_goto (tgt := 14) hX_ hB_ dL_untie_8 (by decide) ?_
  refine lv_iconst (v := 0) hX_ hB_ dL_untie_14 (by decide) ?_
  exact ze_iret S hr hlocks hF hK hW rfl dL_untie_15 (Nat.le_of_ble_eq_true rfl) (Nat.le_of_ble_eq_true rfl) rfl rfl
set_option maxHeartbeats 4000000 in
set_option maxRecDepth 100000 in
theorem zl_untie_t1 (l : Launch) (D : va_G) (hst : l.stackTraces = false) (c : Nat → ClassId) (a n : Nat → Nat) (A : Nat → Nat → Int32) (B : Nat → Int64) (E : Nat → Nat → Int32) (o : Nat) (f : Nat → Int64)  (h2 : A 38 0 = 0) : ze_Q l yL_untie wsL_untie 7 102 1 6 D c ((ze_wC c a n A B E) ++ [(o, .inl (c 6, 1, .inr (.inl f)))]) [.ref (a 0), .ref o] 1 ((ze_wC c a n A B E) ++ [(o, .inl (c 6, 1, .inr (.inl f)))]) := by
  intro sz
  refine zq_start (cc := cL_untie) (maxL := 3) (ret := (some .int)) (own := RL) (by decide) rfl rfl (Nat.le_of_ble_eq_true rfl) ?_
  intro p e s m_ below meth cd F ls hF hsz E0 hXB hNc htab
  obtain ⟨S, hr, hlocks, hK, hW, hA, hl⟩ := E0
  have hX_ := S.1
  have hB_ := S.2.1
  have hts := S.2.2.2.2
  have hl : lv_has ls 3 [(0, .ref (a 0)), (1, .ref o)] := hl
  have w0 := hts (.classLink RL 13 "java/lang/IllegalStateException") (List.mem_cons_of_mem _ (List.mem_append_left _ (List.mem_append_left _ (List.mem_append_left _ (List.mem_of_getElem? (i := 0) rfl)))))
  refine lv_aload_n hX_ hB_ dL_untie_0 rfl (lv_at hl 1 rfl) ?_
  refine lv_iconst (v := 0) hX_ hB_ dL_untie_1 (by decide) ?_
  refine lv_aload_n hX_ hB_ dL_untie_2 rfl (lv_at hl 0 rfl) ?_
  refine zx_FVc (As := []) (rest := [.int 0, .ref o]) (ci := 8) (q0 := 0) (k := (RX8, TX8, 8)) S (zt_untie_t1 l D hst c a n A B E h2) (cwV 0 hts gL_untie_X8_untie rfl rfl rfl (by decide +kernel) ⟨(Nat.le_of_ble_eq_true rfl), (Nat.le_of_ble_eq_true rfl)⟩) hK hW hXB hA rfl (ze_at0 0 rfl) rfl hl.1 rfl (lv_room (Nat.le_of_ble_eq_true rfl)) dL_untie_3 ⟨(Nat.le_of_ble_eq_true rfl), (Nat.le_of_ble_eq_true rfl)⟩ [] ⟨0, 8, 11, 13⟩ [] htab (by intro z hz; cases hz) (by decide) (by decide) w0 (va_Nw.use rfl (hXB.2.2.2 _ (List.mem_of_getElem? (i := 3) rfl))) (fun q9 H locs hW => ?_)
  refine lv_astore_n (lv' := [(2, .ref q9), (0, .ref (a 0)), (1, .ref o)]) hX_ hB_ dL_untie_11 rfl hl (by decide) rfl (fun ls hl => ?_)
  refine lv_iconst (v := 1) hX_ hB_ dL_untie_12 (by decide) ?_
  exact ze_iret S hr hlocks hF hK hW rfl dL_untie_13 (Nat.le_of_ble_eq_true rfl) (Nat.le_of_ble_eq_true rfl) rfl rfl
set_option maxHeartbeats 4000000 in
set_option maxRecDepth 100000 in
theorem zl_waits_f (l : Launch) (D : va_G) (c : Nat → ClassId) (a n : Nat → Nat) (A : Nat → Nat → Int32) (B : Nat → Int64) (E : Nat → Nat → Int32) (o : Nat) (f : Nat → Int64)  (j : Nat) (hN : zf_N n) (hj : j < n 4) (h : ¬ A 5 j = 0) : ze_Q l yL_waits wsL_waits 3 64 0 0 D c ((ze_wC c a n A B E) ++ [(o, .inl (c 6, 1, .inr (.inl f)))]) [.ref (a 0), .int (nI j), .ref o] 0 ((ze_wC c a n A B E) ++ [(o, .inl (c 6, 1, .inr (.inl (vp_updL f 0 ((A 22 j).toInt64)))))]) := by
  intro sz
  refine zq_start (cc := cL_waits) (maxL := 4) (ret := (some .int)) (own := RL) (by decide) rfl rfl (Nat.le_of_ble_eq_true rfl) ?_
  obtain ⟨hn0, hn1, hn2, hn3, hn4⟩ := id hN
  intro p e s m_ below meth cd F ls hF hsz E0 hXB hNc htab
  obtain ⟨S, hr, hlocks, hK, hW, hA, hl⟩ := E0
  have hX_ := S.1
  have hB_ := S.2.1
  have hts := S.2.2.2.2
  have hl : lv_has ls 4 [(0, .ref (a 0)), (1, .int (nI j)), (2, .ref o)] := hl
  refine lv_aload_n hX_ hB_ dL_waits_0 rfl (lv_at hl 2 rfl) ?_
  refine lv_iconst (v := 0) hX_ hB_ dL_waits_1 (by decide) ?_
  refine lv_aload_n hX_ hB_ dL_waits_2 rfl (lv_at hl 0 rfl) ?_
  refine lv_iload_n hX_ hB_ dL_waits_3 rfl (lv_at hl 1 rfl) ?_
  refine ze_FVi (As := [.int (nI j)]) (rest := [.int 0, .ref o]) (ci := 8) (q0 := 0) (k := (RX8, TX8, 8)) S (zp_waits_f l D c a n A B E j hN hj h) (cwV 1 hts gL_waits_X8_waits rfl rfl rfl (by decide +kernel) ⟨Nat.le_of_ble_eq_true rfl, Nat.le_of_ble_eq_true rfl⟩) hK hW hA rfl (ze_at0 0 rfl) rfl hl.1 rfl (lv_room (Nat.le_of_ble_eq_true rfl)) dL_waits_4 ⟨Nat.le_of_ble_eq_true rfl, Nat.le_of_ble_eq_true rfl⟩ (fun H locs hW => ?_)
  refine lv_i2l (v := (A 22 j).toInt64) hX_ hB_ dL_waits_7 rfl ?_
  refine ze_last hX_ hB_ hK hW ((ze_wC c a n A B E).length + 0) (i := 0) (ze_appL (k := 0) rfl) (by decide) (by decide) dL_waits_8 (ze_appset rfl) (fun H locs hW => ?_)
  have hW : ze_W D ((ze_wC c a n A B E) ++ [(o, .inl (c 6, 1, .inr (.inl (vp_updL f 0 ((A 22 j).toInt64)))))]) F s.heap _ _ := hW
  refine lv_goto (tgt := 18) hX_ hB_ dL_waits_9 (by decide) ?_
  refine lv_iconst (v := 0) hX_ hB_ dL_waits_18 (by decide) ?_
  exact ze_iret S hr hlocks hF hK hW rfl dL_waits_19 (Nat.le_of_ble_eq_true rfl) (Nat.le_of_ble_eq_true rfl) rfl rfl
set_option maxHeartbeats 4000000 in
set_option maxRecDepth 100000 in
theorem zl_waits_t1 (l : Launch) (D : va_G) (hst : l.stackTraces = false) (c : Nat → ClassId) (a n : Nat → Nat) (A : Nat → Nat → Int32) (B : Nat → Int64) (E : Nat → Nat → Int32) (o : Nat) (f : Nat → Int64)  (x : Int32) (hN : zf_N n) (hx : ¬ zf_isIn x 0 (nI (n 4) - 1)) : ze_Q l yL_waits wsL_waits 9 146 1 6 D c ((ze_wC c a n A B E) ++ [(o, .inl (c 6, 1, .inr (.inl f)))]) [.ref (a 0), .int x, .ref o] 1 ((ze_wC c a n A B E) ++ [(o, .inl (c 6, 1, .inr (.inl f)))]) := by
  intro sz
  refine zq_start (cc := cL_waits) (maxL := 4) (ret := (some .int)) (own := RL) (by decide) rfl rfl (Nat.le_of_ble_eq_true rfl) ?_
  obtain ⟨hn0, hn1, hn2, hn3, hn4⟩ := id hN
  intro p e s m_ below meth cd F ls hF hsz E0 hXB hNc htab
  obtain ⟨S, hr, hlocks, hK, hW, hA, hl⟩ := E0
  have hX_ := S.1
  have hB_ := S.2.1
  have hts := S.2.2.2.2
  have hl : lv_has ls 4 [(0, .ref (a 0)), (1, .int x), (2, .ref o)] := hl
  have w0 := hts (.classLink RL 19 "java/lang/IndexOutOfBoundsException") (List.mem_cons_of_mem _ (List.mem_append_left _ (List.mem_append_left _ (List.mem_append_left _ (List.mem_append_left _ (List.mem_append_left _ (List.mem_of_getElem? (i := 0) rfl)))))))
  refine lv_aload_n hX_ hB_ dL_waits_0 rfl (lv_at hl 2 rfl) ?_
  refine lv_iconst (v := 0) hX_ hB_ dL_waits_1 (by decide) ?_
  refine lv_aload_n hX_ hB_ dL_waits_2 rfl (lv_at hl 0 rfl) ?_
  refine lv_iload_n hX_ hB_ dL_waits_3 rfl (lv_at hl 1 rfl) ?_
  refine zx_FVc (As := [.int x]) (rest := [.int 0, .ref o]) (ci := 8) (q0 := 0) (k := (RX8, TX8, 8)) S (zt_waits_t1 l D hst c a n A B E x hN hx) (cwV 1 hts gL_waits_X8_waits rfl rfl rfl (by decide +kernel) ⟨(Nat.le_of_ble_eq_true rfl), (Nat.le_of_ble_eq_true rfl)⟩) hK hW hXB hA rfl (ze_at0 0 rfl) rfl hl.1 rfl (lv_room (Nat.le_of_ble_eq_true rfl)) dL_waits_4 ⟨(Nat.le_of_ble_eq_true rfl), (Nat.le_of_ble_eq_true rfl)⟩ [] ⟨0, 9, 12, 19⟩ [⟨0, 9, 15, 38⟩] htab (by intro z hz; cases hz) (by decide) (by decide) w0 (va_Nw.use rfl (hXB.2.2.2 _ (List.mem_of_getElem? (i := 7) rfl))) (fun q9 H locs hW => ?_)
  refine lv_astore_n (lv' := [(3, .ref q9), (0, .ref (a 0)), (1, .int x), (2, .ref o)]) hX_ hB_ dL_waits_12 rfl hl (by decide) rfl (fun ls hl => ?_)
  refine lv_iconst (v := 1) hX_ hB_ dL_waits_13 (by decide) ?_
  exact ze_iret S hr hlocks hF hK hW rfl dL_waits_14 (Nat.le_of_ble_eq_true rfl) (Nat.le_of_ble_eq_true rfl) rfl rfl
set_option maxHeartbeats 4000000 in
set_option maxRecDepth 100000 in
theorem zl_waits_t2 (l : Launch) (D : va_G) (hst : l.stackTraces = false) (c : Nat → ClassId) (a n : Nat → Nat) (A : Nat → Nat → Int32) (B : Nat → Int64) (E : Nat → Nat → Int32) (o : Nat) (f : Nat → Int64)  (j : Nat) (hN : zf_N n) (hj : j < n 4) (h : A 5 j = 0) : ze_Q l yL_waits wsL_waits 7 104 1 6 D c ((ze_wC c a n A B E) ++ [(o, .inl (c 6, 1, .inr (.inl f)))]) [.ref (a 0), .int (nI j), .ref o] 2 ((ze_wC c a n A B E) ++ [(o, .inl (c 6, 1, .inr (.inl f)))]) := by
  intro sz
  refine zq_start (cc := cL_waits) (maxL := 4) (ret := (some .int)) (own := RL) (by decide) rfl rfl (Nat.le_of_ble_eq_true rfl) ?_
  obtain ⟨hn0, hn1, hn2, hn3, hn4⟩ := id hN
  intro p e s m_ below meth cd F ls hF hsz E0 hXB hNc htab
  obtain ⟨S, hr, hlocks, hK, hW, hA, hl⟩ := E0
  have hX_ := S.1
  have hB_ := S.2.1
  have hts := S.2.2.2.2
  have hl : lv_has ls 4 [(0, .ref (a 0)), (1, .int (nI j)), (2, .ref o)] := hl
  have w0 := hts (.classLink RL 19 "java/lang/IndexOutOfBoundsException") (List.mem_cons_of_mem _ (List.mem_append_left _ (List.mem_append_left _ (List.mem_append_left _ (List.mem_append_left _ (List.mem_append_left _ (List.mem_of_getElem? (i := 0) rfl)))))))
  have w1 := hts (.classLink RL 38 "java/util/NoSuchElementException") (List.mem_cons_of_mem _ (List.mem_append_left _ (List.mem_append_left _ (List.mem_append_left _ (List.mem_append_left _ (List.mem_append_left _ (List.mem_of_getElem? (i := 1) rfl)))))))
  refine lv_aload_n hX_ hB_ dL_waits_0 rfl (lv_at hl 2 rfl) ?_
  refine lv_iconst (v := 0) hX_ hB_ dL_waits_1 (by decide) ?_
  refine lv_aload_n hX_ hB_ dL_waits_2 rfl (lv_at hl 0 rfl) ?_
  refine lv_iload_n hX_ hB_ dL_waits_3 rfl (lv_at hl 1 rfl) ?_
  refine zx_FVc (As := [.int (nI j)]) (rest := [.int 0, .ref o]) (ci := 8) (q0 := 0) (k := (RX8, TX8, 8)) S (zt_waits_t2 l D hst c a n A B E j hN hj h) (cwV 1 hts gL_waits_X8_waits rfl rfl rfl (by decide +kernel) ⟨(Nat.le_of_ble_eq_true rfl), (Nat.le_of_ble_eq_true rfl)⟩) hK hW hXB hA rfl (ze_at0 0 rfl) rfl hl.1 rfl (lv_room (Nat.le_of_ble_eq_true rfl)) dL_waits_4 ⟨(Nat.le_of_ble_eq_true rfl), (Nat.le_of_ble_eq_true rfl)⟩ [⟨0, 9, 12, 19⟩] ⟨0, 9, 15, 38⟩ [] htab (by
      intro z hz
      simp only [List.mem_cons, List.not_mem_nil, or_false] at hz
      rcases hz with rfl
      exact Or.inr ⟨by decide, "java/lang/IndexOutOfBoundsException", w0, hNc ("java/util/NoSuchElementException", "java/lang/IndexOutOfBoundsException") (by decide +kernel)⟩) (by decide) (by decide) w1 (va_Nw.use rfl (hXB.2.2.2 _ (List.mem_of_getElem? (i := 6) rfl))) (fun q9 H locs hW => ?_)
  refine lv_astore_n (lv' := [(3, .ref q9), (0, .ref (a 0)), (1, .int (nI j)), (2, .ref o)]) hX_ hB_ dL_waits_15 rfl hl (by decide) rfl (fun ls hl => ?_)
  refine lv_iconst (v := 2) hX_ hB_ dL_waits_16 (by decide) ?_
  exact ze_iret S hr hlocks hF hK hW rfl dL_waits_17 (Nat.le_of_ble_eq_true rfl) (Nat.le_of_ble_eq_true rfl) rfl rfl
