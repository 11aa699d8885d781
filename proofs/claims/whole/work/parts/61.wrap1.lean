set_option maxHeartbeats 4000000 in
set_option maxRecDepth 100000 in
theorem zl_addGenerator_f (l : Launch) (D : va_G) (c : Nat → ClassId) (a n : Nat → Nat) (A : Nat → Nat → Int32) (B : Nat → Int64) (E : Nat → Nat → Int32) (o : Nat) (f : Nat → Int64)  (j : Nat) (hN : zf_N n) (hj : j < n 0) (le gr wu fu : Int32) (h1 : zf_isIn le 0 100) (h2 : zf_isIn gr (ze_mx 1 le) 200) (h3 : zf_isIn wu 0 9) (h4 : zf_isIn fu 0 9999) (h5 : n 2 < 6) (ho11 : A 11 (n 2) = 0) (ho12 : A 12 (n 2) = 0) : ze_QE l yL_addGenerator wsL_addGenerator 3 67 1 8 D c ((ze_wC c a n A B E) ++ [(o, .inl (c 6, 1, .inr (.inl f)))]) [.ref (a 0), .int (nI j), .int le, .int gr, .int wu, .int fu, .ref o] 0 (fun qn => ((ze_wC c (va_up a (20 + n 2) qn) (ze_sn n 2 (n 2 + 1)) (ze_sE (ze_sE (ze_sE (ze_sE (ze_sE (ze_sE A 6 (n 2) (nI j)) 7 (n 2) le) 8 (n 2) gr) 9 (n 2) wu) 10 (n 2) fu) 13 (n 2) 111) B E) ++ [(o, .inl (c 6, 1, .inr (.inl (vp_updL f 0 ((nI (n 2)).toInt64)))))])) := by
  intro sz
  refine zq_start (cc := cL_addGenerator) (maxL := 8) (ret := (some .int)) (own := RL) (by decide) rfl rfl (Nat.le_of_ble_eq_true rfl) ?_
  obtain ⟨hn0, hn1, hn2, hn3, hn4⟩ := id hN
  intro p e s m_ below meth cd F ls hF hsz E0 hXB hNc htab
  obtain ⟨S, hr, hlocks, hK, hW, hA, hl⟩ := E0
  have hX_ := S.1
  have hB_ := S.2.1
  have hts := S.2.2.2.2
  have hl : lv_has ls 8 [(0, .ref (a 0)), (1, .int (nI j)), (2, .int le), (3, .int gr), (4, .int wu), (5, .int fu), (6, .ref o)] := hl
  refine lv_aload hX_ hB_ dL_addGenerator_0 (lv_at hl 6 rfl) ?_
  refine lv_iconst (v := 0) hX_ hB_ dL_addGenerator_2 (by decide) ?_
  refine lv_aload_n hX_ hB_ dL_addGenerator_3 rfl (lv_at hl 0 rfl) ?_
  refine lv_iload_n hX_ hB_ dL_addGenerator_4 rfl (lv_at hl 1 rfl) ?_
  refine lv_iload_n hX_ hB_ dL_addGenerator_5 rfl (lv_at hl 2 rfl) ?_
  refine lv_iload_n hX_ hB_ dL_addGenerator_6 rfl (lv_at hl 3 rfl) ?_
  refine lv_iload hX_ hB_ dL_addGenerator_7 (lv_at hl 4 rfl) ?_
  refine lv_iload hX_ hB_ dL_addGenerator_9 (lv_at hl 5 rfl) ?_
  refine ze_FVe (As := [.int (nI j), .int le, .int gr, .int wu, .int fu]) (rest := [.int 0, .ref o]) (ci := 8) (q0 := 0) (k := (RX8, TX8, 8)) S (zp_addGenerator_f l D c a n A B E j hN hj le gr wu fu h1 h2 h3 h4 h5 ho11 ho12) (cwV 5 hts gL_addGenerator_X8_addGenerator rfl rfl rfl (by decide +kernel) ⟨Nat.le_of_ble_eq_true rfl, Nat.le_of_ble_eq_true rfl⟩) hK hW hA rfl (ze_at0 0 rfl) rfl hl.1 rfl (lv_room (Nat.le_of_ble_eq_true rfl)) dL_addGenerator_11 ⟨Nat.le_of_ble_eq_true rfl, Nat.le_of_ble_eq_true rfl⟩ (fun qn H locs hW => ?_)
  have hW : ze_W D ((ze_wC c (va_up a (20 + n 2) qn) (ze_sn n 2 (n 2 + 1)) (ze_sE (ze_sE (ze_sE (ze_sE (ze_sE (ze_sE A 6 (n 2) (nI j)) 7 (n 2) le) 8 (n 2) gr) 9 (n 2) wu) 10 (n 2) fu) 13 (n 2) 111) B E) ++ [(o, .inl (c 6, 1, .inr (.inl f)))]) F s.heap _ _ := hW
  refine lv_i2l (v := (nI (n 2)).toInt64) hX_ hB_ dL_addGenerator_14 rfl ?_
  refine ze_last hX_ hB_ hK hW ((ze_wC c (va_up a (20 + n 2) qn) (ze_sn n 2 (n 2 + 1)) (ze_sE (ze_sE (ze_sE (ze_sE (ze_sE (ze_sE A 6 (n 2) (nI j)) 7 (n 2) le) 8 (n 2) gr) 9 (n 2) wu) 10 (n 2) fu) 13 (n 2) 111) B E).length + 0) (i := 0) (ze_appL (k := 0) rfl) (by decide) (by decide) dL_addGenerator_15 (ze_appset rfl) (fun H locs hW => ?_)
  have hW : ze_W D ((ze_wC c (va_up a (20 + n 2) qn) (ze_sn n 2 (n 2 + 1)) (ze_sE (ze_sE (ze_sE (ze_sE (ze_sE (ze_sE A 6 (n 2) (nI j)) 7 (n 2) le) 8 (n 2) gr) 9 (n 2) wu) 10 (n 2) fu) 13 (n 2) 111) B E) ++ [(o, .inl (c 6, 1, .inr (.inl (vp_updL f 0 ((nI (n 2)).toInt64)))))]) F s.heap _ _ := hW
  refine lv_goto (tgt := 31) hX_ hB_ dL_addGenerator_16 (by decide) ?_
  refine lv_iconst (v := 0) hX_ hB_ dL_addGenerator_31 (by decide) ?_
  exact ze_eret (q := qn) S hr hlocks hF hK hW rfl dL_addGenerator_32 (Nat.le_of_ble_eq_true rfl) (Nat.le_of_ble_eq_true rfl) rfl rfl
set_option maxHeartbeats 4000000 in
set_option maxRecDepth 100000 in
theorem zl_addGenerator_t1 (l : Launch) (D : va_G) (hst : l.stackTraces = false) (c : Nat → ClassId) (a n : Nat → Nat) (A : Nat → Nat → Int32) (B : Nat → Int64) (E : Nat → Nat → Int32) (o : Nat) (f : Nat → Int64)  (x : Int32) (hN : zf_N n) (hx : ¬ zf_isIn x 0 (nI (n 0) - 1)) (le gr wu fu : Int32) : ze_Q l yL_addGenerator wsL_addGenerator 9 149 1 6 D c ((ze_wC c a n A B E) ++ [(o, .inl (c 6, 1, .inr (.inl f)))]) [.ref (a 0), .int x, .int le, .int gr, .int wu, .int fu, .ref o] 1 ((ze_wC c a n A B E) ++ [(o, .inl (c 6, 1, .inr (.inl f)))]) := by
  intro sz
  refine zq_start (cc := cL_addGenerator) (maxL := 8) (ret := (some .int)) (own := RL) (by decide) rfl rfl (Nat.le_of_ble_eq_true rfl) ?_
  obtain ⟨hn0, hn1, hn2, hn3, hn4⟩ := id hN
  intro p e s m_ below meth cd F ls hF hsz E0 hXB hNc htab
  obtain ⟨S, hr, hlocks, hK, hW, hA, hl⟩ := E0
  have hX_ := S.1
  have hB_ := S.2.1
  have hts := S.2.2.2.2
  have hl : lv_has ls 8 [(0, .ref (a 0)), (1, .int x), (2, .int le), (3, .int gr), (4, .int wu), (5, .int fu), (6, .ref o)] := hl
  have w0 := hts (.classLink RL 19 "java/lang/IndexOutOfBoundsException") (List.mem_cons_of_mem _ (List.mem_append_left _ (List.mem_append_left _ (List.mem_append_left _ (List.mem_append_left _ (List.mem_append_left _ (List.mem_append_left _ (List.mem_append_left _ (List.mem_append_left _ (List.mem_of_getElem? (i := 0) rfl))))))))))
  refine lv_aload hX_ hB_ dL_addGenerator_0 (lv_at hl 6 rfl) ?_
  refine lv_iconst (v := 0) hX_ hB_ dL_addGenerator_2 (by decide) ?_
  refine lv_aload_n hX_ hB_ dL_addGenerator_3 rfl (lv_at hl 0 rfl) ?_
  refine lv_iload_n hX_ hB_ dL_addGenerator_4 rfl (lv_at hl 1 rfl) ?_
  refine lv_iload_n hX_ hB_ dL_addGenerator_5 rfl (lv_at hl 2 rfl) ?_
  refine lv_iload_n hX_ hB_ dL_addGenerator_6 rfl (lv_at hl 3 rfl) ?_
  refine lv_iload hX_ hB_ dL_addGenerator_7 (lv_at hl 4 rfl) ?_
  refine lv_iload hX_ hB_ dL_addGenerator_9 (lv_at hl 5 rfl) ?_
  refine zx_FVc (As := [.int x, .int le, .int gr, .int wu, .int fu]) (rest := [.int 0, .ref o]) (ci := 8) (q0 := 0) (k := (RX8, TX8, 8)) S (zt_addGenerator_t1 l D hst c a n A B E x hN hx le gr wu fu) (cwV 5 hts gL_addGenerator_X8_addGenerator rfl rfl rfl (by decide +kernel) ⟨(Nat.le_of_ble_eq_true rfl), (Nat.le_of_ble_eq_true rfl)⟩) hK hW hXB hA rfl (ze_at0 0 rfl) rfl hl.1 rfl (lv_room (Nat.le_of_ble_eq_true rfl)) dL_addGenerator_11 ⟨(Nat.le_of_ble_eq_true rfl), (Nat.le_of_ble_eq_true rfl)⟩ [] ⟨0, 16, 19, 19⟩ [⟨0, 16, 23, 21⟩, ⟨0, 16, 27, 13⟩] htab (by intro z hz; cases hz) (by decide) (by decide) w0 (va_Nw.use rfl (hXB.2.2.2 _ (List.mem_of_getElem? (i := 7) rfl))) (fun q9 H locs hW => ?_)
  refine lv_astore (lv' := [(7, .ref q9), (0, .ref (a 0)), (1, .int x), (2, .int le), (3, .int gr), (4, .int wu), (5, .int fu), (6, .ref o)]) hX_ hB_ dL_addGenerator_19 hl (by decide) rfl (fun ls hl => ?_)
  refine lv_iconst (v := 1) hX_ hB_ dL_addGenerator_21 (by decide) ?_
  exact ze_iret S hr hlocks hF hK hW rfl dL_addGenerator_22 (Nat.le_of_ble_eq_true rfl) (Nat.le_of_ble_eq_true rfl) rfl rfl
set_option maxHeartbeats 4000000 in
set_option maxRecDepth 100000 in
theorem zl_addGenerator_t2a (l : Launch) (D : va_G) (hst : l.stackTraces = false) (c : Nat → ClassId) (a n : Nat → Nat) (A : Nat → Nat → Int32) (B : Nat → Int64) (E : Nat → Nat → Int32) (o : Nat) (f : Nat → Int64)  (j : Nat) (hN : zf_N n) (hj : j < n 0) (le gr wu fu : Int32) (h1 : ¬ zf_isIn le 0 100) : ze_Q l yL_addGenerator wsL_addGenerator 8 129 1 6 D c ((ze_wC c a n A B E) ++ [(o, .inl (c 6, 1, .inr (.inl f)))]) [.ref (a 0), .int (nI j), .int le, .int gr, .int wu, .int fu, .ref o] 2 ((ze_wC c a n A B E) ++ [(o, .inl (c 6, 1, .inr (.inl f)))]) := by
  intro sz
  refine zq_start (cc := cL_addGenerator) (maxL := 8) (ret := (some .int)) (own := RL) (by decide) rfl rfl (Nat.le_of_ble_eq_true rfl) ?_
  obtain ⟨hn0, hn1, hn2, hn3, hn4⟩ := id hN
  intro p e s m_ below meth cd F ls hF hsz E0 hXB hNc htab
  obtain ⟨S, hr, hlocks, hK, hW, hA, hl⟩ := E0
  have hX_ := S.1
  have hB_ := S.2.1
  have hts := S.2.2.2.2
  have hl : lv_has ls 8 [(0, .ref (a 0)), (1, .int (nI j)), (2, .int le), (3, .int gr), (4, .int wu), (5, .int fu), (6, .ref o)] := hl
  have w0 := hts (.classLink RL 19 "java/lang/IndexOutOfBoundsException") (List.mem_cons_of_mem _ (List.mem_append_left _ (List.mem_append_left _ (List.mem_append_left _ (List.mem_append_left _ (List.mem_append_left _ (List.mem_append_left _ (List.mem_append_left _ (List.mem_append_left _ (List.mem_of_getElem? (i := 0) rfl))))))))))
  have w1 := hts (.classLink RL 21 "java/lang/IllegalArgumentException") (List.mem_cons_of_mem _ (List.mem_append_left _ (List.mem_append_left _ (List.mem_append_left _ (List.mem_append_left _ (List.mem_append_left _ (List.mem_append_left _ (List.mem_append_left _ (List.mem_append_left _ (List.mem_of_getElem? (i := 1) rfl))))))))))
  refine lv_aload hX_ hB_ dL_addGenerator_0 (lv_at hl 6 rfl) ?_
  refine lv_iconst (v := 0) hX_ hB_ dL_addGenerator_2 (by decide) ?_
  refine lv_aload_n hX_ hB_ dL_addGenerator_3 rfl (lv_at hl 0 rfl) ?_
  refine lv_iload_n hX_ hB_ dL_addGenerator_4 rfl (lv_at hl 1 rfl) ?_
  refine lv_iload_n hX_ hB_ dL_addGenerator_5 rfl (lv_at hl 2 rfl) ?_
  refine lv_iload_n hX_ hB_ dL_addGenerator_6 rfl (lv_at hl 3 rfl) ?_
  refine lv_iload hX_ hB_ dL_addGenerator_7 (lv_at hl 4 rfl) ?_
  refine lv_iload hX_ hB_ dL_addGenerator_9 (lv_at hl 5 rfl) ?_
  refine zx_FVc (As := [.int (nI j), .int le, .int gr, .int wu, .int fu]) (rest := [.int 0, .ref o]) (ci := 8) (q0 := 0) (k := (RX8, TX8, 8)) S (zt_addGenerator_t2a l D hst c a n A B E j hN hj le gr wu fu h1) (cwV 5 hts gL_addGenerator_X8_addGenerator rfl rfl rfl (by decide +kernel) ⟨(Nat.le_of_ble_eq_true rfl), (Nat.le_of_ble_eq_true rfl)⟩) hK hW hXB hA rfl (ze_at0 0 rfl) rfl hl.1 rfl (lv_room (Nat.le_of_ble_eq_true rfl)) dL_addGenerator_11 ⟨(Nat.le_of_ble_eq_true rfl), (Nat.le_of_ble_eq_true rfl)⟩ [⟨0, 16, 19, 19⟩] ⟨0, 16, 23, 21⟩ [⟨0, 16, 27, 13⟩] htab (by
      intro z hz
      simp only [List.mem_cons, List.not_mem_nil, or_false] at hz
      rcases hz with rfl
      exact Or.inr ⟨by decide, "java/lang/IndexOutOfBoundsException", w0, hNc ("java/lang/IllegalArgumentException", "java/lang/IndexOutOfBoundsException") (by decide +kernel)⟩) (by decide) (by decide) w1 (va_Nw.use rfl (hXB.2.2.2 _ (List.mem_of_getElem? (i := 4) rfl))) (fun q9 H locs hW => ?_)
  refine lv_astore (lv' := [(7, .ref q9), (0, .ref (a 0)), (1, .int (nI j)), (2, .int le), (3, .int gr), (4, .int wu), (5, .int fu), (6, .ref o)]) hX_ hB_ dL_addGenerator_23 hl (by decide) rfl (fun ls hl => ?_)
  refine lv_iconst (v := 2) hX_ hB_ dL_addGenerator_25 (by decide) ?_
  exact ze_iret S hr hlocks hF hK hW rfl dL_addGenerator_26 (Nat.le_of_ble_eq_true rfl) (Nat.le_of_ble_eq_true rfl) rfl rfl
set_option maxHeartbeats 4000000 in
set_option maxRecDepth 100000 in
theorem zl_addGenerator_t2b (l : Launch) (D : va_G) (hst : l.stackTraces = false) (c : Nat → ClassId) (a n : Nat → Nat) (A : Nat → Nat → Int32) (B : Nat → Int64) (E : Nat → Nat → Int32) (o : Nat) (f : Nat → Int64)  (j : Nat) (hN : zf_N n) (hj : j < n 0) (le gr wu fu : Int32) (h1 : zf_isIn le 0 100) (h2 : ¬ zf_isIn gr (ze_mx 1 le) 200) : ze_Q l yL_addGenerator wsL_addGenerator 8 129 1 6 D c ((ze_wC c a n A B E) ++ [(o, .inl (c 6, 1, .inr (.inl f)))]) [.ref (a 0), .int (nI j), .int le, .int gr, .int wu, .int fu, .ref o] 2 ((ze_wC c a n A B E) ++ [(o, .inl (c 6, 1, .inr (.inl f)))]) := by
  intro sz
  refine zq_start (cc := cL_addGenerator) (maxL := 8) (ret := (some .int)) (own := RL) (by decide) rfl rfl (Nat.le_of_ble_eq_true rfl) ?_
  obtain ⟨hn0, hn1, hn2, hn3, hn4⟩ := id hN
  intro p e s m_ below meth cd F ls hF hsz E0 hXB hNc htab
  obtain ⟨S, hr, hlocks, hK, hW, hA, hl⟩ := E0
  have hX_ := S.1
  have hB_ := S.2.1
  have hts := S.2.2.2.2
  have hl : lv_has ls 8 [(0, .ref (a 0)), (1, .int (nI j)), (2, .int le), (3, .int gr), (4, .int wu), (5, .int fu), (6, .ref o)] := hl
  have w0 := hts (.classLink RL 19 "java/lang/IndexOutOfBoundsException") (List.mem_cons_of_mem _ (List.mem_append_left _ (List.mem_append_left _ (List.mem_append_left _ (List.mem_append_left _ (List.mem_append_left _ (List.mem_append_left _ (List.mem_append_left _ (List.mem_append_left _ (List.mem_of_getElem? (i := 0) rfl))))))))))
  have w1 := hts (.classLink RL 21 "java/lang/IllegalArgumentException") (List.mem_cons_of_mem _ (List.mem_append_left _ (List.mem_append_left _ (List.mem_append_left _ (List.mem_append_left _ (List.mem_append_left _ (List.mem_append_left _ (List.mem_append_left _ (List.mem_append_left _ (List.mem_of_getElem? (i := 1) rfl))))))))))
  refine lv_aload hX_ hB_ dL_addGenerator_0 (lv_at hl 6 rfl) ?_
  refine lv_iconst (v := 0) hX_ hB_ dL_addGenerator_2 (by decide) ?_
  refine lv_aload_n hX_ hB_ dL_addGenerator_3 rfl (lv_at hl 0 rfl) ?_
  refine lv_iload_n hX_ hB_ dL_addGenerator_4 rfl (lv_at hl 1 rfl) ?_
  refine lv_iload_n hX_ hB_ dL_addGenerator_5 rfl (lv_at hl 2 rfl) ?_
  refine lv_iload_n hX_ hB_ dL_addGenerator_6 rfl (lv_at hl 3 rfl) ?_
  refine lv_iload hX_ hB_ dL_addGenerator_7 (lv_at hl 4 rfl) ?_
  refine lv_iload hX_ hB_ dL_addGenerator_9 (lv_at hl 5 rfl) ?_
  refine zx_FVc (As := [.int (nI j), .int le, .int gr, .int wu, .int fu]) (rest := [.int 0, .ref o]) (ci := 8) (q0 := 0) (k := (RX8, TX8, 8)) S (zt_addGenerator_t2b l D hst c a n A B E j hN hj le gr wu fu h1 h2) (cwV 5 hts gL_addGenerator_X8_addGenerator rfl rfl rfl (by decide +kernel) ⟨(Nat.le_of_ble_eq_true rfl), (Nat.le_of_ble_eq_true rfl)⟩) hK hW hXB hA rfl (ze_at0 0 rfl) rfl hl.1 rfl (lv_room (Nat.le_of_ble_eq_true rfl)) dL_addGenerator_11 ⟨(Nat.le_of_ble_eq_true rfl), (Nat.le_of_ble_eq_true rfl)⟩ [⟨0, 16, 19, 19⟩] ⟨0, 16, 23, 21⟩ [⟨0, 16, 27, 13⟩] htab (by
      intro z hz
      simp only [List.mem_cons, List.not_mem_nil, or_false] at hz
      rcases hz with rfl
      exact Or.inr ⟨by decide, "java/lang/IndexOutOfBoundsException", w0, hNc ("java/lang/IllegalArgumentException", "java/lang/IndexOutOfBoundsException") (by decide +kernel)⟩) (by decide) (by decide) w1 (va_Nw.use rfl (hXB.2.2.2 _ (List.mem_of_getElem? (i := 4) rfl))) (fun q9 H locs hW => ?_)
  refine lv_astore (lv' := [(7, .ref q9), (0, .ref (a 0)), (1, .int (nI j)), (2, .int le), (3, .int gr), (4, .int wu), (5, .int fu), (6, .ref o)]) hX_ hB_ dL_addGenerator_23 hl (by decide) rfl (fun ls hl => ?_)
  refine lv_iconst (v := 2) hX_ hB_ dL_addGenerator_25 (by decide) ?_
  exact ze_iret S hr hlocks hF hK hW rfl dL_addGenerator_26 (Nat.le_of_ble_eq_true rfl) (Nat.le_of_ble_eq_true rfl) rfl rfl
set_option maxHeartbeats 4000000 in
set_option maxRecDepth 100000 in
theorem zl_addGenerator_t2c (l : Launch) (D : va_G) (hst : l.stackTraces = false) (c : Nat → ClassId) (a n : Nat → Nat) (A : Nat → Nat → Int32) (B : Nat → Int64) (E : Nat → Nat → Int32) (o : Nat) (f : Nat → Int64)  (j : Nat) (hN : zf_N n) (hj : j < n 0) (le gr wu fu : Int32) (h1 : zf_isIn le 0 100) (h2 : zf_isIn gr (ze_mx 1 le) 200) (h3 : ¬ zf_isIn wu 0 9) : ze_Q l yL_addGenerator wsL_addGenerator 8 129 1 6 D c ((ze_wC c a n A B E) ++ [(o, .inl (c 6, 1, .inr (.inl f)))]) [.ref (a 0), .int (nI j), .int le, .int gr, .int wu, .int fu, .ref o] 2 ((ze_wC c a n A B E) ++ [(o, .inl (c 6, 1, .inr (.inl f)))]) := by
  intro sz
  refine zq_start (cc := cL_addGenerator) (maxL := 8) (ret := (some .int)) (own := RL) (by decide) rfl rfl (Nat.le_of_ble_eq_true rfl) ?_
  obtain ⟨hn0, hn1, hn2, hn3, hn4⟩ := id hN
  intro p e s m_ below meth cd F ls hF hsz E0 hXB hNc htab
  obtain ⟨S, hr, hlocks, hK, hW, hA, hl⟩ := E0
  have hX_ := S.1
  have hB_ := S.2.1
  have hts := S.2.2.2.2
  have hl : lv_has ls 8 [(0, .ref (a 0)), (1, .int (nI j)), (2, .int le), (3, .int gr), (4, .int wu), (5, .int fu), (6, .ref o)] := hl
  have w0 := hts (.classLink RL 19 "java/lang/IndexOutOfBoundsException") (List.mem_cons_of_mem _ (List.mem_append_left _ (List.mem_append_left _ (List.mem_append_left _ (List.mem_append_left _ (List.mem_append_left _ (List.mem_append_left _ (List.mem_append_left _ (List.mem_append_left _ (List.mem_of_getElem? (i := 0) rfl))))))))))
  have w1 := hts (.classLink RL 21 "java/lang/IllegalArgumentException") (List.mem_cons_of_mem _ (List.mem_append_left _ (List.mem_append_left _ (List.mem_append_left _ (List.mem_append_left _ (List.mem_append_left _ (List.mem_append_left _ (List.mem_append_left _ (List.mem_append_left _ (List.mem_of_getElem? (i := 1) rfl))))))))))
  refine lv_aload hX_ hB_ dL_addGenerator_0 (lv_at hl 6 rfl) ?_
  refine lv_iconst (v := 0) hX_ hB_ dL_addGenerator_2 (by decide) ?_
  refine lv_aload_n hX_ hB_ dL_addGenerator_3 rfl (lv_at hl 0 rfl) ?_
  refine lv_iload_n hX_ hB_ dL_addGenerator_4 rfl (lv_at hl 1 rfl) ?_
  refine lv_iload_n hX_ hB_ dL_addGenerator_5 rfl (lv_at hl 2 rfl) ?_
  refine lv_iload_n hX_ hB_ dL_addGenerator_6 rfl (lv_at hl 3 rfl) ?_
  refine lv_iload hX_ hB_ dL_addGenerator_7 (lv_at hl 4 rfl) ?_
  refine lv_iload hX_ hB_ dL_addGenerator_9 (lv_at hl 5 rfl) ?_
  refine zx_FVc (As := [.int (nI j), .int le, .int gr, .int wu, .int fu]) (rest := [.int 0, .ref o]) (ci := 8) (q0 := 0) (k := (RX8, TX8, 8)) S (zt_addGenerator_t2c l D hst c a n A B E j hN hj le gr wu fu h1 h2 h3) (cwV 5 hts gL_addGenerator_X8_addGenerator rfl rfl rfl (by decide +kernel) ⟨(Nat.le_of_ble_eq_true rfl), (Nat.le_of_ble_eq_true rfl)⟩) hK hW hXB hA rfl (ze_at0 0 rfl) rfl hl.1 rfl (lv_room (Nat.le_of_ble_eq_true rfl)) dL_addGenerator_11 ⟨(Nat.le_of_ble_eq_true rfl), (Nat.le_of_ble_eq_true rfl)⟩ [⟨0, 16, 19, 19⟩] ⟨0, 16, 23, 21⟩ [⟨0, 16, 27, 13⟩] htab (by
      intro z hz
      simp only [List.mem_cons, List.not_mem_nil, or_false] at hz
      rcases hz with rfl
      exact Or.inr ⟨by decide, "java/lang/IndexOutOfBoundsException", w0, hNc ("java/lang/IllegalArgumentException", "java/lang/IndexOutOfBoundsException") (by decide +kernel)⟩) (by decide) (by decide) w1 (va_Nw.use rfl (hXB.2.2.2 _ (List.mem_of_getElem? (i := 4) rfl))) (fun q9 H locs hW => ?_)
  refine lv_astore (lv' := [(7, .ref q9), (0, .ref (a 0)), (1, .int (nI j)), (2, .int le), (3, .int gr), (4, .int wu), (5, .int fu), (6, .ref o)]) hX_ hB_ dL_addGenerator_23 hl (by decide) rfl (fun ls hl => ?_)
  refine lv_iconst (v := 2) hX_ hB_ dL_addGenerator_25 (by decide) ?_
  exact ze_iret S hr hlocks hF hK hW rfl dL_addGenerator_26 (Nat.le_of_ble_eq_true rfl) (Nat.le_of_ble_eq_true rfl) rfl rfl
set_option maxHeartbeats 4000000 in
set_option maxRecDepth 100000 in
theorem zl_addGenerator_t2d (l : Launch) (D : va_G) (hst : l.stackTraces = false) (c : Nat → ClassId) (a n : Nat → Nat) (A : Nat → Nat → Int32) (B : Nat → Int64) (E : Nat → Nat → Int32) (o : Nat) (f : Nat → Int64)  (j : Nat) (hN : zf_N n) (hj : j < n 0) (le gr wu fu : Int32) (h1 : zf_isIn le 0 100) (h2 : zf_isIn gr (ze_mx 1 le) 200) (h3 : zf_isIn wu 0 9) (h4 : ¬ zf_isIn fu 0 9999) : ze_Q l yL_addGenerator wsL_addGenerator 8 129 1 6 D c ((ze_wC c a n A B E) ++ [(o, .inl (c 6, 1, .inr (.inl f)))]) [.ref (a 0), .int (nI j), .int le, .int gr, .int wu, .int fu, .ref o] 2 ((ze_wC c a n A B E) ++ [(o, .inl (c 6, 1, .inr (.inl f)))]) := by
  intro sz
  refine zq_start (cc := cL_addGenerator) (maxL := 8) (ret := (some .int)) (own := RL) (by decide) rfl rfl (Nat.le_of_ble_eq_true rfl) ?_
  obtain ⟨hn0, hn1, hn2, hn3, hn4⟩ := id hN
  intro p e s m_ below meth cd F ls hF hsz E0 hXB hNc htab
  obtain ⟨S, hr, hlocks, hK, hW, hA, hl⟩ := E0
  have hX_ := S.1
  have hB_ := S.2.1
  have hts := S.2.2.2.2
  have hl : lv_has ls 8 [(0, .ref (a 0)), (1, .int (nI j)), (2, .int le), (3, .int gr), (4, .int wu), (5, .int fu), (6, .ref o)] := hl
  have w0 := hts (.classLink RL 19 "java/lang/IndexOutOfBoundsException") (List.mem_cons_of_mem _ (List.mem_append_left _ (List.mem_append_left _ (List.mem_append_left _ (List.mem_append_left _ (List.mem_append_left _ (List.mem_append_left _ (List.mem_append_left _ (List.mem_append_left _ (List.mem_of_getElem? (i := 0) rfl))))))))))
  have w1 := hts (.classLink RL 21 "java/lang/IllegalArgumentException") (List.mem_cons_of_mem _ (List.mem_append_left _ (List.mem_append_left _ (List.mem_append_left _ (List.mem_append_left _ (List.mem_append_left _ (List.mem_append_left _ (List.mem_append_left _ (List.mem_append_left _ (List.mem_of_getElem? (i := 1) rfl))))))))))
  refine lv_aload hX_ hB_ dL_addGenerator_0 (lv_at hl 6 rfl) ?_
  refine lv_iconst (v := 0) hX_ hB_ dL_addGenerator_2 (by decide) ?_
  refine lv_aload_n hX_ hB_ dL_addGenerator_3 rfl (lv_at hl 0 rfl) ?_
  refine lv_iload_n hX_ hB_ dL_addGenerator_4 rfl (lv_at hl 1 rfl) ?_
  refine lv_iload_n hX_ hB_ dL_addGenerator_5 rfl (lv_at hl 2 rfl) ?_
  refine lv_iload_n hX_ hB_ dL_addGenerator_6 rfl (lv_at hl 3 rfl) ?_
  refine lv_iload hX_ hB_ dL_addGenerator_7 (lv_at hl 4 rfl) ?_
  refine lv_iload hX_ hB_ dL_addGenerator_9 (lv_at hl 5 rfl) ?_
  refine zx_FVc (As := [.int (nI j), .int le, .int gr, .int wu, .int fu]) (rest := [.int 0, .ref o]) (ci := 8) (q0 := 0) (k := (RX8, TX8, 8)) S (zt_addGenerator_t2d l D hst c a n A B E j hN hj le gr wu fu h1 h2 h3 h4) (cwV 5 hts gL_addGenerator_X8_addGenerator rfl rfl rfl (by decide +kernel) ⟨(Nat.le_of_ble_eq_true rfl), (Nat.le_of_ble_eq_true rfl)⟩) hK hW hXB hA rfl (ze_at0 0 rfl) rfl hl.1 rfl (lv_room (Nat.le_of_ble_eq_true rfl)) dL_addGenerator_11 ⟨(Nat.le_of_ble_eq_true rfl), (Nat.le_of_ble_eq_true rfl)⟩ [⟨0, 16, 19, 19⟩] ⟨0, 16, 23, 21⟩ [⟨0, 16, 27, 13⟩] htab (by
      intro z hz
      simp only [List.mem_cons, List.not_mem_nil, or_false] at hz
      rcases hz with rfl
      exact Or.inr ⟨by decide, "java/lang/IndexOutOfBoundsException", w0, hNc ("java/lang/IllegalArgumentException", "java/lang/IndexOutOfBoundsException") (by decide +kernel)⟩) (by decide) (by decide) w1 (va_Nw.use rfl (hXB.2.2.2 _ (List.mem_of_getElem? (i := 4) rfl))) (fun q9 H locs hW => ?_)
  refine lv_astore (lv' := [(7, .ref q9), (0, .ref (a 0)), (1, .int (nI j)), (2, .int le), (3, .int gr), (4, .int wu), (5, .int fu), (6, .ref o)]) hX_ hB_ dL_addGenerator_23 hl (by decide) rfl (fun ls hl => ?_)
  refine lv_iconst (v := 2) hX_ hB_ dL_addGenerator_25 (by decide) ?_
  exact ze_iret S hr hlocks hF hK hW rfl dL_addGenerator_26 (Nat.le_of_ble_eq_true rfl) (Nat.le_of_ble_eq_true rfl) rfl rfl
set_option maxHeartbeats 4000000 in
set_option maxRecDepth 100000 in
theorem zl_addGenerator_t3 (l : Launch) (D : va_G) (hst : l.stackTraces = false) (c : Nat → ClassId) (a n : Nat → Nat) (A : Nat → Nat → Int32) (B : Nat → Int64) (E : Nat → Nat → Int32) (o : Nat) (f : Nat → Int64)  (j : Nat) (hN : zf_N n) (hj : j < n 0) (le gr wu fu : Int32) (h1 : zf_isIn le 0 100) (h2 : zf_isIn gr (ze_mx 1 le) 200) (h3 : zf_isIn wu 0 9) (h4 : zf_isIn fu 0 9999) (h5 : ¬ n 2 < 6) : ze_Q l yL_addGenerator wsL_addGenerator 7 107 1 6 D c ((ze_wC c a n A B E) ++ [(o, .inl (c 6, 1, .inr (.inl f)))]) [.ref (a 0), .int (nI j), .int le, .int gr, .int wu, .int fu, .ref o] 3 ((ze_wC c a n A B E) ++ [(o, .inl (c 6, 1, .inr (.inl f)))]) := by
  intro sz
  refine zq_start (cc := cL_addGenerator) (maxL := 8) (ret := (some .int)) (own := RL) (by decide) rfl rfl (Nat.le_of_ble_eq_true rfl) ?_
  obtain ⟨hn0, hn1, hn2, hn3, hn4⟩ := id hN
  intro p e s m_ below meth cd F ls hF hsz E0 hXB hNc htab
  obtain ⟨S, hr, hlocks, hK, hW, hA, hl⟩ := E0
  have hX_ := S.1
  have hB_ := S.2.1
  have hts := S.2.2.2.2
  have hl : lv_has ls 8 [(0, .ref (a 0)), (1, .int (nI j)), (2, .int le), (3, .int gr), (4, .int wu), (5, .int fu), (6, .ref o)] := hl
  have w0 := hts (.classLink RL 19 "java/lang/IndexOutOfBoundsException") (List.mem_cons_of_mem _ (List.mem_append_left _ (List.mem_append_left _ (List.mem_append_left _ (List.mem_append_left _ (List.mem_append_left _ (List.mem_append_left _ (List.mem_append_left _ (List.mem_append_left _ (List.mem_of_getElem? (i := 0) rfl))))))))))
  have w1 := hts (.classLink RL 21 "java/lang/IllegalArgumentException") (List.mem_cons_of_mem _ (List.mem_append_left _ (List.mem_append_left _ (List.mem_append_left _ (List.mem_append_left _ (List.mem_append_left _ (List.mem_append_left _ (List.mem_append_left _ (List.mem_append_left _ (List.mem_of_getElem? (i := 1) rfl))))))))))
  have w2 := hts (.classLink RL 13 "java/lang/IllegalStateException") (List.mem_cons_of_mem _ (List.mem_append_left _ (List.mem_append_left _ (List.mem_append_left _ (List.mem_append_left _ (List.mem_append_left _ (List.mem_append_left _ (List.mem_append_left _ (List.mem_append_left _ (List.mem_of_getElem? (i := 2) rfl))))))))))
  refine lv_aload hX_ hB_ dL_addGenerator_0 (lv_at hl 6 rfl) ?_
  refine lv_iconst (v := 0) hX_ hB_ dL_addGenerator_2 (by decide) ?_
  refine lv_aload_n hX_ hB_ dL_addGenerator_3 rfl (lv_at hl 0 rfl) ?_
  refine lv_iload_n hX_ hB_ dL_addGenerator_4 rfl (lv_at hl 1 rfl) ?_
  refine lv_iload_n hX_ hB_ dL_addGenerator_5 rfl (lv_at hl 2 rfl) ?_
  refine lv_iload_n hX_ hB_ dL_addGenerator_6 rfl (lv_at hl 3 rfl) ?_
  refine lv_iload hX_ hB_ dL_addGenerator_7 (lv_at hl 4 rfl) ?_
  refine lv_iload hX_ hB_ dL_addGenerator_9 (lv_at hl 5 rfl) ?_
  refine zx_FVc (As := [.int (nI j), .int le, .int gr, .int wu, .int fu]) (rest := [.int 0, .ref o]) (ci := 8) (q0 := 0) (k := (RX8, TX8, 8)) S (zt_addGenerator_t3 l D hst c a n A B E j hN hj le gr wu fu h1 h2 h3 h4 h5) (cwV 5 hts gL_addGenerator_X8_addGenerator rfl rfl rfl (by decide +kernel) ⟨(Nat.le_of_ble_eq_true rfl), (Nat.le_of_ble_eq_true rfl)⟩) hK hW hXB hA rfl (ze_at0 0 rfl) rfl hl.1 rfl (lv_room (Nat.le_of_ble_eq_true rfl)) dL_addGenerator_11 ⟨(Nat.le_of_ble_eq_true rfl), (Nat.le_of_ble_eq_true rfl)⟩ [⟨0, 16, 19, 19⟩, ⟨0, 16, 23, 21⟩] ⟨0, 16, 27, 13⟩ [] htab (by
      intro z hz
      simp only [List.mem_cons, List.not_mem_nil, or_false] at hz
      rcases hz with rfl | rfl
      · exact Or.inr ⟨by decide, "java/lang/IndexOutOfBoundsException", w0, hNc ("java/lang/IllegalStateException", "java/lang/IndexOutOfBoundsException") (by decide +kernel)⟩
      · exact Or.inr ⟨by decide, "java/lang/IllegalArgumentException", w1, hNc ("java/lang/IllegalStateException", "java/lang/IllegalArgumentException") (by decide +kernel)⟩) (by decide) (by decide) w2 (va_Nw.use rfl (hXB.2.2.2 _ (List.mem_of_getElem? (i := 3) rfl))) (fun q9 H locs hW => ?_)
  refine lv_astore (lv' := [(7, .ref q9), (0, .ref (a 0)), (1, .int (nI j)), (2, .int le), (3, .int gr), (4, .int wu), (5, .int fu), (6, .ref o)]) hX_ hB_ dL_addGenerator_27 hl (by decide) rfl (fun ls hl => ?_)
  refine lv_iconst (v := 3) hX_ hB_ dL_addGenerator_29 (by decide) ?_
  exact ze_iret S hr hlocks hF hK hW rfl dL_addGenerator_30 (Nat.le_of_ble_eq_true rfl) (Nat.le_of_ble_eq_true rfl) rfl rfl
set_option maxHeartbeats 4000000 in
set_option maxRecDepth 100000 in
theorem zl_addLine_f (l : Launch) (D : va_G) (c : Nat → ClassId) (a n : Nat → Nat) (A : Nat → Nat → Int32) (B : Nat → Int64) (E : Nat → Nat → Int32) (o : Nat) (f : Nat → Int64)  (j : Nat) (hN : zf_N n) (hj : j < n 0) (k : Nat) (hk : k < n 0) (h : ¬ j = k) (h8 : n 1 < 8) : ze_Q l yL_addLine wsL_addLine 3 64 0 0 D c ((ze_wC c a n A B E) ++ [(o, .inl (c 6, 1, .inr (.inl f)))]) [.ref (a 0), .int (nI j), .int (nI k), .ref o] 0 ((ze_wC c a (ze_sn n 1 (n 1 + 1)) (ze_sE (ze_sE A 2 (n 1) (nI j)) 3 (n 1) (nI k)) B E) ++ [(o, .inl (c 6, 1, .inr (.inl (vp_updL f 0 ((nI (n 1)).toInt64)))))]) := by
  intro sz
  refine zq_start (cc := cL_addLine) (maxL := 5) (ret := (some .int)) (own := RL) (by decide) rfl rfl (Nat.le_of_ble_eq_true rfl) ?_
  obtain ⟨hn0, hn1, hn2, hn3, hn4⟩ := id hN
  intro p e s m_ below meth cd F ls hF hsz E0 hXB hNc htab
  obtain ⟨S, hr, hlocks, hK, hW, hA, hl⟩ := E0
  have hX_ := S.1
  have hB_ := S.2.1
  have hts := S.2.2.2.2
  have hl : lv_has ls 5 [(0, .ref (a 0)), (1, .int (nI j)), (2, .int (nI k)), (3, .ref o)] := hl
  refine lv_aload_n hX_ hB_ dL_addLine_0 rfl (lv_at hl 3 rfl) ?_
  refine lv_iconst (v := 0) hX_ hB_ dL_addLine_1 (by decide) ?_
  refine lv_aload_n hX_ hB_ dL_addLine_2 rfl (lv_at hl 0 rfl) ?_
  refine lv_iload_n hX_ hB_ dL_addLine_3 rfl (lv_at hl 1 rfl) ?_
  refine lv_iload_n hX_ hB_ dL_addLine_4 rfl (lv_at hl 2 rfl) ?_
  refine ze_FVi (As := [.int (nI j), .int (nI k)]) (rest := [.int 0, .ref o]) (ci := 8) (q0 := 0) (k := (RX8, TX8, 8)) S (zp_addLine_f l D c a n A B E j hN hj k hk h h8) (cwV 2 hts gL_addLine_X8_addLine rfl rfl rfl (by decide +kernel) ⟨Nat.le_of_ble_eq_true rfl, Nat.le_of_ble_eq_true rfl⟩) hK hW hA rfl (ze_at0 0 rfl) rfl hl.1 rfl (lv_room (Nat.le_of_ble_eq_true rfl)) dL_addLine_5 ⟨Nat.le_of_ble_eq_true rfl, Nat.le_of_ble_eq_true rfl⟩ (fun H locs hW => ?_)
  have hW : ze_W D ((ze_wC c a (ze_sn n 1 (n 1 + 1)) (ze_sE (ze_sE A 2 (n 1) (nI j)) 3 (n 1) (nI k)) B E) ++ [(o, .inl (c 6, 1, .inr (.inl f)))]) F s.heap _ _ := hW
  refine lv_i2l (v := (nI (n 1)).toInt64) hX_ hB_ dL_addLine_8 rfl ?_
  refine ze_last hX_ hB_ hK hW ((ze_wC c a (ze_sn n 1 (n 1 + 1)) (ze_sE (ze_sE A 2 (n 1) (nI j)) 3 (n 1) (nI k)) B E).length + 0) (i := 0) (ze_appL (k := 0) rfl) (by decide) (by decide) dL_addLine_9 (ze_appset rfl) (fun H locs hW => ?_)
  have hW : ze_W D ((ze_wC c a (ze_sn n 1 (n 1 + 1)) (ze_sE (ze_sE A 2 (n 1) (nI j)) 3 (n 1) (nI k)) B E) ++ [(o, .inl (c 6, 1, .inr (.inl (vp_updL f 0 ((nI (n 1)).toInt64)))))]) F s.heap _ _ := hW
  refine lv_goto (tgt := 25) hX_ hB_ dL_addLine_10 (by decide) ?_
  refine lv_iconst (v := 0) hX_ hB_ dL_addLine_25 (by decide) ?_
  exact ze_iret S hr hlocks hF hK hW rfl dL_addLine_26 (Nat.le_of_ble_eq_true rfl) (Nat.le_of_ble_eq_true rfl) rfl rfl
set_option maxHeartbeats 4000000 in
set_option maxRecDepth 100000 in
theorem zl_addLine_t1a (l : Launch) (D : va_G) (hst : l.stackTraces = false) (c : Nat → ClassId) (a n : Nat → Nat) (A : Nat → Nat → Int32) (B : Nat → Int64) (E : Nat → Nat → Int32) (o : Nat) (f : Nat → Int64)  (x : Int32) (hN : zf_N n) (hx : ¬ zf_isIn x 0 (nI (n 0) - 1)) (y : Int32) : ze_Q l yL_addLine wsL_addLine 9 146 1 6 D c ((ze_wC c a n A B E) ++ [(o, .inl (c 6, 1, .inr (.inl f)))]) [.ref (a 0), .int x, .int y, .ref o] 1 ((ze_wC c a n A B E) ++ [(o, .inl (c 6, 1, .inr (.inl f)))]) := by
  intro sz
  refine zq_start (cc := cL_addLine) (maxL := 5) (ret := (some .int)) (own := RL) (by decide) rfl rfl (Nat.le_of_ble_eq_true rfl) ?_
  obtain ⟨hn0, hn1, hn2, hn3, hn4⟩ := id hN
  intro p e s m_ below meth cd F ls hF hsz E0 hXB hNc htab
  obtain ⟨S, hr, hlocks, hK, hW, hA, hl⟩ := E0
  have hX_ := S.1
  have hB_ := S.2.1
  have hts := S.2.2.2.2
  have hl : lv_has ls 5 [(0, .ref (a 0)), (1, .int x), (2, .int y), (3, .ref o)] := hl
  have w0 := hts (.classLink RL 19 "java/lang/IndexOutOfBoundsException") (List.mem_cons_of_mem _ (List.mem_append_left _ (List.mem_append_left _ (List.mem_append_left _ (List.mem_append_left _ (List.mem_append_left _ (List.mem_append_left _ (List.mem_of_getElem? (i := 0) rfl))))))))
  refine lv_aload_n hX_ hB_ dL_addLine_0 rfl (lv_at hl 3 rfl) ?_
  refine lv_iconst (v := 0) hX_ hB_ dL_addLine_1 (by decide) ?_
  refine lv_aload_n hX_ hB_ dL_addLine_2 rfl (lv_at hl 0 rfl) ?_
  refine lv_iload_n hX_ hB_ dL_addLine_3 rfl (lv_at hl 1 rfl) ?_
  refine lv_iload_n hX_ hB_ dL_addLine_4 rfl (lv_at hl 2 rfl) ?_
  refine zx_FVc (As := [.int x, .int y]) (rest := [.int 0, .ref o]) (ci := 8) (q0 := 0) (k := (RX8, TX8, 8)) S (zt_addLine_t1a l D hst c a n A B E x hN hx y) (cwV 2 hts gL_addLine_X8_addLine rfl rfl rfl (by decide +kernel) ⟨(Nat.le_of_ble_eq_true rfl), (Nat.le_of_ble_eq_true rfl)⟩) hK hW hXB hA rfl (ze_at0 0 rfl) rfl hl.1 rfl (lv_room (Nat.le_of_ble_eq_true rfl)) dL_addLine_5 ⟨(Nat.le_of_ble_eq_true rfl), (Nat.le_of_ble_eq_true rfl)⟩ [] ⟨0, 10, 13, 19⟩ [⟨0, 10, 17, 21⟩, ⟨0, 10, 21, 13⟩] htab (by intro z hz; cases hz) (by decide) (by decide) w0 (va_Nw.use rfl (hXB.2.2.2 _ (List.mem_of_getElem? (i := 7) rfl))) (fun q9 H locs hW => ?_)
  refine lv_astore (lv' := [(4, .ref q9), (0, .ref (a 0)), (1, .int x), (2, .int y), (3, .ref o)]) hX_ hB_ dL_addLine_13 hl (by decide) rfl (fun ls hl => ?_)
  refine lv_iconst (v := 1) hX_ hB_ dL_addLine_15 (by decide) ?_
  exact ze_iret S hr hlocks hF hK hW rfl dL_addLine_16 (Nat.le_of_ble_eq_true rfl) (Nat.le_of_ble_eq_true rfl) rfl rfl
set_option maxHeartbeats 4000000 in
set_option maxRecDepth 100000 in
theorem zl_addLine_t1b (l : Launch) (D : va_G) (hst : l.stackTraces = false) (c : Nat → ClassId) (a n : Nat → Nat) (A : Nat → Nat → Int32) (B : Nat → Int64) (E : Nat → Nat → Int32) (o : Nat) (f : Nat → Int64)  (j : Nat) (hN : zf_N n) (hj : j < n 0) (y : Int32) (hy : ¬ zf_isIn y 0 (nI (n 0) - 1)) : ze_Q l yL_addLine wsL_addLine 9 146 1 6 D c ((ze_wC c a n A B E) ++ [(o, .inl (c 6, 1, .inr (.inl f)))]) [.ref (a 0), .int (nI j), .int y, .ref o] 1 ((ze_wC c a n A B E) ++ [(o, .inl (c 6, 1, .inr (.inl f)))]) := by
  intro sz
  refine zq_start (cc := cL_addLine) (maxL := 5) (ret := (some .int)) (own := RL) (by decide) rfl rfl (Nat.le_of_ble_eq_true rfl) ?_
  obtain ⟨hn0, hn1, hn2, hn3, hn4⟩ := id hN
  intro p e s m_ below meth cd F ls hF hsz E0 hXB hNc htab
  obtain ⟨S, hr, hlocks, hK, hW, hA, hl⟩ := E0
  have hX_ := S.1
  have hB_ := S.2.1
  have hts := S.2.2.2.2
  have hl : lv_has ls 5 [(0, .ref (a 0)), (1, .int (nI j)), (2, .int y), (3, .ref o)] := hl
  have w0 := hts (.classLink RL 19 "java/lang/IndexOutOfBoundsException") (List.mem_cons_of_mem _ (List.mem_append_left _ (List.mem_append_left _ (List.mem_append_left _ (List.mem_append_left _ (List.mem_append_left _ (List.mem_append_left _ (List.mem_of_getElem? (i := 0) rfl))))))))
  refine lv_aload_n hX_ hB_ dL_addLine_0 rfl (lv_at hl 3 rfl) ?_
  refine lv_iconst (v := 0) hX_ hB_ dL_addLine_1 (by decide) ?_
  refine lv_aload_n hX_ hB_ dL_addLine_2 rfl (lv_at hl 0 rfl) ?_
  refine lv_iload_n hX_ hB_ dL_addLine_3 rfl (lv_at hl 1 rfl) ?_
  refine lv_iload_n hX_ hB_ dL_addLine_4 rfl (lv_at hl 2 rfl) ?_
  refine zx_FVc (As := [.int (nI j), .int y]) (rest := [.int 0, .ref o]) (ci := 8) (q0 := 0) (k := (RX8, TX8, 8)) S (zt_addLine_t1b l D hst c a n A B E j hN hj y hy) (cwV 2 hts gL_addLine_X8_addLine rfl rfl rfl (by decide +kernel) ⟨(Nat.le_of_ble_eq_true rfl), (Nat.le_of_ble_eq_true rfl)⟩) hK hW hXB hA rfl (ze_at0 0 rfl) rfl hl.1 rfl (lv_room (Nat.le_of_ble_eq_true rfl)) dL_addLine_5 ⟨(Nat.le_of_ble_eq_true rfl), (Nat.le_of_ble_eq_true rfl)⟩ [] ⟨0, 10, 13, 19⟩ [⟨0, 10, 17, 21⟩, ⟨0, 10, 21, 13⟩] htab (by intro z hz; cases hz) (by decide) (by decide) w0 (va_Nw.use rfl (hXB.2.2.2 _ (List.mem_of_getElem? (i := 7) rfl))) (fun q9 H locs hW => ?_)
  refine lv_astore (lv' := [(4, .ref q9), (0, .ref (a 0)), (1, .int (nI j)), (2, .int y), (3, .ref o)]) hX_ hB_ dL_addLine_13 hl (by decide) rfl (fun ls hl => ?_)
  refine lv_iconst (v := 1) hX_ hB_ dL_addLine_15 (by decide) ?_
  exact ze_iret S hr hlocks hF hK hW rfl dL_addLine_16 (Nat.le_of_ble_eq_true rfl) (Nat.le_of_ble_eq_true rfl) rfl rfl
set_option maxHeartbeats 4000000 in
set_option maxRecDepth 100000 in
theorem zl_addLine_t2 (l : Launch) (D : va_G) (hst : l.stackTraces = false) (c : Nat → ClassId) (a n : Nat → Nat) (A : Nat → Nat → Int32) (B : Nat → Int64) (E : Nat → Nat → Int32) (o : Nat) (f : Nat → Int64)  (j : Nat) (hN : zf_N n) (hj : j < n 0) (k : Nat) (hk : k < n 0) (h : j = k) : ze_Q l yL_addLine wsL_addLine 7 104 1 6 D c ((ze_wC c a n A B E) ++ [(o, .inl (c 6, 1, .inr (.inl f)))]) [.ref (a 0), .int (nI j), .int (nI k), .ref o] 2 ((ze_wC c a n A B E) ++ [(o, .inl (c 6, 1, .inr (.inl f)))]) := by
  intro sz
  refine zq_start (cc := cL_addLine) (maxL := 5) (ret := (some .int)) (own := RL) (by decide) rfl rfl (Nat.le_of_ble_eq_true rfl) ?_
  obtain ⟨hn0, hn1, hn2, hn3, hn4⟩ := id hN
  intro p e s m_ below meth cd F ls hF hsz E0 hXB hNc htab
  obtain ⟨S, hr, hlocks, hK, hW, hA, hl⟩ := E0
  have hX_ := S.1
  have hB_ := S.2.1
  have hts := S.2.2.2.2
  have hl : lv_has ls 5 [(0, .ref (a 0)), (1, .int (nI j)), (2, .int (nI k)), (3, .ref o)] := hl
  have w0 := hts (.classLink RL 19 "java/lang/IndexOutOfBoundsException") (List.mem_cons_of_mem _ (List.mem_append_left _ (List.mem_append_left _ (List.mem_append_left _ (List.mem_append_left _ (List.mem_append_left _ (List.mem_append_left _ (List.mem_of_getElem? (i := 0) rfl))))))))
  have w1 := hts (.classLink RL 21 "java/lang/IllegalArgumentException") (List.mem_cons_of_mem _ (List.mem_append_left _ (List.mem_append_left _ (List.mem_append_left _ (List.mem_append_left _ (List.mem_append_left _ (List.mem_append_left _ (List.mem_of_getElem? (i := 1) rfl))))))))
  refine lv_aload_n hX_ hB_ dL_addLine_0 rfl (lv_at hl 3 rfl) ?_
  refine lv_iconst (v := 0) hX_ hB_ dL_addLine_1 (by decide) ?_
  refine lv_aload_n hX_ hB_ dL_addLine_2 rfl (lv_at hl 0 rfl) ?_
  refine lv_iload_n hX_ hB_ dL_addLine_3 rfl (lv_at hl 1 rfl) ?_
  refine lv_iload_n hX_ hB_ dL_addLine_4 rfl (lv_at hl 2 rfl) ?_
  refine zx_FVc (As := [.int (nI j), .int (nI k)]) (rest := [.int 0, .ref o]) (ci := 8) (q0 := 0) (k := (RX8, TX8, 8)) S (zt_addLine_t2 l D hst c a n A B E j hN hj k hk h) (cwV 2 hts gL_addLine_X8_addLine rfl rfl rfl (by decide +kernel) ⟨(Nat.le_of_ble_eq_true rfl), (Nat.le_of_ble_eq_true rfl)⟩) hK hW hXB hA rfl (ze_at0 0 rfl) rfl hl.1 rfl (lv_room (Nat.le_of_ble_eq_true rfl)) dL_addLine_5 ⟨(Nat.le_of_ble_eq_true rfl), (Nat.le_of_ble_eq_true rfl)⟩ [⟨0, 10, 13, 19⟩] ⟨0, 10, 17, 21⟩ [⟨0, 10, 21, 13⟩] htab (by
      intro z hz
      simp only [List.mem_cons, List.not_mem_nil, or_false] at hz
      rcases hz with rfl
      exact Or.inr ⟨by decide, "java/lang/IndexOutOfBoundsException", w0, hNc ("java/lang/IllegalArgumentException", "java/lang/IndexOutOfBoundsException") (by decide +kernel)⟩) (by decide) (by decide) w1 (va_Nw.use rfl (hXB.2.2.2 _ (List.mem_of_getElem? (i := 4) rfl))) (fun q9 H locs hW => ?_)
  refine lv_astore (lv' := [(4, .ref q9), (0, .ref (a 0)), (1, .int (nI j)), (2, .int (nI k)), (3, .ref o)]) hX_ hB_ dL_addLine_17 hl (by decide) rfl (fun ls hl => ?_)
  refine lv_iconst (v := 2) hX_ hB_ dL_addLine_19 (by decide) ?_
  exact ze_iret S hr hlocks hF hK hW rfl dL_addLine_20 (Nat.le_of_ble_eq_true rfl) (Nat.le_of_ble_eq_true rfl) rfl rfl
set_option maxHeartbeats 4000000 in
set_option maxRecDepth 100000 in
theorem zl_addLine_t3 (l : Launch) (D : va_G) (hst : l.stackTraces = false) (c : Nat → ClassId) (a n : Nat → Nat) (A : Nat → Nat → Int32) (B : Nat → Int64) (E : Nat → Nat → Int32) (o : Nat) (f : Nat → Int64)  (j : Nat) (hN : zf_N n) (hj : j < n 0) (k : Nat) (hk : k < n 0) (h : ¬ j = k) (h8 : ¬ n 1 < 8) : ze_Q l yL_addLine wsL_addLine 7 104 1 6 D c ((ze_wC c a n A B E) ++ [(o, .inl (c 6, 1, .inr (.inl f)))]) [.ref (a 0), .int (nI j), .int (nI k), .ref o] 3 ((ze_wC c a n A B E) ++ [(o, .inl (c 6, 1, .inr (.inl f)))]) := by
  intro sz
  refine zq_start (cc := cL_addLine) (maxL := 5) (ret := (some .int)) (own := RL) (by decide) rfl rfl (Nat.le_of_ble_eq_true rfl) ?_
  obtain ⟨hn0, hn1, hn2, hn3, hn4⟩ := id hN
  intro p e s m_ below meth cd F ls hF hsz E0 hXB hNc htab
  obtain ⟨S, hr, hlocks, hK, hW, hA, hl⟩ := E0
  have hX_ := S.1
  have hB_ := S.2.1
  have hts := S.2.2.2.2
  have hl : lv_has ls 5 [(0, .ref (a 0)), (1, .int (nI j)), (2, .int (nI k)), (3, .ref o)] := hl
  have w0 := hts (.classLink RL 19 "java/lang/IndexOutOfBoundsException") (List.mem_cons_of_mem _ (List.mem_append_left _ (List.mem_append_left _ (List.mem_append_left _ (List.mem_append_left _ (List.mem_append_left _ (List.mem_append_left _ (List.mem_of_getElem? (i := 0) rfl))))))))
  have w1 := hts (.classLink RL 21 "java/lang/IllegalArgumentException") (List.mem_cons_of_mem _ (List.mem_append_left _ (List.mem_append_left _ (List.mem_append_left _ (List.mem_append_left _ (List.mem_append_left _ (List.mem_append_left _ (List.mem_of_getElem? (i := 1) rfl))))))))
  have w2 := hts (.classLink RL 13 "java/lang/IllegalStateException") (List.mem_cons_of_mem _ (List.mem_append_left _ (List.mem_append_left _ (List.mem_append_left _ (List.mem_append_left _ (List.mem_append_left _ (List.mem_append_left _ (List.mem_of_getElem? (i := 2) rfl))))))))
  refine lv_aload_n hX_ hB_ dL_addLine_0 rfl (lv_at hl 3 rfl) ?_
  refine lv_iconst (v := 0) hX_ hB_ dL_addLine_1 (by decide) ?_
  refine lv_aload_n hX_ hB_ dL_addLine_2 rfl (lv_at hl 0 rfl) ?_
  refine lv_iload_n hX_ hB_ dL_addLine_3 rfl (lv_at hl 1 rfl) ?_
  refine lv_iload_n hX_ hB_ dL_addLine_4 rfl (lv_at hl 2 rfl) ?_
  refine zx_FVc (As := [.int (nI j), .int (nI k)]) (rest := [.int 0, .ref o]) (ci := 8) (q0 := 0) (k := (RX8, TX8, 8)) S (zt_addLine_t3 l D hst c a n A B E j hN hj k hk h h8) (cwV 2 hts gL_addLine_X8_addLine rfl rfl rfl (by decide +kernel) ⟨(Nat.le_of_ble_eq_true rfl), (Nat.le_of_ble_eq_true rfl)⟩) hK hW hXB hA rfl (ze_at0 0 rfl) rfl hl.1 rfl (lv_room (Nat.le_of_ble_eq_true rfl)) dL_addLine_5 ⟨(Nat.le_of_ble_eq_true rfl), (Nat.le_of_ble_eq_true rfl)⟩ [⟨0, 10, 13, 19⟩, ⟨0, 10, 17, 21⟩] ⟨0, 10, 21, 13⟩ [] htab (by
      intro z hz
      simp only [List.mem_cons, List.not_mem_nil, or_false] at hz
      rcases hz with rfl | rfl
      · exact Or.inr ⟨by decide, "java/lang/IndexOutOfBoundsException", w0, hNc ("java/lang/IllegalStateException", "java/lang/IndexOutOfBoundsException") (by decide +kernel)⟩
      · exact Or.inr ⟨by decide, "java/lang/IllegalArgumentException", w1, hNc ("java/lang/IllegalStateException", "java/lang/IllegalArgumentException") (by decide +kernel)⟩) (by decide) (by decide) w2 (va_Nw.use rfl (hXB.2.2.2 _ (List.mem_of_getElem? (i := 3) rfl))) (fun q9 H locs hW => ?_)
  refine lv_astore (lv' := [(4, .ref q9), (0, .ref (a 0)), (1, .int (nI j)), (2, .int (nI k)), (3, .ref o)]) hX_ hB_ dL_addLine_21 hl (by decide) rfl (fun ls hl => ?_)
  refine lv_iconst (v := 3) hX_ hB_ dL_addLine_23 (by decide) ?_
  exact ze_iret S hr hlocks hF hK hW rfl dL_addLine_24 (Nat.le_of_ble_eq_true rfl) (Nat.le_of_ble_eq_true rfl) rfl rfl
set_option maxHeartbeats 4000000 in
set_option maxRecDepth 100000 in
theorem zl_addLoad_f (l : Launch) (D : va_G) (c : Nat → ClassId) (a n : Nat → Nat) (A : Nat → Nat → Int32) (B : Nat → Int64) (E : Nat → Nat → Int32) (o : Nat) (f : Nat → Int64)  (j : Nat) (hN : zf_N n) (hj : j < n 0) (y z : Int32) (h1 : zf_isIn y 1 200) (h2 : zf_isIn z 1 9) (h5 : n 4 < 10) (ho5 : A 5 (n 4) = 0) (ho22 : A 22 (n 4) = 0) : ze_QE l yL_addLoad wsL_addLoad 4 83 1 6 D c ((ze_wC c a n A B E) ++ [(o, .inl (c 6, 1, .inr (.inl f)))]) [.ref (a 0), .int (nI j), .int y, .int z, .ref o] 0 (fun qn => ((ze_wC c (va_up a (40 + n 4) qn) (ze_sn n 4 (n 4 + 1)) (ze_sE (ze_sE (ze_sE A 19 (n 4) (nI j)) 20 (n 4) y) 21 (n 4) z) B E) ++ [(o, .inl (c 6, 1, .inr (.inl (vp_updL f 0 ((nI (n 4)).toInt64)))))])) := by
  intro sz
  refine zq_start (cc := cL_addLoad) (maxL := 6) (ret := (some .int)) (own := RL) (by decide) rfl rfl (Nat.le_of_ble_eq_true rfl) ?_
  obtain ⟨hn0, hn1, hn2, hn3, hn4⟩ := id hN
  intro p e s m_ below meth cd F ls hF hsz E0 hXB hNc htab
  obtain ⟨S, hr, hlocks, hK, hW, hA, hl⟩ := E0
  have hX_ := S.1
  have hB_ := S.2.1
  have hts := S.2.2.2.2
  have hl : lv_has ls 6 [(0, .ref (a 0)), (1, .int (nI j)), (2, .int y), (3, .int z), (4, .ref o)] := hl
  refine lv_aload hX_ hB_ dL_addLoad_0 (lv_at hl 4 rfl) ?_
  refine lv_iconst (v := 0) hX_ hB_ dL_addLoad_2 (by decide) ?_
  refine lv_aload_n hX_ hB_ dL_addLoad_3 rfl (lv_at hl 0 rfl) ?_
  refine lv_iload_n hX_ hB_ dL_addLoad_4 rfl (lv_at hl 1 rfl) ?_
  refine lv_iload_n hX_ hB_ dL_addLoad_5 rfl (lv_at hl 2 rfl) ?_
  refine lv_iload_n hX_ hB_ dL_addLoad_6 rfl (lv_at hl 3 rfl) ?_
  refine ze_FVe (As := [.int (nI j), .int y, .int z]) (rest := [.int 0, .ref o]) (ci := 8) (q0 := 0) (k := (RX8, TX8, 8)) S (zp_addLoad_f l D c a n A B E j hN hj y z h1 h2 h5 ho5 ho22) (cwV 3 hts gL_addLoad_X8_addLoad rfl rfl rfl (by decide +kernel) ⟨Nat.le_of_ble_eq_true rfl, Nat.le_of_ble_eq_true rfl⟩) hK hW hA rfl (ze_at0 0 rfl) rfl hl.1 rfl (lv_room (Nat.le_of_ble_eq_true rfl)) dL_addLoad_7 ⟨Nat.le_of_ble_eq_true rfl, Nat.le_of_ble_eq_true rfl⟩ (fun qn H locs hW => ?_)
  have hW : ze_W D ((ze_wC c (va_up a (40 + n 4) qn) (ze_sn n 4 (n 4 + 1)) (ze_sE (ze_sE (ze_sE A 19 (n 4) (nI j)) 20 (n 4) y) 21 (n 4) z) B E) ++ [(o, .inl (c 6, 1, .inr (.inl f)))]) F s.heap _ _ := hW
  refine lv_i2l (v := (nI (n 4)).toInt64) hX_ hB_ dL_addLoad_10 rfl ?_
  refine ze_last hX_ hB_ hK hW ((ze_wC c (va_up a (40 + n 4) qn) (ze_sn n 4 (n 4 + 1)) (ze_sE (ze_sE (ze_sE A 19 (n 4) (nI j)) 20 (n 4) y) 21 (n 4) z) B E).length + 0) (i := 0) (ze_appL (k := 0) rfl) (by decide) (by decide) dL_addLoad_11 (ze_appset rfl) (fun H locs hW => ?_)
  have hW : ze_W D ((ze_wC c (va_up a (40 + n 4) qn) (ze_sn n 4 (n 4 + 1)) (ze_sE (ze_sE (ze_sE A 19 (n 4) (nI j)) 20 (n 4) y) 21 (n 4) z) B E) ++ [(o, .inl (c 6, 1, .inr (.inl (vp_updL f 0 ((nI (n 4)).toInt64)))))]) F s.heap _ _ := hW
  refine lv_goto (tgt := 27) hX_ hB_ dL_addLoad_12 (by decide) ?_
  refine lv_iconst (v := 0) hX_ hB_ dL_addLoad_27 (by decide) ?_
  exact ze_eret (q := qn) S hr hlocks hF hK hW rfl dL_addLoad_28 (Nat.le_of_ble_eq_true rfl) (Nat.le_of_ble_eq_true rfl) rfl rfl
set_option maxHeartbeats 4000000 in
set_option maxRecDepth 100000 in
theorem zl_addLoad_t1 (l : Launch) (D : va_G) (hst : l.stackTraces = false) (c : Nat → ClassId) (a n : Nat → Nat) (A : Nat → Nat → Int32) (B : Nat → Int64) (E : Nat → Nat → Int32) (o : Nat) (f : Nat → Int64)  (x : Int32) (hN : zf_N n) (hx : ¬ zf_isIn x 0 (nI (n 0) - 1)) (y z : Int32) : ze_Q l yL_addLoad wsL_addLoad 9 147 1 6 D c ((ze_wC c a n A B E) ++ [(o, .inl (c 6, 1, .inr (.inl f)))]) [.ref (a 0), .int x, .int y, .int z, .ref o] 1 ((ze_wC c a n A B E) ++ [(o, .inl (c 6, 1, .inr (.inl f)))]) := by
  intro sz
  refine zq_start (cc := cL_addLoad) (maxL := 6) (ret := (some .int)) (own := RL) (by decide) rfl rfl (Nat.le_of_ble_eq_true rfl) ?_
  obtain ⟨hn0, hn1, hn2, hn3, hn4⟩ := id hN
  intro p e s m_ below meth cd F ls hF hsz E0 hXB hNc htab
  obtain ⟨S, hr, hlocks, hK, hW, hA, hl⟩ := E0
  have hX_ := S.1
  have hB_ := S.2.1
  have hts := S.2.2.2.2
  have hl : lv_has ls 6 [(0, .ref (a 0)), (1, .int x), (2, .int y), (3, .int z), (4, .ref o)] := hl
  have w0 := hts (.classLink RL 19 "java/lang/IndexOutOfBoundsException") (List.mem_cons_of_mem _ (List.mem_append_left _ (List.mem_append_left _ (List.mem_append_left _ (List.mem_append_left _ (List.mem_append_left _ (List.mem_append_left _ (List.mem_append_left _ (List.mem_append_left _ (List.mem_of_getElem? (i := 0) rfl))))))))))
  refine lv_aload hX_ hB_ dL_addLoad_0 (lv_at hl 4 rfl) ?_
  refine lv_iconst (v := 0) hX_ hB_ dL_addLoad_2 (by decide) ?_
  refine lv_aload_n hX_ hB_ dL_addLoad_3 rfl (lv_at hl 0 rfl) ?_
  refine lv_iload_n hX_ hB_ dL_addLoad_4 rfl (lv_at hl 1 rfl) ?_
  refine lv_iload_n hX_ hB_ dL_addLoad_5 rfl (lv_at hl 2 rfl) ?_
  refine lv_iload_n hX_ hB_ dL_addLoad_6 rfl (lv_at hl 3 rfl) ?_
  refine zx_FVc (As := [.int x, .int y, .int z]) (rest := [.int 0, .ref o]) (ci := 8) (q0 := 0) (k := (RX8, TX8, 8)) S (zt_addLoad_t1 l D hst c a n A B E x hN hx y z) (cwV 3 hts gL_addLoad_X8_addLoad rfl rfl rfl (by decide +kernel) ⟨(Nat.le_of_ble_eq_true rfl), (Nat.le_of_ble_eq_true rfl)⟩) hK hW hXB hA rfl (ze_at0 0 rfl) rfl hl.1 rfl (lv_room (Nat.le_of_ble_eq_true rfl)) dL_addLoad_7 ⟨(Nat.le_of_ble_eq_true rfl), (Nat.le_of_ble_eq_true rfl)⟩ [] ⟨0, 12, 15, 19⟩ [⟨0, 12, 19, 21⟩, ⟨0, 12, 23, 13⟩] htab (by intro z hz; cases hz) (by decide) (by decide) w0 (va_Nw.use rfl (hXB.2.2.2 _ (List.mem_of_getElem? (i := 7) rfl))) (fun q9 H locs hW => ?_)
  refine lv_astore (lv' := [(5, .ref q9), (0, .ref (a 0)), (1, .int x), (2, .int y), (3, .int z), (4, .ref o)]) hX_ hB_ dL_addLoad_15 hl (by decide) rfl (fun ls hl => ?_)
  refine lv_iconst (v := 1) hX_ hB_ dL_addLoad_17 (by decide) ?_
  exact ze_iret S hr hlocks hF hK hW rfl dL_addLoad_18 (Nat.le_of_ble_eq_true rfl) (Nat.le_of_ble_eq_true rfl) rfl rfl
set_option maxHeartbeats 4000000 in
set_option maxRecDepth 100000 in
theorem zl_addLoad_t2a (l : Launch) (D : va_G) (hst : l.stackTraces = false) (c : Nat → ClassId) (a n : Nat → Nat) (A : Nat → Nat → Int32) (B : Nat → Int64) (E : Nat → Nat → Int32) (o : Nat) (f : Nat → Int64)  (j : Nat) (hN : zf_N n) (hj : j < n 0) (y z : Int32) (h1 : ¬ zf_isIn y 1 200) : ze_Q l yL_addLoad wsL_addLoad 8 127 1 6 D c ((ze_wC c a n A B E) ++ [(o, .inl (c 6, 1, .inr (.inl f)))]) [.ref (a 0), .int (nI j), .int y, .int z, .ref o] 2 ((ze_wC c a n A B E) ++ [(o, .inl (c 6, 1, .inr (.inl f)))]) := by
  intro sz
  refine zq_start (cc := cL_addLoad) (maxL := 6) (ret := (some .int)) (own := RL) (by decide) rfl rfl (Nat.le_of_ble_eq_true rfl) ?_
  obtain ⟨hn0, hn1, hn2, hn3, hn4⟩ := id hN
  intro p e s m_ below meth cd F ls hF hsz E0 hXB hNc htab
  obtain ⟨S, hr, hlocks, hK, hW, hA, hl⟩ := E0
  have hX_ := S.1
  have hB_ := S.2.1
  have hts := S.2.2.2.2
  have hl : lv_has ls 6 [(0, .ref (a 0)), (1, .int (nI j)), (2, .int y), (3, .int z), (4, .ref o)] := hl
  have w0 := hts (.classLink RL 19 "java/lang/IndexOutOfBoundsException") (List.mem_cons_of_mem _ (List.mem_append_left _ (List.mem_append_left _ (List.mem_append_left _ (List.mem_append_left _ (List.mem_append_left _ (List.mem_append_left _ (List.mem_append_left _ (List.mem_append_left _ (List.mem_of_getElem? (i := 0) rfl))))))))))
  have w1 := hts (.classLink RL 21 "java/lang/IllegalArgumentException") (List.mem_cons_of_mem _ (List.mem_append_left _ (List.mem_append_left _ (List.mem_append_left _ (List.mem_append_left _ (List.mem_append_left _ (List.mem_append_left _ (List.mem_append_left _ (List.mem_append_left _ (List.mem_of_getElem? (i := 1) rfl))))))))))
  refine lv_aload hX_ hB_ dL_addLoad_0 (lv_at hl 4 rfl) ?_
  refine lv_iconst (v := 0) hX_ hB_ dL_addLoad_2 (by decide) ?_
  refine lv_aload_n hX_ hB_ dL_addLoad_3 rfl (lv_at hl 0 rfl) ?_
  refine lv_iload_n hX_ hB_ dL_addLoad_4 rfl (lv_at hl 1 rfl) ?_
  refine lv_iload_n hX_ hB_ dL_addLoad_5 rfl (lv_at hl 2 rfl) ?_
  refine lv_iload_n hX_ hB_ dL_addLoad_6 rfl (lv_at hl 3 rfl) ?_
  refine zx_FVc (As := [.int (nI j), .int y, .int z]) (rest := [.int 0, .ref o]) (ci := 8) (q0 := 0) (k := (RX8, TX8, 8)) S (zt_addLoad_t2a l D hst c a n A B E j hN hj y z h1) (cwV 3 hts gL_addLoad_X8_addLoad rfl rfl rfl (by decide +kernel) ⟨(Nat.le_of_ble_eq_true rfl), (Nat.le_of_ble_eq_true rfl)⟩) hK hW hXB hA rfl (ze_at0 0 rfl) rfl hl.1 rfl (lv_room (Nat.le_of_ble_eq_true rfl)) dL_addLoad_7 ⟨(Nat.le_of_ble_eq_true rfl), (Nat.le_of_ble_eq_true rfl)⟩ [⟨0, 12, 15, 19⟩] ⟨0, 12, 19, 21⟩ [⟨0, 12, 23, 13⟩] htab (by
      intro z hz
      simp only [List.mem_cons, List.not_mem_nil, or_false] at hz
      rcases hz with rfl
      exact Or.inr ⟨by decide, "java/lang/IndexOutOfBoundsException", w0, hNc ("java/lang/IllegalArgumentException", "java/lang/IndexOutOfBoundsException") (by decide +kernel)⟩) (by decide) (by decide) w1 (va_Nw.use rfl (hXB.2.2.2 _ (List.mem_of_getElem? (i := 4) rfl))) (fun q9 H locs hW => ?_)
  refine lv_astore (lv' := [(5, .ref q9), (0, .ref (a 0)), (1, .int (nI j)), (2, .int y), (3, .int z), (4, .ref o)]) hX_ hB_ dL_addLoad_19 hl (by decide) rfl (fun ls hl => ?_)
  refine lv_iconst (v := 2) hX_ hB_ dL_addLoad_21 (by decide) ?_
  exact ze_iret S hr hlocks hF hK hW rfl dL_addLoad_22 (Nat.le_of_ble_eq_true rfl) (Nat.le_of_ble_eq_true rfl) rfl rfl
set_option maxHeartbeats 4000000 in
set_option maxRecDepth 100000 in
theorem zl_addLoad_t2b (l : Launch) (D : va_G) (hst : l.stackTraces = false) (c : Nat → ClassId) (a n : Nat → Nat) (A : Nat → Nat → Int32) (B : Nat → Int64) (E : Nat → Nat → Int32) (o : Nat) (f : Nat → Int64)  (j : Nat) (hN : zf_N n) (hj : j < n 0) (y z : Int32) (h1 : zf_isIn y 1 200) (h2 : ¬ zf_isIn z 1 9) : ze_Q l yL_addLoad wsL_addLoad 8 127 1 6 D c ((ze_wC c a n A B E) ++ [(o, .inl (c 6, 1, .inr (.inl f)))]) [.ref (a 0), .int (nI j), .int y, .int z, .ref o] 2 ((ze_wC c a n A B E) ++ [(o, .inl (c 6, 1, .inr (.inl f)))]) := by
  intro sz
  refine zq_start (cc := cL_addLoad) (maxL := 6) (ret := (some .int)) (own := RL) (by decide) rfl rfl (Nat.le_of_ble_eq_true rfl) ?_
  obtain ⟨hn0, hn1, hn2, hn3, hn4⟩ := id hN
  intro p e s m_ below meth cd F ls hF hsz E0 hXB hNc htab
  obtain ⟨S, hr, hlocks, hK, hW, hA, hl⟩ := E0
  have hX_ := S.1
  have hB_ := S.2.1
  have hts := S.2.2.2.2
  have hl : lv_has ls 6 [(0, .ref (a 0)), (1, .int (nI j)), (2, .int y), (3, .int z), (4, .ref o)] := hl
  have w0 := hts (.classLink RL 19 "java/lang/IndexOutOfBoundsException") (List.mem_cons_of_mem _ (List.mem_append_left _ (List.mem_append_left _ (List.mem_append_left _ (List.mem_append_left _ (List.mem_append_left _ (List.mem_append_left _ (List.mem_append_left _ (List.mem_append_left _ (List.mem_of_getElem? (i := 0) rfl))))))))))
  have w1 := hts (.classLink RL 21 "java/lang/IllegalArgumentException") (List.mem_cons_of_mem _ (List.mem_append_left _ (List.mem_append_left _ (List.mem_append_left _ (List.mem_append_left _ (List.mem_append_left _ (List.mem_append_left _ (List.mem_append_left _ (List.mem_append_left _ (List.mem_of_getElem? (i := 1) rfl))))))))))
  refine lv_aload hX_ hB_ dL_addLoad_0 (lv_at hl 4 rfl) ?_
  refine lv_iconst (v := 0) hX_ hB_ dL_addLoad_2 (by decide) ?_
  refine lv_aload_n hX_ hB_ dL_addLoad_3 rfl (lv_at hl 0 rfl) ?_
  refine lv_iload_n hX_ hB_ dL_addLoad_4 rfl (lv_at hl 1 rfl) ?_
  refine lv_iload_n hX_ hB_ dL_addLoad_5 rfl (lv_at hl 2 rfl) ?_
  refine lv_iload_n hX_ hB_ dL_addLoad_6 rfl (lv_at hl 3 rfl) ?_
  refine zx_FVc (As := [.int (nI j), .int y, .int z]) (rest := [.int 0, .ref o]) (ci := 8) (q0 := 0) (k := (RX8, TX8, 8)) S (zt_addLoad_t2b l D hst c a n A B E j hN hj y z h1 h2) (cwV 3 hts gL_addLoad_X8_addLoad rfl rfl rfl (by decide +kernel) ⟨(Nat.le_of_ble_eq_true rfl), (Nat.le_of_ble_eq_true rfl)⟩) hK hW hXB hA rfl (ze_at0 0 rfl) rfl hl.1 rfl (lv_room (Nat.le_of_ble_eq_true rfl)) dL_addLoad_7 ⟨(Nat.le_of_ble_eq_true rfl), (Nat.le_of_ble_eq_true rfl)⟩ [⟨0, 12, 15, 19⟩] ⟨0, 12, 19, 21⟩ [⟨0, 12, 23, 13⟩] htab (by
      intro z hz
      simp only [List.mem_cons, List.not_mem_nil, or_false] at hz
      rcases hz with rfl
      exact Or.inr ⟨by decide, "java/lang/IndexOutOfBoundsException", w0, hNc ("java/lang/IllegalArgumentException", "java/lang/IndexOutOfBoundsException") (by decide +kernel)⟩) (by decide) (by decide) w1 (va_Nw.use rfl (hXB.2.2.2 _ (List.mem_of_getElem? (i := 4) rfl))) (fun q9 H locs hW => ?_)
  refine lv_astore (lv' := [(5, .ref q9), (0, .ref (a 0)), (1, .int (nI j)), (2, .int y), (3, .int z), (4, .ref o)]) hX_ hB_ dL_addLoad_19 hl (by decide) rfl (fun ls hl => ?_)
  refine lv_iconst (v := 2) hX_ hB_ dL_addLoad_21 (by decide) ?_
  exact ze_iret S hr hlocks hF hK hW rfl dL_addLoad_22 (Nat.le_of_ble_eq_true rfl) (Nat.le_of_ble_eq_true rfl) rfl rfl
set_option maxHeartbeats 4000000 in
set_option maxRecDepth 100000 in
theorem zl_addLoad_t3 (l : Launch) (D : va_G) (hst : l.stackTraces = false) (c : Nat → ClassId) (a n : Nat → Nat) (A : Nat → Nat → Int32) (B : Nat → Int64) (E : Nat → Nat → Int32) (o : Nat) (f : Nat → Int64)  (j : Nat) (hN : zf_N n) (hj : j < n 0) (y z : Int32) (h1 : zf_isIn y 1 200) (h2 : zf_isIn z 1 9) (h3 : ¬ n 4 < 10) : ze_Q l yL_addLoad wsL_addLoad 7 105 1 6 D c ((ze_wC c a n A B E) ++ [(o, .inl (c 6, 1, .inr (.inl f)))]) [.ref (a 0), .int (nI j), .int y, .int z, .ref o] 3 ((ze_wC c a n A B E) ++ [(o, .inl (c 6, 1, .inr (.inl f)))]) := by
  intro sz
  refine zq_start (cc := cL_addLoad) (maxL := 6) (ret := (some .int)) (own := RL) (by decide) rfl rfl (Nat.le_of_ble_eq_true rfl) ?_
  obtain ⟨hn0, hn1, hn2, hn3, hn4⟩ := id hN
  intro p e s m_ below meth cd F ls hF hsz E0 hXB hNc htab
  obtain ⟨S, hr, hlocks, hK, hW, hA, hl⟩ := E0
  have hX_ := S.1
  have hB_ := S.2.1
  have hts := S.2.2.2.2
  have hl : lv_has ls 6 [(0, .ref (a 0)), (1, .int (nI j)), (2, .int y), (3, .int z), (4, .ref o)] := hl
  have w0 := hts (.classLink RL 19 "java/lang/IndexOutOfBoundsException") (List.mem_cons_of_mem _ (List.mem_append_left _ (List.mem_append_left _ (List.mem_append_left _ (List.mem_append_left _ (List.mem_append_left _ (List.mem_append_left _ (List.mem_append_left _ (List.mem_append_left _ (List.mem_of_getElem? (i := 0) rfl))))))))))
  have w1 := hts (.classLink RL 21 "java/lang/IllegalArgumentException") (List.mem_cons_of_mem _ (List.mem_append_left _ (List.mem_append_left _ (List.mem_append_left _ (List.mem_append_left _ (List.mem_append_left _ (List.mem_append_left _ (List.mem_append_left _ (List.mem_append_left _ (List.mem_of_getElem? (i := 1) rfl))))))))))
  have w2 := hts (.classLink RL 13 "java/lang/IllegalStateException") (List.mem_cons_of_mem _ (List.mem_append_left _ (List.mem_append_left _ (List.mem_append_left _ (List.mem_append_left _ (List.mem_append_left _ (List.mem_append_left _ (List.mem_append_left _ (List.mem_append_left _ (List.mem_of_getElem? (i := 2) rfl))))))))))
  refine lv_aload hX_ hB_ dL_addLoad_0 (lv_at hl 4 rfl) ?_
  refine lv_iconst (v := 0) hX_ hB_ dL_addLoad_2 (by decide) ?_
  refine lv_aload_n hX_ hB_ dL_addLoad_3 rfl (lv_at hl 0 rfl) ?_
  refine lv_iload_n hX_ hB_ dL_addLoad_4 rfl (lv_at hl 1 rfl) ?_
  refine lv_iload_n hX_ hB_ dL_addLoad_5 rfl (lv_at hl 2 rfl) ?_
  refine lv_iload_n hX_ hB_ dL_addLoad_6 rfl (lv_at hl 3 rfl) ?_
  refine zx_FVc (As := [.int (nI j), .int y, .int z]) (rest := [.int 0, .ref o]) (ci := 8) (q0 := 0) (k := (RX8, TX8, 8)) S (zt_addLoad_t3 l D hst c a n A B E j hN hj y z h1 h2 h3) (cwV 3 hts gL_addLoad_X8_addLoad rfl rfl rfl (by decide +kernel) ⟨(Nat.le_of_ble_eq_true rfl), (Nat.le_of_ble_eq_true rfl)⟩) hK hW hXB hA rfl (ze_at0 0 rfl) rfl hl.1 rfl (lv_room (Nat.le_of_ble_eq_true rfl)) dL_addLoad_7 ⟨(Nat.le_of_ble_eq_true rfl), (Nat.le_of_ble_eq_true rfl)⟩ [⟨0, 12, 15, 19⟩, ⟨0, 12, 19, 21⟩] ⟨0, 12, 23, 13⟩ [] htab (by
      intro z hz
      simp only [List.mem_cons, List.not_mem_nil, or_false] at hz
      rcases hz with rfl | rfl
      · exact Or.inr ⟨by decide, "java/lang/IndexOutOfBoundsException", w0, hNc ("java/lang/IllegalStateException", "java/lang/IndexOutOfBoundsException") (by decide +kernel)⟩
      · exact Or.inr ⟨by decide, "java/lang/IllegalArgumentException", w1, hNc ("java/lang/IllegalStateException", "java/lang/IllegalArgumentException") (by decide +kernel)⟩) (by decide) (by decide) w2 (va_Nw.use rfl (hXB.2.2.2 _ (List.mem_of_getElem? (i := 3) rfl))) (fun q9 H locs hW => ?_)
  refine lv_astore (lv' := [(5, .ref q9), (0, .ref (a 0)), (1, .int (nI j)), (2, .int y), (3, .int z), (4, .ref o)]) hX_ hB_ dL_addLoad_23 hl (by decide) rfl (fun ls hl => ?_)
  refine lv_iconst (v := 3) hX_ hB_ dL_addLoad_25 (by decide) ?_
  exact ze_iret S hr hlocks hF hK hW rfl dL_addLoad_26 (Nat.le_of_ble_eq_true rfl) (Nat.le_of_ble_eq_true rfl) rfl rfl
set_option maxHeartbeats 4000000 in
set_option maxRecDepth 100000 in
theorem zl_addSite_f (l : Launch) (D : va_G) (c : Nat → ClassId) (a n : Nat → Nat) (A : Nat → Nat → Int32) (B : Nat → Int64) (E : Nat → Nat → Int32) (o : Nat) (f : Nat → Int64)  (hN : zf_N n) (hS : zf_S n A) (h : n 0 < 6) : ze_Q l yL_addSite wsL_addSite 5 110 0 0 D c ((ze_wC c a n A B E) ++ [(o, .inl (c 6, 1, .inr (.inl f)))]) [.ref (a 0), .ref o] 0 ((ze_wC c a (ze_sn n 0 (n 0 + 1)) A B (ze_sA (ze_sA E 0 ((zf_fi (ze_sn n 0 (n 0 + 1)) A (E 0) (E 1) (n 0 + 1)).1)) 1 ((zf_fi (ze_sn n 0 (n 0 + 1)) A (E 0) (E 1) (n 0 + 1)).2))) ++ [(o, .inl (c 6, 1, .inr (.inl (vp_updL f 0 ((nI (n 0)).toInt64)))))]) := by
  intro sz
  refine zq_start (cc := cL_addSite) (maxL := 3) (ret := (some .int)) (own := RL) (by decide) rfl rfl (Nat.le_of_ble_eq_true rfl) ?_
  obtain ⟨hn0, hn1, hn2, hn3, hn4⟩ := id hN
  intro p e s m_ below meth cd F ls hF hsz E0 hXB hNc htab
  obtain ⟨S, hr, hlocks, hK, hW, hA, hl⟩ := E0
  have hX_ := S.1
  have hB_ := S.2.1
  have hts := S.2.2.2.2
  have hl : lv_has ls 3 [(0, .ref (a 0)), (1, .ref o)] := hl
  refine lv_aload_n hX_ hB_ dL_addSite_0 rfl (lv_at hl 1 rfl) ?_
  refine lv_iconst (v := 0) hX_ hB_ dL_addSite_1 (by decide) ?_
  refine lv_aload_n hX_ hB_ dL_addSite_2 rfl (lv_at hl 0 rfl) ?_
  refine ze_FVi (As := []) (rest := [.int 0, .ref o]) (ci := 8) (q0 := 0) (k := (RX8, TX8, 8)) S (zp_addSite_f l D c a n A B E hN hS h) (cwV 0 hts gL_addSite_X8_addSite rfl rfl rfl (by decide +kernel) ⟨Nat.le_of_ble_eq_true rfl, Nat.le_of_ble_eq_true rfl⟩) hK hW hA rfl (ze_at0 0 rfl) rfl hl.1 rfl (lv_room (Nat.le_of_ble_eq_true rfl)) dL_addSite_3 ⟨Nat.le_of_ble_eq_true rfl, Nat.le_of_ble_eq_true rfl⟩ (fun H locs hW => ?_)
  have hW : ze_W D ((ze_wC c a (ze_sn n 0 (n 0 + 1)) A B (ze_sA (ze_sA E 0 ((zf_fi (ze_sn n 0 (n 0 + 1)) A (E 0) (E 1) (n 0 + 1)).1)) 1 ((zf_fi (ze_sn n 0 (n 0 + 1)) A (E 0) (E 1) (n 0 + 1)).2))) ++ [(o, .inl (c 6, 1, .inr (.inl f)))]) F s.heap _ _ := hW
  refine lv_i2l (v := (nI (n 0)).toInt64) hX_ hB_ dL_addSite_6 rfl ?_
  refine ze_last hX_ hB_ hK hW ((ze_wC c a (ze_sn n 0 (n 0 + 1)) A B (ze_sA (ze_sA E 0 ((zf_fi (ze_sn n 0 (n 0 + 1)) A (E 0) (E 1) (n 0 + 1)).1)) 1 ((zf_fi (ze_sn n 0 (n 0 + 1)) A (E 0) (E 1) (n 0 + 1)).2))).length + 0) (i := 0) (ze_appL (k := 0) rfl) (by decide) (by decide) dL_addSite_7 (ze_appset rfl) (fun H locs hW => ?_)
  have hW : ze_W D ((ze_wC c a (ze_sn n 0 (n 0 + 1)) A B (ze_sA (ze_sA E 0 ((zf_fi (ze_sn n 0 (n 0 + 1)) A (E 0) (E 1) (n 0 + 1)).1)) 1 ((zf_fi (ze_sn n 0 (n 0 + 1)) A (E 0) (E 1) (n 0 + 1)).2))) ++ [(o, .inl (c 6, 1, .inr (.inl (vp_updL f 0 ((nI (n 0)).toInt64)))))]) F s.heap _ _ := hW
  refine lv_goto (tgt := 14) hX_ hB_ dL_addSite_8 (by decide) ?_
  refine lv_iconst (v := 0) hX_ hB_ dL_addSite_14 (by decide) ?_
  exact ze_iret S hr hlocks hF hK hW rfl dL_addSite_15 (Nat.le_of_ble_eq_true rfl) (Nat.le_of_ble_eq_true rfl) rfl rfl
set_option maxHeartbeats 4000000 in
set_option maxRecDepth 100000 in
theorem zl_addSite_t1 (l : Launch) (D : va_G) (hst : l.stackTraces = false) (c : Nat → ClassId) (a n : Nat → Nat) (A : Nat → Nat → Int32) (B : Nat → Int64) (E : Nat → Nat → Int32) (o : Nat) (f : Nat → Int64)  (hN : zf_N n) (h : ¬ n 0 < 6) : ze_Q l yL_addSite wsL_addSite 7 102 1 6 D c ((ze_wC c a n A B E) ++ [(o, .inl (c 6, 1, .inr (.inl f)))]) [.ref (a 0), .ref o] 1 ((ze_wC c a n A B E) ++ [(o, .inl (c 6, 1, .inr (.inl f)))]) := by
  intro sz
  refine zq_start (cc := cL_addSite) (maxL := 3) (ret := (some .int)) (own := RL) (by decide) rfl rfl (Nat.le_of_ble_eq_true rfl) ?_
  obtain ⟨hn0, hn1, hn2, hn3, hn4⟩ := id hN
  intro p e s m_ below meth cd F ls hF hsz E0 hXB hNc htab
  obtain ⟨S, hr, hlocks, hK, hW, hA, hl⟩ := E0
  have hX_ := S.1
  have hB_ := S.2.1
  have hts := S.2.2.2.2
  have hl : lv_has ls 3 [(0, .ref (a 0)), (1, .ref o)] := hl
  have w0 := hts (.classLink RL 13 "java/lang/IllegalStateException") (List.mem_cons_of_mem _ (List.mem_append_left _ (List.mem_append_left _ (List.mem_append_left _ (List.mem_append_left _ (List.mem_of_getElem? (i := 0) rfl))))))
  refine lv_aload_n hX_ hB_ dL_addSite_0 rfl (lv_at hl 1 rfl) ?_
  refine lv_iconst (v := 0) hX_ hB_ dL_addSite_1 (by decide) ?_
  refine lv_aload_n hX_ hB_ dL_addSite_2 rfl (lv_at hl 0 rfl) ?_
  refine zx_FVc (As := []) (rest := [.int 0, .ref o]) (ci := 8) (q0 := 0) (k := (RX8, TX8, 8)) S (zt_addSite_t1 l D hst c a n A B E hN h) (cwV 0 hts gL_addSite_X8_addSite rfl rfl rfl (by decide +kernel) ⟨(Nat.le_of_ble_eq_true rfl), (Nat.le_of_ble_eq_true rfl)⟩) hK hW hXB hA rfl (ze_at0 0 rfl) rfl hl.1 rfl (lv_room (Nat.le_of_ble_eq_true rfl)) dL_addSite_3 ⟨(Nat.le_of_ble_eq_true rfl), (Nat.le_of_ble_eq_true rfl)⟩ [] ⟨0, 8, 11, 13⟩ [] htab (by intro z hz; cases hz) (by decide) (by decide) w0 (va_Nw.use rfl (hXB.2.2.2 _ (List.mem_of_getElem? (i := 3) rfl))) (fun q9 H locs hW => ?_)
  refine lv_astore_n (lv' := [(2, .ref q9), (0, .ref (a 0)), (1, .ref o)]) hX_ hB_ dL_addSite_11 rfl hl (by decide) rfl (fun ls hl => ?_)
  refine lv_iconst (v := 1) hX_ hB_ dL_addSite_12 (by decide) ?_
  exact ze_iret S hr hlocks hF hK hW rfl dL_addSite_13 (Nat.le_of_ble_eq_true rfl) (Nat.le_of_ble_eq_true rfl) rfl rfl
set_option maxHeartbeats 4000000 in
set_option maxRecDepth 100000 in
theorem zl_addStore_f (l : Launch) (D : va_G) (c : Nat → ClassId) (a n : Nat → Nat) (A : Nat → Nat → Int32) (B : Nat → Int64) (E : Nat → Nat → Int32) (o : Nat) (f : Nat → Int64)  (j : Nat) (hN : zf_N n) (hj : j < n 0) (y z : Int32) (h1 : zf_isIn y 1 999) (h2 : zf_isIn z 1 99) (h5 : n 3 < 4) (ho17 : A 17 (n 3) = 0) (ho18 : A 18 (n 3) = 0) : ze_QE l yL_addStore wsL_addStore 3 65 1 5 D c ((ze_wC c a n A B E) ++ [(o, .inl (c 6, 1, .inr (.inl f)))]) [.ref (a 0), .int (nI j), .int y, .int z, .ref o] 0 (fun qn => ((ze_wC c (va_up a (30 + n 3) qn) (ze_sn n 3 (n 3 + 1)) (ze_sE (ze_sE (ze_sE A 14 (n 3) (nI j)) 15 (n 3) y) 16 (n 3) z) B E) ++ [(o, .inl (c 6, 1, .inr (.inl (vp_updL f 0 ((nI (n 3)).toInt64)))))])) := by
  intro sz
  refine zq_start (cc := cL_addStore) (maxL := 6) (ret := (some .int)) (own := RL) (by decide) rfl rfl (Nat.le_of_ble_eq_true rfl) ?_
  obtain ⟨hn0, hn1, hn2, hn3, hn4⟩ := id hN
  intro p e s m_ below meth cd F ls hF hsz E0 hXB hNc htab
  obtain ⟨S, hr, hlocks, hK, hW, hA, hl⟩ := E0
  have hX_ := S.1
  have hB_ := S.2.1
  have hts := S.2.2.2.2
  have hl : lv_has ls 6 [(0, .ref (a 0)), (1, .int (nI j)), (2, .int y), (3, .int z), (4, .ref o)] := hl
  refine lv_aload hX_ hB_ dL_addStore_0 (lv_at hl 4 rfl) ?_
  refine lv_iconst (v := 0) hX_ hB_ dL_addStore_2 (by decide) ?_
  refine lv_aload_n hX_ hB_ dL_addStore_3 rfl (lv_at hl 0 rfl) ?_
  refine lv_iload_n hX_ hB_ dL_addStore_4 rfl (lv_at hl 1 rfl) ?_
  refine lv_iload_n hX_ hB_ dL_addStore_5 rfl (lv_at hl 2 rfl) ?_
  refine lv_iload_n hX_ hB_ dL_addStore_6 rfl (lv_at hl 3 rfl) ?_
  refine ze_FVe (As := [.int (nI j), .int y, .int z]) (rest := [.int 0, .ref o]) (ci := 8) (q0 := 0) (k := (RX8, TX8, 8)) S (zp_addStore_f l D c a n A B E j hN hj y z h1 h2 h5 ho17 ho18) (cwV 3 hts gL_addStore_X8_addStore rfl rfl rfl (by decide +kernel) ⟨Nat.le_of_ble_eq_true rfl, Nat.le_of_ble_eq_true rfl⟩) hK hW hA rfl (ze_at0 0 rfl) rfl hl.1 rfl (lv_room (Nat.le_of_ble_eq_true rfl)) dL_addStore_7 ⟨Nat.le_of_ble_eq_true rfl, Nat.le_of_ble_eq_true rfl⟩ (fun qn H locs hW => ?_)
  have hW : ze_W D ((ze_wC c (va_up a (30 + n 3) qn) (ze_sn n 3 (n 3 + 1)) (ze_sE (ze_sE (ze_sE A 14 (n 3) (nI j)) 15 (n 3) y) 16 (n 3) z) B E) ++ [(o, .inl (c 6, 1, .inr (.inl f)))]) F s.heap _ _ := hW
  refine lv_i2l (v := (nI (n 3)).toInt64) hX_ hB_ dL_addStore_10 rfl ?_
  refine ze_last hX_ hB_ hK hW ((ze_wC c (va_up a (30 + n 3) qn) (ze_sn n 3 (n 3 + 1)) (ze_sE (ze_sE (ze_sE A 14 (n 3) (nI j)) 15 (n 3) y) 16 (n 3) z) B E).length + 0) (i := 0) (ze_appL (k := 0) rfl) (by decide) (by decide) dL_addStore_11 (ze_appset rfl) (fun H locs hW => ?_)
  have hW : ze_W D ((ze_wC c (va_up a (30 + n 3) qn) (ze_sn n 3 (n 3 + 1)) (ze_sE (ze_sE (ze_sE A 14 (n 3) (nI j)) 15 (n 3) y) 16 (n 3) z) B E) ++ [(o, .inl (c 6, 1, .inr (.inl (vp_updL f 0 ((nI (n 3)).toInt64)))))]) F s.heap _ _ := hW
  refine lv_goto (tgt := 27) hX_ hB_ dL_addStore_12 (by decide) ?_
  refine lv_iconst (v := 0) hX_ hB_ dL_addStore_27 (by decide) ?_
  exact ze_eret (q := qn) S hr hlocks hF hK hW rfl dL_addStore_28 (Nat.le_of_ble_eq_true rfl) (Nat.le_of_ble_eq_true rfl) rfl rfl
set_option maxHeartbeats 4000000 in
set_option maxRecDepth 100000 in
theorem zl_addStore_t1 (l : Launch) (D : va_G) (hst : l.stackTraces = false) (c : Nat → ClassId) (a n : Nat → Nat) (A : Nat → Nat → Int32) (B : Nat → Int64) (E : Nat → Nat → Int32) (o : Nat) (f : Nat → Int64)  (x : Int32) (hN : zf_N n) (hx : ¬ zf_isIn x 0 (nI (n 0) - 1)) (y z : Int32) : ze_Q l yL_addStore wsL_addStore 9 147 1 6 D c ((ze_wC c a n A B E) ++ [(o, .inl (c 6, 1, .inr (.inl f)))]) [.ref (a 0), .int x, .int y, .int z, .ref o] 1 ((ze_wC c a n A B E) ++ [(o, .inl (c 6, 1, .inr (.inl f)))]) := by
  intro sz
  refine zq_start (cc := cL_addStore) (maxL := 6) (ret := (some .int)) (own := RL) (by decide) rfl rfl (Nat.le_of_ble_eq_true rfl) ?_
  obtain ⟨hn0, hn1, hn2, hn3, hn4⟩ := id hN
  intro p e s m_ below meth cd F ls hF hsz E0 hXB hNc htab
  obtain ⟨S, hr, hlocks, hK, hW, hA, hl⟩ := E0
  have hX_ := S.1
  have hB_ := S.2.1
  have hts := S.2.2.2.2
  have hl : lv_has ls 6 [(0, .ref (a 0)), (1, .int x), (2, .int y), (3, .int z), (4, .ref o)] := hl
  have w0 := hts (.classLink RL 19 "java/lang/IndexOutOfBoundsException") (List.mem_cons_of_mem _ (List.mem_append_left _ (List.mem_append_left _ (List.mem_append_left _ (List.mem_append_left _ (List.mem_append_left _ (List.mem_append_left _ (List.mem_append_left _ (List.mem_append_left _ (List.mem_of_getElem? (i := 0) rfl))))))))))
  refine lv_aload hX_ hB_ dL_addStore_0 (lv_at hl 4 rfl) ?_
  refine lv_iconst (v := 0) hX_ hB_ dL_addStore_2 (by decide) ?_
  refine lv_aload_n hX_ hB_ dL_addStore_3 rfl (lv_at hl 0 rfl) ?_
  refine lv_iload_n hX_ hB_ dL_addStore_4 rfl (lv_at hl 1 rfl) ?_
  refine lv_iload_n hX_ hB_ dL_addStore_5 rfl (lv_at hl 2 rfl) ?_
  refine lv_iload_n hX_ hB_ dL_addStore_6 rfl (lv_at hl 3 rfl) ?_
  refine zx_FVc (As := [.int x, .int y, .int z]) (rest := [.int 0, .ref o]) (ci := 8) (q0 := 0) (k := (RX8, TX8, 8)) S (zt_addStore_t1 l D hst c a n A B E x hN hx y z) (cwV 3 hts gL_addStore_X8_addStore rfl rfl rfl (by decide +kernel) ⟨(Nat.le_of_ble_eq_true rfl), (Nat.le_of_ble_eq_true rfl)⟩) hK hW hXB hA rfl (ze_at0 0 rfl) rfl hl.1 rfl (lv_room (Nat.le_of_ble_eq_true rfl)) dL_addStore_7 ⟨(Nat.le_of_ble_eq_true rfl), (Nat.le_of_ble_eq_true rfl)⟩ [] ⟨0, 12, 15, 19⟩ [⟨0, 12, 19, 21⟩, ⟨0, 12, 23, 13⟩] htab (by intro z hz; cases hz) (by decide) (by decide) w0 (va_Nw.use rfl (hXB.2.2.2 _ (List.mem_of_getElem? (i := 7) rfl))) (fun q9 H locs hW => ?_)
  refine lv_astore (lv' := [(5, .ref q9), (0, .ref (a 0)), (1, .int x), (2, .int y), (3, .int z), (4, .ref o)]) hX_ hB_ dL_addStore_15 hl (by decide) rfl (fun ls hl => ?_)
  refine lv_iconst (v := 1) hX_ hB_ dL_addStore_17 (by decide) ?_
  exact ze_iret S hr hlocks hF hK hW rfl dL_addStore_18 (Nat.le_of_ble_eq_true rfl) (Nat.le_of_ble_eq_true rfl) rfl rfl
set_option maxHeartbeats 4000000 in
set_option maxRecDepth 100000 in
theorem zl_addStore_t2a (l : Launch) (D : va_G) (hst : l.stackTraces = false) (c : Nat → ClassId) (a n : Nat → Nat) (A : Nat → Nat → Int32) (B : Nat → Int64) (E : Nat → Nat → Int32) (o : Nat) (f : Nat → Int64)  (j : Nat) (hN : zf_N n) (hj : j < n 0) (y z : Int32) (h1 : ¬ zf_isIn y 1 999) : ze_Q l yL_addStore wsL_addStore 8 127 1 6 D c ((ze_wC c a n A B E) ++ [(o, .inl (c 6, 1, .inr (.inl f)))]) [.ref (a 0), .int (nI j), .int y, .int z, .ref o] 2 ((ze_wC c a n A B E) ++ [(o, .inl (c 6, 1, .inr (.inl f)))]) := by
  intro sz
  refine zq_start (cc := cL_addStore) (maxL := 6) (ret := (some .int)) (own := RL) (by decide) rfl rfl (Nat.le_of_ble_eq_true rfl) ?_
  obtain ⟨hn0, hn1, hn2, hn3, hn4⟩ := id hN
  intro p e s m_ below meth cd F ls hF hsz E0 hXB hNc htab
  obtain ⟨S, hr, hlocks, hK, hW, hA, hl⟩ := E0
  have hX_ := S.1
  have hB_ := S.2.1
  have hts := S.2.2.2.2
  have hl : lv_has ls 6 [(0, .ref (a 0)), (1, .int (nI j)), (2, .int y), (3, .int z), (4, .ref o)] := hl
  have w0 := hts (.classLink RL 19 "java/lang/IndexOutOfBoundsException") (List.mem_cons_of_mem _ (List.mem_append_left _ (List.mem_append_left _ (List.mem_append_left _ (List.mem_append_left _ (List.mem_append_left _ (List.mem_append_left _ (List.mem_append_left _ (List.mem_append_left _ (List.mem_of_getElem? (i := 0) rfl))))))))))
  have w1 := hts (.classLink RL 21 "java/lang/IllegalArgumentException") (List.mem_cons_of_mem _ (List.mem_append_left _ (List.mem_append_left _ (List.mem_append_left _ (List.mem_append_left _ (List.mem_append_left _ (List.mem_append_left _ (List.mem_append_left _ (List.mem_append_left _ (List.mem_of_getElem? (i := 1) rfl))))))))))
  refine lv_aload hX_ hB_ dL_addStore_0 (lv_at hl 4 rfl) ?_
  refine lv_iconst (v := 0) hX_ hB_ dL_addStore_2 (by decide) ?_
  refine lv_aload_n hX_ hB_ dL_addStore_3 rfl (lv_at hl 0 rfl) ?_
  refine lv_iload_n hX_ hB_ dL_addStore_4 rfl (lv_at hl 1 rfl) ?_
  refine lv_iload_n hX_ hB_ dL_addStore_5 rfl (lv_at hl 2 rfl) ?_
  refine lv_iload_n hX_ hB_ dL_addStore_6 rfl (lv_at hl 3 rfl) ?_
  refine zx_FVc (As := [.int (nI j), .int y, .int z]) (rest := [.int 0, .ref o]) (ci := 8) (q0 := 0) (k := (RX8, TX8, 8)) S (zt_addStore_t2a l D hst c a n A B E j hN hj y z h1) (cwV 3 hts gL_addStore_X8_addStore rfl rfl rfl (by decide +kernel) ⟨(Nat.le_of_ble_eq_true rfl), (Nat.le_of_ble_eq_true rfl)⟩) hK hW hXB hA rfl (ze_at0 0 rfl) rfl hl.1 rfl (lv_room (Nat.le_of_ble_eq_true rfl)) dL_addStore_7 ⟨(Nat.le_of_ble_eq_true rfl), (Nat.le_of_ble_eq_true rfl)⟩ [⟨0, 12, 15, 19⟩] ⟨0, 12, 19, 21⟩ [⟨0, 12, 23, 13⟩] htab (by
      intro z hz
      simp only [List.mem_cons, List.not_mem_nil, or_false] at hz
      rcases hz with rfl
      exact Or.inr ⟨by decide, "java/lang/IndexOutOfBoundsException", w0, hNc ("java/lang/IllegalArgumentException", "java/lang/IndexOutOfBoundsException") (by decide +kernel)⟩) (by decide) (by decide) w1 (va_Nw.use rfl (hXB.2.2.2 _ (List.mem_of_getElem? (i := 4) rfl))) (fun q9 H locs hW => ?_)
  refine lv_astore (lv' := [(5, .ref q9), (0, .ref (a 0)), (1, .int (nI j)), (2, .int y), (3, .int z), (4, .ref o)]) hX_ hB_ dL_addStore_19 hl (by decide) rfl (fun ls hl => ?_)
  refine lv_iconst (v := 2) hX_ hB_ dL_addStore_21 (by decide) ?_
  exact ze_iret S hr hlocks hF hK hW rfl dL_addStore_22 (Nat.le_of_ble_eq_true rfl) (Nat.le_of_ble_eq_true rfl) rfl rfl
set_option maxHeartbeats 4000000 in
set_option maxRecDepth 100000 in
theorem zl_addStore_t2b (l : Launch) (D : va_G) (hst : l.stackTraces = false) (c : Nat → ClassId) (a n : Nat → Nat) (A : Nat → Nat → Int32) (B : Nat → Int64) (E : Nat → Nat → Int32) (o : Nat) (f : Nat → Int64)  (j : Nat) (hN : zf_N n) (hj : j < n 0) (y z : Int32) (h1 : zf_isIn y 1 999) (h2 : ¬ zf_isIn z 1 99) : ze_Q l yL_addStore wsL_addStore 8 127 1 6 D c ((ze_wC c a n A B E) ++ [(o, .inl (c 6, 1, .inr (.inl f)))]) [.ref (a 0), .int (nI j), .int y, .int z, .ref o] 2 ((ze_wC c a n A B E) ++ [(o, .inl (c 6, 1, .inr (.inl f)))]) := by
  intro sz
  refine zq_start (cc := cL_addStore) (maxL := 6) (ret := (some .int)) (own := RL) (by decide) rfl rfl (Nat.le_of_ble_eq_true rfl) ?_
  obtain ⟨hn0, hn1, hn2, hn3, hn4⟩ := id hN
  intro p e s m_ below meth cd F ls hF hsz E0 hXB hNc htab
  obtain ⟨S, hr, hlocks, hK, hW, hA, hl⟩ := E0
  have hX_ := S.1
  have hB_ := S.2.1
  have hts := S.2.2.2.2
  have hl : lv_has ls 6 [(0, .ref (a 0)), (1, .int (nI j)), (2, .int y), (3, .int z), (4, .ref o)] := hl
  have w0 := hts (.classLink RL 19 "java/lang/IndexOutOfBoundsException") (List.mem_cons_of_mem _ (List.mem_append_left _ (List.mem_append_left _ (List.mem_append_left _ (List.mem_append_left _ (List.mem_append_left _ (List.mem_append_left _ (List.mem_append_left _ (List.mem_append_left _ (List.mem_of_getElem? (i := 0) rfl))))))))))
  have w1 := hts (.classLink RL 21 "java/lang/IllegalArgumentException") (List.mem_cons_of_mem _ (List.mem_append_left _ (List.mem_append_left _ (List.mem_append_left _ (List.mem_append_left _ (List.mem_append_left _ (List.mem_append_left _ (List.mem_append_left _ (List.mem_append_left _ (List.mem_of_getElem? (i := 1) rfl))))))))))
  refine lv_aload hX_ hB_ dL_addStore_0 (lv_at hl 4 rfl) ?_
  refine lv_iconst (v := 0) hX_ hB_ dL_addStore_2 (by decide) ?_
  refine lv_aload_n hX_ hB_ dL_addStore_3 rfl (lv_at hl 0 rfl) ?_
  refine lv_iload_n hX_ hB_ dL_addStore_4 rfl (lv_at hl 1 rfl) ?_
  refine lv_iload_n hX_ hB_ dL_addStore_5 rfl (lv_at hl 2 rfl) ?_
  refine lv_iload_n hX_ hB_ dL_addStore_6 rfl (lv_at hl 3 rfl) ?_
  refine zx_FVc (As := [.int (nI j), .int y, .int z]) (rest := [.int 0, .ref o]) (ci := 8) (q0 := 0) (k := (RX8, TX8, 8)) S (zt_addStore_t2b l D hst c a n A B E j hN hj y z h1 h2) (cwV 3 hts gL_addStore_X8_addStore rfl rfl rfl (by decide +kernel) ⟨(Nat.le_of_ble_eq_true rfl), (Nat.le_of_ble_eq_true rfl)⟩) hK hW hXB hA rfl (ze_at0 0 rfl) rfl hl.1 rfl (lv_room (Nat.le_of_ble_eq_true rfl)) dL_addStore_7 ⟨(Nat.le_of_ble_eq_true rfl), (Nat.le_of_ble_eq_true rfl)⟩ [⟨0, 12, 15, 19⟩] ⟨0, 12, 19, 21⟩ [⟨0, 12, 23, 13⟩] htab (by
      intro z hz
      simp only [List.mem_cons, List.not_mem_nil, or_false] at hz
      rcases hz with rfl
      exact Or.inr ⟨by decide, "java/lang/IndexOutOfBoundsException", w0, hNc ("java/lang/IllegalArgumentException", "java/lang/IndexOutOfBoundsException") (by decide +kernel)⟩) (by decide) (by decide) w1 (va_Nw.use rfl (hXB.2.2.2 _ (List.mem_of_getElem? (i := 4) rfl))) (fun q9 H locs hW => ?_)
  refine lv_astore (lv' := [(5, .ref q9), (0, .ref (a 0)), (1, .int (nI j)), (2, .int y), (3, .int z), (4, .ref o)]) hX_ hB_ dL_addStore_19 hl (by decide) rfl (fun ls hl => ?_)
  refine lv_iconst (v := 2) hX_ hB_ dL_addStore_21 (by decide) ?_
  exact ze_iret S hr hlocks hF hK hW rfl dL_addStore_22 (Nat.le_of_ble_eq_true rfl) (Nat.le_of_ble_eq_true rfl) rfl rfl
set_option maxHeartbeats 4000000 in
set_option maxRecDepth 100000 in
theorem zl_addStore_t3 (l : Launch) (D : va_G) (hst : l.stackTraces = false) (c : Nat → ClassId) (a n : Nat → Nat) (A : Nat → Nat → Int32) (B : Nat → Int64) (E : Nat → Nat → Int32) (o : Nat) (f : Nat → Int64)  (j : Nat) (hN : zf_N n) (hj : j < n 0) (y z : Int32) (h1 : zf_isIn y 1 999) (h2 : zf_isIn z 1 99) (h3 : ¬ n 3 < 4) : ze_Q l yL_addStore wsL_addStore 7 105 1 6 D c ((ze_wC c a n A B E) ++ [(o, .inl (c 6, 1, .inr (.inl f)))]) [.ref (a 0), .int (nI j), .int y, .int z, .ref o] 3 ((ze_wC c a n A B E) ++ [(o, .inl (c 6, 1, .inr (.inl f)))]) := by
  intro sz
  refine zq_start (cc := cL_addStore) (maxL := 6) (ret := (some .int)) (own := RL) (by decide) rfl rfl (Nat.le_of_ble_eq_true rfl) ?_
  obtain ⟨hn0, hn1, hn2, hn3, hn4⟩ := id hN
  intro p e s m_ below meth cd F ls hF hsz E0 hXB hNc htab
  obtain ⟨S, hr, hlocks, hK, hW, hA, hl⟩ := E0
  have hX_ := S.1
  have hB_ := S.2.1
  have hts := S.2.2.2.2
  have hl : lv_has ls 6 [(0, .ref (a 0)), (1, .int (nI j)), (2, .int y), (3, .int z), (4, .ref o)] := hl
  have w0 := hts (.classLink RL 19 "java/lang/IndexOutOfBoundsException") (List.mem_cons_of_mem _ (List.mem_append_left _ (List.mem_append_left _ (List.mem_append_left _ (List.mem_append_left _ (List.mem_append_left _ (List.mem_append_left _ (List.mem_append_left _ (List.mem_append_left _ (List.mem_of_getElem? (i := 0) rfl))))))))))
  have w1 := hts (.classLink RL 21 "java/lang/IllegalArgumentException") (List.mem_cons_of_mem _ (List.mem_append_left _ (List.mem_append_left _ (List.mem_append_left _ (List.mem_append_left _ (List.mem_append_left _ (List.mem_append_left _ (List.mem_append_left _ (List.mem_append_left _ (List.mem_of_getElem? (i := 1) rfl))))))))))
  have w2 := hts (.classLink RL 13 "java/lang/IllegalStateException") (List.mem_cons_of_mem _ (List.mem_append_left _ (List.mem_append_left _ (List.mem_append_left _ (List.mem_append_left _ (List.mem_append_left _ (List.mem_append_left _ (List.mem_append_left _ (List.mem_append_left _ (List.mem_of_getElem? (i := 2) rfl))))))))))
  refine lv_aload hX_ hB_ dL_addStore_0 (lv_at hl 4 rfl) ?_
  refine lv_iconst (v := 0) hX_ hB_ dL_addStore_2 (by decide) ?_
  refine lv_aload_n hX_ hB_ dL_addStore_3 rfl (lv_at hl 0 rfl) ?_
  refine lv_iload_n hX_ hB_ dL_addStore_4 rfl (lv_at hl 1 rfl) ?_
  refine lv_iload_n hX_ hB_ dL_addStore_5 rfl (lv_at hl 2 rfl) ?_
  refine lv_iload_n hX_ hB_ dL_addStore_6 rfl (lv_at hl 3 rfl) ?_
  refine zx_FVc (As := [.int (nI j), .int y, .int z]) (rest := [.int 0, .ref o]) (ci := 8) (q0 := 0) (k := (RX8, TX8, 8)) S (zt_addStore_t3 l D hst c a n A B E j hN hj y z h1 h2 h3) (cwV 3 hts gL_addStore_X8_addStore rfl rfl rfl (by decide +kernel) ⟨(Nat.le_of_ble_eq_true rfl), (Nat.le_of_ble_eq_true rfl)⟩) hK hW hXB hA rfl (ze_at0 0 rfl) rfl hl.1 rfl (lv_room (Nat.le_of_ble_eq_true rfl)) dL_addStore_7 ⟨(Nat.le_of_ble_eq_true rfl), (Nat.le_of_ble_eq_true rfl)⟩ [⟨0, 12, 15, 19⟩, ⟨0, 12, 19, 21⟩] ⟨0, 12, 23, 13⟩ [] htab (by
      intro z hz
      simp only [List.mem_cons, List.not_mem_nil, or_false] at hz
      rcases hz with rfl | rfl
      · exact Or.inr ⟨by decide, "java/lang/IndexOutOfBoundsException", w0, hNc ("java/lang/IllegalStateException", "java/lang/IndexOutOfBoundsException") (by decide +kernel)⟩
      · exact Or.inr ⟨by decide, "java/lang/IllegalArgumentException", w1, hNc ("java/lang/IllegalStateException", "java/lang/IllegalArgumentException") (by decide +kernel)⟩) (by decide) (by decide) w2 (va_Nw.use rfl (hXB.2.2.2 _ (List.mem_of_getElem? (i := 3) rfl))) (fun q9 H locs hW => ?_)
  refine lv_astore (lv' := [(5, .ref q9), (0, .ref (a 0)), (1, .int (nI j)), (2, .int y), (3, .int z), (4, .ref o)]) hX_ hB_ dL_addStore_23 hl (by decide) rfl (fun ls hl => ?_)
  refine lv_iconst (v := 3) hX_ hB_ dL_addStore_25 (by decide) ?_
  exact ze_iret S hr hlocks hF hK hW rfl dL_addStore_26 (Nat.le_of_ble_eq_true rfl) (Nat.le_of_ble_eq_true rfl) rfl rfl
set_option maxHeartbeats 4000000 in
set_option maxRecDepth 100000 in
theorem zl_barrier_f (l : Launch) (D : va_G) (c : Nat → ClassId) (a n : Nat → Nat) (A : Nat → Nat → Int32) (B : Nat → Int64) (E : Nat → Nat → Int32) (o : Nat) (f : Nat → Int64)  (j : Nat) (hN : zf_N n) (hj : j < n 4) (hS : zf_S n A) (hk : ¬ zf_keepC n A (E 0) j (zf_bOf n A (E 0) (E 0 (ze_ix (A 19 j))))) : ze_Q l yL_barrier wsL_barrier 7 142 0 0 D c ((ze_wC c a n A B E) ++ [(o, .inl (c 6, 1, .inr (.inl f)))]) [.ref (a 0), .int (nI j), .ref o] 0 ((ze_wC c a n A B E) ++ [(o, .inl (c 6, 1, .inr (.inl (vp_updL f 0 ((zf_on (zf_fuC n A (E 0) (E 0 (ze_ix (A 19 j))) (zf_bOf n A (E 0) (E 0 (ze_ix (A 19 j)))) (n 4))).toInt64)))))]) := by
  intro sz
  refine zq_start (cc := cL_barrier) (maxL := 4) (ret := (some .int)) (own := RL) (by decide) rfl rfl (Nat.le_of_ble_eq_true rfl) ?_
  obtain ⟨hn0, hn1, hn2, hn3, hn4⟩ := id hN
  intro p e s m_ below meth cd F ls hF hsz E0 hXB hNc htab
  obtain ⟨S, hr, hlocks, hK, hW, hA, hl⟩ := E0
  have hX_ := S.1
  have hB_ := S.2.1
  have hts := S.2.2.2.2
  have hl : lv_has ls 4 [(0, .ref (a 0)), (1, .int (nI j)), (2, .ref o)] := hl
  refine lv_aload_n hX_ hB_ dL_barrier_0 rfl (lv_at hl 2 rfl) ?_
  refine lv_iconst (v := 0) hX_ hB_ dL_barrier_1 (by decide) ?_
  refine lv_aload_n hX_ hB_ dL_barrier_2 rfl (lv_at hl 0 rfl) ?_
  refine lv_iload_n hX_ hB_ dL_barrier_3 rfl (lv_at hl 1 rfl) ?_
  refine ze_FVi (As := [.int (nI j)]) (rest := [.int 0, .ref o]) (ci := 8) (q0 := 0) (k := (RX8, TX8, 8)) S (zp_barrier_f l D c a n A B E j hN hj hS hk) (cwV 1 hts gL_barrier_X8_barrier rfl rfl rfl (by decide +kernel) ⟨Nat.le_of_ble_eq_true rfl, Nat.le_of_ble_eq_true rfl⟩) hK hW hA rfl (ze_at0 0 rfl) rfl hl.1 rfl (lv_room (Nat.le_of_ble_eq_true rfl)) dL_barrier_4 ⟨Nat.le_of_ble_eq_true rfl, Nat.le_of_ble_eq_true rfl⟩ (fun H locs hW => ?_)
  refine lv_i2l (v := (zf_on (zf_fuC n A (E 0) (E 0 (ze_ix (A 19 j))) (zf_bOf n A (E 0) (E 0 (ze_ix (A 19 j)))) (n 4))).toInt64) hX_ hB_ dL_barrier_7 rfl ?_
  refine ze_last hX_ hB_ hK hW ((ze_wC c a n A B E).length + 0) (i := 0) (ze_appL (k := 0) rfl) (by decide) (by decide) dL_barrier_8 (ze_appset rfl) (fun H locs hW => ?_)
  have hW : ze_W D ((ze_wC c a n A B E) ++ [(o, .inl (c 6, 1, .inr (.inl (vp_updL f 0 ((zf_on (zf_fuC n A (E 0) (E 0 (ze_ix (A 19 j))) (zf_bOf n A (E 0) (E 0 (ze_ix (A 19 j)))) (n 4))).toInt64)))))]) F s.heap _ _ := hW
  refine lv_goto (tgt := 18) hX_ hB_ dL_barrier_9 (by decide) ?_
  refine lv_iconst (v := 0) hX_ hB_ dL_barrier_18 (by decide) ?_
  exact ze_iret S hr hlocks hF hK hW rfl dL_barrier_19 (Nat.le_of_ble_eq_true rfl) (Nat.le_of_ble_eq_true rfl) rfl rfl
set_option maxHeartbeats 4000000 in
set_option maxRecDepth 100000 in
theorem zl_barrier_t1 (l : Launch) (D : va_G) (hst : l.stackTraces = false) (c : Nat → ClassId) (a n : Nat → Nat) (A : Nat → Nat → Int32) (B : Nat → Int64) (E : Nat → Nat → Int32) (o : Nat) (f : Nat → Int64)  (x : Int32) (hN : zf_N n) (hx : ¬ zf_isIn x 0 (nI (n 4) - 1)) : ze_Q l yL_barrier wsL_barrier 10 168 1 6 D c ((ze_wC c a n A B E) ++ [(o, .inl (c 6, 1, .inr (.inl f)))]) [.ref (a 0), .int x, .ref o] 1 ((ze_wC c a n A B E) ++ [(o, .inl (c 6, 1, .inr (.inl f)))]) := by
  intro sz
  refine zq_start (cc := cL_barrier) (maxL := 4) (ret := (some .int)) (own := RL) (by decide) rfl rfl (Nat.le_of_ble_eq_true rfl) ?_
  obtain ⟨hn0, hn1, hn2, hn3, hn4⟩ := id hN
  intro p e s m_ below meth cd F ls hF hsz E0 hXB hNc htab
  obtain ⟨S, hr, hlocks, hK, hW, hA, hl⟩ := E0
  have hX_ := S.1
  have hB_ := S.2.1
  have hts := S.2.2.2.2
  have hl : lv_has ls 4 [(0, .ref (a 0)), (1, .int x), (2, .ref o)] := hl
  have w0 := hts (.classLink RL 19 "java/lang/IndexOutOfBoundsException") (List.mem_cons_of_mem _ (List.mem_append_left _ (List.mem_append_left _ (List.mem_append_left _ (List.mem_append_left _ (List.mem_append_left _ (List.mem_append_left _ (List.mem_append_left _ (List.mem_append_left _ (List.mem_append_left _ (List.mem_append_left _ (List.mem_append_left _ (List.mem_of_getElem? (i := 0) rfl)))))))))))))
  refine lv_aload_n hX_ hB_ dL_barrier_0 rfl (lv_at hl 2 rfl) ?_
  refine lv_iconst (v := 0) hX_ hB_ dL_barrier_1 (by decide) ?_
  refine lv_aload_n hX_ hB_ dL_barrier_2 rfl (lv_at hl 0 rfl) ?_
  refine lv_iload_n hX_ hB_ dL_barrier_3 rfl (lv_at hl 1 rfl) ?_
  refine zx_FVc (As := [.int x]) (rest := [.int 0, .ref o]) (ci := 8) (q0 := 0) (k := (RX8, TX8, 8)) S (zt_barrier_t1 l D hst c a n A B E x hN hx) (cwV 1 hts gL_barrier_X8_barrier rfl rfl rfl (by decide +kernel) ⟨(Nat.le_of_ble_eq_true rfl), (Nat.le_of_ble_eq_true rfl)⟩) hK hW hXB hA rfl (ze_at0 0 rfl) rfl hl.1 rfl (lv_room (Nat.le_of_ble_eq_true rfl)) dL_barrier_4 ⟨(Nat.le_of_ble_eq_true rfl), (Nat.le_of_ble_eq_true rfl)⟩ [] ⟨0, 9, 12, 19⟩ [⟨0, 9, 15, 38⟩] htab (by intro z hz; cases hz) (by decide) (by decide) w0 (va_Nw.use rfl (hXB.2.2.2 _ (List.mem_of_getElem? (i := 7) rfl))) (fun q9 H locs hW => ?_)
  refine lv_astore_n (lv' := [(3, .ref q9), (0, .ref (a 0)), (1, .int x), (2, .ref o)]) hX_ hB_ dL_barrier_12 rfl hl (by decide) rfl (fun ls hl => ?_)
  refine lv_iconst (v := 1) hX_ hB_ dL_barrier_13 (by decide) ?_
  exact ze_iret S hr hlocks hF hK hW rfl dL_barrier_14 (Nat.le_of_ble_eq_true rfl) (Nat.le_of_ble_eq_true rfl) rfl rfl
set_option maxHeartbeats 4000000 in
set_option maxRecDepth 100000 in
theorem zl_barrier_t2 (l : Launch) (D : va_G) (hst : l.stackTraces = false) (c : Nat → ClassId) (a n : Nat → Nat) (A : Nat → Nat → Int32) (B : Nat → Int64) (E : Nat → Nat → Int32) (o : Nat) (f : Nat → Int64)  (j : Nat) (hN : zf_N n) (hj : j < n 4) (hS : zf_S n A) (hk : zf_keepC n A (E 0) j (zf_bOf n A (E 0) (E 0 (ze_ix (A 19 j))))) : ze_Q l yL_barrier wsL_barrier 8 142 1 6 D c ((ze_wC c a n A B E) ++ [(o, .inl (c 6, 1, .inr (.inl f)))]) [.ref (a 0), .int (nI j), .ref o] 2 ((ze_wC c a n A B E) ++ [(o, .inl (c 6, 1, .inr (.inl f)))]) := by
  intro sz
  refine zq_start (cc := cL_barrier) (maxL := 4) (ret := (some .int)) (own := RL) (by decide) rfl rfl (Nat.le_of_ble_eq_true rfl) ?_
  obtain ⟨hn0, hn1, hn2, hn3, hn4⟩ := id hN
  intro p e s m_ below meth cd F ls hF hsz E0 hXB hNc htab
  obtain ⟨S, hr, hlocks, hK, hW, hA, hl⟩ := E0
  have hX_ := S.1
  have hB_ := S.2.1
  have hts := S.2.2.2.2
  have hl : lv_has ls 4 [(0, .ref (a 0)), (1, .int (nI j)), (2, .ref o)] := hl
  have w0 := hts (.classLink RL 19 "java/lang/IndexOutOfBoundsException") (List.mem_cons_of_mem _ (List.mem_append_left _ (List.mem_append_left _ (List.mem_append_left _ (List.mem_append_left _ (List.mem_append_left _ (List.mem_append_left _ (List.mem_append_left _ (List.mem_append_left _ (List.mem_append_left _ (List.mem_append_left _ (List.mem_append_left _ (List.mem_of_getElem? (i := 0) rfl)))))))))))))
  have w1 := hts (.classLink RL 38 "java/util/NoSuchElementException") (List.mem_cons_of_mem _ (List.mem_append_left _ (List.mem_append_left _ (List.mem_append_left _ (List.mem_append_left _ (List.mem_append_left _ (List.mem_append_left _ (List.mem_append_left _ (List.mem_append_left _ (List.mem_append_left _ (List.mem_append_left _ (List.mem_append_left _ (List.mem_of_getElem? (i := 1) rfl)))))))))))))
  refine lv_aload_n hX_ hB_ dL_barrier_0 rfl (lv_at hl 2 rfl) ?_
  refine lv_iconst (v := 0) hX_ hB_ dL_barrier_1 (by decide) ?_
  refine lv_aload_n hX_ hB_ dL_barrier_2 rfl (lv_at hl 0 rfl) ?_
  refine lv_iload_n hX_ hB_ dL_barrier_3 rfl (lv_at hl 1 rfl) ?_
  refine zx_FVc (As := [.int (nI j)]) (rest := [.int 0, .ref o]) (ci := 8) (q0 := 0) (k := (RX8, TX8, 8)) S (zt_barrier_t2 l D hst c a n A B E j hN hj hS hk) (cwV 1 hts gL_barrier_X8_barrier rfl rfl rfl (by decide +kernel) ⟨(Nat.le_of_ble_eq_true rfl), (Nat.le_of_ble_eq_true rfl)⟩) hK hW hXB hA rfl (ze_at0 0 rfl) rfl hl.1 rfl (lv_room (Nat.le_of_ble_eq_true rfl)) dL_barrier_4 ⟨(Nat.le_of_ble_eq_true rfl), (Nat.le_of_ble_eq_true rfl)⟩ [⟨0, 9, 12, 19⟩] ⟨0, 9, 15, 38⟩ [] htab (by
      intro z hz
      simp only [List.mem_cons, List.not_mem_nil, or_false] at hz
      rcases hz with rfl
      exact Or.inr ⟨by decide, "java/lang/IndexOutOfBoundsException", w0, hNc ("java/util/NoSuchElementException", "java/lang/IndexOutOfBoundsException") (by decide +kernel)⟩) (by decide) (by decide) w1 (va_Nw.use rfl (hXB.2.2.2 _ (List.mem_of_getElem? (i := 6) rfl))) (fun q9 H locs hW => ?_)
  refine lv_astore_n (lv' := [(3, .ref q9), (0, .ref (a 0)), (1, .int (nI j)), (2, .ref o)]) hX_ hB_ dL_barrier_15 rfl hl (by decide) rfl (fun ls hl => ?_)
  refine lv_iconst (v := 2) hX_ hB_ dL_barrier_16 (by decide) ?_
  exact ze_iret S hr hlocks hF hK hW rfl dL_barrier_17 (Nat.le_of_ble_eq_true rfl) (Nat.le_of_ble_eq_true rfl) rfl rfl
set_option maxHeartbeats 4000000 in
set_option maxRecDepth 100000 in
theorem zl_behind_f (l : Launch) (D : va_G) (c : Nat → ClassId) (a n : Nat → Nat) (A : Nat → Nat → Int32) (B : Nat → Int64) (E : Nat → Nat → Int32) (o : Nat) (f : Nat → Int64)  (j : Nat) (hN : zf_N n) (hj : j < n 4) (hS : zf_S n A) (hk : ¬ zf_keepC n A (E 0) j (zf_bOf n A (E 0) (E 0 (ze_ix (A 19 j))))) : ze_Q l yL_behind wsL_behind 7 142 0 0 D c ((ze_wC c a n A B E) ++ [(o, .inl (c 6, 1, .inr (.inl f)))]) [.ref (a 0), .int (nI j), .ref o] 0 ((ze_wC c a n A B E) ++ [(o, .inl (c 6, 1, .inr (.inl (vp_updL f 0 ((zf_cua n A (E 0) j (zf_bOf n A (E 0) (E 0 (ze_ix (A 19 j)))) (n 4)).toInt64)))))]) := by
  intro sz
  refine zq_start (cc := cL_behind) (maxL := 4) (ret := (some .int)) (own := RL) (by decide) rfl rfl (Nat.le_of_ble_eq_true rfl) ?_
  obtain ⟨hn0, hn1, hn2, hn3, hn4⟩ := id hN
  intro p e s m_ below meth cd F ls hF hsz E0 hXB hNc htab
  obtain ⟨S, hr, hlocks, hK, hW, hA, hl⟩ := E0
  have hX_ := S.1
  have hB_ := S.2.1
  have hts := S.2.2.2.2
  have hl : lv_has ls 4 [(0, .ref (a 0)), (1, .int (nI j)), (2, .ref o)] := hl
  refine lv_aload_n hX_ hB_ dL_behind_0 rfl (lv_at hl 2 rfl) ?_
  refine lv_iconst (v := 0) hX_ hB_ dL_behind_1 (by decide) ?_
  refine lv_aload_n hX_ hB_ dL_behind_2 rfl (lv_at hl 0 rfl) ?_
  refine lv_iload_n hX_ hB_ dL_behind_3 rfl (lv_at hl 1 rfl) ?_
  refine ze_FVi (As := [.int (nI j)]) (rest := [.int 0, .ref o]) (ci := 8) (q0 := 0) (k := (RX8, TX8, 8)) S (zp_behind_f l D c a n A B E j hN hj hS hk) (cwV 1 hts gL_behind_X8_behind rfl rfl rfl (by decide +kernel) ⟨Nat.le_of_ble_eq_true rfl, Nat.le_of_ble_eq_true rfl⟩) hK hW hA rfl (ze_at0 0 rfl) rfl hl.1 rfl (lv_room (Nat.le_of_ble_eq_true rfl)) dL_behind_4 ⟨Nat.le_of_ble_eq_true rfl, Nat.le_of_ble_eq_true rfl⟩ (fun H locs hW => ?_)
  refine lv_i2l (v := (zf_cua n A (E 0) j (zf_bOf n A (E 0) (E 0 (ze_ix (A 19 j)))) (n 4)).toInt64) hX_ hB_ dL_behind_7 rfl ?_
  refine ze_last hX_ hB_ hK hW ((ze_wC c a n A B E).length + 0) (i := 0) (ze_appL (k := 0) rfl) (by decide) (by decide) dL_behind_8 (ze_appset rfl) (fun H locs hW => ?_)
  have hW : ze_W D ((ze_wC c a n A B E) ++ [(o, .inl (c 6, 1, .inr (.inl (vp_updL f 0 ((zf_cua n A (E 0) j (zf_bOf n A (E 0) (E 0 (ze_ix (A 19 j)))) (n 4)).toInt64)))))]) F s.heap _ _ := hW
  refine lv_goto (tgt := 18) hX_ hB_ dL_behind_9 (by decide) ?_
  refine lv_iconst (v := 0) hX_ hB_ dL_behind_18 (by decide) ?_
  exact ze_iret S hr hlocks hF hK hW rfl dL_behind_19 (Nat.le_of_ble_eq_true rfl) (Nat.le_of_ble_eq_true rfl) rfl rfl
set_option maxHeartbeats 4000000 in
set_option maxRecDepth 100000 in
theorem zl_behind_t1 (l : Launch) (D : va_G) (hst : l.stackTraces = false) (c : Nat → ClassId) (a n : Nat → Nat) (A : Nat → Nat → Int32) (B : Nat → Int64) (E : Nat → Nat → Int32) (o : Nat) (f : Nat → Int64)  (x : Int32) (hN : zf_N n) (hx : ¬ zf_isIn x 0 (nI (n 4) - 1)) : ze_Q l yL_behind wsL_behind 10 168 1 6 D c ((ze_wC c a n A B E) ++ [(o, .inl (c 6, 1, .inr (.inl f)))]) [.ref (a 0), .int x, .ref o] 1 ((ze_wC c a n A B E) ++ [(o, .inl (c 6, 1, .inr (.inl f)))]) := by
  intro sz
  refine zq_start (cc := cL_behind) (maxL := 4) (ret := (some .int)) (own := RL) (by decide) rfl rfl (Nat.le_of_ble_eq_true rfl) ?_
  obtain ⟨hn0, hn1, hn2, hn3, hn4⟩ := id hN
  intro p e s m_ below meth cd F ls hF hsz E0 hXB hNc htab
  obtain ⟨S, hr, hlocks, hK, hW, hA, hl⟩ := E0
  have hX_ := S.1
  have hB_ := S.2.1
  have hts := S.2.2.2.2
  have hl : lv_has ls 4 [(0, .ref (a 0)), (1, .int x), (2, .ref o)] := hl
  have w0 := hts (.classLink RL 19 "java/lang/IndexOutOfBoundsException") (List.mem_cons_of_mem _ (List.mem_append_left _ (List.mem_append_left _ (List.mem_append_left _ (List.mem_append_left _ (List.mem_append_left _ (List.mem_append_left _ (List.mem_append_left _ (List.mem_append_left _ (List.mem_append_left _ (List.mem_append_left _ (List.mem_append_left _ (List.mem_of_getElem? (i := 0) rfl)))))))))))))
  refine lv_aload_n hX_ hB_ dL_behind_0 rfl (lv_at hl 2 rfl) ?_
  refine lv_iconst (v := 0) hX_ hB_ dL_behind_1 (by decide) ?_
  refine lv_aload_n hX_ hB_ dL_behind_2 rfl (lv_at hl 0 rfl) ?_
  refine lv_iload_n hX_ hB_ dL_behind_3 rfl (lv_at hl 1 rfl) ?_
  refine zx_FVc (As := [.int x]) (rest := [.int 0, .ref o]) (ci := 8) (q0 := 0) (k := (RX8, TX8, 8)) S (zt_behind_t1 l D hst c a n A B E x hN hx) (cwV 1 hts gL_behind_X8_behind rfl rfl rfl (by decide +kernel) ⟨(Nat.le_of_ble_eq_true rfl), (Nat.le_of_ble_eq_true rfl)⟩) hK hW hXB hA rfl (ze_at0 0 rfl) rfl hl.1 rfl (lv_room (Nat.le_of_ble_eq_true rfl)) dL_behind_4 ⟨(Nat.le_of_ble_eq_true rfl), (Nat.le_of_ble_eq_true rfl)⟩ [] ⟨0, 9, 12, 19⟩ [⟨0, 9, 15, 38⟩] htab (by intro z hz; cases hz) (by decide) (by decide) w0 (va_Nw.use rfl (hXB.2.2.2 _ (List.mem_of_getElem? (i := 7) rfl))) (fun q9 H locs hW => ?_)
  refine lv_astore_n (lv' := [(3, .ref q9), (0, .ref (a 0)), (1, .int x), (2, .ref o)]) hX_ hB_ dL_behind_12 rfl hl (by decide) rfl (fun ls hl => ?_)
  refine lv_iconst (v := 1) hX_ hB_ dL_behind_13 (by decide) ?_
  exact ze_iret S hr hlocks hF hK hW rfl dL_behind_14 (Nat.le_of_ble_eq_true rfl) (Nat.le_of_ble_eq_true rfl) rfl rfl
set_option maxHeartbeats 4000000 in
set_option maxRecDepth 100000 in
theorem zl_behind_t2 (l : Launch) (D : va_G) (hst : l.stackTraces = false) (c : Nat → ClassId) (a n : Nat → Nat) (A : Nat → Nat → Int32) (B : Nat → Int64) (E : Nat → Nat → Int32) (o : Nat) (f : Nat → Int64)  (j : Nat) (hN : zf_N n) (hj : j < n 4) (hS : zf_S n A) (hk : zf_keepC n A (E 0) j (zf_bOf n A (E 0) (E 0 (ze_ix (A 19 j))))) : ze_Q l yL_behind wsL_behind 8 142 1 6 D c ((ze_wC c a n A B E) ++ [(o, .inl (c 6, 1, .inr (.inl f)))]) [.ref (a 0), .int (nI j), .ref o] 2 ((ze_wC c a n A B E) ++ [(o, .inl (c 6, 1, .inr (.inl f)))]) := by
  intro sz
  refine zq_start (cc := cL_behind) (maxL := 4) (ret := (some .int)) (own := RL) (by decide) rfl rfl (Nat.le_of_ble_eq_true rfl) ?_
  obtain ⟨hn0, hn1, hn2, hn3, hn4⟩ := id hN
  intro p e s m_ below meth cd F ls hF hsz E0 hXB hNc htab
  obtain ⟨S, hr, hlocks, hK, hW, hA, hl⟩ := E0
  have hX_ := S.1
  have hB_ := S.2.1
  have hts := S.2.2.2.2
  have hl : lv_has ls 4 [(0, .ref (a 0)), (1, .int (nI j)), (2, .ref o)] := hl
  have w0 := hts (.classLink RL 19 "java/lang/IndexOutOfBoundsException") (List.mem_cons_of_mem _ (List.mem_append_left _ (List.mem_append_left _ (List.mem_append_left _ (List.mem_append_left _ (List.mem_append_left _ (List.mem_append_left _ (List.mem_append_left _ (List.mem_append_left _ (List.mem_append_left _ (List.mem_append_left _ (List.mem_append_left _ (List.mem_of_getElem? (i := 0) rfl)))))))))))))
  have w1 := hts (.classLink RL 38 "java/util/NoSuchElementException") (List.mem_cons_of_mem _ (List.mem_append_left _ (List.mem_append_left _ (List.mem_append_left _ (List.mem_append_left _ (List.mem_append_left _ (List.mem_append_left _ (List.mem_append_left _ (List.mem_append_left _ (List.mem_append_left _ (List.mem_append_left _ (List.mem_append_left _ (List.mem_of_getElem? (i := 1) rfl)))))))))))))
  refine lv_aload_n hX_ hB_ dL_behind_0 rfl (lv_at hl 2 rfl) ?_
  refine lv_iconst (v := 0) hX_ hB_ dL_behind_1 (by decide) ?_
  refine lv_aload_n hX_ hB_ dL_behind_2 rfl (lv_at hl 0 rfl) ?_
  refine lv_iload_n hX_ hB_ dL_behind_3 rfl (lv_at hl 1 rfl) ?_
  refine zx_FVc (As := [.int (nI j)]) (rest := [.int 0, .ref o]) (ci := 8) (q0 := 0) (k := (RX8, TX8, 8)) S (zt_behind_t2 l D hst c a n A B E j hN hj hS hk) (cwV 1 hts gL_behind_X8_behind rfl rfl rfl (by decide +kernel) ⟨(Nat.le_of_ble_eq_true rfl), (Nat.le_of_ble_eq_true rfl)⟩) hK hW hXB hA rfl (ze_at0 0 rfl) rfl hl.1 rfl (lv_room (Nat.le_of_ble_eq_true rfl)) dL_behind_4 ⟨(Nat.le_of_ble_eq_true rfl), (Nat.le_of_ble_eq_true rfl)⟩ [⟨0, 9, 12, 19⟩] ⟨0, 9, 15, 38⟩ [] htab (by
      intro z hz
      simp only [List.mem_cons, List.not_mem_nil, or_false] at hz
      rcases hz with rfl
      exact Or.inr ⟨by decide, "java/lang/IndexOutOfBoundsException", w0, hNc ("java/util/NoSuchElementException", "java/lang/IndexOutOfBoundsException") (by decide +kernel)⟩) (by decide) (by decide) w1 (va_Nw.use rfl (hXB.2.2.2 _ (List.mem_of_getElem? (i := 6) rfl))) (fun q9 H locs hW => ?_)
  refine lv_astore_n (lv' := [(3, .ref q9), (0, .ref (a 0)), (1, .int (nI j)), (2, .ref o)]) hX_ hB_ dL_behind_15 rfl hl (by decide) rfl (fun ls hl => ?_)
  refine lv_iconst (v := 2) hX_ hB_ dL_behind_16 (by decide) ?_
  exact ze_iret S hr hlocks hF hK hW rfl dL_behind_17 (Nat.le_of_ble_eq_true rfl) (Nat.le_of_ble_eq_true rfl) rfl rfl
set_option maxHeartbeats 4000000 in
set_option maxRecDepth 100000 in
theorem zl_bound_f (l : Launch) (D : va_G) (c : Nat → ClassId) (a n : Nat → Nat) (A : Nat → Nat → Int32) (B : Nat → Int64) (E : Nat → Nat → Int32) (o : Nat) (f : Nat → Int64)  (j : Nat) (hN : zf_N n) (hj : j < n 0) (hS : zf_S n A) : ze_Q l yL_bound wsL_bound 5 98 0 0 D c ((ze_wC c a n A B E) ++ [(o, .inl (c 6, 1, .inr (.inl f)))]) [.ref (a 0), .int (nI j), .ref o] 0 ((ze_wC c a n A B E) ++ [(o, .inl (c 6, 1, .inr (.inl (vp_updL f 0 ((zf_bOf n A (E 0) (E 0 j)).toInt64)))))]) := by
  intro sz
  refine zq_start (cc := cL_bound) (maxL := 4) (ret := (some .int)) (own := RL) (by decide) rfl rfl (Nat.le_of_ble_eq_true rfl) ?_
  obtain ⟨hn0, hn1, hn2, hn3, hn4⟩ := id hN
  intro p e s m_ below meth cd F ls hF hsz E0 hXB hNc htab
  obtain ⟨S, hr, hlocks, hK, hW, hA, hl⟩ := E0
  have hX_ := S.1
  have hB_ := S.2.1
  have hts := S.2.2.2.2
  have hl : lv_has ls 4 [(0, .ref (a 0)), (1, .int (nI j)), (2, .ref o)] := hl
  refine lv_aload_n hX_ hB_ dL_bound_0 rfl (lv_at hl 2 rfl) ?_
  refine lv_iconst (v := 0) hX_ hB_ dL_bound_1 (by decide) ?_
  refine lv_aload_n hX_ hB_ dL_bound_2 rfl (lv_at hl 0 rfl) ?_
  refine lv_iload_n hX_ hB_ dL_bound_3 rfl (lv_at hl 1 rfl) ?_
  refine ze_FVi (As := [.int (nI j)]) (rest := [.int 0, .ref o]) (ci := 8) (q0 := 0) (k := (RX8, TX8, 8)) S (zp_bound_f l D c a n A B E j hN hj hS) (cwV 1 hts gL_bound_X8_bound rfl rfl rfl (by decide +kernel) ⟨Nat.le_of_ble_eq_true rfl, Nat.le_of_ble_eq_true rfl⟩) hK hW hA rfl (ze_at0 0 rfl) rfl hl.1 rfl (lv_room (Nat.le_of_ble_eq_true rfl)) dL_bound_4 ⟨Nat.le_of_ble_eq_true rfl, Nat.le_of_ble_eq_true rfl⟩ (fun H locs hW => ?_)
  refine lv_i2l (v := (zf_bOf n A (E 0) (E 0 j)).toInt64) hX_ hB_ dL_bound_7 rfl ?_
  refine ze_last hX_ hB_ hK hW ((ze_wC c a n A B E).length + 0) (i := 0) (ze_appL (k := 0) rfl) (by decide) (by decide) dL_bound_8 (ze_appset rfl) (fun H locs hW => ?_)
  have hW : ze_W D ((ze_wC c a n A B E) ++ [(o, .inl (c 6, 1, .inr (.inl (vp_updL f 0 ((zf_bOf n A (E 0) (E 0 j)).toInt64)))))]) F s.heap _ _ := hW
  refine lv_goto (tgt := 15) hX_ hB_ dL_bound_9 (by decide) ?_
  refine lv_iconst (v := 0) hX_ hB_ dL_bound_15 (by decide) ?_
  exact ze_iret S hr hlocks hF hK hW rfl dL_bound_16 (Nat.le_of_ble_eq_true rfl) (Nat.le_of_ble_eq_true rfl) rfl rfl
set_option maxHeartbeats 4000000 in
set_option maxRecDepth 100000 in
theorem zl_bound_t1 (l : Launch) (D : va_G) (hst : l.stackTraces = false) (c : Nat → ClassId) (a n : Nat → Nat) (A : Nat → Nat → Int32) (B : Nat → Int64) (E : Nat → Nat → Int32) (o : Nat) (f : Nat → Int64)  (x : Int32) (hN : zf_N n) (hx : ¬ zf_isIn x 0 (nI (n 0) - 1)) : ze_Q l yL_bound wsL_bound 9 145 1 6 D c ((ze_wC c a n A B E) ++ [(o, .inl (c 6, 1, .inr (.inl f)))]) [.ref (a 0), .int x, .ref o] 1 ((ze_wC c a n A B E) ++ [(o, .inl (c 6, 1, .inr (.inl f)))]) := by
  intro sz
  refine zq_start (cc := cL_bound) (maxL := 4) (ret := (some .int)) (own := RL) (by decide) rfl rfl (Nat.le_of_ble_eq_true rfl) ?_
  obtain ⟨hn0, hn1, hn2, hn3, hn4⟩ := id hN
  intro p e s m_ below meth cd F ls hF hsz E0 hXB hNc htab
  obtain ⟨S, hr, hlocks, hK, hW, hA, hl⟩ := E0
  have hX_ := S.1
  have hB_ := S.2.1
  have hts := S.2.2.2.2
  have hl : lv_has ls 4 [(0, .ref (a 0)), (1, .int x), (2, .ref o)] := hl
  have w0 := hts (.classLink RL 19 "java/lang/IndexOutOfBoundsException") (List.mem_cons_of_mem _ (List.mem_append_left _ (List.mem_append_left _ (List.mem_append_left _ (List.mem_append_left _ (List.mem_append_left _ (List.mem_append_left _ (List.mem_append_left _ (List.mem_append_left _ (List.mem_of_getElem? (i := 0) rfl))))))))))
  refine lv_aload_n hX_ hB_ dL_bound_0 rfl (lv_at hl 2 rfl) ?_
  refine lv_iconst (v := 0) hX_ hB_ dL_bound_1 (by decide) ?_
  refine lv_aload_n hX_ hB_ dL_bound_2 rfl (lv_at hl 0 rfl) ?_
  refine lv_iload_n hX_ hB_ dL_bound_3 rfl (lv_at hl 1 rfl) ?_
  refine zx_FVc (As := [.int x]) (rest := [.int 0, .ref o]) (ci := 8) (q0 := 0) (k := (RX8, TX8, 8)) S (zt_bound_t1 l D hst c a n A B E x hN hx) (cwV 1 hts gL_bound_X8_bound rfl rfl rfl (by decide +kernel) ⟨(Nat.le_of_ble_eq_true rfl), (Nat.le_of_ble_eq_true rfl)⟩) hK hW hXB hA rfl (ze_at0 0 rfl) rfl hl.1 rfl (lv_room (Nat.le_of_ble_eq_true rfl)) dL_bound_4 ⟨(Nat.le_of_ble_eq_true rfl), (Nat.le_of_ble_eq_true rfl)⟩ [] ⟨0, 9, 12, 19⟩ [] htab (by intro z hz; cases hz) (by decide) (by decide) w0 (va_Nw.use rfl (hXB.2.2.2 _ (List.mem_of_getElem? (i := 7) rfl))) (fun q9 H locs hW => ?_)
  refine lv_astore_n (lv' := [(3, .ref q9), (0, .ref (a 0)), (1, .int x), (2, .ref o)]) hX_ hB_ dL_bound_12 rfl hl (by decide) rfl (fun ls hl => ?_)
  refine lv_iconst (v := 1) hX_ hB_ dL_bound_13 (by decide) ?_
  exact ze_iret S hr hlocks hF hK hW rfl dL_bound_14 (Nat.le_of_ble_eq_true rfl) (Nat.le_of_ble_eq_true rfl) rfl rfl
set_option maxHeartbeats 4000000 in
set_option maxRecDepth 100000 in
theorem zl_charge_f (l : Launch) (D : va_G) (c : Nat → ClassId) (a n : Nat → Nat) (A : Nat → Nat → Int32) (B : Nat → Int64) (E : Nat → Nat → Int32) (o : Nat) (f : Nat → Int64)  (j : Nat) (hN : zf_N n) (hj : j < n 3) : ze_Q l yL_charge wsL_charge 3 63 0 0 D c ((ze_wC c a n A B E) ++ [(o, .inl (c 6, 1, .inr (.inl f)))]) [.ref (a 0), .int (nI j), .ref o] 0 ((ze_wC c a n A B E) ++ [(o, .inl (c 6, 1, .inr (.inl (vp_updL f 0 ((A 17 j).toInt64)))))]) := by
  intro sz
  refine zq_start (cc := cL_charge) (maxL := 4) (ret := (some .int)) (own := RL) (by decide) rfl rfl (Nat.le_of_ble_eq_true rfl) ?_
  obtain ⟨hn0, hn1, hn2, hn3, hn4⟩ := id hN
  intro p e s m_ below meth cd F ls hF hsz E0 hXB hNc htab
  obtain ⟨S, hr, hlocks, hK, hW, hA, hl⟩ := E0
  have hX_ := S.1
  have hB_ := S.2.1
  have hts := S.2.2.2.2
  have hl : lv_has ls 4 [(0, .ref (a 0)), (1, .int (nI j)), (2, .ref o)] := hl
  refine lv_aload_n hX_ hB_ dL_charge_0 rfl (lv_at hl 2 rfl) ?_
  refine lv_iconst (v := 0) hX_ hB_ dL_charge_1 (by decide) ?_
  refine lv_aload_n hX_ hB_ dL_charge_2 rfl (lv_at hl 0 rfl) ?_
  refine lv_iload_n hX_ hB_ dL_charge_3 rfl (lv_at hl 1 rfl) ?_
  refine ze_FVi (As := [.int (nI j)]) (rest := [.int 0, .ref o]) (ci := 8) (q0 := 0) (k := (RX8, TX8, 8)) S (zp_charge_f l D c a n A B E j hN hj) (cwV 1 hts gL_charge_X8_charge rfl rfl rfl (by decide +kernel) ⟨Nat.le_of_ble_eq_true rfl, Nat.le_of_ble_eq_true rfl⟩) hK hW hA rfl (ze_at0 0 rfl) rfl hl.1 rfl (lv_room (Nat.le_of_ble_eq_true rfl)) dL_charge_4 ⟨Nat.le_of_ble_eq_true rfl, Nat.le_of_ble_eq_true rfl⟩ (fun H locs hW => ?_)
  refine lv_i2l (v := (A 17 j).toInt64) hX_ hB_ dL_charge_7 rfl ?_
  refine ze_last hX_ hB_ hK hW ((ze_wC c a n A B E).length + 0) (i := 0) (ze_appL (k := 0) rfl) (by decide) (by decide) dL_charge_8 (ze_appset rfl) (fun H locs hW => ?_)
  have hW : ze_W D ((ze_wC c a n A B E) ++ [(o, .inl (c 6, 1, .inr (.inl (vp_updL f 0 ((A 17 j).toInt64)))))]) F s.heap _ _ := hW
  refine lv_goto (tgt := 15) hX_ hB_ dL_charge_9 (by decide) ?_
  refine lv_iconst (v := 0) hX_ hB_ dL_charge_15 (by decide) ?_
  exact ze_iret S hr hlocks hF hK hW rfl dL_charge_16 (Nat.le_of_ble_eq_true rfl) (Nat.le_of_ble_eq_true rfl) rfl rfl
set_option maxHeartbeats 4000000 in
set_option maxRecDepth 100000 in
theorem zl_charge_t1 (l : Launch) (D : va_G) (hst : l.stackTraces = false) (c : Nat → ClassId) (a n : Nat → Nat) (A : Nat → Nat → Int32) (B : Nat → Int64) (E : Nat → Nat → Int32) (o : Nat) (f : Nat → Int64)  (x : Int32) (hN : zf_N n) (hx : ¬ zf_isIn x 0 (nI (n 3) - 1)) : ze_Q l yL_charge wsL_charge 9 145 1 6 D c ((ze_wC c a n A B E) ++ [(o, .inl (c 6, 1, .inr (.inl f)))]) [.ref (a 0), .int x, .ref o] 1 ((ze_wC c a n A B E) ++ [(o, .inl (c 6, 1, .inr (.inl f)))]) := by
  intro sz
  refine zq_start (cc := cL_charge) (maxL := 4) (ret := (some .int)) (own := RL) (by decide) rfl rfl (Nat.le_of_ble_eq_true rfl) ?_
  obtain ⟨hn0, hn1, hn2, hn3, hn4⟩ := id hN
  intro p e s m_ below meth cd F ls hF hsz E0 hXB hNc htab
  obtain ⟨S, hr, hlocks, hK, hW, hA, hl⟩ := E0
  have hX_ := S.1
  have hB_ := S.2.1
  have hts := S.2.2.2.2
  have hl : lv_has ls 4 [(0, .ref (a 0)), (1, .int x), (2, .ref o)] := hl
  have w0 := hts (.classLink RL 19 "java/lang/IndexOutOfBoundsException") (List.mem_cons_of_mem _ (List.mem_append_left _ (List.mem_append_left _ (List.mem_append_left _ (List.mem_append_left _ (List.mem_of_getElem? (i := 0) rfl))))))
  refine lv_aload_n hX_ hB_ dL_charge_0 rfl (lv_at hl 2 rfl) ?_
  refine lv_iconst (v := 0) hX_ hB_ dL_charge_1 (by decide) ?_
  refine lv_aload_n hX_ hB_ dL_charge_2 rfl (lv_at hl 0 rfl) ?_
  refine lv_iload_n hX_ hB_ dL_charge_3 rfl (lv_at hl 1 rfl) ?_
  refine zx_FVc (As := [.int x]) (rest := [.int 0, .ref o]) (ci := 8) (q0 := 0) (k := (RX8, TX8, 8)) S (zt_charge_t1 l D hst c a n A B E x hN hx) (cwV 1 hts gL_charge_X8_charge rfl rfl rfl (by decide +kernel) ⟨(Nat.le_of_ble_eq_true rfl), (Nat.le_of_ble_eq_true rfl)⟩) hK hW hXB hA rfl (ze_at0 0 rfl) rfl hl.1 rfl (lv_room (Nat.le_of_ble_eq_true rfl)) dL_charge_4 ⟨(Nat.le_of_ble_eq_true rfl), (Nat.le_of_ble_eq_true rfl)⟩ [] ⟨0, 9, 12, 19⟩ [] htab (by intro z hz; cases hz) (by decide) (by decide) w0 (va_Nw.use rfl (hXB.2.2.2 _ (List.mem_of_getElem? (i := 7) rfl))) (fun q9 H locs hW => ?_)
  refine lv_astore_n (lv' := [(3, .ref q9), (0, .ref (a 0)), (1, .int x), (2, .ref o)]) hX_ hB_ dL_charge_12 rfl hl (by decide) rfl (fun ls hl => ?_)
  refine lv_iconst (v := 1) hX_ hB_ dL_charge_13 (by decide) ?_
  exact ze_iret S hr hlocks hF hK hW rfl dL_charge_14 (Nat.le_of_ble_eq_true rfl) (Nat.le_of_ble_eq_true rfl) rfl rfl
set_option maxHeartbeats 4000000 in
set_option maxRecDepth 100000 in
theorem zl_close_f (l : Launch) (D : va_G) (c : Nat → ClassId) (a n : Nat → Nat) (A : Nat → Nat → Int32) (B : Nat → Int64) (E : Nat → Nat → Int32) (o : Nat) (f : Nat → Int64)  (j : Nat) (hN : zf_N n) (hj : j < n 1) (hS : zf_S n A) (hE : ∀ x, zf_site n x → zf_site n (E 0 (ze_ix x))) (h4 : A 4 j = 0) (hg : zf_gapC A (E 0) j ≤ 10) : ze_Q l yL_close wsL_close 5 112 0 0 D c ((ze_wC c a n A B E) ++ [(o, .inl (c 6, 1, .inr (.inl f)))]) [.ref (a 0), .int (nI j), .ref o] 0 ((ze_wC c a n (ze_sE A 4 j 1) B (ze_sA (ze_sA E 0 ((zf_fi n (ze_sE A 4 j 1) (E 0) (E 1) (n 0)).1)) 1 ((zf_fi n (ze_sE A 4 j 1) (E 0) (E 1) (n 0)).2))) ++ [(o, .inl (c 6, 1, .inr (.inl (vp_updL f 0 ((zf_many ((zf_fi n (ze_sE A 4 j 1) (E 0) (E 1) (n 0)).1) (n 0)).toInt64)))))]) := by
  intro sz
  refine zq_start (cc := cL_close) (maxL := 4) (ret := (some .int)) (own := RL) (by decide) rfl rfl (Nat.le_of_ble_eq_true rfl) ?_
  obtain ⟨hn0, hn1, hn2, hn3, hn4⟩ := id hN
  intro p e s m_ below meth cd F ls hF hsz E0 hXB hNc htab
  obtain ⟨S, hr, hlocks, hK, hW, hA, hl⟩ := E0
  have hX_ := S.1
  have hB_ := S.2.1
  have hts := S.2.2.2.2
  have hl : lv_has ls 4 [(0, .ref (a 0)), (1, .int (nI j)), (2, .ref o)] := hl
  refine lv_aload_n hX_ hB_ dL_close_0 rfl (lv_at hl 2 rfl) ?_
  refine lv_iconst (v := 0) hX_ hB_ dL_close_1 (by decide) ?_
  refine lv_aload_n hX_ hB_ dL_close_2 rfl (lv_at hl 0 rfl) ?_
  refine lv_iload_n hX_ hB_ dL_close_3 rfl (lv_at hl 1 rfl) ?_
  refine ze_FVi (As := [.int (nI j)]) (rest := [.int 0, .ref o]) (ci := 8) (q0 := 0) (k := (RX8, TX8, 8)) S (zp_close_f l D c a n A B E j hN hj hS hE h4 hg) (cwV 1 hts gL_close_X8_close rfl rfl rfl (by decide +kernel) ⟨Nat.le_of_ble_eq_true rfl, Nat.le_of_ble_eq_true rfl⟩) hK hW hA rfl (ze_at0 0 rfl) rfl hl.1 rfl (lv_room (Nat.le_of_ble_eq_true rfl)) dL_close_4 ⟨Nat.le_of_ble_eq_true rfl, Nat.le_of_ble_eq_true rfl⟩ (fun H locs hW => ?_)
  have hW : ze_W D ((ze_wC c a n (ze_sE A 4 j 1) B (ze_sA (ze_sA E 0 ((zf_fi n (ze_sE A 4 j 1) (E 0) (E 1) (n 0)).1)) 1 ((zf_fi n (ze_sE A 4 j 1) (E 0) (E 1) (n 0)).2))) ++ [(o, .inl (c 6, 1, .inr (.inl f)))]) F s.heap _ _ := hW
  refine lv_i2l (v := (zf_many ((zf_fi n (ze_sE A 4 j 1) (E 0) (E 1) (n 0)).1) (n 0)).toInt64) hX_ hB_ dL_close_7 rfl ?_
  refine ze_last hX_ hB_ hK hW ((ze_wC c a n (ze_sE A 4 j 1) B (ze_sA (ze_sA E 0 ((zf_fi n (ze_sE A 4 j 1) (E 0) (E 1) (n 0)).1)) 1 ((zf_fi n (ze_sE A 4 j 1) (E 0) (E 1) (n 0)).2))).length + 0) (i := 0) (ze_appL (k := 0) rfl) (by decide) (by decide) dL_close_8 (ze_appset rfl) (fun H locs hW => ?_)
  have hW : ze_W D ((ze_wC c a n (ze_sE A 4 j 1) B (ze_sA (ze_sA E 0 ((zf_fi n (ze_sE A 4 j 1) (E 0) (E 1) (n 0)).1)) 1 ((zf_fi n (ze_sE A 4 j 1) (E 0) (E 1) (n 0)).2))) ++ [(o, .inl (c 6, 1, .inr (.inl (vp_updL f 0 ((zf_many ((zf_fi n (ze_sE A 4 j 1) (E 0) (E 1) (n 0)).1) (n 0)).toInt64)))))]) F s.heap _ _ := hW
  refine lv_goto (tgt := 21) hX_ hB_ dL_close_9 (by decide) ?_
  refine lv_iconst (v := 0) hX_ hB_ dL_close_21 (by decide) ?_
  exact ze_iret S hr hlocks hF hK hW rfl dL_close_22 (Nat.le_of_ble_eq_true rfl) (Nat.le_of_ble_eq_true rfl) rfl rfl
set_option maxHeartbeats 4000000 in
set_option maxRecDepth 100000 in
theorem zl_close_t1 (l : Launch) (D : va_G) (hst : l.stackTraces = false) (c : Nat → ClassId) (a n : Nat → Nat) (A : Nat → Nat → Int32) (B : Nat → Int64) (E : Nat → Nat → Int32) (o : Nat) (f : Nat → Int64)  (x : Int32) (hN : zf_N n) (hx : ¬ zf_isIn x 0 (nI (n 1) - 1)) : ze_Q l yL_close wsL_close 8 124 1 6 D c ((ze_wC c a n A B E) ++ [(o, .inl (c 6, 1, .inr (.inl f)))]) [.ref (a 0), .int x, .ref o] 1 ((ze_wC c a n A B E) ++ [(o, .inl (c 6, 1, .inr (.inl f)))]) := by
  intro sz
  refine zq_start (cc := cL_close) (maxL := 4) (ret := (some .int)) (own := RL) (by decide) rfl rfl (Nat.le_of_ble_eq_true rfl) ?_
  obtain ⟨hn0, hn1, hn2, hn3, hn4⟩ := id hN
  intro p e s m_ below meth cd F ls hF hsz E0 hXB hNc htab
  obtain ⟨S, hr, hlocks, hK, hW, hA, hl⟩ := E0
  have hX_ := S.1
  have hB_ := S.2.1
  have hts := S.2.2.2.2
  have hl : lv_has ls 4 [(0, .ref (a 0)), (1, .int x), (2, .ref o)] := hl
  have w0 := hts (.classLink RL 19 "java/lang/IndexOutOfBoundsException") (List.mem_cons_of_mem _ (List.mem_append_left _ (List.mem_append_left _ (List.mem_append_left _ (List.mem_append_left _ (List.mem_append_left _ (List.mem_append_left _ (List.mem_of_getElem? (i := 0) rfl))))))))
  refine lv_aload_n hX_ hB_ dL_close_0 rfl (lv_at hl 2 rfl) ?_
  refine lv_iconst (v := 0) hX_ hB_ dL_close_1 (by decide) ?_
  refine lv_aload_n hX_ hB_ dL_close_2 rfl (lv_at hl 0 rfl) ?_
  refine lv_iload_n hX_ hB_ dL_close_3 rfl (lv_at hl 1 rfl) ?_
  refine zx_FVc (As := [.int x]) (rest := [.int 0, .ref o]) (ci := 8) (q0 := 0) (k := (RX8, TX8, 8)) S (zt_close_t1 l D hst c a n A B E x hN hx) (cwV 1 hts gL_close_X8_close rfl rfl rfl (by decide +kernel) ⟨(Nat.le_of_ble_eq_true rfl), (Nat.le_of_ble_eq_true rfl)⟩) hK hW hXB hA rfl (ze_at0 0 rfl) rfl hl.1 rfl (lv_room (Nat.le_of_ble_eq_true rfl)) dL_close_4 ⟨(Nat.le_of_ble_eq_true rfl), (Nat.le_of_ble_eq_true rfl)⟩ [] ⟨0, 9, 12, 19⟩ [⟨0, 9, 15, 13⟩, ⟨0, 9, 18, 30⟩] htab (by intro z hz; cases hz) (by decide) (by decide) w0 (va_Nw.use rfl (hXB.2.2.2 _ (List.mem_of_getElem? (i := 7) rfl))) (fun q9 H locs hW => ?_)
  refine lv_astore_n (lv' := [(3, .ref q9), (0, .ref (a 0)), (1, .int x), (2, .ref o)]) hX_ hB_ dL_close_12 rfl hl (by decide) rfl (fun ls hl => ?_)
  refine lv_iconst (v := 1) hX_ hB_ dL_close_13 (by decide) ?_
  exact ze_iret S hr hlocks hF hK hW rfl dL_close_14 (Nat.le_of_ble_eq_true rfl) (Nat.le_of_ble_eq_true rfl) rfl rfl
set_option maxHeartbeats 4000000 in
set_option maxRecDepth 100000 in
theorem zl_close_t2 (l : Launch) (D : va_G) (hst : l.stackTraces = false) (c : Nat → ClassId) (a n : Nat → Nat) (A : Nat → Nat → Int32) (B : Nat → Int64) (E : Nat → Nat → Int32) (o : Nat) (f : Nat → Int64)  (j : Nat) (hN : zf_N n) (hj : j < n 1) (h4 : ¬ A 4 j = 0) : ze_Q l yL_close wsL_close 7 103 1 6 D c ((ze_wC c a n A B E) ++ [(o, .inl (c 6, 1, .inr (.inl f)))]) [.ref (a 0), .int (nI j), .ref o] 2 ((ze_wC c a n A B E) ++ [(o, .inl (c 6, 1, .inr (.inl f)))]) := by
  intro sz
  refine zq_start (cc := cL_close) (maxL := 4) (ret := (some .int)) (own := RL) (by decide) rfl rfl (Nat.le_of_ble_eq_true rfl) ?_
  obtain ⟨hn0, hn1, hn2, hn3, hn4⟩ := id hN
  intro p e s m_ below meth cd F ls hF hsz E0 hXB hNc htab
  obtain ⟨S, hr, hlocks, hK, hW, hA, hl⟩ := E0
  have hX_ := S.1
  have hB_ := S.2.1
  have hts := S.2.2.2.2
  have hl : lv_has ls 4 [(0, .ref (a 0)), (1, .int (nI j)), (2, .ref o)] := hl
  have w0 := hts (.classLink RL 19 "java/lang/IndexOutOfBoundsException") (List.mem_cons_of_mem _ (List.mem_append_left _ (List.mem_append_left _ (List.mem_append_left _ (List.mem_append_left _ (List.mem_append_left _ (List.mem_append_left _ (List.mem_of_getElem? (i := 0) rfl))))))))
  have w1 := hts (.classLink RL 13 "java/lang/IllegalStateException") (List.mem_cons_of_mem _ (List.mem_append_left _ (List.mem_append_left _ (List.mem_append_left _ (List.mem_append_left _ (List.mem_append_left _ (List.mem_append_left _ (List.mem_of_getElem? (i := 1) rfl))))))))
  refine lv_aload_n hX_ hB_ dL_close_0 rfl (lv_at hl 2 rfl) ?_
  refine lv_iconst (v := 0) hX_ hB_ dL_close_1 (by decide) ?_
  refine lv_aload_n hX_ hB_ dL_close_2 rfl (lv_at hl 0 rfl) ?_
  refine lv_iload_n hX_ hB_ dL_close_3 rfl (lv_at hl 1 rfl) ?_
  refine zx_FVc (As := [.int (nI j)]) (rest := [.int 0, .ref o]) (ci := 8) (q0 := 0) (k := (RX8, TX8, 8)) S (zt_close_t2 l D hst c a n A B E j hN hj h4) (cwV 1 hts gL_close_X8_close rfl rfl rfl (by decide +kernel) ⟨(Nat.le_of_ble_eq_true rfl), (Nat.le_of_ble_eq_true rfl)⟩) hK hW hXB hA rfl (ze_at0 0 rfl) rfl hl.1 rfl (lv_room (Nat.le_of_ble_eq_true rfl)) dL_close_4 ⟨(Nat.le_of_ble_eq_true rfl), (Nat.le_of_ble_eq_true rfl)⟩ [⟨0, 9, 12, 19⟩] ⟨0, 9, 15, 13⟩ [⟨0, 9, 18, 30⟩] htab (by
      intro z hz
      simp only [List.mem_cons, List.not_mem_nil, or_false] at hz
      rcases hz with rfl
      exact Or.inr ⟨by decide, "java/lang/IndexOutOfBoundsException", w0, hNc ("java/lang/IllegalStateException", "java/lang/IndexOutOfBoundsException") (by decide +kernel)⟩) (by decide) (by decide) w1 (va_Nw.use rfl (hXB.2.2.2 _ (List.mem_of_getElem? (i := 3) rfl))) (fun q9 H locs hW => ?_)
  refine lv_astore_n (lv' := [(3, .ref q9), (0, .ref (a 0)), (1, .int (nI j)), (2, .ref o)]) hX_ hB_ dL_close_15 rfl hl (by decide) rfl (fun ls hl => ?_)
  refine lv_iconst (v := 2) hX_ hB_ dL_close_16 (by decide) ?_
  exact ze_iret S hr hlocks hF hK hW rfl dL_close_17 (Nat.le_of_ble_eq_true rfl) (Nat.le_of_ble_eq_true rfl) rfl rfl
set_option maxHeartbeats 4000000 in
set_option maxRecDepth 100000 in
theorem zl_close_t3 (l : Launch) (D : va_G) (hst : l.stackTraces = false) (c : Nat → ClassId) (a n : Nat → Nat) (A : Nat → Nat → Int32) (B : Nat → Int64) (E : Nat → Nat → Int32) (o : Nat) (f : Nat → Int64)  (j : Nat) (hN : zf_N n) (hj : j < n 1) (hS : zf_S n A) (hE : ∀ x, zf_site n x → zf_site n (E 0 (ze_ix x))) (h4 : A 4 j = 0) (hg : ¬ zf_gapC A (E 0) j ≤ 10) : ze_Q l yL_close wsL_close 7 103 1 6 D c ((ze_wC c a n A B E) ++ [(o, .inl (c 6, 1, .inr (.inl f)))]) [.ref (a 0), .int (nI j), .ref o] 3 ((ze_wC c a n A B E) ++ [(o, .inl (c 6, 1, .inr (.inl f)))]) := by
  intro sz
  refine zq_start (cc := cL_close) (maxL := 4) (ret := (some .int)) (own := RL) (by decide) rfl rfl (Nat.le_of_ble_eq_true rfl) ?_
  obtain ⟨hn0, hn1, hn2, hn3, hn4⟩ := id hN
  intro p e s m_ below meth cd F ls hF hsz E0 hXB hNc htab
  obtain ⟨S, hr, hlocks, hK, hW, hA, hl⟩ := E0
  have hX_ := S.1
  have hB_ := S.2.1
  have hts := S.2.2.2.2
  have hl : lv_has ls 4 [(0, .ref (a 0)), (1, .int (nI j)), (2, .ref o)] := hl
  have w0 := hts (.classLink RL 19 "java/lang/IndexOutOfBoundsException") (List.mem_cons_of_mem _ (List.mem_append_left _ (List.mem_append_left _ (List.mem_append_left _ (List.mem_append_left _ (List.mem_append_left _ (List.mem_append_left _ (List.mem_of_getElem? (i := 0) rfl))))))))
  have w1 := hts (.classLink RL 13 "java/lang/IllegalStateException") (List.mem_cons_of_mem _ (List.mem_append_left _ (List.mem_append_left _ (List.mem_append_left _ (List.mem_append_left _ (List.mem_append_left _ (List.mem_append_left _ (List.mem_of_getElem? (i := 1) rfl))))))))
  have w2 := hts (.classLink RL 30 "java/lang/UnsupportedOperationException") (List.mem_cons_of_mem _ (List.mem_append_left _ (List.mem_append_left _ (List.mem_append_left _ (List.mem_append_left _ (List.mem_append_left _ (List.mem_append_left _ (List.mem_of_getElem? (i := 2) rfl))))))))
  refine lv_aload_n hX_ hB_ dL_close_0 rfl (lv_at hl 2 rfl) ?_
  refine lv_iconst (v := 0) hX_ hB_ dL_close_1 (by decide) ?_
  refine lv_aload_n hX_ hB_ dL_close_2 rfl (lv_at hl 0 rfl) ?_
  refine lv_iload_n hX_ hB_ dL_close_3 rfl (lv_at hl 1 rfl) ?_
  refine zx_FVc (As := [.int (nI j)]) (rest := [.int 0, .ref o]) (ci := 8) (q0 := 0) (k := (RX8, TX8, 8)) S (zt_close_t3 l D hst c a n A B E j hN hj hS hE h4 hg) (cwV 1 hts gL_close_X8_close rfl rfl rfl (by decide +kernel) ⟨(Nat.le_of_ble_eq_true rfl), (Nat.le_of_ble_eq_true rfl)⟩) hK hW hXB hA rfl (ze_at0 0 rfl) rfl hl.1 rfl (lv_room (Nat.le_of_ble_eq_true rfl)) dL_close_4 ⟨(Nat.le_of_ble_eq_true rfl), (Nat.le_of_ble_eq_true rfl)⟩ [⟨0, 9, 12, 19⟩, ⟨0, 9, 15, 13⟩] ⟨0, 9, 18, 30⟩ [] htab (by
      intro z hz
      simp only [List.mem_cons, List.not_mem_nil, or_false] at hz
      rcases hz with rfl | rfl
      · exact Or.inr ⟨by decide, "java/lang/IndexOutOfBoundsException", w0, hNc ("java/lang/UnsupportedOperationException", "java/lang/IndexOutOfBoundsException") (by decide +kernel)⟩
      · exact Or.inr ⟨by decide, "java/lang/IllegalStateException", w1, hNc ("java/lang/UnsupportedOperationException", "java/lang/IllegalStateException") (by decide +kernel)⟩) (by decide) (by decide) w2 (va_Nw.use rfl (hXB.2.2.2 _ (List.mem_of_getElem? (i := 5) rfl))) (fun q9 H locs hW => ?_)
  refine lv_astore_n (lv' := [(3, .ref q9), (0, .ref (a 0)), (1, .int (nI j)), (2, .ref o)]) hX_ hB_ dL_close_18 rfl hl (by decide) rfl (fun ls hl => ?_)
  refine lv_iconst (v := 3) hX_ hB_ dL_close_19 (by decide) ?_
  exact ze_iret S hr hlocks hF hK hW rfl dL_close_20 (Nat.le_of_ble_eq_true rfl) (Nat.le_of_ble_eq_true rfl) rfl rfl
set_option maxHeartbeats 4000000 in
set_option maxRecDepth 100000 in
theorem zl_demand_f (l : Launch) (D : va_G) (c : Nat → ClassId) (a n : Nat → Nat) (A : Nat → Nat → Int32) (B : Nat → Int64) (E : Nat → Nat → Int32) (o : Nat) (f : Nat → Int64)  (j : Nat) (hN : zf_N n) (hj : j < n 0) (hS : zf_S n A) : ze_Q l yL_demand wsL_demand 3 66 0 0 D c ((ze_wC c a n A B E) ++ [(o, .inl (c 6, 1, .inr (.inl f)))]) [.ref (a 0), .int (nI j), .ref o] 0 ((ze_wC c a n A B E) ++ [(o, .inl (c 6, 1, .inr (.inl (vp_updL f 0 ((zf_demanded A (E 0) (E 0 j) (n 4)).toInt64)))))]) := by
  intro sz
  refine zq_start (cc := cL_demand) (maxL := 4) (ret := (some .int)) (own := RL) (by decide) rfl rfl (Nat.le_of_ble_eq_true rfl) ?_
  obtain ⟨hn0, hn1, hn2, hn3, hn4⟩ := id hN
  intro p e s m_ below meth cd F ls hF hsz E0 hXB hNc htab
  obtain ⟨S, hr, hlocks, hK, hW, hA, hl⟩ := E0
  have hX_ := S.1
  have hB_ := S.2.1
  have hts := S.2.2.2.2
  have hl : lv_has ls 4 [(0, .ref (a 0)), (1, .int (nI j)), (2, .ref o)] := hl
  refine lv_aload_n hX_ hB_ dL_demand_0 rfl (lv_at hl 2 rfl) ?_
  refine lv_iconst (v := 0) hX_ hB_ dL_demand_1 (by decide) ?_
  refine lv_aload_n hX_ hB_ dL_demand_2 rfl (lv_at hl 0 rfl) ?_
  refine lv_iload_n hX_ hB_ dL_demand_3 rfl (lv_at hl 1 rfl) ?_
  refine ze_FVi (As := [.int (nI j)]) (rest := [.int 0, .ref o]) (ci := 8) (q0 := 0) (k := (RX8, TX8, 8)) S (zp_demand_f l D c a n A B E j hN hj hS) (cwV 1 hts gL_demand_X8_demand rfl rfl rfl (by decide +kernel) ⟨Nat.le_of_ble_eq_true rfl, Nat.le_of_ble_eq_true rfl⟩) hK hW hA rfl (ze_at0 0 rfl) rfl hl.1 rfl (lv_room (Nat.le_of_ble_eq_true rfl)) dL_demand_4 ⟨Nat.le_of_ble_eq_true rfl, Nat.le_of_ble_eq_true rfl⟩ (fun H locs hW => ?_)
  refine lv_i2l (v := (zf_demanded A (E 0) (E 0 j) (n 4)).toInt64) hX_ hB_ dL_demand_7 rfl ?_
  refine ze_last hX_ hB_ hK hW ((ze_wC c a n A B E).length + 0) (i := 0) (ze_appL (k := 0) rfl) (by decide) (by decide) dL_demand_8 (ze_appset rfl) (fun H locs hW => ?_)
  have hW : ze_W D ((ze_wC c a n A B E) ++ [(o, .inl (c 6, 1, .inr (.inl (vp_updL f 0 ((zf_demanded A (E 0) (E 0 j) (n 4)).toInt64)))))]) F s.heap _ _ := hW
  refine lv_goto (tgt := 15) hX_ hB_ dL_demand_9 (by decide) ?_
  refine lv_iconst (v := 0) hX_ hB_ dL_demand_15 (by decide) ?_
  exact ze_iret S hr hlocks hF hK hW rfl dL_demand_16 (Nat.le_of_ble_eq_true rfl) (Nat.le_of_ble_eq_true rfl) rfl rfl
set_option maxHeartbeats 4000000 in
set_option maxRecDepth 100000 in
theorem zl_demand_t1 (l : Launch) (D : va_G) (hst : l.stackTraces = false) (c : Nat → ClassId) (a n : Nat → Nat) (A : Nat → Nat → Int32) (B : Nat → Int64) (E : Nat → Nat → Int32) (o : Nat) (f : Nat → Int64)  (x : Int32) (hN : zf_N n) (hx : ¬ zf_isIn x 0 (nI (n 0) - 1)) : ze_Q l yL_demand wsL_demand 9 145 1 6 D c ((ze_wC c a n A B E) ++ [(o, .inl (c 6, 1, .inr (.inl f)))]) [.ref (a 0), .int x, .ref o] 1 ((ze_wC c a n A B E) ++ [(o, .inl (c 6, 1, .inr (.inl f)))]) := by
  intro sz
  refine zq_start (cc := cL_demand) (maxL := 4) (ret := (some .int)) (own := RL) (by decide) rfl rfl (Nat.le_of_ble_eq_true rfl) ?_
  obtain ⟨hn0, hn1, hn2, hn3, hn4⟩ := id hN
  intro p e s m_ below meth cd F ls hF hsz E0 hXB hNc htab
  obtain ⟨S, hr, hlocks, hK, hW, hA, hl⟩ := E0
  have hX_ := S.1
  have hB_ := S.2.1
  have hts := S.2.2.2.2
  have hl : lv_has ls 4 [(0, .ref (a 0)), (1, .int x), (2, .ref o)] := hl
  have w0 := hts (.classLink RL 19 "java/lang/IndexOutOfBoundsException") (List.mem_cons_of_mem _ (List.mem_append_left _ (List.mem_append_left _ (List.mem_append_left _ (List.mem_append_left _ (List.mem_append_left _ (List.mem_append_left _ (List.mem_of_getElem? (i := 0) rfl))))))))
  refine lv_aload_n hX_ hB_ dL_demand_0 rfl (lv_at hl 2 rfl) ?_
  refine lv_iconst (v := 0) hX_ hB_ dL_demand_1 (by decide) ?_
  refine lv_aload_n hX_ hB_ dL_demand_2 rfl (lv_at hl 0 rfl) ?_
  refine lv_iload_n hX_ hB_ dL_demand_3 rfl (lv_at hl 1 rfl) ?_
  refine zx_FVc (As := [.int x]) (rest := [.int 0, .ref o]) (ci := 8) (q0 := 0) (k := (RX8, TX8, 8)) S (zt_demand_t1 l D hst c a n A B E x hN hx) (cwV 1 hts gL_demand_X8_demand rfl rfl rfl (by decide +kernel) ⟨(Nat.le_of_ble_eq_true rfl), (Nat.le_of_ble_eq_true rfl)⟩) hK hW hXB hA rfl (ze_at0 0 rfl) rfl hl.1 rfl (lv_room (Nat.le_of_ble_eq_true rfl)) dL_demand_4 ⟨(Nat.le_of_ble_eq_true rfl), (Nat.le_of_ble_eq_true rfl)⟩ [] ⟨0, 9, 12, 19⟩ [] htab (by intro z hz; cases hz) (by decide) (by decide) w0 (va_Nw.use rfl (hXB.2.2.2 _ (List.mem_of_getElem? (i := 7) rfl))) (fun q9 H locs hW => ?_)
  refine lv_astore_n (lv' := [(3, .ref q9), (0, .ref (a 0)), (1, .int x), (2, .ref o)]) hX_ hB_ dL_demand_12 rfl hl (by decide) rfl (fun ls hl => ?_)
  refine lv_iconst (v := 1) hX_ hB_ dL_demand_13 (by decide) ?_
  exact ze_iret S hr hlocks hF hK hW rfl dL_demand_14 (Nat.le_of_ble_eq_true rfl) (Nat.le_of_ble_eq_true rfl) rfl rfl
set_option maxHeartbeats 4000000 in
set_option maxRecDepth 100000 in
theorem zl_flow_f (l : Launch) (D : va_G) (c : Nat → ClassId) (a n : Nat → Nat) (A : Nat → Nat → Int32) (B : Nat → Int64) (E : Nat → Nat → Int32) (o : Nat) (f : Nat → Int64)  (j : Nat) (hN : zf_N n) (hj : j < n 3) : ze_Q l yL_flow wsL_flow 3 63 0 0 D c ((ze_wC c a n A B E) ++ [(o, .inl (c 6, 1, .inr (.inl f)))]) [.ref (a 0), .int (nI j), .ref o] 0 ((ze_wC c a n A B E) ++ [(o, .inl (c 6, 1, .inr (.inl (vp_updL f 0 ((A 18 j).toInt64)))))]) := by
  intro sz
  refine zq_start (cc := cL_flow) (maxL := 4) (ret := (some .int)) (own := RL) (by decide) rfl rfl (Nat.le_of_ble_eq_true rfl) ?_
  obtain ⟨hn0, hn1, hn2, hn3, hn4⟩ := id hN
  intro p e s m_ below meth cd F ls hF hsz E0 hXB hNc htab
  obtain ⟨S, hr, hlocks, hK, hW, hA, hl⟩ := E0
  have hX_ := S.1
  have hB_ := S.2.1
  have hts := S.2.2.2.2
  have hl : lv_has ls 4 [(0, .ref (a 0)), (1, .int (nI j)), (2, .ref o)] := hl
  refine lv_aload_n hX_ hB_ dL_flow_0 rfl (lv_at hl 2 rfl) ?_
  refine lv_iconst (v := 0) hX_ hB_ dL_flow_1 (by decide) ?_
  refine lv_aload_n hX_ hB_ dL_flow_2 rfl (lv_at hl 0 rfl) ?_
  refine lv_iload_n hX_ hB_ dL_flow_3 rfl (lv_at hl 1 rfl) ?_
  refine ze_FVi (As := [.int (nI j)]) (rest := [.int 0, .ref o]) (ci := 8) (q0 := 0) (k := (RX8, TX8, 8)) S (zp_flow_f l D c a n A B E j hN hj) (cwV 1 hts gL_flow_X8_flow rfl rfl rfl (by decide +kernel) ⟨Nat.le_of_ble_eq_true rfl, Nat.le_of_ble_eq_true rfl⟩) hK hW hA rfl (ze_at0 0 rfl) rfl hl.1 rfl (lv_room (Nat.le_of_ble_eq_true rfl)) dL_flow_4 ⟨Nat.le_of_ble_eq_true rfl, Nat.le_of_ble_eq_true rfl⟩ (fun H locs hW => ?_)
  refine lv_i2l (v := (A 18 j).toInt64) hX_ hB_ dL_flow_7 rfl ?_
  refine ze_last hX_ hB_ hK hW ((ze_wC c a n A B E).length + 0) (i := 0) (ze_appL (k := 0) rfl) (by decide) (by decide) dL_flow_8 (ze_appset rfl) (fun H locs hW => ?_)
  have hW : ze_W D ((ze_wC c a n A B E) ++ [(o, .inl (c 6, 1, .inr (.inl (vp_updL f 0 ((A 18 j).toInt64)))))]) F s.heap _ _ := hW
  refine lv_goto (tgt := 15) hX_ hB_ dL_flow_9 (by decide) ?_
  refine lv_iconst (v := 0) hX_ hB_ dL_flow_15 (by decide) ?_
  exact ze_iret S hr hlocks hF hK hW rfl dL_flow_16 (Nat.le_of_ble_eq_true rfl) (Nat.le_of_ble_eq_true rfl) rfl rfl
set_option maxHeartbeats 4000000 in
set_option maxRecDepth 100000 in
theorem zl_flow_t1 (l : Launch) (D : va_G) (hst : l.stackTraces = false) (c : Nat → ClassId) (a n : Nat → Nat) (A : Nat → Nat → Int32) (B : Nat → Int64) (E : Nat → Nat → Int32) (o : Nat) (f : Nat → Int64)  (x : Int32) (hN : zf_N n) (hx : ¬ zf_isIn x 0 (nI (n 3) - 1)) : ze_Q l yL_flow wsL_flow 9 145 1 6 D c ((ze_wC c a n A B E) ++ [(o, .inl (c 6, 1, .inr (.inl f)))]) [.ref (a 0), .int x, .ref o] 1 ((ze_wC c a n A B E) ++ [(o, .inl (c 6, 1, .inr (.inl f)))]) := by
  intro sz
  refine zq_start (cc := cL_flow) (maxL := 4) (ret := (some .int)) (own := RL) (by decide) rfl rfl (Nat.le_of_ble_eq_true rfl) ?_
  obtain ⟨hn0, hn1, hn2, hn3, hn4⟩ := id hN
  intro p e s m_ below meth cd F ls hF hsz E0 hXB hNc htab
  obtain ⟨S, hr, hlocks, hK, hW, hA, hl⟩ := E0
  have hX_ := S.1
  have hB_ := S.2.1
  have hts := S.2.2.2.2
  have hl : lv_has ls 4 [(0, .ref (a 0)), (1, .int x), (2, .ref o)] := hl
  have w0 := hts (.classLink RL 19 "java/lang/IndexOutOfBoundsException") (List.mem_cons_of_mem _ (List.mem_append_left _ (List.mem_append_left _ (List.mem_append_left _ (List.mem_append_left _ (List.mem_of_getElem? (i := 0) rfl))))))
  refine lv_aload_n hX_ hB_ dL_flow_0 rfl (lv_at hl 2 rfl) ?_
  refine lv_iconst (v := 0) hX_ hB_ dL_flow_1 (by decide) ?_
  refine lv_aload_n hX_ hB_ dL_flow_2 rfl (lv_at hl 0 rfl) ?_
  refine lv_iload_n hX_ hB_ dL_flow_3 rfl (lv_at hl 1 rfl) ?_
  refine zx_FVc (As := [.int x]) (rest := [.int 0, .ref o]) (ci := 8) (q0 := 0) (k := (RX8, TX8, 8)) S (zt_flow_t1 l D hst c a n A B E x hN hx) (cwV 1 hts gL_flow_X8_flow rfl rfl rfl (by decide +kernel) ⟨(Nat.le_of_ble_eq_true rfl), (Nat.le_of_ble_eq_true rfl)⟩) hK hW hXB hA rfl (ze_at0 0 rfl) rfl hl.1 rfl (lv_room (Nat.le_of_ble_eq_true rfl)) dL_flow_4 ⟨(Nat.le_of_ble_eq_true rfl), (Nat.le_of_ble_eq_true rfl)⟩ [] ⟨0, 9, 12, 19⟩ [] htab (by intro z hz; cases hz) (by decide) (by decide) w0 (va_Nw.use rfl (hXB.2.2.2 _ (List.mem_of_getElem? (i := 7) rfl))) (fun q9 H locs hW => ?_)
  refine lv_astore_n (lv' := [(3, .ref q9), (0, .ref (a 0)), (1, .int x), (2, .ref o)]) hX_ hB_ dL_flow_12 rfl hl (by decide) rfl (fun ls hl => ?_)
  refine lv_iconst (v := 1) hX_ hB_ dL_flow_13 (by decide) ?_
  exact ze_iret S hr hlocks hF hK hW rfl dL_flow_14 (Nat.le_of_ble_eq_true rfl) (Nat.le_of_ble_eq_true rfl) rfl rfl
set_option maxHeartbeats 4000000 in
set_option maxRecDepth 100000 in
theorem zl_fuel_f (l : Launch) (D : va_G) (c : Nat → ClassId) (a n : Nat → Nat) (A : Nat → Nat → Int32) (B : Nat → Int64) (E : Nat → Nat → Int32) (o : Nat) (f : Nat → Int64)  (j : Nat) (hN : zf_N n) (hj : j < n 2) : ze_Q l yL_fuel wsL_fuel 3 63 0 0 D c ((ze_wC c a n A B E) ++ [(o, .inl (c 6, 1, .inr (.inl f)))]) [.ref (a 0), .int (nI j), .ref o] 0 ((ze_wC c a n A B E) ++ [(o, .inl (c 6, 1, .inr (.inl (vp_updL f 0 ((A 10 j).toInt64)))))]) := by
  intro sz
  refine zq_start (cc := cL_fuel) (maxL := 4) (ret := (some .int)) (own := RL) (by decide) rfl rfl (Nat.le_of_ble_eq_true rfl) ?_
  obtain ⟨hn0, hn1, hn2, hn3, hn4⟩ := id hN
  intro p e s m_ below meth cd F ls hF hsz E0 hXB hNc htab
  obtain ⟨S, hr, hlocks, hK, hW, hA, hl⟩ := E0
  have hX_ := S.1
  have hB_ := S.2.1
  have hts := S.2.2.2.2
  have hl : lv_has ls 4 [(0, .ref (a 0)), (1, .int (nI j)), (2, .ref o)] := hl
  refine lv_aload_n hX_ hB_ dL_fuel_0 rfl (lv_at hl 2 rfl) ?_
  refine lv_iconst (v := 0) hX_ hB_ dL_fuel_1 (by decide) ?_
  refine lv_aload_n hX_ hB_ dL_fuel_2 rfl (lv_at hl 0 rfl) ?_
  refine lv_iload_n hX_ hB_ dL_fuel_3 rfl (lv_at hl 1 rfl) ?_
  refine ze_FVi (As := [.int (nI j)]) (rest := [.int 0, .ref o]) (ci := 8) (q0 := 0) (k := (RX8, TX8, 8)) S (zp_fuel_f l D c a n A B E j hN hj) (cwV 1 hts gL_fuel_X8_fuel rfl rfl rfl (by decide +kernel) ⟨Nat.le_of_ble_eq_true rfl, Nat.le_of_ble_eq_true rfl⟩) hK hW hA rfl (ze_at0 0 rfl) rfl hl.1 rfl (lv_room (Nat.le_of_ble_eq_true rfl)) dL_fuel_4 ⟨Nat.le_of_ble_eq_true rfl, Nat.le_of_ble_eq_true rfl⟩ (fun H locs hW => ?_)
  refine lv_i2l (v := (A 10 j).toInt64) hX_ hB_ dL_fuel_7 rfl ?_
  refine ze_last hX_ hB_ hK hW ((ze_wC c a n A B E).length + 0) (i := 0) (ze_appL (k := 0) rfl) (by decide) (by decide) dL_fuel_8 (ze_appset rfl) (fun H locs hW => ?_)
  have hW : ze_W D ((ze_wC c a n A B E) ++ [(o, .inl (c 6, 1, .inr (.inl (vp_updL f 0 ((A 10 j).toInt64)))))]) F s.heap _ _ := hW
  refine lv_goto (tgt := 15) hX_ hB_ dL_fuel_9 (by decide) ?_
  refine lv_iconst (v := 0) hX_ hB_ dL_fuel_15 (by decide) ?_
  exact ze_iret S hr hlocks hF hK hW rfl dL_fuel_16 (Nat.le_of_ble_eq_true rfl) (Nat.le_of_ble_eq_true rfl) rfl rfl
set_option maxHeartbeats 4000000 in
set_option maxRecDepth 100000 in
theorem zl_fuel_t1 (l : Launch) (D : va_G) (hst : l.stackTraces = false) (c : Nat → ClassId) (a n : Nat → Nat) (A : Nat → Nat → Int32) (B : Nat → Int64) (E : Nat → Nat → Int32) (o : Nat) (f : Nat → Int64)  (x : Int32) (hN : zf_N n) (hx : ¬ zf_isIn x 0 (nI (n 2) - 1)) : ze_Q l yL_fuel wsL_fuel 9 145 1 6 D c ((ze_wC c a n A B E) ++ [(o, .inl (c 6, 1, .inr (.inl f)))]) [.ref (a 0), .int x, .ref o] 1 ((ze_wC c a n A B E) ++ [(o, .inl (c 6, 1, .inr (.inl f)))]) := by
  intro sz
  refine zq_start (cc := cL_fuel) (maxL := 4) (ret := (some .int)) (own := RL) (by decide) rfl rfl (Nat.le_of_ble_eq_true rfl) ?_
  obtain ⟨hn0, hn1, hn2, hn3, hn4⟩ := id hN
  intro p e s m_ below meth cd F ls hF hsz E0 hXB hNc htab
  obtain ⟨S, hr, hlocks, hK, hW, hA, hl⟩ := E0
  have hX_ := S.1
  have hB_ := S.2.1
  have hts := S.2.2.2.2
  have hl : lv_has ls 4 [(0, .ref (a 0)), (1, .int x), (2, .ref o)] := hl
  have w0 := hts (.classLink RL 19 "java/lang/IndexOutOfBoundsException") (List.mem_cons_of_mem _ (List.mem_append_left _ (List.mem_append_left _ (List.mem_append_left _ (List.mem_append_left _ (List.mem_of_getElem? (i := 0) rfl))))))
  refine lv_aload_n hX_ hB_ dL_fuel_0 rfl (lv_at hl 2 rfl) ?_
  refine lv_iconst (v := 0) hX_ hB_ dL_fuel_1 (by decide) ?_
  refine lv_aload_n hX_ hB_ dL_fuel_2 rfl (lv_at hl 0 rfl) ?_
  refine lv_iload_n hX_ hB_ dL_fuel_3 rfl (lv_at hl 1 rfl) ?_
  refine zx_FVc (As := [.int x]) (rest := [.int 0, .ref o]) (ci := 8) (q0 := 0) (k := (RX8, TX8, 8)) S (zt_fuel_t1 l D hst c a n A B E x hN hx) (cwV 1 hts gL_fuel_X8_fuel rfl rfl rfl (by decide +kernel) ⟨(Nat.le_of_ble_eq_true rfl), (Nat.le_of_ble_eq_true rfl)⟩) hK hW hXB hA rfl (ze_at0 0 rfl) rfl hl.1 rfl (lv_room (Nat.le_of_ble_eq_true rfl)) dL_fuel_4 ⟨(Nat.le_of_ble_eq_true rfl), (Nat.le_of_ble_eq_true rfl)⟩ [] ⟨0, 9, 12, 19⟩ [] htab (by intro z hz; cases hz) (by decide) (by decide) w0 (va_Nw.use rfl (hXB.2.2.2 _ (List.mem_of_getElem? (i := 7) rfl))) (fun q9 H locs hW => ?_)
  refine lv_astore_n (lv' := [(3, .ref q9), (0, .ref (a 0)), (1, .int x), (2, .ref o)]) hX_ hB_ dL_fuel_12 rfl hl (by decide) rfl (fun ls hl => ?_)
  refine lv_iconst (v := 1) hX_ hB_ dL_fuel_13 (by decide) ?_
  exact ze_iret S hr hlocks hF hK hW rfl dL_fuel_14 (Nat.le_of_ble_eq_true rfl) (Nat.le_of_ble_eq_true rfl) rfl rfl
set_option maxHeartbeats 4000000 in
set_option maxRecDepth 100000 in
theorem zl_gap_f (l : Launch) (D : va_G) (c : Nat → ClassId) (a n : Nat → Nat) (A : Nat → Nat → Int32) (B : Nat → Int64) (E : Nat → Nat → Int32) (o : Nat) (f : Nat → Int64)  (j : Nat) (hN : zf_N n) (hj : j < n 1) (hS : zf_S n A) (hE : ∀ x, zf_site n x → zf_site n (E 0 (ze_ix x))) : ze_Q l yL_gap wsL_gap 4 84 0 0 D c ((ze_wC c a n A B E) ++ [(o, .inl (c 6, 1, .inr (.inl f)))]) [.ref (a 0), .int (nI j), .ref o] 0 ((ze_wC c a n A B E) ++ [(o, .inl (c 6, 1, .inr (.inl (vp_updL f 0 ((zf_gapC A (E 0) j).toInt64)))))]) := by
  intro sz
  refine zq_start (cc := cL_gap) (maxL := 4) (ret := (some .int)) (own := RL) (by decide) rfl rfl (Nat.le_of_ble_eq_true rfl) ?_
  obtain ⟨hn0, hn1, hn2, hn3, hn4⟩ := id hN
  intro p e s m_ below meth cd F ls hF hsz E0 hXB hNc htab
  obtain ⟨S, hr, hlocks, hK, hW, hA, hl⟩ := E0
  have hX_ := S.1
  have hB_ := S.2.1
  have hts := S.2.2.2.2
  have hl : lv_has ls 4 [(0, .ref (a 0)), (1, .int (nI j)), (2, .ref o)] := hl
  refine lv_aload_n hX_ hB_ dL_gap_0 rfl (lv_at hl 2 rfl) ?_
  refine lv_iconst (v := 0) hX_ hB_ dL_gap_1 (by decide) ?_
  refine lv_aload_n hX_ hB_ dL_gap_2 rfl (lv_at hl 0 rfl) ?_
  refine lv_iload_n hX_ hB_ dL_gap_3 rfl (lv_at hl 1 rfl) ?_
  refine ze_FVi (As := [.int (nI j)]) (rest := [.int 0, .ref o]) (ci := 8) (q0 := 0) (k := (RX8, TX8, 8)) S (zp_gap_f l D c a n A B E j hN hj hS hE) (cwV 1 hts gL_gap_X8_gap rfl rfl rfl (by decide +kernel) ⟨Nat.le_of_ble_eq_true rfl, Nat.le_of_ble_eq_true rfl⟩) hK hW hA rfl (ze_at0 0 rfl) rfl hl.1 rfl (lv_room (Nat.le_of_ble_eq_true rfl)) dL_gap_4 ⟨Nat.le_of_ble_eq_true rfl, Nat.le_of_ble_eq_true rfl⟩ (fun H locs hW => ?_)
  refine lv_i2l (v := (zf_gapC A (E 0) j).toInt64) hX_ hB_ dL_gap_7 rfl ?_
  refine ze_last hX_ hB_ hK hW ((ze_wC c a n A B E).length + 0) (i := 0) (ze_appL (k := 0) rfl) (by decide) (by decide) dL_gap_8 (ze_appset rfl) (fun H locs hW => ?_)
  have hW : ze_W D ((ze_wC c a n A B E) ++ [(o, .inl (c 6, 1, .inr (.inl (vp_updL f 0 ((zf_gapC A (E 0) j).toInt64)))))]) F s.heap _ _ := hW
  refine lv_goto (tgt := 15) hX_ hB_ dL_gap_9 (by decide) ?_
  refine lv_iconst (v := 0) hX_ hB_ dL_gap_15 (by decide) ?_
  exact ze_iret S hr hlocks hF hK hW rfl dL_gap_16 (Nat.le_of_ble_eq_true rfl) (Nat.le_of_ble_eq_true rfl) rfl rfl
set_option maxHeartbeats 4000000 in
set_option maxRecDepth 100000 in
theorem zl_gap_t1 (l : Launch) (D : va_G) (hst : l.stackTraces = false) (c : Nat → ClassId) (a n : Nat → Nat) (A : Nat → Nat → Int32) (B : Nat → Int64) (E : Nat → Nat → Int32) (o : Nat) (f : Nat → Int64)  (x : Int32) (hN : zf_N n) (hx : ¬ zf_isIn x 0 (nI (n 1) - 1)) : ze_Q l yL_gap wsL_gap 8 124 1 6 D c ((ze_wC c a n A B E) ++ [(o, .inl (c 6, 1, .inr (.inl f)))]) [.ref (a 0), .int x, .ref o] 1 ((ze_wC c a n A B E) ++ [(o, .inl (c 6, 1, .inr (.inl f)))]) := by
  intro sz
  refine zq_start (cc := cL_gap) (maxL := 4) (ret := (some .int)) (own := RL) (by decide) rfl rfl (Nat.le_of_ble_eq_true rfl) ?_
  obtain ⟨hn0, hn1, hn2, hn3, hn4⟩ := id hN
  intro p e s m_ below meth cd F ls hF hsz E0 hXB hNc htab
  obtain ⟨S, hr, hlocks, hK, hW, hA, hl⟩ := E0
  have hX_ := S.1
  have hB_ := S.2.1
  have hts := S.2.2.2.2
  have hl : lv_has ls 4 [(0, .ref (a 0)), (1, .int x), (2, .ref o)] := hl
  have w0 := hts (.classLink RL 19 "java/lang/IndexOutOfBoundsException") (List.mem_cons_of_mem _ (List.mem_append_left _ (List.mem_append_left _ (List.mem_append_left _ (List.mem_append_left _ (List.mem_of_getElem? (i := 0) rfl))))))
  refine lv_aload_n hX_ hB_ dL_gap_0 rfl (lv_at hl 2 rfl) ?_
  refine lv_iconst (v := 0) hX_ hB_ dL_gap_1 (by decide) ?_
  refine lv_aload_n hX_ hB_ dL_gap_2 rfl (lv_at hl 0 rfl) ?_
  refine lv_iload_n hX_ hB_ dL_gap_3 rfl (lv_at hl 1 rfl) ?_
  refine zx_FVc (As := [.int x]) (rest := [.int 0, .ref o]) (ci := 8) (q0 := 0) (k := (RX8, TX8, 8)) S (zt_gap_t1 l D hst c a n A B E x hN hx) (cwV 1 hts gL_gap_X8_gap rfl rfl rfl (by decide +kernel) ⟨(Nat.le_of_ble_eq_true rfl), (Nat.le_of_ble_eq_true rfl)⟩) hK hW hXB hA rfl (ze_at0 0 rfl) rfl hl.1 rfl (lv_room (Nat.le_of_ble_eq_true rfl)) dL_gap_4 ⟨(Nat.le_of_ble_eq_true rfl), (Nat.le_of_ble_eq_true rfl)⟩ [] ⟨0, 9, 12, 19⟩ [] htab (by intro z hz; cases hz) (by decide) (by decide) w0 (va_Nw.use rfl (hXB.2.2.2 _ (List.mem_of_getElem? (i := 7) rfl))) (fun q9 H locs hW => ?_)
  refine lv_astore_n (lv' := [(3, .ref q9), (0, .ref (a 0)), (1, .int x), (2, .ref o)]) hX_ hB_ dL_gap_12 rfl hl (by decide) rfl (fun ls hl => ?_)
  refine lv_iconst (v := 1) hX_ hB_ dL_gap_13 (by decide) ?_
  exact ze_iret S hr hlocks hF hK hW rfl dL_gap_14 (Nat.le_of_ble_eq_true rfl) (Nat.le_of_ble_eq_true rfl) rfl rfl
set_option maxHeartbeats 4000000 in
set_option maxRecDepth 100000 in
theorem zl_given_f (l : Launch) (D : va_G) (c : Nat → ClassId) (a n : Nat → Nat) (A : Nat → Nat → Int32) (B : Nat → Int64) (E : Nat → Nat → Int32) (o : Nat) (f : Nat → Int64)  (j : Nat) (hN : zf_N n) (hj : j < n 2) : ze_Q l yL_given wsL_given 3 63 0 0 D c ((ze_wC c a n A B E) ++ [(o, .inl (c 6, 1, .inr (.inl f)))]) [.ref (a 0), .int (nI j), .ref o] 0 ((ze_wC c a n A B E) ++ [(o, .inl (c 6, 1, .inr (.inl (vp_updL f 0 ((A 12 j).toInt64)))))]) := by
  intro sz
  refine zq_start (cc := cL_given) (maxL := 4) (ret := (some .int)) (own := RL) (by decide) rfl rfl (Nat.le_of_ble_eq_true rfl) ?_
  obtain ⟨hn0, hn1, hn2, hn3, hn4⟩ := id hN
  intro p e s m_ below meth cd F ls hF hsz E0 hXB hNc htab
  obtain ⟨S, hr, hlocks, hK, hW, hA, hl⟩ := E0
  have hX_ := S.1
  have hB_ := S.2.1
  have hts := S.2.2.2.2
  have hl : lv_has ls 4 [(0, .ref (a 0)), (1, .int (nI j)), (2, .ref o)] := hl
  refine lv_aload_n hX_ hB_ dL_given_0 rfl (lv_at hl 2 rfl) ?_
  refine lv_iconst (v := 0) hX_ hB_ dL_given_1 (by decide) ?_
  refine lv_aload_n hX_ hB_ dL_given_2 rfl (lv_at hl 0 rfl) ?_
  refine lv_iload_n hX_ hB_ dL_given_3 rfl (lv_at hl 1 rfl) ?_
  refine ze_FVi (As := [.int (nI j)]) (rest := [.int 0, .ref o]) (ci := 8) (q0 := 0) (k := (RX8, TX8, 8)) S (zp_given_f l D c a n A B E j hN hj) (cwV 1 hts gL_given_X8_given rfl rfl rfl (by decide +kernel) ⟨Nat.le_of_ble_eq_true rfl, Nat.le_of_ble_eq_true rfl⟩) hK hW hA rfl (ze_at0 0 rfl) rfl hl.1 rfl (lv_room (Nat.le_of_ble_eq_true rfl)) dL_given_4 ⟨Nat.le_of_ble_eq_true rfl, Nat.le_of_ble_eq_true rfl⟩ (fun H locs hW => ?_)
  refine lv_i2l (v := (A 12 j).toInt64) hX_ hB_ dL_given_7 rfl ?_
  refine ze_last hX_ hB_ hK hW ((ze_wC c a n A B E).length + 0) (i := 0) (ze_appL (k := 0) rfl) (by decide) (by decide) dL_given_8 (ze_appset rfl) (fun H locs hW => ?_)
  have hW : ze_W D ((ze_wC c a n A B E) ++ [(o, .inl (c 6, 1, .inr (.inl (vp_updL f 0 ((A 12 j).toInt64)))))]) F s.heap _ _ := hW
  refine lv_goto (tgt := 15) hX_ hB_ dL_given_9 (by decide) ?_
  refine lv_iconst (v := 0) hX_ hB_ dL_given_15 (by decide) ?_
  exact ze_iret S hr hlocks hF hK hW rfl dL_given_16 (Nat.le_of_ble_eq_true rfl) (Nat.le_of_ble_eq_true rfl) rfl rfl
set_option maxHeartbeats 4000000 in
set_option maxRecDepth 100000 in
theorem zl_given_t1 (l : Launch) (D : va_G) (hst : l.stackTraces = false) (c : Nat → ClassId) (a n : Nat → Nat) (A : Nat → Nat → Int32) (B : Nat → Int64) (E : Nat → Nat → Int32) (o : Nat) (f : Nat → Int64)  (x : Int32) (hN : zf_N n) (hx : ¬ zf_isIn x 0 (nI (n 2) - 1)) : ze_Q l yL_given wsL_given 9 145 1 6 D c ((ze_wC c a n A B E) ++ [(o, .inl (c 6, 1, .inr (.inl f)))]) [.ref (a 0), .int x, .ref o] 1 ((ze_wC c a n A B E) ++ [(o, .inl (c 6, 1, .inr (.inl f)))]) := by
  intro sz
  refine zq_start (cc := cL_given) (maxL := 4) (ret := (some .int)) (own := RL) (by decide) rfl rfl (Nat.le_of_ble_eq_true rfl) ?_
  obtain ⟨hn0, hn1, hn2, hn3, hn4⟩ := id hN
  intro p e s m_ below meth cd F ls hF hsz E0 hXB hNc htab
  obtain ⟨S, hr, hlocks, hK, hW, hA, hl⟩ := E0
  have hX_ := S.1
  have hB_ := S.2.1
  have hts := S.2.2.2.2
  have hl : lv_has ls 4 [(0, .ref (a 0)), (1, .int x), (2, .ref o)] := hl
  have w0 := hts (.classLink RL 19 "java/lang/IndexOutOfBoundsException") (List.mem_cons_of_mem _ (List.mem_append_left _ (List.mem_append_left _ (List.mem_append_left _ (List.mem_append_left _ (List.mem_of_getElem? (i := 0) rfl))))))
  refine lv_aload_n hX_ hB_ dL_given_0 rfl (lv_at hl 2 rfl) ?_
  refine lv_iconst (v := 0) hX_ hB_ dL_given_1 (by decide) ?_
  refine lv_aload_n hX_ hB_ dL_given_2 rfl (lv_at hl 0 rfl) ?_
  refine lv_iload_n hX_ hB_ dL_given_3 rfl (lv_at hl 1 rfl) ?_
  refine zx_FVc (As := [.int x]) (rest := [.int 0, .ref o]) (ci := 8) (q0 := 0) (k := (RX8, TX8, 8)) S (zt_given_t1 l D hst c a n A B E x hN hx) (cwV 1 hts gL_given_X8_given rfl rfl rfl (by decide +kernel) ⟨(Nat.le_of_ble_eq_true rfl), (Nat.le_of_ble_eq_true rfl)⟩) hK hW hXB hA rfl (ze_at0 0 rfl) rfl hl.1 rfl (lv_room (Nat.le_of_ble_eq_true rfl)) dL_given_4 ⟨(Nat.le_of_ble_eq_true rfl), (Nat.le_of_ble_eq_true rfl)⟩ [] ⟨0, 9, 12, 19⟩ [] htab (by intro z hz; cases hz) (by decide) (by decide) w0 (va_Nw.use rfl (hXB.2.2.2 _ (List.mem_of_getElem? (i := 7) rfl))) (fun q9 H locs hW => ?_)
  refine lv_astore_n (lv' := [(3, .ref q9), (0, .ref (a 0)), (1, .int x), (2, .ref o)]) hX_ hB_ dL_given_12 rfl hl (by decide) rfl (fun ls hl => ?_)
  refine lv_iconst (v := 1) hX_ hB_ dL_given_13 (by decide) ?_
  exact ze_iret S hr hlocks hF hK hW rfl dL_given_14 (Nat.le_of_ble_eq_true rfl) (Nat.le_of_ble_eq_true rfl) rfl rfl
set_option maxHeartbeats 4000000 in
set_option maxRecDepth 100000 in
theorem zl_isKept_f (l : Launch) (D : va_G) (c : Nat → ClassId) (a n : Nat → Nat) (A : Nat → Nat → Int32) (B : Nat → Int64) (E : Nat → Nat → Int32) (o : Nat) (f : Nat → Int64)  (j : Nat) (hN : zf_N n) (hj : j < n 4) (hS : zf_S n A) : ze_Q l yL_isKept wsL_isKept 6 120 0 0 D c ((ze_wC c a n A B E) ++ [(o, .inl (c 6, 1, .inr (.inl f)))]) [.ref (a 0), .int (nI j), .ref o] 0 ((ze_wC c a n A B E) ++ [(o, .inl (c 6, 1, .inr (.inl (vp_updL f 0 (if zf_keepC n A (E 0) j (zf_bOf n A (E 0) (E 0 (ze_ix (A 19 j)))) then 1 else 0)))))]) := by
  intro sz
  refine zq_start (cc := cL_isKept) (maxL := 4) (ret := (some .int)) (own := RL) (by decide) rfl rfl (Nat.le_of_ble_eq_true rfl) ?_
  obtain ⟨hn0, hn1, hn2, hn3, hn4⟩ := id hN
  intro p e s m_ below meth cd F ls hF hsz E0 hXB hNc htab
  obtain ⟨S, hr, hlocks, hK, hW, hA, hl⟩ := E0
  have hX_ := S.1
  have hB_ := S.2.1
  have hts := S.2.2.2.2
  have hl : lv_has ls 4 [(0, .ref (a 0)), (1, .int (nI j)), (2, .ref o)] := hl
  refine lv_aload_n hX_ hB_ dL_isKept_0 rfl (lv_at hl 2 rfl) ?_
  refine lv_iconst (v := 0) hX_ hB_ dL_isKept_1 (by decide) ?_
  refine lv_aload_n hX_ hB_ dL_isKept_2 rfl (lv_at hl 0 rfl) ?_
  refine lv_iload_n hX_ hB_ dL_isKept_3 rfl (lv_at hl 1 rfl) ?_
  refine ze_FVi (As := [.int (nI j)]) (rest := [.int 0, .ref o]) (ci := 8) (q0 := 0) (k := (RX8, TX8, 8)) S (zp_isKept_f l D c a n A B E j hN hj hS) (cwV 1 hts gL_isKept_X8_isKept rfl rfl rfl (by decide +kernel) ⟨Nat.le_of_ble_eq_true rfl, Nat.le_of_ble_eq_true rfl⟩) hK hW hA rfl (ze_at0 0 rfl) rfl hl.1 rfl (lv_room (Nat.le_of_ble_eq_true rfl)) dL_isKept_4 ⟨Nat.le_of_ble_eq_true rfl, Nat.le_of_ble_eq_true rfl⟩ (fun H locs hW => ?_)
  refine lv_if_eq (tgt := 14) hX_ hB_ dL_isKept_7 (by decide) (fun c7 => ?_) (fun c7 => ?_)
  · have c7 : ¬ (zf_keepC n A (E 0) j (zf_bOf n A (E 0) (E 0 (ze_ix (A 19 j))))) := ze_bf c7
    refine lv_lconst (v := 0) hX_ hB_ dL_isKept_14 (by decide) ?_
    refine ze_last hX_ hB_ hK hW ((ze_wC c a n A B E).length + 0) (i := 0) (ze_appL (k := 0) rfl) (by decide) (by decide) dL_isKept_15 (ze_appset rfl) (fun H locs hW => ?_)
    have hW : ze_W D ((ze_wC c a n A B E) ++ [(o, .inl (c 6, 1, .inr (.inl (vp_updL f 0 0))))]) F s.heap _ _ := hW
    refine lv_goto (tgt := 22) hX_ hB_ dL_isKept_16 (by decide) ?_
    refine lv_iconst (v := 0) hX_ hB_ dL_isKept_22 (by decide) ?_
    exact ze_iret S hr hlocks hF hK hW rfl dL_isKept_23 (Nat.le_of_ble_eq_true rfl) (Nat.le_of_ble_eq_true rfl) rfl (by simp only [ze_b, eq_false c7, not_true_eq_false, not_false_eq_true, and_true, true_and, and_false, false_and, or_true, true_or, or_false, false_or, and_self, or_self, Decidable.not_not, if_true, if_false, reduceIte, reduceCtorEq, ne_eq, eq_self, Int32.lt_irrefl, Int32.le_refl, Nat.lt_irrefl])
  · have c7 : zf_keepC n A (E 0) j (zf_bOf n A (E 0) (E 0 (ze_ix (A 19 j)))) := ze_bt c7
    refine lv_lconst (v := 1) hX_ hB_ dL_isKept_10 (by decide) ?_
    refine lv_goto (tgt := 15) hX_ hB_ dL_isKept_11 (by decide) ?_
    refine ze_last hX_ hB_ hK hW ((ze_wC c a n A B E).length + 0) (i := 0) (ze_appL (k := 0) rfl) (by decide) (by decide) dL_isKept_15 (ze_appset rfl) (fun H locs hW => ?_)
    have hW : ze_W D ((ze_wC c a n A B E) ++ [(o, .inl (c 6, 1, .inr (.inl (vp_updL f 0 1))))]) F s.heap _ _ := hW
    refine lv_goto (tgt := 22) hX_ hB_ dL_isKept_16 (by decide) ?_
    refine lv_iconst (v := 0) hX_ hB_ dL_isKept_22 (by decide) ?_
    exact ze_iret S hr hlocks hF hK hW rfl dL_isKept_23 (Nat.le_of_ble_eq_true rfl) (Nat.le_of_ble_eq_true rfl) rfl (by simp only [ze_b, eq_true c7, not_true_eq_false, not_false_eq_true, and_true, true_and, and_false, false_and, or_true, true_or, or_false, false_or, and_self, or_self, Decidable.not_not, if_true, if_false, reduceIte, reduceCtorEq, ne_eq, eq_self, Int32.lt_irrefl, Int32.le_refl, Nat.lt_irrefl])
set_option maxHeartbeats 4000000 in
set_option maxRecDepth 100000 in
theorem zl_isKept_t1 (l : Launch) (D : va_G) (hst : l.stackTraces = false) (c : Nat → ClassId) (a n : Nat → Nat) (A : Nat → Nat → Int32) (B : Nat → Int64) (E : Nat → Nat → Int32) (o : Nat) (f : Nat → Int64)  (x : Int32) (hN : zf_N n) (hx : ¬ zf_isIn x 0 (nI (n 4) - 1)) : ze_Q l yL_isKept wsL_isKept 9 146 1 6 D c ((ze_wC c a n A B E) ++ [(o, .inl (c 6, 1, .inr (.inl f)))]) [.ref (a 0), .int x, .ref o] 1 ((ze_wC c a n A B E) ++ [(o, .inl (c 6, 1, .inr (.inl f)))]) := by
  intro sz
  refine zq_start (cc := cL_isKept) (maxL := 4) (ret := (some .int)) (own := RL) (by decide) rfl rfl (Nat.le_of_ble_eq_true rfl) ?_
  obtain ⟨hn0, hn1, hn2, hn3, hn4⟩ := id hN
  intro p e s m_ below meth cd F ls hF hsz E0 hXB hNc htab
  obtain ⟨S, hr, hlocks, hK, hW, hA, hl⟩ := E0
  have hX_ := S.1
  have hB_ := S.2.1
  have hts := S.2.2.2.2
  have hl : lv_has ls 4 [(0, .ref (a 0)), (1, .int x), (2, .ref o)] := hl
  have w0 := hts (.classLink RL 19 "java/lang/IndexOutOfBoundsException") (List.mem_cons_of_mem _ (List.mem_append_left _ (List.mem_append_left _ (List.mem_append_left _ (List.mem_append_left _ (List.mem_append_left _ (List.mem_append_left _ (List.mem_append_left _ (List.mem_append_left _ (List.mem_append_left _ (List.mem_append_left _ (List.mem_of_getElem? (i := 0) rfl))))))))))))
  refine lv_aload_n hX_ hB_ dL_isKept_0 rfl (lv_at hl 2 rfl) ?_
  refine lv_iconst (v := 0) hX_ hB_ dL_isKept_1 (by decide) ?_
  refine lv_aload_n hX_ hB_ dL_isKept_2 rfl (lv_at hl 0 rfl) ?_
  refine lv_iload_n hX_ hB_ dL_isKept_3 rfl (lv_at hl 1 rfl) ?_
  refine zx_FVc (As := [.int x]) (rest := [.int 0, .ref o]) (ci := 8) (q0 := 0) (k := (RX8, TX8, 8)) S (zt_isKept_t1 l D hst c a n A B E x hN hx) (cwV 1 hts gL_isKept_X8_isKept rfl rfl rfl (by decide +kernel) ⟨(Nat.le_of_ble_eq_true rfl), (Nat.le_of_ble_eq_true rfl)⟩) hK hW hXB hA rfl (ze_at0 0 rfl) rfl hl.1 rfl (lv_room (Nat.le_of_ble_eq_true rfl)) dL_isKept_4 ⟨(Nat.le_of_ble_eq_true rfl), (Nat.le_of_ble_eq_true rfl)⟩ [] ⟨0, 16, 19, 19⟩ [] htab (by intro z hz; cases hz) (by decide) (by decide) w0 (va_Nw.use rfl (hXB.2.2.2 _ (List.mem_of_getElem? (i := 7) rfl))) (fun q9 H locs hW => ?_)
  refine lv_astore_n (lv' := [(3, .ref q9), (0, .ref (a 0)), (1, .int x), (2, .ref o)]) hX_ hB_ dL_isKept_19 rfl hl (by decide) rfl (fun ls hl => ?_)
  refine lv_iconst (v := 1) hX_ hB_ dL_isKept_20 (by decide) ?_
  exact ze_iret S hr hlocks hF hK hW rfl dL_isKept_21 (Nat.le_of_ble_eq_true rfl) (Nat.le_of_ble_eq_true rfl) rfl rfl
set_option maxHeartbeats 4000000 in
set_option maxRecDepth 100000 in
theorem zl_isLit_f (l : Launch) (D : va_G) (c : Nat → ClassId) (a n : Nat → Nat) (A : Nat → Nat → Int32) (B : Nat → Int64) (E : Nat → Nat → Int32) (o : Nat) (f : Nat → Int64)  (j : Nat) (hN : zf_N n) (hj : j < n 4) : ze_Q l yL_isLit wsL_isLit 3 63 0 0 D c ((ze_wC c a n A B E) ++ [(o, .inl (c 6, 1, .inr (.inl f)))]) [.ref (a 0), .int (nI j), .ref o] 0 ((ze_wC c a n A B E) ++ [(o, .inl (c 6, 1, .inr (.inl (vp_updL f 0 (if A 5 j = 0 then 1 else 0)))))]) := by
  intro sz
  refine zq_start (cc := cL_isLit) (maxL := 4) (ret := (some .int)) (own := RL) (by decide) rfl rfl (Nat.le_of_ble_eq_true rfl) ?_
  obtain ⟨hn0, hn1, hn2, hn3, hn4⟩ := id hN
  intro p e s m_ below meth cd F ls hF hsz E0 hXB hNc htab
  obtain ⟨S, hr, hlocks, hK, hW, hA, hl⟩ := E0
  have hX_ := S.1
  have hB_ := S.2.1
  have hts := S.2.2.2.2
  have hl : lv_has ls 4 [(0, .ref (a 0)), (1, .int (nI j)), (2, .ref o)] := hl
  refine lv_aload_n hX_ hB_ dL_isLit_0 rfl (lv_at hl 2 rfl) ?_
  refine lv_iconst (v := 0) hX_ hB_ dL_isLit_1 (by decide) ?_
  refine lv_aload_n hX_ hB_ dL_isLit_2 rfl (lv_at hl 0 rfl) ?_
  refine lv_iload_n hX_ hB_ dL_isLit_3 rfl (lv_at hl 1 rfl) ?_
  refine ze_FVi (As := [.int (nI j)]) (rest := [.int 0, .ref o]) (ci := 8) (q0 := 0) (k := (RX8, TX8, 8)) S (zp_isLit_f l D c a n A B E j hN hj) (cwV 1 hts gL_isLit_X8_isLit rfl rfl rfl (by decide +kernel) ⟨Nat.le_of_ble_eq_true rfl, Nat.le_of_ble_eq_true rfl⟩) hK hW hA rfl (ze_at0 0 rfl) rfl hl.1 rfl (lv_room (Nat.le_of_ble_eq_true rfl)) dL_isLit_4 ⟨Nat.le_of_ble_eq_true rfl, Nat.le_of_ble_eq_true rfl⟩ (fun H locs hW => ?_)
  refine lv_if_eq (tgt := 14) hX_ hB_ dL_isLit_7 (by decide) (fun c7 => ?_) (fun c7 => ?_)
  · have c7 : ¬ A 5 j = 0 := ze_ntf c7
    refine lv_lconst (v := 0) hX_ hB_ dL_isLit_14 (by decide) ?_
    refine ze_last hX_ hB_ hK hW ((ze_wC c a n A B E).length + 0) (i := 0) (ze_appL (k := 0) rfl) (by decide) (by decide) dL_isLit_15 (ze_appset rfl) (fun H locs hW => ?_)
    have hW : ze_W D ((ze_wC c a n A B E) ++ [(o, .inl (c 6, 1, .inr (.inl (vp_updL f 0 0))))]) F s.heap _ _ := hW
    refine lv_goto (tgt := 22) hX_ hB_ dL_isLit_16 (by decide) ?_
    refine lv_iconst (v := 0) hX_ hB_ dL_isLit_22 (by decide) ?_
    exact ze_iret S hr hlocks hF hK hW rfl dL_isLit_23 (Nat.le_of_ble_eq_true rfl) (Nat.le_of_ble_eq_true rfl) rfl (by simp only [ze_b, eq_false c7, not_true_eq_false, not_false_eq_true, and_true, true_and, and_false, false_and, or_true, true_or, or_false, false_or, and_self, or_self, Decidable.not_not, if_true, if_false, reduceIte, reduceCtorEq, ne_eq, eq_self, Int32.lt_irrefl, Int32.le_refl, Nat.lt_irrefl])
  · have c7 : A 5 j = 0 := ze_ntt c7
    refine lv_lconst (v := 1) hX_ hB_ dL_isLit_10 (by decide) ?_
    refine lv_goto (tgt := 15) hX_ hB_ dL_isLit_11 (by decide) ?_
    refine ze_last hX_ hB_ hK hW ((ze_wC c a n A B E).length + 0) (i := 0) (ze_appL (k := 0) rfl) (by decide) (by decide) dL_isLit_15 (ze_appset rfl) (fun H locs hW => ?_)
    have hW : ze_W D ((ze_wC c a n A B E) ++ [(o, .inl (c 6, 1, .inr (.inl (vp_updL f 0 1))))]) F s.heap _ _ := hW
    refine lv_goto (tgt := 22) hX_ hB_ dL_isLit_16 (by decide) ?_
    refine lv_iconst (v := 0) hX_ hB_ dL_isLit_22 (by decide) ?_
    exact ze_iret S hr hlocks hF hK hW rfl dL_isLit_23 (Nat.le_of_ble_eq_true rfl) (Nat.le_of_ble_eq_true rfl) rfl (by simp only [ze_b, eq_true c7, not_true_eq_false, not_false_eq_true, and_true, true_and, and_false, false_and, or_true, true_or, or_false, false_or, and_self, or_self, Decidable.not_not, if_true, if_false, reduceIte, reduceCtorEq, ne_eq, eq_self, Int32.lt_irrefl, Int32.le_refl, Nat.lt_irrefl])
set_option maxHeartbeats 4000000 in
set_option maxRecDepth 100000 in
theorem zl_isLit_t1 (l : Launch) (D : va_G) (hst : l.stackTraces = false) (c : Nat → ClassId) (a n : Nat → Nat) (A : Nat → Nat → Int32) (B : Nat → Int64) (E : Nat → Nat → Int32) (o : Nat) (f : Nat → Int64)  (x : Int32) (hN : zf_N n) (hx : ¬ zf_isIn x 0 (nI (n 4) - 1)) : ze_Q l yL_isLit wsL_isLit 9 145 1 6 D c ((ze_wC c a n A B E) ++ [(o, .inl (c 6, 1, .inr (.inl f)))]) [.ref (a 0), .int x, .ref o] 1 ((ze_wC c a n A B E) ++ [(o, .inl (c 6, 1, .inr (.inl f)))]) := by
  intro sz
  refine zq_start (cc := cL_isLit) (maxL := 4) (ret := (some .int)) (own := RL) (by decide) rfl rfl (Nat.le_of_ble_eq_true rfl) ?_
  obtain ⟨hn0, hn1, hn2, hn3, hn4⟩ := id hN
  intro p e s m_ below meth cd F ls hF hsz E0 hXB hNc htab
  obtain ⟨S, hr, hlocks, hK, hW, hA, hl⟩ := E0
  have hX_ := S.1
  have hB_ := S.2.1
  have hts := S.2.2.2.2
  have hl : lv_has ls 4 [(0, .ref (a 0)), (1, .int x), (2, .ref o)] := hl
  have w0 := hts (.classLink RL 19 "java/lang/IndexOutOfBoundsException") (List.mem_cons_of_mem _ (List.mem_append_left _ (List.mem_append_left _ (List.mem_append_left _ (List.mem_append_left _ (List.mem_of_getElem? (i := 0) rfl))))))
  refine lv_aload_n hX_ hB_ dL_isLit_0 rfl (lv_at hl 2 rfl) ?_
  refine lv_iconst (v := 0) hX_ hB_ dL_isLit_1 (by decide) ?_
  refine lv_aload_n hX_ hB_ dL_isLit_2 rfl (lv_at hl 0 rfl) ?_
  refine lv_iload_n hX_ hB_ dL_isLit_3 rfl (lv_at hl 1 rfl) ?_
  refine zx_FVc (As := [.int x]) (rest := [.int 0, .ref o]) (ci := 8) (q0 := 0) (k := (RX8, TX8, 8)) S (zt_isLit_t1 l D hst c a n A B E x hN hx) (cwV 1 hts gL_isLit_X8_isLit rfl rfl rfl (by decide +kernel) ⟨(Nat.le_of_ble_eq_true rfl), (Nat.le_of_ble_eq_true rfl)⟩) hK hW hXB hA rfl (ze_at0 0 rfl) rfl hl.1 rfl (lv_room (Nat.le_of_ble_eq_true rfl)) dL_isLit_4 ⟨(Nat.le_of_ble_eq_true rfl), (Nat.le_of_ble_eq_true rfl)⟩ [] ⟨0, 16, 19, 19⟩ [] htab (by intro z hz; cases hz) (by decide) (by decide) w0 (va_Nw.use rfl (hXB.2.2.2 _ (List.mem_of_getElem? (i := 7) rfl))) (fun q9 H locs hW => ?_)
  refine lv_astore_n (lv' := [(3, .ref q9), (0, .ref (a 0)), (1, .int x), (2, .ref o)]) hX_ hB_ dL_isLit_19 rfl hl (by decide) rfl (fun ls hl => ?_)
  refine lv_iconst (v := 1) hX_ hB_ dL_isLit_20 (by decide) ?_
  exact ze_iret S hr hlocks hF hK hW rfl dL_isLit_21 (Nat.le_of_ble_eq_true rfl) (Nat.le_of_ble_eq_true rfl) rfl rfl
set_option maxHeartbeats 4000000 in
set_option maxRecDepth 100000 in
theorem zl_island_f (l : Launch) (D : va_G) (c : Nat → ClassId) (a n : Nat → Nat) (A : Nat → Nat → Int32) (B : Nat → Int64) (E : Nat → Nat → Int32) (o : Nat) (f : Nat → Int64)  (j : Nat) (hN : zf_N n) (hj : j < n 0) : ze_Q l yL_island wsL_island 3 63 0 0 D c ((ze_wC c a n A B E) ++ [(o, .inl (c 6, 1, .inr (.inl f)))]) [.ref (a 0), .int (nI j), .ref o] 0 ((ze_wC c a n A B E) ++ [(o, .inl (c 6, 1, .inr (.inl (vp_updL f 0 ((E 0 j).toInt64)))))]) := by
  intro sz
  refine zq_start (cc := cL_island) (maxL := 4) (ret := (some .int)) (own := RL) (by decide) rfl rfl (Nat.le_of_ble_eq_true rfl) ?_
  obtain ⟨hn0, hn1, hn2, hn3, hn4⟩ := id hN
  intro p e s m_ below meth cd F ls hF hsz E0 hXB hNc htab
  obtain ⟨S, hr, hlocks, hK, hW, hA, hl⟩ := E0
  have hX_ := S.1
  have hB_ := S.2.1
  have hts := S.2.2.2.2
  have hl : lv_has ls 4 [(0, .ref (a 0)), (1, .int (nI j)), (2, .ref o)] := hl
  refine lv_aload_n hX_ hB_ dL_island_0 rfl (lv_at hl 2 rfl) ?_
  refine lv_iconst (v := 0) hX_ hB_ dL_island_1 (by decide) ?_
  refine lv_aload_n hX_ hB_ dL_island_2 rfl (lv_at hl 0 rfl) ?_
  refine lv_iload_n hX_ hB_ dL_island_3 rfl (lv_at hl 1 rfl) ?_
  refine ze_FVi (As := [.int (nI j)]) (rest := [.int 0, .ref o]) (ci := 8) (q0 := 0) (k := (RX8, TX8, 8)) S (zp_island_f l D c a n A B E j hN hj) (cwV 1 hts gL_island_X8_island rfl rfl rfl (by decide +kernel) ⟨Nat.le_of_ble_eq_true rfl, Nat.le_of_ble_eq_true rfl⟩) hK hW hA rfl (ze_at0 0 rfl) rfl hl.1 rfl (lv_room (Nat.le_of_ble_eq_true rfl)) dL_island_4 ⟨Nat.le_of_ble_eq_true rfl, Nat.le_of_ble_eq_true rfl⟩ (fun H locs hW => ?_)
  refine lv_i2l (v := (E 0 j).toInt64) hX_ hB_ dL_island_7 rfl ?_
  refine ze_last hX_ hB_ hK hW ((ze_wC c a n A B E).length + 0) (i := 0) (ze_appL (k := 0) rfl) (by decide) (by decide) dL_island_8 (ze_appset rfl) (fun H locs hW => ?_)
  have hW : ze_W D ((ze_wC c a n A B E) ++ [(o, .inl (c 6, 1, .inr (.inl (vp_updL f 0 ((E 0 j).toInt64)))))]) F s.heap _ _ := hW
  refine lv_goto (tgt := 15) hX_ hB_ dL_island_9 (by decide) ?_
  refine lv_iconst (v := 0) hX_ hB_ dL_island_15 (by decide) ?_
  exact ze_iret S hr hlocks hF hK hW rfl dL_island_16 (Nat.le_of_ble_eq_true rfl) (Nat.le_of_ble_eq_true rfl) rfl rfl
set_option maxHeartbeats 4000000 in
set_option maxRecDepth 100000 in
theorem zl_island_t1 (l : Launch) (D : va_G) (hst : l.stackTraces = false) (c : Nat → ClassId) (a n : Nat → Nat) (A : Nat → Nat → Int32) (B : Nat → Int64) (E : Nat → Nat → Int32) (o : Nat) (f : Nat → Int64)  (x : Int32) (hN : zf_N n) (hx : ¬ zf_isIn x 0 (nI (n 0) - 1)) : ze_Q l yL_island wsL_island 9 145 1 6 D c ((ze_wC c a n A B E) ++ [(o, .inl (c 6, 1, .inr (.inl f)))]) [.ref (a 0), .int x, .ref o] 1 ((ze_wC c a n A B E) ++ [(o, .inl (c 6, 1, .inr (.inl f)))]) := by
  intro sz
  refine zq_start (cc := cL_island) (maxL := 4) (ret := (some .int)) (own := RL) (by decide) rfl rfl (Nat.le_of_ble_eq_true rfl) ?_
  obtain ⟨hn0, hn1, hn2, hn3, hn4⟩ := id hN
  intro p e s m_ below meth cd F ls hF hsz E0 hXB hNc htab
  obtain ⟨S, hr, hlocks, hK, hW, hA, hl⟩ := E0
  have hX_ := S.1
  have hB_ := S.2.1
  have hts := S.2.2.2.2
  have hl : lv_has ls 4 [(0, .ref (a 0)), (1, .int x), (2, .ref o)] := hl
  have w0 := hts (.classLink RL 19 "java/lang/IndexOutOfBoundsException") (List.mem_cons_of_mem _ (List.mem_append_left _ (List.mem_append_left _ (List.mem_append_left _ (List.mem_of_getElem? (i := 0) rfl)))))
  refine lv_aload_n hX_ hB_ dL_island_0 rfl (lv_at hl 2 rfl) ?_
  refine lv_iconst (v := 0) hX_ hB_ dL_island_1 (by decide) ?_
  refine lv_aload_n hX_ hB_ dL_island_2 rfl (lv_at hl 0 rfl) ?_
  refine lv_iload_n hX_ hB_ dL_island_3 rfl (lv_at hl 1 rfl) ?_
  refine zx_FVc (As := [.int x]) (rest := [.int 0, .ref o]) (ci := 8) (q0 := 0) (k := (RX8, TX8, 8)) S (zt_island_t1 l D hst c a n A B E x hN hx) (cwV 1 hts gL_island_X8_island rfl rfl rfl (by decide +kernel) ⟨(Nat.le_of_ble_eq_true rfl), (Nat.le_of_ble_eq_true rfl)⟩) hK hW hXB hA rfl (ze_at0 0 rfl) rfl hl.1 rfl (lv_room (Nat.le_of_ble_eq_true rfl)) dL_island_4 ⟨(Nat.le_of_ble_eq_true rfl), (Nat.le_of_ble_eq_true rfl)⟩ [] ⟨0, 9, 12, 19⟩ [] htab (by intro z hz; cases hz) (by decide) (by decide) w0 (va_Nw.use rfl (hXB.2.2.2 _ (List.mem_of_getElem? (i := 7) rfl))) (fun q9 H locs hW => ?_)
  refine lv_astore_n (lv' := [(3, .ref q9), (0, .ref (a 0)), (1, .int x), (2, .ref o)]) hX_ hB_ dL_island_12 rfl hl (by decide) rfl (fun ls hl => ?_)
  refine lv_iconst (v := 1) hX_ hB_ dL_island_13 (by decide) ?_
  exact ze_iret S hr hlocks hF hK hW rfl dL_island_14 (Nat.le_of_ble_eq_true rfl) (Nat.le_of_ble_eq_true rfl) rfl rfl
set_option maxHeartbeats 4000000 in
set_option maxRecDepth 100000 in
theorem zl_islandByRounds_f (l : Launch) (D : va_G) (c : Nat → ClassId) (a n : Nat → Nat) (A : Nat → Nat → Int32) (B : Nat → Int64) (E : Nat → Nat → Int32) (o : Nat) (f : Nat → Int64)  (j : Nat) (hN : zf_N n) (hj : j < n 0) (hS : zf_S n A) : ze_Q l yL_islandByRounds wsL_islandByRounds 3 63 0 0 D c ((ze_wC c a n A B E) ++ [(o, .inl (c 6, 1, .inr (.inl f)))]) [.ref (a 0), .int (nI j), .ref o] 0 ((ze_wC c a n A B (ze_sA E 2 (zf_mr A (n 1) (zf_m1 (E 2) (n 0)) (n 0)))) ++ [(o, .inl (c 6, 1, .inr (.inl (vp_updL f 0 ((zf_mr A (n 1) (zf_m1 (E 2) (n 0)) (n 0) j).toInt64)))))]) := by
  intro sz
  refine zq_start (cc := cL_islandByRounds) (maxL := 4) (ret := (some .int)) (own := RL) (by decide) rfl rfl (Nat.le_of_ble_eq_true rfl) ?_
  obtain ⟨hn0, hn1, hn2, hn3, hn4⟩ := id hN
  intro p e s m_ below meth cd F ls hF hsz E0 hXB hNc htab
  obtain ⟨S, hr, hlocks, hK, hW, hA, hl⟩ := E0
  have hX_ := S.1
  have hB_ := S.2.1
  have hts := S.2.2.2.2
  have hl : lv_has ls 4 [(0, .ref (a 0)), (1, .int (nI j)), (2, .ref o)] := hl
  refine lv_aload_n hX_ hB_ dL_islandByRounds_0 rfl (lv_at hl 2 rfl) ?_
  refine lv_iconst (v := 0) hX_ hB_ dL_islandByRounds_1 (by decide) ?_
  refine lv_aload_n hX_ hB_ dL_islandByRounds_2 rfl (lv_at hl 0 rfl) ?_
  refine lv_iload_n hX_ hB_ dL_islandByRounds_3 rfl (lv_at hl 1 rfl) ?_
  refine ze_FVi (As := [.int (nI j)]) (rest := [.int 0, .ref o]) (ci := 8) (q0 := 0) (k := (RX8, TX8, 8)) S (zp_islandByRounds_f l D c a n A B E j hN hj hS) (cwV 1 hts gL_islandByRounds_X8_islandByRounds rfl rfl rfl (by decide +kernel) ⟨Nat.le_of_ble_eq_true rfl, Nat.le_of_ble_eq_true rfl⟩) hK hW hA rfl (ze_at0 0 rfl) rfl hl.1 rfl (lv_room (Nat.le_of_ble_eq_true rfl)) dL_islandByRounds_4 ⟨Nat.le_of_ble_eq_true rfl, Nat.le_of_ble_eq_true rfl⟩ (fun H locs hW => ?_)
  have hW : ze_W D ((ze_wC c a n A B (ze_sA E 2 (zf_mr A (n 1) (zf_m1 (E 2) (n 0)) (n 0)))) ++ [(o, .inl (c 6, 1, .inr (.inl f)))]) F s.heap _ _ := hW
  refine lv_i2l (v := (zf_mr A (n 1) (zf_m1 (E 2) (n 0)) (n 0) j).toInt64) hX_ hB_ dL_islandByRounds_7 rfl ?_
  refine ze_last hX_ hB_ hK hW ((ze_wC c a n A B (ze_sA E 2 (zf_mr A (n 1) (zf_m1 (E 2) (n 0)) (n 0)))).length + 0) (i := 0) (ze_appL (k := 0) rfl) (by decide) (by decide) dL_islandByRounds_8 (ze_appset rfl) (fun H locs hW => ?_)
  have hW : ze_W D ((ze_wC c a n A B (ze_sA E 2 (zf_mr A (n 1) (zf_m1 (E 2) (n 0)) (n 0)))) ++ [(o, .inl (c 6, 1, .inr (.inl (vp_updL f 0 ((zf_mr A (n 1) (zf_m1 (E 2) (n 0)) (n 0) j).toInt64)))))]) F s.heap _ _ := hW
  refine lv_goto (tgt := 15) hX_ hB_ dL_islandByRounds_9 (by decide) ?_
  refine lv_iconst (v := 0) hX_ hB_ dL_islandByRounds_15 (by decide) ?_
  exact ze_iret S hr hlocks hF hK hW rfl dL_islandByRounds_16 (Nat.le_of_ble_eq_true rfl) (Nat.le_of_ble_eq_true rfl) rfl rfl
set_option maxHeartbeats 4000000 in
set_option maxRecDepth 100000 in
theorem zl_islandByRounds_t1 (l : Launch) (D : va_G) (hst : l.stackTraces = false) (c : Nat → ClassId) (a n : Nat → Nat) (A : Nat → Nat → Int32) (B : Nat → Int64) (E : Nat → Nat → Int32) (o : Nat) (f : Nat → Int64)  (x : Int32) (hN : zf_N n) (hx : ¬ zf_isIn x 0 (nI (n 0) - 1)) : ze_Q l yL_islandByRounds wsL_islandByRounds 9 145 1 6 D c ((ze_wC c a n A B E) ++ [(o, .inl (c 6, 1, .inr (.inl f)))]) [.ref (a 0), .int x, .ref o] 1 ((ze_wC c a n A B E) ++ [(o, .inl (c 6, 1, .inr (.inl f)))]) := by
  intro sz
  refine zq_start (cc := cL_islandByRounds) (maxL := 4) (ret := (some .int)) (own := RL) (by decide) rfl rfl (Nat.le_of_ble_eq_true rfl) ?_
  obtain ⟨hn0, hn1, hn2, hn3, hn4⟩ := id hN
  intro p e s m_ below meth cd F ls hF hsz E0 hXB hNc htab
  obtain ⟨S, hr, hlocks, hK, hW, hA, hl⟩ := E0
  have hX_ := S.1
  have hB_ := S.2.1
  have hts := S.2.2.2.2
  have hl : lv_has ls 4 [(0, .ref (a 0)), (1, .int x), (2, .ref o)] := hl
  have w0 := hts (.classLink RL 19 "java/lang/IndexOutOfBoundsException") (List.mem_cons_of_mem _ (List.mem_append_left _ (List.mem_append_left _ (List.mem_append_left _ (List.mem_append_left _ (List.mem_of_getElem? (i := 0) rfl))))))
  refine lv_aload_n hX_ hB_ dL_islandByRounds_0 rfl (lv_at hl 2 rfl) ?_
  refine lv_iconst (v := 0) hX_ hB_ dL_islandByRounds_1 (by decide) ?_
  refine lv_aload_n hX_ hB_ dL_islandByRounds_2 rfl (lv_at hl 0 rfl) ?_
  refine lv_iload_n hX_ hB_ dL_islandByRounds_3 rfl (lv_at hl 1 rfl) ?_
  refine zx_FVc (As := [.int x]) (rest := [.int 0, .ref o]) (ci := 8) (q0 := 0) (k := (RX8, TX8, 8)) S (zt_islandByRounds_t1 l D hst c a n A B E x hN hx) (cwV 1 hts gL_islandByRounds_X8_islandByRounds rfl rfl rfl (by decide +kernel) ⟨(Nat.le_of_ble_eq_true rfl), (Nat.le_of_ble_eq_true rfl)⟩) hK hW hXB hA rfl (ze_at0 0 rfl) rfl hl.1 rfl (lv_room (Nat.le_of_ble_eq_true rfl)) dL_islandByRounds_4 ⟨(Nat.le_of_ble_eq_true rfl), (Nat.le_of_ble_eq_true rfl)⟩ [] ⟨0, 9, 12, 19⟩ [] htab (by intro z hz; cases hz) (by decide) (by decide) w0 (va_Nw.use rfl (hXB.2.2.2 _ (List.mem_of_getElem? (i := 7) rfl))) (fun q9 H locs hW => ?_)
  refine lv_astore_n (lv' := [(3, .ref q9), (0, .ref (a 0)), (1, .int x), (2, .ref o)]) hX_ hB_ dL_islandByRounds_12 rfl hl (by decide) rfl (fun ls hl => ?_)
  refine lv_iconst (v := 1) hX_ hB_ dL_islandByRounds_13 (by decide) ?_
  exact ze_iret S hr hlocks hF hK hW rfl dL_islandByRounds_14 (Nat.le_of_ble_eq_true rfl) (Nat.le_of_ble_eq_true rfl) rfl rfl
set_option maxHeartbeats 4000000 in
set_option maxRecDepth 100000 in
theorem zl_litShare_f (l : Launch) (D : va_G) (c : Nat → ClassId) (a n : Nat → Nat) (A : Nat → Nat → Int32) (B : Nat → Int64) (E : Nat → Nat → Int32) (o : Nat) (f : Nat → UInt64)  (hN : zf_N n) (h : ¬ n 4 = 0) : ze_Q l yL_litShare wsL_litShare 2 42 0 0 D c ((ze_wC c a n A B E) ++ [(o, .inl (c 7, 1, .inr (.inr (.inr (.inl f)))))]) [.ref (a 0), .ref o] 0 ((ze_wC c a n A B E) ++ [(o, .inl (c 7, 1, .inr (.inr (.inr (.inl (vf_upd f 0 (FP.f2d (FP.fdiv (FP.i2f (zf_lits A (n 4))) (FP.i2f (nI (n 4)))))))))))]) := by
  intro sz
  refine zq_start (cc := cL_litShare) (maxL := 3) (ret := (some .int)) (own := RL) (by decide) rfl rfl (Nat.le_of_ble_eq_true rfl) ?_
  obtain ⟨hn0, hn1, hn2, hn3, hn4⟩ := id hN
  intro p e s m_ below meth cd F ls hF hsz E0 hXB hNc htab
  obtain ⟨S, hr, hlocks, hK, hW, hA, hl⟩ := E0
  have hX_ := S.1
  have hB_ := S.2.1
  have hts := S.2.2.2.2
  have hl : lv_has ls 3 [(0, .ref (a 0)), (1, .ref o)] := hl
  refine lv_aload_n hX_ hB_ dL_litShare_0 rfl (lv_at hl 1 rfl) ?_
  refine lv_iconst (v := 0) hX_ hB_ dL_litShare_1 (by decide) ?_
  refine lv_aload_n hX_ hB_ dL_litShare_2 rfl (lv_at hl 0 rfl) ?_
  refine ze_FVf (As := []) (rest := [.int 0, .ref o]) (ci := 8) (q0 := 0) (k := (RX8, TX8, 8)) S (zp_litShare_f l D c a n A B E hN h) (cwV 0 hts gL_litShare_X8_litShare rfl rfl rfl (by decide +kernel) ⟨Nat.le_of_ble_eq_true rfl, Nat.le_of_ble_eq_true rfl⟩) hK hW hA rfl (ze_at0 0 rfl) rfl hl.1 rfl (lv_room (Nat.le_of_ble_eq_true rfl)) dL_litShare_3 ⟨Nat.le_of_ble_eq_true rfl, Nat.le_of_ble_eq_true rfl⟩ (fun H locs hW => ?_)
  refine lv_f2d hX_ hB_ dL_litShare_6 (zf_sh64 h hn4) ?_
  refine ze_dast hX_ hB_ hK hW ((ze_wC c a n A B E).length + 0) (i := 0) (ze_appL (k := 0) rfl) (by decide) (by decide) dL_litShare_7 (ze_appset rfl) (fun H locs hW => ?_)
  have hW : ze_W D ((ze_wC c a n A B E) ++ [(o, .inl (c 7, 1, .inr (.inr (.inr (.inl (vf_upd f 0 (FP.f2d (FP.fdiv (FP.i2f (zf_lits A (n 4))) (FP.i2f (nI (n 4)))))))))))]) F s.heap _ _ := hW
  refine lv_goto (tgt := 14) hX_ hB_ dL_litShare_8 (by decide) ?_
  refine lv_iconst (v := 0) hX_ hB_ dL_litShare_14 (by decide) ?_
  exact ze_iret S hr hlocks hF hK hW rfl dL_litShare_15 (Nat.le_of_ble_eq_true rfl) (Nat.le_of_ble_eq_true rfl) rfl rfl
