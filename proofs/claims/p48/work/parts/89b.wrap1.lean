/-! ===== the law's wrappers: what is thrown becomes a code ===== -/
set_option maxHeartbeats 4000000 in
set_option maxRecDepth 100000 in
theorem xw_addSite_f (l : Launch) (D : va_G) (c : Nat → ClassId) (a n : Nat → Nat) (A : Nat → Nat → Int32) (B : Nat → Int64) (E : Nat → Nat → Int32) (hN : zf_N n) (hS : zf_S n A) (h : n 0 < 6) : ze_Q l yL_addSite wsL_addSite 5 110 0 0 D c (ze_wC c a n A B E) [.ref (a 0)] (nI (n 0)) (ze_wC c a (ze_sn n 0 (n 0 + 1)) A B (ze_sA (ze_sA E 0 ((zf_fi (ze_sn n 0 (n 0 + 1)) A (E 0) (E 1) (n 0 + 1)).1)) 1 ((zf_fi (ze_sn n 0 (n 0 + 1)) A (E 0) (E 1) (n 0 + 1)).2))) := by
  intro sz
  refine zq_start (cc := cL_addSite) (maxL := 2) (ret := (some .int)) (own := RL) (by decide) rfl rfl (Nat.le_of_ble_eq_true rfl) ?_
  intro p e s m_ below meth cd F ls hF hsz E0 hXB hNc htab
  obtain ⟨S, hr, hlocks, hK, hW, hA, hl⟩ := E0
  have hX_ := S.1
  have hB_ := S.2.1
  have hts := S.2.2.2.2
  have hl : lv_has ls 2 [(0, .ref (a 0))] := hl
  have hW := ze_W0 hW
  refine lv_aload_n hX_ hB_ dL_addSite_0 rfl (lv_at hl 0 rfl) ?_
  refine ze_FVi (As := []) (rest := []) (ci := 8) (q0 := 0) (k := (RX8, TX8, 8)) S (zp_addSite_f l D c a n A B E hN hS h) (cwV 0 hts gL_addSite_X8_addSite rfl rfl rfl (by decide +kernel) ⟨(Nat.le_of_ble_eq_true rfl), (Nat.le_of_ble_eq_true rfl)⟩) hK hW hA rfl (ze_at0 0 rfl) rfl hl.1 rfl (lv_room (Nat.le_of_ble_eq_true rfl)) dL_addSite_1 ⟨(Nat.le_of_ble_eq_true rfl), (Nat.le_of_ble_eq_true rfl)⟩ (fun H locs hW => ?_)
  have hW := ze_W0' hW
  exact ze_iret S hr hlocks hF hK hW rfl dL_addSite_4 (Nat.le_of_ble_eq_true rfl) (Nat.le_of_ble_eq_true rfl) rfl rfl
set_option maxHeartbeats 4000000 in
set_option maxRecDepth 100000 in
theorem xw_setPhase_f (l : Launch) (D : va_G) (c : Nat → ClassId) (a n : Nat → Nat) (A : Nat → Nat → Int32) (B : Nat → Int64) (E : Nat → Nat → Int32) (j : Nat) (hN : zf_N n) (hj : j < n 0) (y : Int32) (hy : zf_isIn y 0 359) : ze_Q l yL_setPhase wsL_setPhase 3 65 0 0 D c (ze_wC c a n A B E) [.ref (a 0), .int (nI j), .int y] (A 0 j) (ze_wC c a n (ze_sE A 0 j y) B E) := by
  intro sz
  refine zq_start (cc := cL_setPhase) (maxL := 4) (ret := (some .int)) (own := RL) (by decide) rfl rfl (Nat.le_of_ble_eq_true rfl) ?_
  intro p e s m_ below meth cd F ls hF hsz E0 hXB hNc htab
  obtain ⟨S, hr, hlocks, hK, hW, hA, hl⟩ := E0
  have hX_ := S.1
  have hB_ := S.2.1
  have hts := S.2.2.2.2
  have hl : lv_has ls 4 [(0, .ref (a 0)), (1, .int (nI j)), (2, .int y)] := hl
  have hW := ze_W0 hW
  refine lv_aload_n hX_ hB_ dL_setPhase_0 rfl (lv_at hl 0 rfl) ?_
  refine lv_iload_n hX_ hB_ dL_setPhase_1 rfl (lv_at hl 1 rfl) ?_
  refine lv_iload_n hX_ hB_ dL_setPhase_2 rfl (lv_at hl 2 rfl) ?_
  refine ze_FVi (As := [.int (nI j), .int y]) (rest := []) (ci := 8) (q0 := 0) (k := (RX8, TX8, 8)) S (zp_setPhase_f l D c a n A B E j hN hj y hy) (cwV 2 hts gL_setPhase_X8_setPhase rfl rfl rfl (by decide +kernel) ⟨(Nat.le_of_ble_eq_true rfl), (Nat.le_of_ble_eq_true rfl)⟩) hK hW hA rfl (ze_at0 0 rfl) rfl hl.1 rfl (lv_room (Nat.le_of_ble_eq_true rfl)) dL_setPhase_3 ⟨(Nat.le_of_ble_eq_true rfl), (Nat.le_of_ble_eq_true rfl)⟩ (fun H locs hW => ?_)
  have hW := ze_W0' hW
  exact ze_iret S hr hlocks hF hK hW rfl dL_setPhase_6 (Nat.le_of_ble_eq_true rfl) (Nat.le_of_ble_eq_true rfl) rfl rfl
set_option maxHeartbeats 4000000 in
set_option maxRecDepth 100000 in
theorem xw_addLine_f (l : Launch) (D : va_G) (c : Nat → ClassId) (a n : Nat → Nat) (A : Nat → Nat → Int32) (B : Nat → Int64) (E : Nat → Nat → Int32) (j : Nat) (hN : zf_N n) (hj : j < n 0) (k : Nat) (hk : k < n 0) (h : ¬ j = k) (h8 : n 1 < 8) : ze_Q l yL_addLine wsL_addLine 3 64 0 0 D c (ze_wC c a n A B E) [.ref (a 0), .int (nI j), .int (nI k)] (nI (n 1)) (ze_wC c a (ze_sn n 1 (n 1 + 1)) (ze_sE (ze_sE A 2 (n 1) (nI j)) 3 (n 1) (nI k)) B E) := by
  intro sz
  refine zq_start (cc := cL_addLine) (maxL := 4) (ret := (some .int)) (own := RL) (by decide) rfl rfl (Nat.le_of_ble_eq_true rfl) ?_
  intro p e s m_ below meth cd F ls hF hsz E0 hXB hNc htab
  obtain ⟨S, hr, hlocks, hK, hW, hA, hl⟩ := E0
  have hX_ := S.1
  have hB_ := S.2.1
  have hts := S.2.2.2.2
  have hl : lv_has ls 4 [(0, .ref (a 0)), (1, .int (nI j)), (2, .int (nI k))] := hl
  have hW := ze_W0 hW
  refine lv_aload_n hX_ hB_ dL_addLine_0 rfl (lv_at hl 0 rfl) ?_
  refine lv_iload_n hX_ hB_ dL_addLine_1 rfl (lv_at hl 1 rfl) ?_
  refine lv_iload_n hX_ hB_ dL_addLine_2 rfl (lv_at hl 2 rfl) ?_
  refine ze_FVi (As := [.int (nI j), .int (nI k)]) (rest := []) (ci := 8) (q0 := 0) (k := (RX8, TX8, 8)) S (zp_addLine_f l D c a n A B E j hN hj k hk h h8) (cwV 2 hts gL_addLine_X8_addLine rfl rfl rfl (by decide +kernel) ⟨(Nat.le_of_ble_eq_true rfl), (Nat.le_of_ble_eq_true rfl)⟩) hK hW hA rfl (ze_at0 0 rfl) rfl hl.1 rfl (lv_room (Nat.le_of_ble_eq_true rfl)) dL_addLine_3 ⟨(Nat.le_of_ble_eq_true rfl), (Nat.le_of_ble_eq_true rfl)⟩ (fun H locs hW => ?_)
  have hW := ze_W0' hW
  exact ze_iret S hr hlocks hF hK hW rfl dL_addLine_6 (Nat.le_of_ble_eq_true rfl) (Nat.le_of_ble_eq_true rfl) rfl rfl
set_option maxHeartbeats 4000000 in
set_option maxRecDepth 100000 in
theorem xw_close_f (l : Launch) (D : va_G) (c : Nat → ClassId) (a n : Nat → Nat) (A : Nat → Nat → Int32) (B : Nat → Int64) (E : Nat → Nat → Int32) (j : Nat) (hN : zf_N n) (hj : j < n 1) (hS : zf_S n A) (hE : ∀ x, zf_site n x → zf_site n (E 0 (ze_ix x))) (h4 : A 4 j = 0) (hg : zf_gapC A (E 0) j ≤ 10) : ze_Q l yL_close wsL_close 5 112 0 0 D c (ze_wC c a n A B E) [.ref (a 0), .int (nI j)] (zf_many ((zf_fi n (ze_sE A 4 j 1) (E 0) (E 1) (n 0)).1) (n 0)) (ze_wC c a n (ze_sE A 4 j 1) B (ze_sA (ze_sA E 0 ((zf_fi n (ze_sE A 4 j 1) (E 0) (E 1) (n 0)).1)) 1 ((zf_fi n (ze_sE A 4 j 1) (E 0) (E 1) (n 0)).2))) := by
  intro sz
  refine zq_start (cc := cL_close) (maxL := 3) (ret := (some .int)) (own := RL) (by decide) rfl rfl (Nat.le_of_ble_eq_true rfl) ?_
  intro p e s m_ below meth cd F ls hF hsz E0 hXB hNc htab
  obtain ⟨S, hr, hlocks, hK, hW, hA, hl⟩ := E0
  have hX_ := S.1
  have hB_ := S.2.1
  have hts := S.2.2.2.2
  have hl : lv_has ls 3 [(0, .ref (a 0)), (1, .int (nI j))] := hl
  have hW := ze_W0 hW
  refine lv_aload_n hX_ hB_ dL_close_0 rfl (lv_at hl 0 rfl) ?_
  refine lv_iload_n hX_ hB_ dL_close_1 rfl (lv_at hl 1 rfl) ?_
  refine ze_FVi (As := [.int (nI j)]) (rest := []) (ci := 8) (q0 := 0) (k := (RX8, TX8, 8)) S (zp_close_f l D c a n A B E j hN hj hS hE h4 hg) (cwV 1 hts gL_close_X8_close rfl rfl rfl (by decide +kernel) ⟨(Nat.le_of_ble_eq_true rfl), (Nat.le_of_ble_eq_true rfl)⟩) hK hW hA rfl (ze_at0 0 rfl) rfl hl.1 rfl (lv_room (Nat.le_of_ble_eq_true rfl)) dL_close_2 ⟨(Nat.le_of_ble_eq_true rfl), (Nat.le_of_ble_eq_true rfl)⟩ (fun H locs hW => ?_)
  have hW := ze_W0' hW
  exact ze_iret S hr hlocks hF hK hW rfl dL_close_5 (Nat.le_of_ble_eq_true rfl) (Nat.le_of_ble_eq_true rfl) rfl rfl
set_option maxHeartbeats 4000000 in
set_option maxRecDepth 100000 in
theorem xw_open_f (l : Launch) (D : va_G) (c : Nat → ClassId) (a n : Nat → Nat) (A : Nat → Nat → Int32) (B : Nat → Int64) (E : Nat → Nat → Int32) (j : Nat) (hN : zf_N n) (hj : j < n 1) (hS : zf_S n A) (h4 : ¬ A 4 j = 0) : ze_Q l yL_open wsL_open 5 112 0 0 D c (ze_wC c a n A B E) [.ref (a 0), .int (nI j)] (zf_many ((zf_fi n (ze_sE A 4 j 0) (E 0) (E 1) (n 0)).1) (n 0)) (ze_wC c a n (ze_sE A 4 j 0) B (ze_sA (ze_sA E 0 ((zf_fi n (ze_sE A 4 j 0) (E 0) (E 1) (n 0)).1)) 1 ((zf_fi n (ze_sE A 4 j 0) (E 0) (E 1) (n 0)).2))) := by
  intro sz
  refine zq_start (cc := cL_open) (maxL := 3) (ret := (some .int)) (own := RL) (by decide) rfl rfl (Nat.le_of_ble_eq_true rfl) ?_
  intro p e s m_ below meth cd F ls hF hsz E0 hXB hNc htab
  obtain ⟨S, hr, hlocks, hK, hW, hA, hl⟩ := E0
  have hX_ := S.1
  have hB_ := S.2.1
  have hts := S.2.2.2.2
  have hl : lv_has ls 3 [(0, .ref (a 0)), (1, .int (nI j))] := hl
  have hW := ze_W0 hW
  refine lv_aload_n hX_ hB_ dL_open_0 rfl (lv_at hl 0 rfl) ?_
  refine lv_iload_n hX_ hB_ dL_open_1 rfl (lv_at hl 1 rfl) ?_
  refine ze_FVi (As := [.int (nI j)]) (rest := []) (ci := 8) (q0 := 0) (k := (RX8, TX8, 8)) S (zp_open_f l D c a n A B E j hN hj hS h4) (cwV 1 hts gL_open_X8_open rfl rfl rfl (by decide +kernel) ⟨(Nat.le_of_ble_eq_true rfl), (Nat.le_of_ble_eq_true rfl)⟩) hK hW hA rfl (ze_at0 0 rfl) rfl hl.1 rfl (lv_room (Nat.le_of_ble_eq_true rfl)) dL_open_2 ⟨(Nat.le_of_ble_eq_true rfl), (Nat.le_of_ble_eq_true rfl)⟩ (fun H locs hW => ?_)
  have hW := ze_W0' hW
  exact ze_iret S hr hlocks hF hK hW rfl dL_open_5 (Nat.le_of_ble_eq_true rfl) (Nat.le_of_ble_eq_true rfl) rfl rfl
set_option maxHeartbeats 4000000 in
set_option maxRecDepth 100000 in
theorem xw_tie_f (l : Launch) (D : va_G) (c : Nat → ClassId) (a n : Nat → Nat) (A : Nat → Nat → Int32) (B : Nat → Int64) (E : Nat → Nat → Int32) (hN : zf_N n) (h : ¬ n 0 = 0) (h2 : A 38 0 = 0) (h3 : ze_mn (ze_ab ((if zf_tied A 0 then 0 else A 0 (ze_ix 0)) - 0)) (360 - ze_ab ((if zf_tied A 0 then 0 else A 0 (ze_ix 0)) - 0)) ≤ 10) : ze_Q l yL_tie wsL_tie 3 62 0 0 D c (ze_wC c a n A B E) [.ref (a 0)] (ze_sum 0 (fun s => if E 0 s = 0 then 1 else 0) (n 0)) (ze_wC c a n (ze_sC A 38 1) B E) := by
  intro sz
  refine zq_start (cc := cL_tie) (maxL := 2) (ret := (some .int)) (own := RL) (by decide) rfl rfl (Nat.le_of_ble_eq_true rfl) ?_
  intro p e s m_ below meth cd F ls hF hsz E0 hXB hNc htab
  obtain ⟨S, hr, hlocks, hK, hW, hA, hl⟩ := E0
  have hX_ := S.1
  have hB_ := S.2.1
  have hts := S.2.2.2.2
  have hl : lv_has ls 2 [(0, .ref (a 0))] := hl
  have hW := ze_W0 hW
  refine lv_aload_n hX_ hB_ dL_tie_0 rfl (lv_at hl 0 rfl) ?_
  refine ze_FVi (As := []) (rest := []) (ci := 8) (q0 := 0) (k := (RX8, TX8, 8)) S (zp_tie_f l D c a n A B E hN h h2 h3) (cwV 0 hts gL_tie_X8_tie rfl rfl rfl (by decide +kernel) ⟨(Nat.le_of_ble_eq_true rfl), (Nat.le_of_ble_eq_true rfl)⟩) hK hW hA rfl (ze_at0 0 rfl) rfl hl.1 rfl (lv_room (Nat.le_of_ble_eq_true rfl)) dL_tie_1 ⟨(Nat.le_of_ble_eq_true rfl), (Nat.le_of_ble_eq_true rfl)⟩ (fun H locs hW => ?_)
  have hW := ze_W0' hW
  exact ze_iret S hr hlocks hF hK hW rfl dL_tie_4 (Nat.le_of_ble_eq_true rfl) (Nat.le_of_ble_eq_true rfl) rfl rfl
set_option maxHeartbeats 4000000 in
set_option maxRecDepth 100000 in
theorem xw_untie_f (l : Launch) (D : va_G) (c : Nat → ClassId) (a n : Nat → Nat) (A : Nat → Nat → Int32) (B : Nat → Int64) (E : Nat → Nat → Int32) (hN : zf_N n) (h2 : ¬ A 38 0 = 0) : ze_Q l yL_untie wsL_untie 2 43 0 0 D c (ze_wC c a n A B E) [.ref (a 0)] (ze_sum 0 (fun s => if E 0 s = 0 then 1 else 0) (n 0)) (ze_wC c a n (ze_sC A 38 0) B E) := by
  intro sz
  refine zq_start (cc := cL_untie) (maxL := 2) (ret := (some .int)) (own := RL) (by decide) rfl rfl (Nat.le_of_ble_eq_true rfl) ?_
  intro p e s m_ below meth cd F ls hF hsz E0 hXB hNc htab
  obtain ⟨S, hr, hlocks, hK, hW, hA, hl⟩ := E0
  have hX_ := S.1
  have hB_ := S.2.1
  have hts := S.2.2.2.2
  have hl : lv_has ls 2 [(0, .ref (a 0))] := hl
  have hW := ze_W0 hW
  refine lv_aload_n hX_ hB_ dL_untie_0 rfl (lv_at hl 0 rfl) ?_
  refine ze_FVi (As := []) (rest := []) (ci := 8) (q0 := 0) (k := (RX8, TX8, 8)) S (zp_untie_f l D c a n A B E hN h2) (cwV 0 hts gL_untie_X8_untie rfl rfl rfl (by decide +kernel) ⟨(Nat.le_of_ble_eq_true rfl), (Nat.le_of_ble_eq_true rfl)⟩) hK hW hA rfl (ze_at0 0 rfl) rfl hl.1 rfl (lv_room (Nat.le_of_ble_eq_true rfl)) dL_untie_1 ⟨(Nat.le_of_ble_eq_true rfl), (Nat.le_of_ble_eq_true rfl)⟩ (fun H locs hW => ?_)
  have hW := ze_W0' hW
  exact ze_iret S hr hlocks hF hK hW rfl dL_untie_4 (Nat.le_of_ble_eq_true rfl) (Nat.le_of_ble_eq_true rfl) rfl rfl
set_option maxHeartbeats 4000000 in
set_option maxRecDepth 100000 in
theorem xw_start_f (l : Launch) (D : va_G) (c : Nat → ClassId) (a n : Nat → Nat) (A : Nat → Nat → Int32) (B : Nat → Int64) (E : Nat → Nat → Int32) (j : Nat) (hN : zf_N n) (hj : j < n 2) (h : A 13 j = 111) (h2 : ¬ zf_short A j) : ze_Q l yL_start wsL_start 3 64 0 0 D c (ze_wC c a n A B E) [.ref (a 0), .int (nI j)] (zf_start A j 11 j) (ze_wC c a n (zf_start A j) B E) := by
  intro sz
  refine zq_start (cc := cL_start) (maxL := 3) (ret := (some .int)) (own := RL) (by decide) rfl rfl (Nat.le_of_ble_eq_true rfl) ?_
  intro p e s m_ below meth cd F ls hF hsz E0 hXB hNc htab
  obtain ⟨S, hr, hlocks, hK, hW, hA, hl⟩ := E0
  have hX_ := S.1
  have hB_ := S.2.1
  have hts := S.2.2.2.2
  have hl : lv_has ls 3 [(0, .ref (a 0)), (1, .int (nI j))] := hl
  have hW := ze_W0 hW
  refine lv_aload_n hX_ hB_ dL_start_0 rfl (lv_at hl 0 rfl) ?_
  refine lv_iload_n hX_ hB_ dL_start_1 rfl (lv_at hl 1 rfl) ?_
  refine ze_FVi (As := [.int (nI j)]) (rest := []) (ci := 8) (q0 := 0) (k := (RX8, TX8, 8)) S (zp_start_f l D c a n A B E j hN hj h h2) (cwV 1 hts gL_start_X8_start rfl rfl rfl (by decide +kernel) ⟨(Nat.le_of_ble_eq_true rfl), (Nat.le_of_ble_eq_true rfl)⟩) hK hW hA rfl (ze_at0 0 rfl) rfl hl.1 rfl (lv_room (Nat.le_of_ble_eq_true rfl)) dL_start_2 ⟨(Nat.le_of_ble_eq_true rfl), (Nat.le_of_ble_eq_true rfl)⟩ (fun H locs hW => ?_)
  have hW := ze_W0' hW
  exact ze_iret S hr hlocks hF hK hW rfl dL_start_5 (Nat.le_of_ble_eq_true rfl) (Nat.le_of_ble_eq_true rfl) rfl rfl
set_option maxHeartbeats 4000000 in
set_option maxRecDepth 100000 in
theorem xw_stop_f (l : Launch) (D : va_G) (c : Nat → ClassId) (a n : Nat → Nat) (A : Nat → Nat → Int32) (B : Nat → Int64) (E : Nat → Nat → Int32) (j : Nat) (hN : zf_N n) (hj : j < n 2) (h : ¬ A 13 j = 111) : ze_Q l yL_stop wsL_stop 3 64 0 0 D c (ze_wC c a n A B E) [.ref (a 0), .int (nI j)] (A 10 j) (ze_wC c a n (ze_sE A 13 j 111) B E) := by
  intro sz
  refine zq_start (cc := cL_stop) (maxL := 3) (ret := (some .int)) (own := RL) (by decide) rfl rfl (Nat.le_of_ble_eq_true rfl) ?_
  intro p e s m_ below meth cd F ls hF hsz E0 hXB hNc htab
  obtain ⟨S, hr, hlocks, hK, hW, hA, hl⟩ := E0
  have hX_ := S.1
  have hB_ := S.2.1
  have hts := S.2.2.2.2
  have hl : lv_has ls 3 [(0, .ref (a 0)), (1, .int (nI j))] := hl
  have hW := ze_W0 hW
  refine lv_aload_n hX_ hB_ dL_stop_0 rfl (lv_at hl 0 rfl) ?_
  refine lv_iload_n hX_ hB_ dL_stop_1 rfl (lv_at hl 1 rfl) ?_
  refine ze_FVi (As := [.int (nI j)]) (rest := []) (ci := 8) (q0 := 0) (k := (RX8, TX8, 8)) S (zp_stop_f l D c a n A B E j hN hj h) (cwV 1 hts gL_stop_X8_stop rfl rfl rfl (by decide +kernel) ⟨(Nat.le_of_ble_eq_true rfl), (Nat.le_of_ble_eq_true rfl)⟩) hK hW hA rfl (ze_at0 0 rfl) rfl hl.1 rfl (lv_room (Nat.le_of_ble_eq_true rfl)) dL_stop_2 ⟨(Nat.le_of_ble_eq_true rfl), (Nat.le_of_ble_eq_true rfl)⟩ (fun H locs hW => ?_)
  have hW := ze_W0' hW
  exact ze_iret S hr hlocks hF hK hW rfl dL_stop_5 (Nat.le_of_ble_eq_true rfl) (Nat.le_of_ble_eq_true rfl) rfl rfl
set_option maxHeartbeats 4000000 in
set_option maxRecDepth 100000 in
theorem xw_startNext_f (l : Launch) (D : va_G) (c : Nat → ClassId) (a n : Nat → Nat) (A : Nat → Nat → Int32) (B : Nat → Int64) (E : Nat → Nat → Int32) (j : Nat) (hN : zf_N n) (hj : j < n 0) (hS : zf_S n A) (v : Nat) (hpick : zf_nx A (E 0) (E 0 j) (n 2) = some v) : ze_Q l yL_startNext wsL_startNext 3 68 0 0 D c (ze_wC c a n A B E) [.ref (a 0), .int (nI j)] (nI v) (ze_wC c a n (zf_start A v) B E) := by
  intro sz
  refine zq_start (cc := cL_startNext) (maxL := 3) (ret := (some .int)) (own := RL) (by decide) rfl rfl (Nat.le_of_ble_eq_true rfl) ?_
  intro p e s m_ below meth cd F ls hF hsz E0 hXB hNc htab
  obtain ⟨S, hr, hlocks, hK, hW, hA, hl⟩ := E0
  have hX_ := S.1
  have hB_ := S.2.1
  have hts := S.2.2.2.2
  have hl : lv_has ls 3 [(0, .ref (a 0)), (1, .int (nI j))] := hl
  have hW := ze_W0 hW
  refine lv_aload_n hX_ hB_ dL_startNext_0 rfl (lv_at hl 0 rfl) ?_
  refine lv_iload_n hX_ hB_ dL_startNext_1 rfl (lv_at hl 1 rfl) ?_
  refine ze_FVi (As := [.int (nI j)]) (rest := []) (ci := 8) (q0 := 0) (k := (RX8, TX8, 8)) S (zp_startNext_f l D c a n A B E j hN hj hS v hpick) (cwV 1 hts gL_startNext_X8_startNext rfl rfl rfl (by decide +kernel) ⟨(Nat.le_of_ble_eq_true rfl), (Nat.le_of_ble_eq_true rfl)⟩) hK hW hA rfl (ze_at0 0 rfl) rfl hl.1 rfl (lv_room (Nat.le_of_ble_eq_true rfl)) dL_startNext_2 ⟨(Nat.le_of_ble_eq_true rfl), (Nat.le_of_ble_eq_true rfl)⟩ (fun H locs hW => ?_)
  have hW := ze_W0' hW
  exact ze_iret S hr hlocks hF hK hW rfl dL_startNext_5 (Nat.le_of_ble_eq_true rfl) (Nat.le_of_ble_eq_true rfl) rfl rfl
set_option maxHeartbeats 4000000 in
set_option maxRecDepth 100000 in
theorem xw_refuel_f (l : Launch) (D : va_G) (c : Nat → ClassId) (a n : Nat → Nat) (A : Nat → Nat → Int32) (B : Nat → Int64) (E : Nat → Nat → Int32) (j : Nat) (hN : zf_N n) (hj : j < n 2) (y : Int32) (h : zf_isIn y 1 9999) (h2 : A 10 j + y ≤ 99999) : ze_Q l yL_refuel wsL_refuel 3 65 0 0 D c (ze_wC c a n A B E) [.ref (a 0), .int (nI j), .int y] (A 10 j + y) (ze_wC c a n (ze_sE A 10 j (A 10 j + y)) B E) := by
  intro sz
  refine zq_start (cc := cL_refuel) (maxL := 4) (ret := (some .int)) (own := RL) (by decide) rfl rfl (Nat.le_of_ble_eq_true rfl) ?_
  intro p e s m_ below meth cd F ls hF hsz E0 hXB hNc htab
  obtain ⟨S, hr, hlocks, hK, hW, hA, hl⟩ := E0
  have hX_ := S.1
  have hB_ := S.2.1
  have hts := S.2.2.2.2
  have hl : lv_has ls 4 [(0, .ref (a 0)), (1, .int (nI j)), (2, .int y)] := hl
  have hW := ze_W0 hW
  refine lv_aload_n hX_ hB_ dL_refuel_0 rfl (lv_at hl 0 rfl) ?_
  refine lv_iload_n hX_ hB_ dL_refuel_1 rfl (lv_at hl 1 rfl) ?_
  refine lv_iload_n hX_ hB_ dL_refuel_2 rfl (lv_at hl 2 rfl) ?_
  refine ze_FVi (As := [.int (nI j), .int y]) (rest := []) (ci := 8) (q0 := 0) (k := (RX8, TX8, 8)) S (zp_refuel_f l D c a n A B E j hN hj y h h2) (cwV 2 hts gL_refuel_X8_refuel rfl rfl rfl (by decide +kernel) ⟨(Nat.le_of_ble_eq_true rfl), (Nat.le_of_ble_eq_true rfl)⟩) hK hW hA rfl (ze_at0 0 rfl) rfl hl.1 rfl (lv_room (Nat.le_of_ble_eq_true rfl)) dL_refuel_3 ⟨(Nat.le_of_ble_eq_true rfl), (Nat.le_of_ble_eq_true rfl)⟩ (fun H locs hW => ?_)
  have hW := ze_W0' hW
  exact ze_iret S hr hlocks hF hK hW rfl dL_refuel_6 (Nat.le_of_ble_eq_true rfl) (Nat.le_of_ble_eq_true rfl) rfl rfl
set_option maxHeartbeats 4000000 in
set_option maxRecDepth 100000 in
theorem xw_state_f (l : Launch) (D : va_G) (c : Nat → ClassId) (a n : Nat → Nat) (A : Nat → Nat → Int32) (B : Nat → Int64) (E : Nat → Nat → Int32) (j : Nat) (hN : zf_N n) (hj : j < n 2) (hC : zf_chr (A 13 j)) : ze_Q l yL_state wsL_state 3 63 0 0 D c (ze_wC c a n A B E) [.ref (a 0), .int (nI j)] (A 13 j) (ze_wC c a n A B E) := by
  intro sz
  refine zq_start (cc := cL_state) (maxL := 3) (ret := (some .int)) (own := RL) (by decide) rfl rfl (Nat.le_of_ble_eq_true rfl) ?_
  intro p e s m_ below meth cd F ls hF hsz E0 hXB hNc htab
  obtain ⟨S, hr, hlocks, hK, hW, hA, hl⟩ := E0
  have hX_ := S.1
  have hB_ := S.2.1
  have hts := S.2.2.2.2
  have hl : lv_has ls 3 [(0, .ref (a 0)), (1, .int (nI j))] := hl
  have hW := ze_W0 hW
  refine lv_aload_n hX_ hB_ dL_state_0 rfl (lv_at hl 0 rfl) ?_
  refine lv_iload_n hX_ hB_ dL_state_1 rfl (lv_at hl 1 rfl) ?_
  refine ze_FVi (As := [.int (nI j)]) (rest := []) (ci := 8) (q0 := 0) (k := (RX8, TX8, 8)) S (zp_state_f l D c a n A B E j hN hj hC) (cwV 1 hts gL_state_X8_state rfl rfl rfl (by decide +kernel) ⟨(Nat.le_of_ble_eq_true rfl), (Nat.le_of_ble_eq_true rfl)⟩) hK hW hA rfl (ze_at0 0 rfl) rfl hl.1 rfl (lv_room (Nat.le_of_ble_eq_true rfl)) dL_state_2 ⟨(Nat.le_of_ble_eq_true rfl), (Nat.le_of_ble_eq_true rfl)⟩ (fun H locs hW => ?_)
  have hW := ze_W0' hW
  exact ze_iret S hr hlocks hF hK hW rfl dL_state_5 (Nat.le_of_ble_eq_true rfl) (Nat.le_of_ble_eq_true rfl) rfl rfl
set_option maxHeartbeats 4000000 in
set_option maxRecDepth 100000 in
theorem xw_fuel_f (l : Launch) (D : va_G) (c : Nat → ClassId) (a n : Nat → Nat) (A : Nat → Nat → Int32) (B : Nat → Int64) (E : Nat → Nat → Int32) (j : Nat) (hN : zf_N n) (hj : j < n 2) : ze_Q l yL_fuel wsL_fuel 3 63 0 0 D c (ze_wC c a n A B E) [.ref (a 0), .int (nI j)] (A 10 j) (ze_wC c a n A B E) := by
  intro sz
  refine zq_start (cc := cL_fuel) (maxL := 3) (ret := (some .int)) (own := RL) (by decide) rfl rfl (Nat.le_of_ble_eq_true rfl) ?_
  intro p e s m_ below meth cd F ls hF hsz E0 hXB hNc htab
  obtain ⟨S, hr, hlocks, hK, hW, hA, hl⟩ := E0
  have hX_ := S.1
  have hB_ := S.2.1
  have hts := S.2.2.2.2
  have hl : lv_has ls 3 [(0, .ref (a 0)), (1, .int (nI j))] := hl
  have hW := ze_W0 hW
  refine lv_aload_n hX_ hB_ dL_fuel_0 rfl (lv_at hl 0 rfl) ?_
  refine lv_iload_n hX_ hB_ dL_fuel_1 rfl (lv_at hl 1 rfl) ?_
  refine ze_FVi (As := [.int (nI j)]) (rest := []) (ci := 8) (q0 := 0) (k := (RX8, TX8, 8)) S (zp_fuel_f l D c a n A B E j hN hj) (cwV 1 hts gL_fuel_X8_fuel rfl rfl rfl (by decide +kernel) ⟨(Nat.le_of_ble_eq_true rfl), (Nat.le_of_ble_eq_true rfl)⟩) hK hW hA rfl (ze_at0 0 rfl) rfl hl.1 rfl (lv_room (Nat.le_of_ble_eq_true rfl)) dL_fuel_2 ⟨(Nat.le_of_ble_eq_true rfl), (Nat.le_of_ble_eq_true rfl)⟩ (fun H locs hW => ?_)
  have hW := ze_W0' hW
  exact ze_iret S hr hlocks hF hK hW rfl dL_fuel_5 (Nat.le_of_ble_eq_true rfl) (Nat.le_of_ble_eq_true rfl) rfl rfl
set_option maxHeartbeats 4000000 in
set_option maxRecDepth 100000 in
theorem xw_given_f (l : Launch) (D : va_G) (c : Nat → ClassId) (a n : Nat → Nat) (A : Nat → Nat → Int32) (B : Nat → Int64) (E : Nat → Nat → Int32) (j : Nat) (hN : zf_N n) (hj : j < n 2) : ze_Q l yL_given wsL_given 3 63 0 0 D c (ze_wC c a n A B E) [.ref (a 0), .int (nI j)] (A 12 j) (ze_wC c a n A B E) := by
  intro sz
  refine zq_start (cc := cL_given) (maxL := 3) (ret := (some .int)) (own := RL) (by decide) rfl rfl (Nat.le_of_ble_eq_true rfl) ?_
  intro p e s m_ below meth cd F ls hF hsz E0 hXB hNc htab
  obtain ⟨S, hr, hlocks, hK, hW, hA, hl⟩ := E0
  have hX_ := S.1
  have hB_ := S.2.1
  have hts := S.2.2.2.2
  have hl : lv_has ls 3 [(0, .ref (a 0)), (1, .int (nI j))] := hl
  have hW := ze_W0 hW
  refine lv_aload_n hX_ hB_ dL_given_0 rfl (lv_at hl 0 rfl) ?_
  refine lv_iload_n hX_ hB_ dL_given_1 rfl (lv_at hl 1 rfl) ?_
  refine ze_FVi (As := [.int (nI j)]) (rest := []) (ci := 8) (q0 := 0) (k := (RX8, TX8, 8)) S (zp_given_f l D c a n A B E j hN hj) (cwV 1 hts gL_given_X8_given rfl rfl rfl (by decide +kernel) ⟨(Nat.le_of_ble_eq_true rfl), (Nat.le_of_ble_eq_true rfl)⟩) hK hW hA rfl (ze_at0 0 rfl) rfl hl.1 rfl (lv_room (Nat.le_of_ble_eq_true rfl)) dL_given_2 ⟨(Nat.le_of_ble_eq_true rfl), (Nat.le_of_ble_eq_true rfl)⟩ (fun H locs hW => ?_)
  have hW := ze_W0' hW
  exact ze_iret S hr hlocks hF hK hW rfl dL_given_5 (Nat.le_of_ble_eq_true rfl) (Nat.le_of_ble_eq_true rfl) rfl rfl
set_option maxHeartbeats 4000000 in
set_option maxRecDepth 100000 in
theorem xw_charge_f (l : Launch) (D : va_G) (c : Nat → ClassId) (a n : Nat → Nat) (A : Nat → Nat → Int32) (B : Nat → Int64) (E : Nat → Nat → Int32) (j : Nat) (hN : zf_N n) (hj : j < n 3) : ze_Q l yL_charge wsL_charge 3 63 0 0 D c (ze_wC c a n A B E) [.ref (a 0), .int (nI j)] (A 17 j) (ze_wC c a n A B E) := by
  intro sz
  refine zq_start (cc := cL_charge) (maxL := 3) (ret := (some .int)) (own := RL) (by decide) rfl rfl (Nat.le_of_ble_eq_true rfl) ?_
  intro p e s m_ below meth cd F ls hF hsz E0 hXB hNc htab
  obtain ⟨S, hr, hlocks, hK, hW, hA, hl⟩ := E0
  have hX_ := S.1
  have hB_ := S.2.1
  have hts := S.2.2.2.2
  have hl : lv_has ls 3 [(0, .ref (a 0)), (1, .int (nI j))] := hl
  have hW := ze_W0 hW
  refine lv_aload_n hX_ hB_ dL_charge_0 rfl (lv_at hl 0 rfl) ?_
  refine lv_iload_n hX_ hB_ dL_charge_1 rfl (lv_at hl 1 rfl) ?_
  refine ze_FVi (As := [.int (nI j)]) (rest := []) (ci := 8) (q0 := 0) (k := (RX8, TX8, 8)) S (zp_charge_f l D c a n A B E j hN hj) (cwV 1 hts gL_charge_X8_charge rfl rfl rfl (by decide +kernel) ⟨(Nat.le_of_ble_eq_true rfl), (Nat.le_of_ble_eq_true rfl)⟩) hK hW hA rfl (ze_at0 0 rfl) rfl hl.1 rfl (lv_room (Nat.le_of_ble_eq_true rfl)) dL_charge_2 ⟨(Nat.le_of_ble_eq_true rfl), (Nat.le_of_ble_eq_true rfl)⟩ (fun H locs hW => ?_)
  have hW := ze_W0' hW
  exact ze_iret S hr hlocks hF hK hW rfl dL_charge_5 (Nat.le_of_ble_eq_true rfl) (Nat.le_of_ble_eq_true rfl) rfl rfl
set_option maxHeartbeats 4000000 in
set_option maxRecDepth 100000 in
theorem xw_flow_f (l : Launch) (D : va_G) (c : Nat → ClassId) (a n : Nat → Nat) (A : Nat → Nat → Int32) (B : Nat → Int64) (E : Nat → Nat → Int32) (j : Nat) (hN : zf_N n) (hj : j < n 3) : ze_Q l yL_flow wsL_flow 3 63 0 0 D c (ze_wC c a n A B E) [.ref (a 0), .int (nI j)] (A 18 j) (ze_wC c a n A B E) := by
  intro sz
  refine zq_start (cc := cL_flow) (maxL := 3) (ret := (some .int)) (own := RL) (by decide) rfl rfl (Nat.le_of_ble_eq_true rfl) ?_
  intro p e s m_ below meth cd F ls hF hsz E0 hXB hNc htab
  obtain ⟨S, hr, hlocks, hK, hW, hA, hl⟩ := E0
  have hX_ := S.1
  have hB_ := S.2.1
  have hts := S.2.2.2.2
  have hl : lv_has ls 3 [(0, .ref (a 0)), (1, .int (nI j))] := hl
  have hW := ze_W0 hW
  refine lv_aload_n hX_ hB_ dL_flow_0 rfl (lv_at hl 0 rfl) ?_
  refine lv_iload_n hX_ hB_ dL_flow_1 rfl (lv_at hl 1 rfl) ?_
  refine ze_FVi (As := [.int (nI j)]) (rest := []) (ci := 8) (q0 := 0) (k := (RX8, TX8, 8)) S (zp_flow_f l D c a n A B E j hN hj) (cwV 1 hts gL_flow_X8_flow rfl rfl rfl (by decide +kernel) ⟨(Nat.le_of_ble_eq_true rfl), (Nat.le_of_ble_eq_true rfl)⟩) hK hW hA rfl (ze_at0 0 rfl) rfl hl.1 rfl (lv_room (Nat.le_of_ble_eq_true rfl)) dL_flow_2 ⟨(Nat.le_of_ble_eq_true rfl), (Nat.le_of_ble_eq_true rfl)⟩ (fun H locs hW => ?_)
  have hW := ze_W0' hW
  exact ze_iret S hr hlocks hF hK hW rfl dL_flow_5 (Nat.le_of_ble_eq_true rfl) (Nat.le_of_ble_eq_true rfl) rfl rfl
set_option maxHeartbeats 4000000 in
set_option maxRecDepth 100000 in
theorem xw_toGo_f (l : Launch) (D : va_G) (c : Nat → ClassId) (a n : Nat → Nat) (A : Nat → Nat → Int32) (B : Nat → Int64) (E : Nat → Nat → Int32) (j : Nat) (hN : zf_N n) (hj : j < n 2) (h : A 13 j = 119) : ze_Q l yL_toGo wsL_toGo 3 64 0 0 D c (ze_wC c a n A B E) [.ref (a 0), .int (nI j)] (A 11 j) (ze_wC c a n A B E) := by
  intro sz
  refine zq_start (cc := cL_toGo) (maxL := 3) (ret := (some .int)) (own := RL) (by decide) rfl rfl (Nat.le_of_ble_eq_true rfl) ?_
  intro p e s m_ below meth cd F ls hF hsz E0 hXB hNc htab
  obtain ⟨S, hr, hlocks, hK, hW, hA, hl⟩ := E0
  have hX_ := S.1
  have hB_ := S.2.1
  have hts := S.2.2.2.2
  have hl : lv_has ls 3 [(0, .ref (a 0)), (1, .int (nI j))] := hl
  have hW := ze_W0 hW
  refine lv_aload_n hX_ hB_ dL_toGo_0 rfl (lv_at hl 0 rfl) ?_
  refine lv_iload_n hX_ hB_ dL_toGo_1 rfl (lv_at hl 1 rfl) ?_
  refine ze_FVi (As := [.int (nI j)]) (rest := []) (ci := 8) (q0 := 0) (k := (RX8, TX8, 8)) S (zp_toGo_f l D c a n A B E j hN hj h) (cwV 1 hts gL_toGo_X8_toGo rfl rfl rfl (by decide +kernel) ⟨(Nat.le_of_ble_eq_true rfl), (Nat.le_of_ble_eq_true rfl)⟩) hK hW hA rfl (ze_at0 0 rfl) rfl hl.1 rfl (lv_room (Nat.le_of_ble_eq_true rfl)) dL_toGo_2 ⟨(Nat.le_of_ble_eq_true rfl), (Nat.le_of_ble_eq_true rfl)⟩ (fun H locs hW => ?_)
  have hW := ze_W0' hW
  exact ze_iret S hr hlocks hF hK hW rfl dL_toGo_5 (Nat.le_of_ble_eq_true rfl) (Nat.le_of_ble_eq_true rfl) rfl rfl
set_option maxHeartbeats 4000000 in
set_option maxRecDepth 100000 in
theorem xw_setRank_f (l : Launch) (D : va_G) (c : Nat → ClassId) (a n : Nat → Nat) (A : Nat → Nat → Int32) (B : Nat → Int64) (E : Nat → Nat → Int32) (j : Nat) (hN : zf_N n) (hj : j < n 4) (y : Int32) (h : zf_isIn y 1 9) : ze_Q l yL_setRank wsL_setRank 3 66 0 0 D c (ze_wC c a n A B E) [.ref (a 0), .int (nI j), .int y] (A 21 j) (ze_wC c a n (ze_sE A 21 j y) B E) := by
  intro sz
  refine zq_start (cc := cL_setRank) (maxL := 4) (ret := (some .int)) (own := RL) (by decide) rfl rfl (Nat.le_of_ble_eq_true rfl) ?_
  intro p e s m_ below meth cd F ls hF hsz E0 hXB hNc htab
  obtain ⟨S, hr, hlocks, hK, hW, hA, hl⟩ := E0
  have hX_ := S.1
  have hB_ := S.2.1
  have hts := S.2.2.2.2
  have hl : lv_has ls 4 [(0, .ref (a 0)), (1, .int (nI j)), (2, .int y)] := hl
  have hW := ze_W0 hW
  refine lv_aload_n hX_ hB_ dL_setRank_0 rfl (lv_at hl 0 rfl) ?_
  refine lv_iload_n hX_ hB_ dL_setRank_1 rfl (lv_at hl 1 rfl) ?_
  refine lv_iload_n hX_ hB_ dL_setRank_2 rfl (lv_at hl 2 rfl) ?_
  refine ze_FVi (As := [.int (nI j), .int y]) (rest := []) (ci := 8) (q0 := 0) (k := (RX8, TX8, 8)) S (zp_setRank_f l D c a n A B E j hN hj y h) (cwV 2 hts gL_setRank_X8_setRank rfl rfl rfl (by decide +kernel) ⟨(Nat.le_of_ble_eq_true rfl), (Nat.le_of_ble_eq_true rfl)⟩) hK hW hA rfl (ze_at0 0 rfl) rfl hl.1 rfl (lv_room (Nat.le_of_ble_eq_true rfl)) dL_setRank_3 ⟨(Nat.le_of_ble_eq_true rfl), (Nat.le_of_ble_eq_true rfl)⟩ (fun H locs hW => ?_)
  have hW := ze_W0' hW
  exact ze_iret S hr hlocks hF hK hW rfl dL_setRank_6 (Nat.le_of_ble_eq_true rfl) (Nat.le_of_ble_eq_true rfl) rfl rfl
set_option maxHeartbeats 4000000 in
set_option maxRecDepth 100000 in
theorem xw_isLit_f (l : Launch) (D : va_G) (c : Nat → ClassId) (a n : Nat → Nat) (A : Nat → Nat → Int32) (B : Nat → Int64) (E : Nat → Nat → Int32) (j : Nat) (hN : zf_N n) (hj : j < n 4) : ze_Q l yL_isLit wsL_isLit 3 63 0 0 D c (ze_wC c a n A B E) [.ref (a 0), .int (nI j)] (if A 5 j = 0 then 1 else 0) (ze_wC c a n A B E) := by
  intro sz
  refine zq_start (cc := cL_isLit) (maxL := 3) (ret := (some .int)) (own := RL) (by decide) rfl rfl (Nat.le_of_ble_eq_true rfl) ?_
  intro p e s m_ below meth cd F ls hF hsz E0 hXB hNc htab
  obtain ⟨S, hr, hlocks, hK, hW, hA, hl⟩ := E0
  have hX_ := S.1
  have hB_ := S.2.1
  have hts := S.2.2.2.2
  have hl : lv_has ls 3 [(0, .ref (a 0)), (1, .int (nI j))] := hl
  have hW := ze_W0 hW
  refine lv_aload_n hX_ hB_ dL_isLit_0 rfl (lv_at hl 0 rfl) ?_
  refine lv_iload_n hX_ hB_ dL_isLit_1 rfl (lv_at hl 1 rfl) ?_
  refine ze_FVi (As := [.int (nI j)]) (rest := []) (ci := 8) (q0 := 0) (k := (RX8, TX8, 8)) S (zp_isLit_f l D c a n A B E j hN hj) (cwV 1 hts gL_isLit_X8_isLit rfl rfl rfl (by decide +kernel) ⟨(Nat.le_of_ble_eq_true rfl), (Nat.le_of_ble_eq_true rfl)⟩) hK hW hA rfl (ze_at0 0 rfl) rfl hl.1 rfl (lv_room (Nat.le_of_ble_eq_true rfl)) dL_isLit_2 ⟨(Nat.le_of_ble_eq_true rfl), (Nat.le_of_ble_eq_true rfl)⟩ (fun H locs hW => ?_)
  have hW := ze_W0' hW
  refine lv_if_eq (tgt := 12) hX_ hB_ dL_isLit_5 (by decide) (fun c0 => ?_) (fun c0 => ?_)
  · have c0 : ¬ A 5 j = 0 := ze_ntf c0
    refine lv_iconst (v := 0) hX_ hB_ dL_isLit_12 (by decide) ?_
    exact ze_iret S hr hlocks hF hK hW rfl dL_isLit_13 (Nat.le_of_ble_eq_true rfl) (Nat.le_of_ble_eq_true rfl) (by rw [if_neg c0]) rfl
  · have c0 : A 5 j = 0 := ze_ntt c0
    refine lv_iconst (v := 1) hX_ hB_ dL_isLit_8 (by decide) ?_
    refine lv_goto (tgt := 13) hX_ hB_ dL_isLit_9 (by decide) ?_
    exact ze_iret S hr hlocks hF hK hW rfl dL_isLit_13 (Nat.le_of_ble_eq_true rfl) (Nat.le_of_ble_eq_true rfl) (by rw [if_pos c0]) rfl
set_option maxHeartbeats 4000000 in
set_option maxRecDepth 100000 in
theorem xw_waits_f (l : Launch) (D : va_G) (c : Nat → ClassId) (a n : Nat → Nat) (A : Nat → Nat → Int32) (B : Nat → Int64) (E : Nat → Nat → Int32) (j : Nat) (hN : zf_N n) (hj : j < n 4) (h : ¬ A 5 j = 0) : ze_Q l yL_waits wsL_waits 3 64 0 0 D c (ze_wC c a n A B E) [.ref (a 0), .int (nI j)] (A 22 j) (ze_wC c a n A B E) := by
  intro sz
  refine zq_start (cc := cL_waits) (maxL := 3) (ret := (some .int)) (own := RL) (by decide) rfl rfl (Nat.le_of_ble_eq_true rfl) ?_
  intro p e s m_ below meth cd F ls hF hsz E0 hXB hNc htab
  obtain ⟨S, hr, hlocks, hK, hW, hA, hl⟩ := E0
  have hX_ := S.1
  have hB_ := S.2.1
  have hts := S.2.2.2.2
  have hl : lv_has ls 3 [(0, .ref (a 0)), (1, .int (nI j))] := hl
  have hW := ze_W0 hW
  refine lv_aload_n hX_ hB_ dL_waits_0 rfl (lv_at hl 0 rfl) ?_
  refine lv_iload_n hX_ hB_ dL_waits_1 rfl (lv_at hl 1 rfl) ?_
  refine ze_FVi (As := [.int (nI j)]) (rest := []) (ci := 8) (q0 := 0) (k := (RX8, TX8, 8)) S (zp_waits_f l D c a n A B E j hN hj h) (cwV 1 hts gL_waits_X8_waits rfl rfl rfl (by decide +kernel) ⟨(Nat.le_of_ble_eq_true rfl), (Nat.le_of_ble_eq_true rfl)⟩) hK hW hA rfl (ze_at0 0 rfl) rfl hl.1 rfl (lv_room (Nat.le_of_ble_eq_true rfl)) dL_waits_2 ⟨(Nat.le_of_ble_eq_true rfl), (Nat.le_of_ble_eq_true rfl)⟩ (fun H locs hW => ?_)
  have hW := ze_W0' hW
  exact ze_iret S hr hlocks hF hK hW rfl dL_waits_5 (Nat.le_of_ble_eq_true rfl) (Nat.le_of_ble_eq_true rfl) rfl rfl
set_option maxHeartbeats 4000000 in
set_option maxRecDepth 100000 in
theorem xw_setReserve_f (l : Launch) (D : va_G) (c : Nat → ClassId) (a n : Nat → Nat) (A : Nat → Nat → Int32) (B : Nat → Int64) (E : Nat → Nat → Int32) (y : Int32) (h : zf_isIn y 0 999) : ze_Q l yL_setReserve wsL_setReserve 2 44 0 0 D c (ze_wC c a n A B E) [.ref (a 0), .int y] (A 28 0) (ze_wC c a n (ze_sC A 28 y) B E) := by
  intro sz
  refine zq_start (cc := cL_setReserve) (maxL := 3) (ret := (some .int)) (own := RL) (by decide) rfl rfl (Nat.le_of_ble_eq_true rfl) ?_
  intro p e s m_ below meth cd F ls hF hsz E0 hXB hNc htab
  obtain ⟨S, hr, hlocks, hK, hW, hA, hl⟩ := E0
  have hX_ := S.1
  have hB_ := S.2.1
  have hts := S.2.2.2.2
  have hl : lv_has ls 3 [(0, .ref (a 0)), (1, .int y)] := hl
  have hW := ze_W0 hW
  refine lv_aload_n hX_ hB_ dL_setReserve_0 rfl (lv_at hl 0 rfl) ?_
  refine lv_iload_n hX_ hB_ dL_setReserve_1 rfl (lv_at hl 1 rfl) ?_
  refine ze_FVi (As := [.int y]) (rest := []) (ci := 8) (q0 := 0) (k := (RX8, TX8, 8)) S (zp_setReserve_f l D c a n A B E y h) (cwV 1 hts gL_setReserve_X8_setReserve rfl rfl rfl (by decide +kernel) ⟨(Nat.le_of_ble_eq_true rfl), (Nat.le_of_ble_eq_true rfl)⟩) hK hW hA rfl (ze_at0 0 rfl) rfl hl.1 rfl (lv_room (Nat.le_of_ble_eq_true rfl)) dL_setReserve_2 ⟨(Nat.le_of_ble_eq_true rfl), (Nat.le_of_ble_eq_true rfl)⟩ (fun H locs hW => ?_)
  have hW := ze_W0' hW
  exact ze_iret S hr hlocks hF hK hW rfl dL_setReserve_5 (Nat.le_of_ble_eq_true rfl) (Nat.le_of_ble_eq_true rfl) rfl rfl
set_option maxHeartbeats 4000000 in
set_option maxRecDepth 100000 in
theorem xw_setDelay_f (l : Launch) (D : va_G) (c : Nat → ClassId) (a n : Nat → Nat) (A : Nat → Nat → Int32) (B : Nat → Int64) (E : Nat → Nat → Int32) (y : Int32) (h : zf_isIn y 0 9) : ze_Q l yL_setDelay wsL_setDelay 2 44 0 0 D c (ze_wC c a n A B E) [.ref (a 0), .int y] (A 29 0) (ze_wC c a n (ze_sC A 29 y) B E) := by
  intro sz
  refine zq_start (cc := cL_setDelay) (maxL := 3) (ret := (some .int)) (own := RL) (by decide) rfl rfl (Nat.le_of_ble_eq_true rfl) ?_
  intro p e s m_ below meth cd F ls hF hsz E0 hXB hNc htab
  obtain ⟨S, hr, hlocks, hK, hW, hA, hl⟩ := E0
  have hX_ := S.1
  have hB_ := S.2.1
  have hts := S.2.2.2.2
  have hl : lv_has ls 3 [(0, .ref (a 0)), (1, .int y)] := hl
  have hW := ze_W0 hW
  refine lv_aload_n hX_ hB_ dL_setDelay_0 rfl (lv_at hl 0 rfl) ?_
  refine lv_iload_n hX_ hB_ dL_setDelay_1 rfl (lv_at hl 1 rfl) ?_
  refine ze_FVi (As := [.int y]) (rest := []) (ci := 8) (q0 := 0) (k := (RX8, TX8, 8)) S (zp_setDelay_f l D c a n A B E y h) (cwV 1 hts gL_setDelay_X8_setDelay rfl rfl rfl (by decide +kernel) ⟨(Nat.le_of_ble_eq_true rfl), (Nat.le_of_ble_eq_true rfl)⟩) hK hW hA rfl (ze_at0 0 rfl) rfl hl.1 rfl (lv_room (Nat.le_of_ble_eq_true rfl)) dL_setDelay_2 ⟨(Nat.le_of_ble_eq_true rfl), (Nat.le_of_ble_eq_true rfl)⟩ (fun H locs hW => ?_)
  have hW := ze_W0' hW
  exact ze_iret S hr hlocks hF hK hW rfl dL_setDelay_5 (Nat.le_of_ble_eq_true rfl) (Nat.le_of_ble_eq_true rfl) rfl rfl
set_option maxHeartbeats 4000000 in
set_option maxRecDepth 100000 in
theorem xw_bound_f (l : Launch) (D : va_G) (c : Nat → ClassId) (a n : Nat → Nat) (A : Nat → Nat → Int32) (B : Nat → Int64) (E : Nat → Nat → Int32) (j : Nat) (hN : zf_N n) (hj : j < n 0) (hS : zf_S n A) : ze_Q l yL_bound wsL_bound 5 98 0 0 D c (ze_wC c a n A B E) [.ref (a 0), .int (nI j)] (zf_bOf n A (E 0) (E 0 j)) (ze_wC c a n A B E) := by
  intro sz
  refine zq_start (cc := cL_bound) (maxL := 3) (ret := (some .int)) (own := RL) (by decide) rfl rfl (Nat.le_of_ble_eq_true rfl) ?_
  intro p e s m_ below meth cd F ls hF hsz E0 hXB hNc htab
  obtain ⟨S, hr, hlocks, hK, hW, hA, hl⟩ := E0
  have hX_ := S.1
  have hB_ := S.2.1
  have hts := S.2.2.2.2
  have hl : lv_has ls 3 [(0, .ref (a 0)), (1, .int (nI j))] := hl
  have hW := ze_W0 hW
  refine lv_aload_n hX_ hB_ dL_bound_0 rfl (lv_at hl 0 rfl) ?_
  refine lv_iload_n hX_ hB_ dL_bound_1 rfl (lv_at hl 1 rfl) ?_
  refine ze_FVi (As := [.int (nI j)]) (rest := []) (ci := 8) (q0 := 0) (k := (RX8, TX8, 8)) S (zp_bound_f l D c a n A B E j hN hj hS) (cwV 1 hts gL_bound_X8_bound rfl rfl rfl (by decide +kernel) ⟨(Nat.le_of_ble_eq_true rfl), (Nat.le_of_ble_eq_true rfl)⟩) hK hW hA rfl (ze_at0 0 rfl) rfl hl.1 rfl (lv_room (Nat.le_of_ble_eq_true rfl)) dL_bound_2 ⟨(Nat.le_of_ble_eq_true rfl), (Nat.le_of_ble_eq_true rfl)⟩ (fun H locs hW => ?_)
  have hW := ze_W0' hW
  exact ze_iret S hr hlocks hF hK hW rfl dL_bound_5 (Nat.le_of_ble_eq_true rfl) (Nat.le_of_ble_eq_true rfl) rfl rfl
set_option maxHeartbeats 4000000 in
set_option maxRecDepth 100000 in
theorem xw_demand_f (l : Launch) (D : va_G) (c : Nat → ClassId) (a n : Nat → Nat) (A : Nat → Nat → Int32) (B : Nat → Int64) (E : Nat → Nat → Int32) (j : Nat) (hN : zf_N n) (hj : j < n 0) (hS : zf_S n A) : ze_Q l yL_demand wsL_demand 3 66 0 0 D c (ze_wC c a n A B E) [.ref (a 0), .int (nI j)] (zf_demanded A (E 0) (E 0 j) (n 4)) (ze_wC c a n A B E) := by
  intro sz
  refine zq_start (cc := cL_demand) (maxL := 3) (ret := (some .int)) (own := RL) (by decide) rfl rfl (Nat.le_of_ble_eq_true rfl) ?_
  intro p e s m_ below meth cd F ls hF hsz E0 hXB hNc htab
  obtain ⟨S, hr, hlocks, hK, hW, hA, hl⟩ := E0
  have hX_ := S.1
  have hB_ := S.2.1
  have hts := S.2.2.2.2
  have hl : lv_has ls 3 [(0, .ref (a 0)), (1, .int (nI j))] := hl
  have hW := ze_W0 hW
  refine lv_aload_n hX_ hB_ dL_demand_0 rfl (lv_at hl 0 rfl) ?_
  refine lv_iload_n hX_ hB_ dL_demand_1 rfl (lv_at hl 1 rfl) ?_
  refine ze_FVi (As := [.int (nI j)]) (rest := []) (ci := 8) (q0 := 0) (k := (RX8, TX8, 8)) S (zp_demand_f l D c a n A B E j hN hj hS) (cwV 1 hts gL_demand_X8_demand rfl rfl rfl (by decide +kernel) ⟨(Nat.le_of_ble_eq_true rfl), (Nat.le_of_ble_eq_true rfl)⟩) hK hW hA rfl (ze_at0 0 rfl) rfl hl.1 rfl (lv_room (Nat.le_of_ble_eq_true rfl)) dL_demand_2 ⟨(Nat.le_of_ble_eq_true rfl), (Nat.le_of_ble_eq_true rfl)⟩ (fun H locs hW => ?_)
  have hW := ze_W0' hW
  exact ze_iret S hr hlocks hF hK hW rfl dL_demand_5 (Nat.le_of_ble_eq_true rfl) (Nat.le_of_ble_eq_true rfl) rfl rfl
set_option maxHeartbeats 4000000 in
set_option maxRecDepth 100000 in
theorem xw_pass_f (l : Launch) (D : va_G) (c : Nat → ClassId) (a n : Nat → Nat) (A : Nat → Nat → Int32) (B : Nat → Int64) (E : Nat → Nat → Int32) (t : Nat) (h1 : 1 ≤ t) (h2 : t ≤ 12) (hN : zf_N n) (hS : zf_S n A) : ze_Q l yL_pass wsL_pass 8 167 0 0 D c (ze_wC c a n A B E) [.ref (a 0), .int (nI t)] (zf_lits ((zf_ctks n A B E t).1) (n 4)) (ze_wC c a n ((zf_ctks n A B E t).1) ((zf_ctks n A B E t).2.1) ((zf_ctks n A B E t).2.2)) := by
  intro sz
  refine zq_start (cc := cL_pass) (maxL := 3) (ret := (some .int)) (own := RL) (by decide) rfl rfl (Nat.le_of_ble_eq_true rfl) ?_
  intro p e s m_ below meth cd F ls hF hsz E0 hXB hNc htab
  obtain ⟨S, hr, hlocks, hK, hW, hA, hl⟩ := E0
  have hX_ := S.1
  have hB_ := S.2.1
  have hts := S.2.2.2.2
  have hl : lv_has ls 3 [(0, .ref (a 0)), (1, .int (nI t))] := hl
  have hW := ze_W0 hW
  refine lv_aload_n hX_ hB_ dL_pass_0 rfl (lv_at hl 0 rfl) ?_
  refine lv_iload_n hX_ hB_ dL_pass_1 rfl (lv_at hl 1 rfl) ?_
  refine ze_FVi (As := [.int (nI t)]) (rest := []) (ci := 8) (q0 := 0) (k := (RX8, TX8, 8)) S (zp_pass_f l D c a n A B E t h1 h2 hN hS) (cwV 1 hts gL_pass_X8_pass rfl rfl rfl (by decide +kernel) ⟨(Nat.le_of_ble_eq_true rfl), (Nat.le_of_ble_eq_true rfl)⟩) hK hW hA rfl (ze_at0 0 rfl) rfl hl.1 rfl (lv_room (Nat.le_of_ble_eq_true rfl)) dL_pass_2 ⟨(Nat.le_of_ble_eq_true rfl), (Nat.le_of_ble_eq_true rfl)⟩ (fun H locs hW => ?_)
  have hW := ze_W0' hW
  exact ze_iret S hr hlocks hF hK hW rfl dL_pass_5 (Nat.le_of_ble_eq_true rfl) (Nat.le_of_ble_eq_true rfl) rfl rfl
set_option maxHeartbeats 4000000 in
set_option maxRecDepth 100000 in
theorem xw_litShare_f (l : Launch) (D : va_G) (c : Nat → ClassId) (a n : Nat → Nat) (A : Nat → Nat → Int32) (B : Nat → Int64) (E : Nat → Nat → Int32) (hN : zf_N n) (h : ¬ n 4 = 0) : xb_F l yL_litShare wsL_litShare 2 42 0 0 D c (ze_wC c a n A B E) [.ref (a 0)] (FP.fdiv (FP.i2f (zf_lits A (n 4))) (FP.i2f (nI (n 4)))) (ze_wC c a n A B E) := by
  intro sz
  refine zq_start (cc := cL_litShare) (maxL := 2) (ret := (some .float)) (own := RL) (by decide) rfl rfl (Nat.le_of_ble_eq_true rfl) ?_
  intro p e s m_ below meth cd F ls hF hsz E0 hXB hNc htab
  obtain ⟨S, hr, hlocks, hK, hW, hA, hl⟩ := E0
  have hX_ := S.1
  have hB_ := S.2.1
  have hts := S.2.2.2.2
  have hl : lv_has ls 2 [(0, .ref (a 0))] := hl
  have hW := ze_W0 hW
  refine lv_aload_n hX_ hB_ dL_litShare_0 rfl (lv_at hl 0 rfl) ?_
  refine ze_FVf (As := []) (rest := []) (ci := 8) (q0 := 0) (k := (RX8, TX8, 8)) S (zp_litShare_f l D c a n A B E hN h) (cwV 0 hts gL_litShare_X8_litShare rfl rfl rfl (by decide +kernel) ⟨(Nat.le_of_ble_eq_true rfl), (Nat.le_of_ble_eq_true rfl)⟩) hK hW hA rfl (ze_at0 0 rfl) rfl hl.1 rfl (lv_room (Nat.le_of_ble_eq_true rfl)) dL_litShare_1 ⟨(Nat.le_of_ble_eq_true rfl), (Nat.le_of_ble_eq_true rfl)⟩ (fun H locs hW => ?_)
  have hW := ze_W0' hW
  exact ze_fret S hr hlocks hF hK hW dL_litShare_4 (Nat.le_of_ble_eq_true rfl) (Nat.le_of_ble_eq_true rfl) rfl rfl
set_option maxHeartbeats 4000000 in
set_option maxRecDepth 100000 in
theorem xw_addSite_t1 (l : Launch) (D : va_G) (hst : l.stackTraces = false) (c : Nat → ClassId) (a n : Nat → Nat) (A : Nat → Nat → Int32) (B : Nat → Int64) (E : Nat → Nat → Int32) (hN : zf_N n) (h : ¬ n 0 < 6) : ze_Q l yL_addSite wsL_addSite 7 102 1 6 D c (ze_wC c a n A B E) [.ref (a 0)] (-900001) (ze_wC c a n A B E) := by
  intro sz
  refine zq_start (cc := cL_addSite) (maxL := 2) (ret := (some .int)) (own := RL) (by decide) rfl rfl (Nat.le_of_ble_eq_true rfl) ?_
  intro p e s m_ below meth cd F ls hF hsz E0 hXB hNc htab
  obtain ⟨S, hr, hlocks, hK, hW, hA, hl⟩ := E0
  have hX_ := S.1
  have hB_ := S.2.1
  have hts := S.2.2.2.2
  have hl : lv_has ls 2 [(0, .ref (a 0))] := hl
  have w0 := hts (.classLink RL 15 "java/lang/IllegalStateException") (List.mem_cons_of_mem _ (List.mem_append_left _ (List.mem_append_left _ (List.mem_append_left _ (List.mem_append_left _ (List.mem_of_getElem? (i := 0) rfl))))))
  have w1 := hts (.constant RL 17 (-900001)) (List.mem_cons_of_mem _ (List.mem_append_left _ (List.mem_append_left _ (List.mem_append_left _ (List.mem_append_left _ (List.mem_of_getElem? (i := 1) rfl))))))
  have hW := ze_W0 hW
  refine lv_aload_n hX_ hB_ dL_addSite_0 rfl (lv_at hl 0 rfl) ?_
  refine zx_FVc (As := []) (rest := []) (ci := 8) (q0 := 0) (k := (RX8, TX8, 8)) S (zt_addSite_t1 l D hst c a n A B E hN h) (cwV 0 hts gL_addSite_X8_addSite rfl rfl rfl (by decide +kernel) ⟨(Nat.le_of_ble_eq_true rfl), (Nat.le_of_ble_eq_true rfl)⟩) hK hW hXB hA rfl (ze_at0 0 rfl) rfl hl.1 rfl (lv_room (Nat.le_of_ble_eq_true rfl)) dL_addSite_1 ⟨(Nat.le_of_ble_eq_true rfl), (Nat.le_of_ble_eq_true rfl)⟩ [] ⟨0, 4, 5, 15⟩ [] htab (by intro z hz; cases hz) (by decide) (by decide) w0 (va_Nw.use rfl (hXB.2.2.2 _ (List.mem_of_getElem? (i := 3) rfl))) (fun q9 H locs hW => ?_)
  have hW := ze_W0' hW
  refine lv_astore_n (lv' := [(1, .ref q9), (0, .ref (a 0))]) hX_ hB_ dL_addSite_5 rfl hl (by decide) rfl (fun ls hl => ?_)
  refine lv_ldc (own := RL) (v := -900001) hX_ hB_ S.2.2.2.1 w1 dL_addSite_6 ?_
  exact ze_iret S hr hlocks hF hK hW rfl dL_addSite_8 (Nat.le_of_ble_eq_true rfl) (Nat.le_of_ble_eq_true rfl) rfl rfl
set_option maxHeartbeats 4000000 in
set_option maxRecDepth 100000 in
theorem xw_setPhase_t1 (l : Launch) (D : va_G) (hst : l.stackTraces = false) (c : Nat → ClassId) (a n : Nat → Nat) (A : Nat → Nat → Int32) (B : Nat → Int64) (E : Nat → Nat → Int32) (x : Int32) (hN : zf_N n) (hx : ¬ zf_isIn x 0 (nI (n 0) - 1)) (y : Int32) : ze_Q l yL_setPhase wsL_setPhase 9 147 1 6 D c (ze_wC c a n A B E) [.ref (a 0), .int x, .int y] (-900001) (ze_wC c a n A B E) := by
  intro sz
  refine zq_start (cc := cL_setPhase) (maxL := 4) (ret := (some .int)) (own := RL) (by decide) rfl rfl (Nat.le_of_ble_eq_true rfl) ?_
  intro p e s m_ below meth cd F ls hF hsz E0 hXB hNc htab
  obtain ⟨S, hr, hlocks, hK, hW, hA, hl⟩ := E0
  have hX_ := S.1
  have hB_ := S.2.1
  have hts := S.2.2.2.2
  have hl : lv_has ls 4 [(0, .ref (a 0)), (1, .int x), (2, .int y)] := hl
  have w0 := hts (.classLink RL 22 "java/lang/IndexOutOfBoundsException") (List.mem_cons_of_mem _ (List.mem_append_left _ (List.mem_append_left _ (List.mem_append_left _ (List.mem_append_left _ (List.mem_append_left _ (List.mem_of_getElem? (i := 0) rfl)))))))
  have w1 := hts (.constant RL 17 (-900001)) (List.mem_cons_of_mem _ (List.mem_append_left _ (List.mem_append_left _ (List.mem_append_left _ (List.mem_append_left _ (List.mem_append_left _ (List.mem_of_getElem? (i := 2) rfl)))))))
  have hW := ze_W0 hW
  refine lv_aload_n hX_ hB_ dL_setPhase_0 rfl (lv_at hl 0 rfl) ?_
  refine lv_iload_n hX_ hB_ dL_setPhase_1 rfl (lv_at hl 1 rfl) ?_
  refine lv_iload_n hX_ hB_ dL_setPhase_2 rfl (lv_at hl 2 rfl) ?_
  refine zx_FVc (As := [.int x, .int y]) (rest := []) (ci := 8) (q0 := 0) (k := (RX8, TX8, 8)) S (zt_setPhase_t1 l D hst c a n A B E x hN hx y) (cwV 2 hts gL_setPhase_X8_setPhase rfl rfl rfl (by decide +kernel) ⟨(Nat.le_of_ble_eq_true rfl), (Nat.le_of_ble_eq_true rfl)⟩) hK hW hXB hA rfl (ze_at0 0 rfl) rfl hl.1 rfl (lv_room (Nat.le_of_ble_eq_true rfl)) dL_setPhase_3 ⟨(Nat.le_of_ble_eq_true rfl), (Nat.le_of_ble_eq_true rfl)⟩ [] ⟨0, 6, 7, 22⟩ [⟨0, 6, 11, 24⟩] htab (by intro z hz; cases hz) (by decide) (by decide) w0 (va_Nw.use rfl (hXB.2.2.2 _ (List.mem_of_getElem? (i := 7) rfl))) (fun q9 H locs hW => ?_)
  have hW := ze_W0' hW
  refine lv_astore_n (lv' := [(3, .ref q9), (0, .ref (a 0)), (1, .int x), (2, .int y)]) hX_ hB_ dL_setPhase_7 rfl hl (by decide) rfl (fun ls hl => ?_)
  refine lv_ldc (own := RL) (v := -900001) hX_ hB_ S.2.2.2.1 w1 dL_setPhase_8 ?_
  exact ze_iret S hr hlocks hF hK hW rfl dL_setPhase_10 (Nat.le_of_ble_eq_true rfl) (Nat.le_of_ble_eq_true rfl) rfl rfl
set_option maxHeartbeats 4000000 in
set_option maxRecDepth 100000 in
theorem xw_setPhase_t2 (l : Launch) (D : va_G) (hst : l.stackTraces = false) (c : Nat → ClassId) (a n : Nat → Nat) (A : Nat → Nat → Int32) (B : Nat → Int64) (E : Nat → Nat → Int32) (j : Nat) (hN : zf_N n) (hj : j < n 0) (y : Int32) (hy : ¬ zf_isIn y 0 359) : ze_Q l yL_setPhase wsL_setPhase 8 127 1 6 D c (ze_wC c a n A B E) [.ref (a 0), .int (nI j), .int y] (-900002) (ze_wC c a n A B E) := by
  intro sz
  refine zq_start (cc := cL_setPhase) (maxL := 4) (ret := (some .int)) (own := RL) (by decide) rfl rfl (Nat.le_of_ble_eq_true rfl) ?_
  intro p e s m_ below meth cd F ls hF hsz E0 hXB hNc htab
  obtain ⟨S, hr, hlocks, hK, hW, hA, hl⟩ := E0
  have hX_ := S.1
  have hB_ := S.2.1
  have hts := S.2.2.2.2
  have hl : lv_has ls 4 [(0, .ref (a 0)), (1, .int (nI j)), (2, .int y)] := hl
  have w0 := hts (.classLink RL 22 "java/lang/IndexOutOfBoundsException") (List.mem_cons_of_mem _ (List.mem_append_left _ (List.mem_append_left _ (List.mem_append_left _ (List.mem_append_left _ (List.mem_append_left _ (List.mem_of_getElem? (i := 0) rfl)))))))
  have w1 := hts (.classLink RL 24 "java/lang/IllegalArgumentException") (List.mem_cons_of_mem _ (List.mem_append_left _ (List.mem_append_left _ (List.mem_append_left _ (List.mem_append_left _ (List.mem_append_left _ (List.mem_of_getElem? (i := 1) rfl)))))))
  have w2 := hts (.constant RL 26 (-900002)) (List.mem_cons_of_mem _ (List.mem_append_left _ (List.mem_append_left _ (List.mem_append_left _ (List.mem_append_left _ (List.mem_append_left _ (List.mem_of_getElem? (i := 3) rfl)))))))
  have hW := ze_W0 hW
  refine lv_aload_n hX_ hB_ dL_setPhase_0 rfl (lv_at hl 0 rfl) ?_
  refine lv_iload_n hX_ hB_ dL_setPhase_1 rfl (lv_at hl 1 rfl) ?_
  refine lv_iload_n hX_ hB_ dL_setPhase_2 rfl (lv_at hl 2 rfl) ?_
  refine zx_FVc (As := [.int (nI j), .int y]) (rest := []) (ci := 8) (q0 := 0) (k := (RX8, TX8, 8)) S (zt_setPhase_t2 l D hst c a n A B E j hN hj y hy) (cwV 2 hts gL_setPhase_X8_setPhase rfl rfl rfl (by decide +kernel) ⟨(Nat.le_of_ble_eq_true rfl), (Nat.le_of_ble_eq_true rfl)⟩) hK hW hXB hA rfl (ze_at0 0 rfl) rfl hl.1 rfl (lv_room (Nat.le_of_ble_eq_true rfl)) dL_setPhase_3 ⟨(Nat.le_of_ble_eq_true rfl), (Nat.le_of_ble_eq_true rfl)⟩ [⟨0, 6, 7, 22⟩] ⟨0, 6, 11, 24⟩ [] htab (by
      intro z hz
      simp only [List.mem_cons, List.not_mem_nil, or_false] at hz
      rcases hz with rfl
      exact Or.inr ⟨by decide, "java/lang/IndexOutOfBoundsException", w0, hNc ("java/lang/IllegalArgumentException", "java/lang/IndexOutOfBoundsException") (by decide +kernel)⟩) (by decide) (by decide) w1 (va_Nw.use rfl (hXB.2.2.2 _ (List.mem_of_getElem? (i := 4) rfl))) (fun q9 H locs hW => ?_)
  have hW := ze_W0' hW
  refine lv_astore_n (lv' := [(3, .ref q9), (0, .ref (a 0)), (1, .int (nI j)), (2, .int y)]) hX_ hB_ dL_setPhase_11 rfl hl (by decide) rfl (fun ls hl => ?_)
  refine lv_ldc (own := RL) (v := -900002) hX_ hB_ S.2.2.2.1 w2 dL_setPhase_12 ?_
  exact ze_iret S hr hlocks hF hK hW rfl dL_setPhase_14 (Nat.le_of_ble_eq_true rfl) (Nat.le_of_ble_eq_true rfl) rfl rfl
set_option maxHeartbeats 4000000 in
set_option maxRecDepth 100000 in
theorem xw_addLine_t1a (l : Launch) (D : va_G) (hst : l.stackTraces = false) (c : Nat → ClassId) (a n : Nat → Nat) (A : Nat → Nat → Int32) (B : Nat → Int64) (E : Nat → Nat → Int32) (x : Int32) (hN : zf_N n) (hx : ¬ zf_isIn x 0 (nI (n 0) - 1)) (y : Int32) : ze_Q l yL_addLine wsL_addLine 9 146 1 6 D c (ze_wC c a n A B E) [.ref (a 0), .int x, .int y] (-900001) (ze_wC c a n A B E) := by
  intro sz
  refine zq_start (cc := cL_addLine) (maxL := 4) (ret := (some .int)) (own := RL) (by decide) rfl rfl (Nat.le_of_ble_eq_true rfl) ?_
  intro p e s m_ below meth cd F ls hF hsz E0 hXB hNc htab
  obtain ⟨S, hr, hlocks, hK, hW, hA, hl⟩ := E0
  have hX_ := S.1
  have hB_ := S.2.1
  have hts := S.2.2.2.2
  have hl : lv_has ls 4 [(0, .ref (a 0)), (1, .int x), (2, .int y)] := hl
  have w0 := hts (.classLink RL 22 "java/lang/IndexOutOfBoundsException") (List.mem_cons_of_mem _ (List.mem_append_left _ (List.mem_append_left _ (List.mem_append_left _ (List.mem_append_left _ (List.mem_append_left _ (List.mem_append_left _ (List.mem_of_getElem? (i := 0) rfl))))))))
  have w1 := hts (.constant RL 17 (-900001)) (List.mem_cons_of_mem _ (List.mem_append_left _ (List.mem_append_left _ (List.mem_append_left _ (List.mem_append_left _ (List.mem_append_left _ (List.mem_append_left _ (List.mem_of_getElem? (i := 3) rfl))))))))
  have hW := ze_W0 hW
  refine lv_aload_n hX_ hB_ dL_addLine_0 rfl (lv_at hl 0 rfl) ?_
  refine lv_iload_n hX_ hB_ dL_addLine_1 rfl (lv_at hl 1 rfl) ?_
  refine lv_iload_n hX_ hB_ dL_addLine_2 rfl (lv_at hl 2 rfl) ?_
  refine zx_FVc (As := [.int x, .int y]) (rest := []) (ci := 8) (q0 := 0) (k := (RX8, TX8, 8)) S (zt_addLine_t1a l D hst c a n A B E x hN hx y) (cwV 2 hts gL_addLine_X8_addLine rfl rfl rfl (by decide +kernel) ⟨(Nat.le_of_ble_eq_true rfl), (Nat.le_of_ble_eq_true rfl)⟩) hK hW hXB hA rfl (ze_at0 0 rfl) rfl hl.1 rfl (lv_room (Nat.le_of_ble_eq_true rfl)) dL_addLine_3 ⟨(Nat.le_of_ble_eq_true rfl), (Nat.le_of_ble_eq_true rfl)⟩ [] ⟨0, 6, 7, 22⟩ [⟨0, 6, 11, 24⟩, ⟨0, 6, 15, 15⟩] htab (by intro z hz; cases hz) (by decide) (by decide) w0 (va_Nw.use rfl (hXB.2.2.2 _ (List.mem_of_getElem? (i := 7) rfl))) (fun q9 H locs hW => ?_)
  have hW := ze_W0' hW
  refine lv_astore_n (lv' := [(3, .ref q9), (0, .ref (a 0)), (1, .int x), (2, .int y)]) hX_ hB_ dL_addLine_7 rfl hl (by decide) rfl (fun ls hl => ?_)
  refine lv_ldc (own := RL) (v := -900001) hX_ hB_ S.2.2.2.1 w1 dL_addLine_8 ?_
  exact ze_iret S hr hlocks hF hK hW rfl dL_addLine_10 (Nat.le_of_ble_eq_true rfl) (Nat.le_of_ble_eq_true rfl) rfl rfl
set_option maxHeartbeats 4000000 in
set_option maxRecDepth 100000 in
theorem xw_addLine_t1b (l : Launch) (D : va_G) (hst : l.stackTraces = false) (c : Nat → ClassId) (a n : Nat → Nat) (A : Nat → Nat → Int32) (B : Nat → Int64) (E : Nat → Nat → Int32) (j : Nat) (hN : zf_N n) (hj : j < n 0) (y : Int32) (hy : ¬ zf_isIn y 0 (nI (n 0) - 1)) : ze_Q l yL_addLine wsL_addLine 9 146 1 6 D c (ze_wC c a n A B E) [.ref (a 0), .int (nI j), .int y] (-900001) (ze_wC c a n A B E) := by
  intro sz
  refine zq_start (cc := cL_addLine) (maxL := 4) (ret := (some .int)) (own := RL) (by decide) rfl rfl (Nat.le_of_ble_eq_true rfl) ?_
  intro p e s m_ below meth cd F ls hF hsz E0 hXB hNc htab
  obtain ⟨S, hr, hlocks, hK, hW, hA, hl⟩ := E0
  have hX_ := S.1
  have hB_ := S.2.1
  have hts := S.2.2.2.2
  have hl : lv_has ls 4 [(0, .ref (a 0)), (1, .int (nI j)), (2, .int y)] := hl
  have w0 := hts (.classLink RL 22 "java/lang/IndexOutOfBoundsException") (List.mem_cons_of_mem _ (List.mem_append_left _ (List.mem_append_left _ (List.mem_append_left _ (List.mem_append_left _ (List.mem_append_left _ (List.mem_append_left _ (List.mem_of_getElem? (i := 0) rfl))))))))
  have w1 := hts (.constant RL 17 (-900001)) (List.mem_cons_of_mem _ (List.mem_append_left _ (List.mem_append_left _ (List.mem_append_left _ (List.mem_append_left _ (List.mem_append_left _ (List.mem_append_left _ (List.mem_of_getElem? (i := 3) rfl))))))))
  have hW := ze_W0 hW
  refine lv_aload_n hX_ hB_ dL_addLine_0 rfl (lv_at hl 0 rfl) ?_
  refine lv_iload_n hX_ hB_ dL_addLine_1 rfl (lv_at hl 1 rfl) ?_
  refine lv_iload_n hX_ hB_ dL_addLine_2 rfl (lv_at hl 2 rfl) ?_
  refine zx_FVc (As := [.int (nI j), .int y]) (rest := []) (ci := 8) (q0 := 0) (k := (RX8, TX8, 8)) S (zt_addLine_t1b l D hst c a n A B E j hN hj y hy) (cwV 2 hts gL_addLine_X8_addLine rfl rfl rfl (by decide +kernel) ⟨(Nat.le_of_ble_eq_true rfl), (Nat.le_of_ble_eq_true rfl)⟩) hK hW hXB hA rfl (ze_at0 0 rfl) rfl hl.1 rfl (lv_room (Nat.le_of_ble_eq_true rfl)) dL_addLine_3 ⟨(Nat.le_of_ble_eq_true rfl), (Nat.le_of_ble_eq_true rfl)⟩ [] ⟨0, 6, 7, 22⟩ [⟨0, 6, 11, 24⟩, ⟨0, 6, 15, 15⟩] htab (by intro z hz; cases hz) (by decide) (by decide) w0 (va_Nw.use rfl (hXB.2.2.2 _ (List.mem_of_getElem? (i := 7) rfl))) (fun q9 H locs hW => ?_)
  have hW := ze_W0' hW
  refine lv_astore_n (lv' := [(3, .ref q9), (0, .ref (a 0)), (1, .int (nI j)), (2, .int y)]) hX_ hB_ dL_addLine_7 rfl hl (by decide) rfl (fun ls hl => ?_)
  refine lv_ldc (own := RL) (v := -900001) hX_ hB_ S.2.2.2.1 w1 dL_addLine_8 ?_
  exact ze_iret S hr hlocks hF hK hW rfl dL_addLine_10 (Nat.le_of_ble_eq_true rfl) (Nat.le_of_ble_eq_true rfl) rfl rfl
set_option maxHeartbeats 4000000 in
set_option maxRecDepth 100000 in
theorem xw_addLine_t2 (l : Launch) (D : va_G) (hst : l.stackTraces = false) (c : Nat → ClassId) (a n : Nat → Nat) (A : Nat → Nat → Int32) (B : Nat → Int64) (E : Nat → Nat → Int32) (j : Nat) (hN : zf_N n) (hj : j < n 0) (k : Nat) (hk : k < n 0) (h : j = k) : ze_Q l yL_addLine wsL_addLine 7 104 1 6 D c (ze_wC c a n A B E) [.ref (a 0), .int (nI j), .int (nI k)] (-900002) (ze_wC c a n A B E) := by
  intro sz
  refine zq_start (cc := cL_addLine) (maxL := 4) (ret := (some .int)) (own := RL) (by decide) rfl rfl (Nat.le_of_ble_eq_true rfl) ?_
  intro p e s m_ below meth cd F ls hF hsz E0 hXB hNc htab
  obtain ⟨S, hr, hlocks, hK, hW, hA, hl⟩ := E0
  have hX_ := S.1
  have hB_ := S.2.1
  have hts := S.2.2.2.2
  have hl : lv_has ls 4 [(0, .ref (a 0)), (1, .int (nI j)), (2, .int (nI k))] := hl
  have w0 := hts (.classLink RL 22 "java/lang/IndexOutOfBoundsException") (List.mem_cons_of_mem _ (List.mem_append_left _ (List.mem_append_left _ (List.mem_append_left _ (List.mem_append_left _ (List.mem_append_left _ (List.mem_append_left _ (List.mem_of_getElem? (i := 0) rfl))))))))
  have w1 := hts (.classLink RL 24 "java/lang/IllegalArgumentException") (List.mem_cons_of_mem _ (List.mem_append_left _ (List.mem_append_left _ (List.mem_append_left _ (List.mem_append_left _ (List.mem_append_left _ (List.mem_append_left _ (List.mem_of_getElem? (i := 1) rfl))))))))
  have w2 := hts (.constant RL 26 (-900002)) (List.mem_cons_of_mem _ (List.mem_append_left _ (List.mem_append_left _ (List.mem_append_left _ (List.mem_append_left _ (List.mem_append_left _ (List.mem_append_left _ (List.mem_of_getElem? (i := 4) rfl))))))))
  have hW := ze_W0 hW
  refine lv_aload_n hX_ hB_ dL_addLine_0 rfl (lv_at hl 0 rfl) ?_
  refine lv_iload_n hX_ hB_ dL_addLine_1 rfl (lv_at hl 1 rfl) ?_
  refine lv_iload_n hX_ hB_ dL_addLine_2 rfl (lv_at hl 2 rfl) ?_
  refine zx_FVc (As := [.int (nI j), .int (nI k)]) (rest := []) (ci := 8) (q0 := 0) (k := (RX8, TX8, 8)) S (zt_addLine_t2 l D hst c a n A B E j hN hj k hk h) (cwV 2 hts gL_addLine_X8_addLine rfl rfl rfl (by decide +kernel) ⟨(Nat.le_of_ble_eq_true rfl), (Nat.le_of_ble_eq_true rfl)⟩) hK hW hXB hA rfl (ze_at0 0 rfl) rfl hl.1 rfl (lv_room (Nat.le_of_ble_eq_true rfl)) dL_addLine_3 ⟨(Nat.le_of_ble_eq_true rfl), (Nat.le_of_ble_eq_true rfl)⟩ [⟨0, 6, 7, 22⟩] ⟨0, 6, 11, 24⟩ [⟨0, 6, 15, 15⟩] htab (by
      intro z hz
      simp only [List.mem_cons, List.not_mem_nil, or_false] at hz
      rcases hz with rfl
      exact Or.inr ⟨by decide, "java/lang/IndexOutOfBoundsException", w0, hNc ("java/lang/IllegalArgumentException", "java/lang/IndexOutOfBoundsException") (by decide +kernel)⟩) (by decide) (by decide) w1 (va_Nw.use rfl (hXB.2.2.2 _ (List.mem_of_getElem? (i := 4) rfl))) (fun q9 H locs hW => ?_)
  have hW := ze_W0' hW
  refine lv_astore_n (lv' := [(3, .ref q9), (0, .ref (a 0)), (1, .int (nI j)), (2, .int (nI k))]) hX_ hB_ dL_addLine_11 rfl hl (by decide) rfl (fun ls hl => ?_)
  refine lv_ldc (own := RL) (v := -900002) hX_ hB_ S.2.2.2.1 w2 dL_addLine_12 ?_
  exact ze_iret S hr hlocks hF hK hW rfl dL_addLine_14 (Nat.le_of_ble_eq_true rfl) (Nat.le_of_ble_eq_true rfl) rfl rfl
set_option maxHeartbeats 4000000 in
set_option maxRecDepth 100000 in
theorem xw_addLine_t3 (l : Launch) (D : va_G) (hst : l.stackTraces = false) (c : Nat → ClassId) (a n : Nat → Nat) (A : Nat → Nat → Int32) (B : Nat → Int64) (E : Nat → Nat → Int32) (j : Nat) (hN : zf_N n) (hj : j < n 0) (k : Nat) (hk : k < n 0) (h : ¬ j = k) (h8 : ¬ n 1 < 8) : ze_Q l yL_addLine wsL_addLine 7 104 1 6 D c (ze_wC c a n A B E) [.ref (a 0), .int (nI j), .int (nI k)] (-900003) (ze_wC c a n A B E) := by
  intro sz
  refine zq_start (cc := cL_addLine) (maxL := 4) (ret := (some .int)) (own := RL) (by decide) rfl rfl (Nat.le_of_ble_eq_true rfl) ?_
  intro p e s m_ below meth cd F ls hF hsz E0 hXB hNc htab
  obtain ⟨S, hr, hlocks, hK, hW, hA, hl⟩ := E0
  have hX_ := S.1
  have hB_ := S.2.1
  have hts := S.2.2.2.2
  have hl : lv_has ls 4 [(0, .ref (a 0)), (1, .int (nI j)), (2, .int (nI k))] := hl
  have w0 := hts (.classLink RL 22 "java/lang/IndexOutOfBoundsException") (List.mem_cons_of_mem _ (List.mem_append_left _ (List.mem_append_left _ (List.mem_append_left _ (List.mem_append_left _ (List.mem_append_left _ (List.mem_append_left _ (List.mem_of_getElem? (i := 0) rfl))))))))
  have w1 := hts (.classLink RL 24 "java/lang/IllegalArgumentException") (List.mem_cons_of_mem _ (List.mem_append_left _ (List.mem_append_left _ (List.mem_append_left _ (List.mem_append_left _ (List.mem_append_left _ (List.mem_append_left _ (List.mem_of_getElem? (i := 1) rfl))))))))
  have w2 := hts (.classLink RL 15 "java/lang/IllegalStateException") (List.mem_cons_of_mem _ (List.mem_append_left _ (List.mem_append_left _ (List.mem_append_left _ (List.mem_append_left _ (List.mem_append_left _ (List.mem_append_left _ (List.mem_of_getElem? (i := 2) rfl))))))))
  have w3 := hts (.constant RL 30 (-900003)) (List.mem_cons_of_mem _ (List.mem_append_left _ (List.mem_append_left _ (List.mem_append_left _ (List.mem_append_left _ (List.mem_append_left _ (List.mem_append_left _ (List.mem_of_getElem? (i := 5) rfl))))))))
  have hW := ze_W0 hW
  refine lv_aload_n hX_ hB_ dL_addLine_0 rfl (lv_at hl 0 rfl) ?_
  refine lv_iload_n hX_ hB_ dL_addLine_1 rfl (lv_at hl 1 rfl) ?_
  refine lv_iload_n hX_ hB_ dL_addLine_2 rfl (lv_at hl 2 rfl) ?_
  refine zx_FVc (As := [.int (nI j), .int (nI k)]) (rest := []) (ci := 8) (q0 := 0) (k := (RX8, TX8, 8)) S (zt_addLine_t3 l D hst c a n A B E j hN hj k hk h h8) (cwV 2 hts gL_addLine_X8_addLine rfl rfl rfl (by decide +kernel) ⟨(Nat.le_of_ble_eq_true rfl), (Nat.le_of_ble_eq_true rfl)⟩) hK hW hXB hA rfl (ze_at0 0 rfl) rfl hl.1 rfl (lv_room (Nat.le_of_ble_eq_true rfl)) dL_addLine_3 ⟨(Nat.le_of_ble_eq_true rfl), (Nat.le_of_ble_eq_true rfl)⟩ [⟨0, 6, 7, 22⟩, ⟨0, 6, 11, 24⟩] ⟨0, 6, 15, 15⟩ [] htab (by
      intro z hz
      simp only [List.mem_cons, List.not_mem_nil, or_false] at hz
      rcases hz with rfl | rfl
      · exact Or.inr ⟨by decide, "java/lang/IndexOutOfBoundsException", w0, hNc ("java/lang/IllegalStateException", "java/lang/IndexOutOfBoundsException") (by decide +kernel)⟩
      · exact Or.inr ⟨by decide, "java/lang/IllegalArgumentException", w1, hNc ("java/lang/IllegalStateException", "java/lang/IllegalArgumentException") (by decide +kernel)⟩) (by decide) (by decide) w2 (va_Nw.use rfl (hXB.2.2.2 _ (List.mem_of_getElem? (i := 3) rfl))) (fun q9 H locs hW => ?_)
  have hW := ze_W0' hW
  refine lv_astore_n (lv' := [(3, .ref q9), (0, .ref (a 0)), (1, .int (nI j)), (2, .int (nI k))]) hX_ hB_ dL_addLine_15 rfl hl (by decide) rfl (fun ls hl => ?_)
  refine lv_ldc (own := RL) (v := -900003) hX_ hB_ S.2.2.2.1 w3 dL_addLine_16 ?_
  exact ze_iret S hr hlocks hF hK hW rfl dL_addLine_18 (Nat.le_of_ble_eq_true rfl) (Nat.le_of_ble_eq_true rfl) rfl rfl
set_option maxHeartbeats 4000000 in
set_option maxRecDepth 100000 in
theorem xw_close_t1 (l : Launch) (D : va_G) (hst : l.stackTraces = false) (c : Nat → ClassId) (a n : Nat → Nat) (A : Nat → Nat → Int32) (B : Nat → Int64) (E : Nat → Nat → Int32) (x : Int32) (hN : zf_N n) (hx : ¬ zf_isIn x 0 (nI (n 1) - 1)) : ze_Q l yL_close wsL_close 8 124 1 6 D c (ze_wC c a n A B E) [.ref (a 0), .int x] (-900001) (ze_wC c a n A B E) := by
  intro sz
  refine zq_start (cc := cL_close) (maxL := 3) (ret := (some .int)) (own := RL) (by decide) rfl rfl (Nat.le_of_ble_eq_true rfl) ?_
  intro p e s m_ below meth cd F ls hF hsz E0 hXB hNc htab
  obtain ⟨S, hr, hlocks, hK, hW, hA, hl⟩ := E0
  have hX_ := S.1
  have hB_ := S.2.1
  have hts := S.2.2.2.2
  have hl : lv_has ls 3 [(0, .ref (a 0)), (1, .int x)] := hl
  have w0 := hts (.classLink RL 22 "java/lang/IndexOutOfBoundsException") (List.mem_cons_of_mem _ (List.mem_append_left _ (List.mem_append_left _ (List.mem_append_left _ (List.mem_append_left _ (List.mem_append_left _ (List.mem_append_left _ (List.mem_of_getElem? (i := 0) rfl))))))))
  have w1 := hts (.constant RL 17 (-900001)) (List.mem_cons_of_mem _ (List.mem_append_left _ (List.mem_append_left _ (List.mem_append_left _ (List.mem_append_left _ (List.mem_append_left _ (List.mem_append_left _ (List.mem_of_getElem? (i := 3) rfl))))))))
  have hW := ze_W0 hW
  refine lv_aload_n hX_ hB_ dL_close_0 rfl (lv_at hl 0 rfl) ?_
  refine lv_iload_n hX_ hB_ dL_close_1 rfl (lv_at hl 1 rfl) ?_
  refine zx_FVc (As := [.int x]) (rest := []) (ci := 8) (q0 := 0) (k := (RX8, TX8, 8)) S (zt_close_t1 l D hst c a n A B E x hN hx) (cwV 1 hts gL_close_X8_close rfl rfl rfl (by decide +kernel) ⟨(Nat.le_of_ble_eq_true rfl), (Nat.le_of_ble_eq_true rfl)⟩) hK hW hXB hA rfl (ze_at0 0 rfl) rfl hl.1 rfl (lv_room (Nat.le_of_ble_eq_true rfl)) dL_close_2 ⟨(Nat.le_of_ble_eq_true rfl), (Nat.le_of_ble_eq_true rfl)⟩ [] ⟨0, 5, 6, 22⟩ [⟨0, 5, 10, 15⟩, ⟨0, 5, 14, 35⟩] htab (by intro z hz; cases hz) (by decide) (by decide) w0 (va_Nw.use rfl (hXB.2.2.2 _ (List.mem_of_getElem? (i := 7) rfl))) (fun q9 H locs hW => ?_)
  have hW := ze_W0' hW
  refine lv_astore_n (lv' := [(2, .ref q9), (0, .ref (a 0)), (1, .int x)]) hX_ hB_ dL_close_6 rfl hl (by decide) rfl (fun ls hl => ?_)
  refine lv_ldc (own := RL) (v := -900001) hX_ hB_ S.2.2.2.1 w1 dL_close_7 ?_
  exact ze_iret S hr hlocks hF hK hW rfl dL_close_9 (Nat.le_of_ble_eq_true rfl) (Nat.le_of_ble_eq_true rfl) rfl rfl
set_option maxHeartbeats 4000000 in
set_option maxRecDepth 100000 in
theorem xw_open_t1 (l : Launch) (D : va_G) (hst : l.stackTraces = false) (c : Nat → ClassId) (a n : Nat → Nat) (A : Nat → Nat → Int32) (B : Nat → Int64) (E : Nat → Nat → Int32) (x : Int32) (hN : zf_N n) (hx : ¬ zf_isIn x 0 (nI (n 1) - 1)) : ze_Q l yL_open wsL_open 8 124 1 6 D c (ze_wC c a n A B E) [.ref (a 0), .int x] (-900001) (ze_wC c a n A B E) := by
  intro sz
  refine zq_start (cc := cL_open) (maxL := 3) (ret := (some .int)) (own := RL) (by decide) rfl rfl (Nat.le_of_ble_eq_true rfl) ?_
  intro p e s m_ below meth cd F ls hF hsz E0 hXB hNc htab
  obtain ⟨S, hr, hlocks, hK, hW, hA, hl⟩ := E0
  have hX_ := S.1
  have hB_ := S.2.1
  have hts := S.2.2.2.2
  have hl : lv_has ls 3 [(0, .ref (a 0)), (1, .int x)] := hl
  have w0 := hts (.classLink RL 22 "java/lang/IndexOutOfBoundsException") (List.mem_cons_of_mem _ (List.mem_append_left _ (List.mem_append_left _ (List.mem_append_left _ (List.mem_append_left _ (List.mem_append_left _ (List.mem_of_getElem? (i := 0) rfl)))))))
  have w1 := hts (.constant RL 17 (-900001)) (List.mem_cons_of_mem _ (List.mem_append_left _ (List.mem_append_left _ (List.mem_append_left _ (List.mem_append_left _ (List.mem_append_left _ (List.mem_of_getElem? (i := 2) rfl)))))))
  have hW := ze_W0 hW
  refine lv_aload_n hX_ hB_ dL_open_0 rfl (lv_at hl 0 rfl) ?_
  refine lv_iload_n hX_ hB_ dL_open_1 rfl (lv_at hl 1 rfl) ?_
  refine zx_FVc (As := [.int x]) (rest := []) (ci := 8) (q0 := 0) (k := (RX8, TX8, 8)) S (zt_open_t1 l D hst c a n A B E x hN hx) (cwV 1 hts gL_open_X8_open rfl rfl rfl (by decide +kernel) ⟨(Nat.le_of_ble_eq_true rfl), (Nat.le_of_ble_eq_true rfl)⟩) hK hW hXB hA rfl (ze_at0 0 rfl) rfl hl.1 rfl (lv_room (Nat.le_of_ble_eq_true rfl)) dL_open_2 ⟨(Nat.le_of_ble_eq_true rfl), (Nat.le_of_ble_eq_true rfl)⟩ [] ⟨0, 5, 6, 22⟩ [⟨0, 5, 10, 15⟩] htab (by intro z hz; cases hz) (by decide) (by decide) w0 (va_Nw.use rfl (hXB.2.2.2 _ (List.mem_of_getElem? (i := 7) rfl))) (fun q9 H locs hW => ?_)
  have hW := ze_W0' hW
  refine lv_astore_n (lv' := [(2, .ref q9), (0, .ref (a 0)), (1, .int x)]) hX_ hB_ dL_open_6 rfl hl (by decide) rfl (fun ls hl => ?_)
  refine lv_ldc (own := RL) (v := -900001) hX_ hB_ S.2.2.2.1 w1 dL_open_7 ?_
  exact ze_iret S hr hlocks hF hK hW rfl dL_open_9 (Nat.le_of_ble_eq_true rfl) (Nat.le_of_ble_eq_true rfl) rfl rfl
set_option maxHeartbeats 4000000 in
set_option maxRecDepth 100000 in
theorem xw_close_t2 (l : Launch) (D : va_G) (hst : l.stackTraces = false) (c : Nat → ClassId) (a n : Nat → Nat) (A : Nat → Nat → Int32) (B : Nat → Int64) (E : Nat → Nat → Int32) (j : Nat) (hN : zf_N n) (hj : j < n 1) (h4 : ¬ A 4 j = 0) : ze_Q l yL_close wsL_close 7 103 1 6 D c (ze_wC c a n A B E) [.ref (a 0), .int (nI j)] (-900002) (ze_wC c a n A B E) := by
  intro sz
  refine zq_start (cc := cL_close) (maxL := 3) (ret := (some .int)) (own := RL) (by decide) rfl rfl (Nat.le_of_ble_eq_true rfl) ?_
  intro p e s m_ below meth cd F ls hF hsz E0 hXB hNc htab
  obtain ⟨S, hr, hlocks, hK, hW, hA, hl⟩ := E0
  have hX_ := S.1
  have hB_ := S.2.1
  have hts := S.2.2.2.2
  have hl : lv_has ls 3 [(0, .ref (a 0)), (1, .int (nI j))] := hl
  have w0 := hts (.classLink RL 22 "java/lang/IndexOutOfBoundsException") (List.mem_cons_of_mem _ (List.mem_append_left _ (List.mem_append_left _ (List.mem_append_left _ (List.mem_append_left _ (List.mem_append_left _ (List.mem_append_left _ (List.mem_of_getElem? (i := 0) rfl))))))))
  have w1 := hts (.classLink RL 15 "java/lang/IllegalStateException") (List.mem_cons_of_mem _ (List.mem_append_left _ (List.mem_append_left _ (List.mem_append_left _ (List.mem_append_left _ (List.mem_append_left _ (List.mem_append_left _ (List.mem_of_getElem? (i := 1) rfl))))))))
  have w2 := hts (.constant RL 26 (-900002)) (List.mem_cons_of_mem _ (List.mem_append_left _ (List.mem_append_left _ (List.mem_append_left _ (List.mem_append_left _ (List.mem_append_left _ (List.mem_append_left _ (List.mem_of_getElem? (i := 4) rfl))))))))
  have hW := ze_W0 hW
  refine lv_aload_n hX_ hB_ dL_close_0 rfl (lv_at hl 0 rfl) ?_
  refine lv_iload_n hX_ hB_ dL_close_1 rfl (lv_at hl 1 rfl) ?_
  refine zx_FVc (As := [.int (nI j)]) (rest := []) (ci := 8) (q0 := 0) (k := (RX8, TX8, 8)) S (zt_close_t2 l D hst c a n A B E j hN hj h4) (cwV 1 hts gL_close_X8_close rfl rfl rfl (by decide +kernel) ⟨(Nat.le_of_ble_eq_true rfl), (Nat.le_of_ble_eq_true rfl)⟩) hK hW hXB hA rfl (ze_at0 0 rfl) rfl hl.1 rfl (lv_room (Nat.le_of_ble_eq_true rfl)) dL_close_2 ⟨(Nat.le_of_ble_eq_true rfl), (Nat.le_of_ble_eq_true rfl)⟩ [⟨0, 5, 6, 22⟩] ⟨0, 5, 10, 15⟩ [⟨0, 5, 14, 35⟩] htab (by
      intro z hz
      simp only [List.mem_cons, List.not_mem_nil, or_false] at hz
      rcases hz with rfl
      exact Or.inr ⟨by decide, "java/lang/IndexOutOfBoundsException", w0, hNc ("java/lang/IllegalStateException", "java/lang/IndexOutOfBoundsException") (by decide +kernel)⟩) (by decide) (by decide) w1 (va_Nw.use rfl (hXB.2.2.2 _ (List.mem_of_getElem? (i := 3) rfl))) (fun q9 H locs hW => ?_)
  have hW := ze_W0' hW
  refine lv_astore_n (lv' := [(2, .ref q9), (0, .ref (a 0)), (1, .int (nI j))]) hX_ hB_ dL_close_10 rfl hl (by decide) rfl (fun ls hl => ?_)
  refine lv_ldc (own := RL) (v := -900002) hX_ hB_ S.2.2.2.1 w2 dL_close_11 ?_
  exact ze_iret S hr hlocks hF hK hW rfl dL_close_13 (Nat.le_of_ble_eq_true rfl) (Nat.le_of_ble_eq_true rfl) rfl rfl
set_option maxHeartbeats 4000000 in
set_option maxRecDepth 100000 in
theorem xw_close_t3 (l : Launch) (D : va_G) (hst : l.stackTraces = false) (c : Nat → ClassId) (a n : Nat → Nat) (A : Nat → Nat → Int32) (B : Nat → Int64) (E : Nat → Nat → Int32) (j : Nat) (hN : zf_N n) (hj : j < n 1) (hS : zf_S n A) (hE : ∀ x, zf_site n x → zf_site n (E 0 (ze_ix x))) (h4 : A 4 j = 0) (hg : ¬ zf_gapC A (E 0) j ≤ 10) : ze_Q l yL_close wsL_close 7 103 1 6 D c (ze_wC c a n A B E) [.ref (a 0), .int (nI j)] (-900003) (ze_wC c a n A B E) := by
  intro sz
  refine zq_start (cc := cL_close) (maxL := 3) (ret := (some .int)) (own := RL) (by decide) rfl rfl (Nat.le_of_ble_eq_true rfl) ?_
  intro p e s m_ below meth cd F ls hF hsz E0 hXB hNc htab
  obtain ⟨S, hr, hlocks, hK, hW, hA, hl⟩ := E0
  have hX_ := S.1
  have hB_ := S.2.1
  have hts := S.2.2.2.2
  have hl : lv_has ls 3 [(0, .ref (a 0)), (1, .int (nI j))] := hl
  have w0 := hts (.classLink RL 22 "java/lang/IndexOutOfBoundsException") (List.mem_cons_of_mem _ (List.mem_append_left _ (List.mem_append_left _ (List.mem_append_left _ (List.mem_append_left _ (List.mem_append_left _ (List.mem_append_left _ (List.mem_of_getElem? (i := 0) rfl))))))))
  have w1 := hts (.classLink RL 15 "java/lang/IllegalStateException") (List.mem_cons_of_mem _ (List.mem_append_left _ (List.mem_append_left _ (List.mem_append_left _ (List.mem_append_left _ (List.mem_append_left _ (List.mem_append_left _ (List.mem_of_getElem? (i := 1) rfl))))))))
  have w2 := hts (.classLink RL 35 "java/lang/UnsupportedOperationException") (List.mem_cons_of_mem _ (List.mem_append_left _ (List.mem_append_left _ (List.mem_append_left _ (List.mem_append_left _ (List.mem_append_left _ (List.mem_append_left _ (List.mem_of_getElem? (i := 2) rfl))))))))
  have w3 := hts (.constant RL 30 (-900003)) (List.mem_cons_of_mem _ (List.mem_append_left _ (List.mem_append_left _ (List.mem_append_left _ (List.mem_append_left _ (List.mem_append_left _ (List.mem_append_left _ (List.mem_of_getElem? (i := 5) rfl))))))))
  have hW := ze_W0 hW
  refine lv_aload_n hX_ hB_ dL_close_0 rfl (lv_at hl 0 rfl) ?_
  refine lv_iload_n hX_ hB_ dL_close_1 rfl (lv_at hl 1 rfl) ?_
  refine zx_FVc (As := [.int (nI j)]) (rest := []) (ci := 8) (q0 := 0) (k := (RX8, TX8, 8)) S (zt_close_t3 l D hst c a n A B E j hN hj hS hE h4 hg) (cwV 1 hts gL_close_X8_close rfl rfl rfl (by decide +kernel) ⟨(Nat.le_of_ble_eq_true rfl), (Nat.le_of_ble_eq_true rfl)⟩) hK hW hXB hA rfl (ze_at0 0 rfl) rfl hl.1 rfl (lv_room (Nat.le_of_ble_eq_true rfl)) dL_close_2 ⟨(Nat.le_of_ble_eq_true rfl), (Nat.le_of_ble_eq_true rfl)⟩ [⟨0, 5, 6, 22⟩, ⟨0, 5, 10, 15⟩] ⟨0, 5, 14, 35⟩ [] htab (by
      intro z hz
      simp only [List.mem_cons, List.not_mem_nil, or_false] at hz
      rcases hz with rfl | rfl
      · exact Or.inr ⟨by decide, "java/lang/IndexOutOfBoundsException", w0, hNc ("java/lang/UnsupportedOperationException", "java/lang/IndexOutOfBoundsException") (by decide +kernel)⟩
      · exact Or.inr ⟨by decide, "java/lang/IllegalStateException", w1, hNc ("java/lang/UnsupportedOperationException", "java/lang/IllegalStateException") (by decide +kernel)⟩) (by decide) (by decide) w2 (va_Nw.use rfl (hXB.2.2.2 _ (List.mem_of_getElem? (i := 5) rfl))) (fun q9 H locs hW => ?_)
  have hW := ze_W0' hW
  refine lv_astore_n (lv' := [(2, .ref q9), (0, .ref (a 0)), (1, .int (nI j))]) hX_ hB_ dL_close_14 rfl hl (by decide) rfl (fun ls hl => ?_)
  refine lv_ldc (own := RL) (v := -900003) hX_ hB_ S.2.2.2.1 w3 dL_close_15 ?_
  exact ze_iret S hr hlocks hF hK hW rfl dL_close_17 (Nat.le_of_ble_eq_true rfl) (Nat.le_of_ble_eq_true rfl) rfl rfl
set_option maxHeartbeats 4000000 in
set_option maxRecDepth 100000 in
theorem xw_open_t2 (l : Launch) (D : va_G) (hst : l.stackTraces = false) (c : Nat → ClassId) (a n : Nat → Nat) (A : Nat → Nat → Int32) (B : Nat → Int64) (E : Nat → Nat → Int32) (j : Nat) (hN : zf_N n) (hj : j < n 1) (h4 : A 4 j = 0) : ze_Q l yL_open wsL_open 7 103 1 6 D c (ze_wC c a n A B E) [.ref (a 0), .int (nI j)] (-900002) (ze_wC c a n A B E) := by
  intro sz
  refine zq_start (cc := cL_open) (maxL := 3) (ret := (some .int)) (own := RL) (by decide) rfl rfl (Nat.le_of_ble_eq_true rfl) ?_
  intro p e s m_ below meth cd F ls hF hsz E0 hXB hNc htab
  obtain ⟨S, hr, hlocks, hK, hW, hA, hl⟩ := E0
  have hX_ := S.1
  have hB_ := S.2.1
  have hts := S.2.2.2.2
  have hl : lv_has ls 3 [(0, .ref (a 0)), (1, .int (nI j))] := hl
  have w0 := hts (.classLink RL 22 "java/lang/IndexOutOfBoundsException") (List.mem_cons_of_mem _ (List.mem_append_left _ (List.mem_append_left _ (List.mem_append_left _ (List.mem_append_left _ (List.mem_append_left _ (List.mem_of_getElem? (i := 0) rfl)))))))
  have w1 := hts (.classLink RL 15 "java/lang/IllegalStateException") (List.mem_cons_of_mem _ (List.mem_append_left _ (List.mem_append_left _ (List.mem_append_left _ (List.mem_append_left _ (List.mem_append_left _ (List.mem_of_getElem? (i := 1) rfl)))))))
  have w2 := hts (.constant RL 26 (-900002)) (List.mem_cons_of_mem _ (List.mem_append_left _ (List.mem_append_left _ (List.mem_append_left _ (List.mem_append_left _ (List.mem_append_left _ (List.mem_of_getElem? (i := 3) rfl)))))))
  have hW := ze_W0 hW
  refine lv_aload_n hX_ hB_ dL_open_0 rfl (lv_at hl 0 rfl) ?_
  refine lv_iload_n hX_ hB_ dL_open_1 rfl (lv_at hl 1 rfl) ?_
  refine zx_FVc (As := [.int (nI j)]) (rest := []) (ci := 8) (q0 := 0) (k := (RX8, TX8, 8)) S (zt_open_t2 l D hst c a n A B E j hN hj h4) (cwV 1 hts gL_open_X8_open rfl rfl rfl (by decide +kernel) ⟨(Nat.le_of_ble_eq_true rfl), (Nat.le_of_ble_eq_true rfl)⟩) hK hW hXB hA rfl (ze_at0 0 rfl) rfl hl.1 rfl (lv_room (Nat.le_of_ble_eq_true rfl)) dL_open_2 ⟨(Nat.le_of_ble_eq_true rfl), (Nat.le_of_ble_eq_true rfl)⟩ [⟨0, 5, 6, 22⟩] ⟨0, 5, 10, 15⟩ [] htab (by
      intro z hz
      simp only [List.mem_cons, List.not_mem_nil, or_false] at hz
      rcases hz with rfl
      exact Or.inr ⟨by decide, "java/lang/IndexOutOfBoundsException", w0, hNc ("java/lang/IllegalStateException", "java/lang/IndexOutOfBoundsException") (by decide +kernel)⟩) (by decide) (by decide) w1 (va_Nw.use rfl (hXB.2.2.2 _ (List.mem_of_getElem? (i := 3) rfl))) (fun q9 H locs hW => ?_)
  have hW := ze_W0' hW
  refine lv_astore_n (lv' := [(2, .ref q9), (0, .ref (a 0)), (1, .int (nI j))]) hX_ hB_ dL_open_10 rfl hl (by decide) rfl (fun ls hl => ?_)
  refine lv_ldc (own := RL) (v := -900002) hX_ hB_ S.2.2.2.1 w2 dL_open_11 ?_
  exact ze_iret S hr hlocks hF hK hW rfl dL_open_13 (Nat.le_of_ble_eq_true rfl) (Nat.le_of_ble_eq_true rfl) rfl rfl
set_option maxHeartbeats 4000000 in
set_option maxRecDepth 100000 in
theorem xw_tie_t1 (l : Launch) (D : va_G) (hst : l.stackTraces = false) (c : Nat → ClassId) (a n : Nat → Nat) (A : Nat → Nat → Int32) (B : Nat → Int64) (E : Nat → Nat → Int32) (hN : zf_N n) (h : n 0 = 0) : ze_Q l yL_tie wsL_tie 7 102 1 6 D c (ze_wC c a n A B E) [.ref (a 0)] (-900001) (ze_wC c a n A B E) := by
  intro sz
  refine zq_start (cc := cL_tie) (maxL := 2) (ret := (some .int)) (own := RL) (by decide) rfl rfl (Nat.le_of_ble_eq_true rfl) ?_
  intro p e s m_ below meth cd F ls hF hsz E0 hXB hNc htab
  obtain ⟨S, hr, hlocks, hK, hW, hA, hl⟩ := E0
  have hX_ := S.1
  have hB_ := S.2.1
  have hts := S.2.2.2.2
  have hl : lv_has ls 2 [(0, .ref (a 0))] := hl
  have w0 := hts (.classLink RL 43 "java/util/NoSuchElementException") (List.mem_cons_of_mem _ (List.mem_append_left _ (List.mem_append_left _ (List.mem_append_left _ (List.mem_append_left _ (List.mem_append_left _ (List.mem_append_left _ (List.mem_of_getElem? (i := 0) rfl))))))))
  have w1 := hts (.constant RL 17 (-900001)) (List.mem_cons_of_mem _ (List.mem_append_left _ (List.mem_append_left _ (List.mem_append_left _ (List.mem_append_left _ (List.mem_append_left _ (List.mem_append_left _ (List.mem_of_getElem? (i := 3) rfl))))))))
  have hW := ze_W0 hW
  refine lv_aload_n hX_ hB_ dL_tie_0 rfl (lv_at hl 0 rfl) ?_
  refine zx_FVc (As := []) (rest := []) (ci := 8) (q0 := 0) (k := (RX8, TX8, 8)) S (zt_tie_t1 l D hst c a n A B E hN h) (cwV 0 hts gL_tie_X8_tie rfl rfl rfl (by decide +kernel) ⟨(Nat.le_of_ble_eq_true rfl), (Nat.le_of_ble_eq_true rfl)⟩) hK hW hXB hA rfl (ze_at0 0 rfl) rfl hl.1 rfl (lv_room (Nat.le_of_ble_eq_true rfl)) dL_tie_1 ⟨(Nat.le_of_ble_eq_true rfl), (Nat.le_of_ble_eq_true rfl)⟩ [] ⟨0, 4, 5, 43⟩ [⟨0, 4, 9, 15⟩, ⟨0, 4, 13, 35⟩] htab (by intro z hz; cases hz) (by decide) (by decide) w0 (va_Nw.use rfl (hXB.2.2.2 _ (List.mem_of_getElem? (i := 6) rfl))) (fun q9 H locs hW => ?_)
  have hW := ze_W0' hW
  refine lv_astore_n (lv' := [(1, .ref q9), (0, .ref (a 0))]) hX_ hB_ dL_tie_5 rfl hl (by decide) rfl (fun ls hl => ?_)
  refine lv_ldc (own := RL) (v := -900001) hX_ hB_ S.2.2.2.1 w1 dL_tie_6 ?_
  exact ze_iret S hr hlocks hF hK hW rfl dL_tie_8 (Nat.le_of_ble_eq_true rfl) (Nat.le_of_ble_eq_true rfl) rfl rfl
set_option maxHeartbeats 4000000 in
set_option maxRecDepth 100000 in
theorem xw_tie_t2 (l : Launch) (D : va_G) (hst : l.stackTraces = false) (c : Nat → ClassId) (a n : Nat → Nat) (A : Nat → Nat → Int32) (B : Nat → Int64) (E : Nat → Nat → Int32) (hN : zf_N n) (h : ¬ n 0 = 0) (h2 : ¬ A 38 0 = 0) : ze_Q l yL_tie wsL_tie 7 102 1 6 D c (ze_wC c a n A B E) [.ref (a 0)] (-900002) (ze_wC c a n A B E) := by
  intro sz
  refine zq_start (cc := cL_tie) (maxL := 2) (ret := (some .int)) (own := RL) (by decide) rfl rfl (Nat.le_of_ble_eq_true rfl) ?_
  intro p e s m_ below meth cd F ls hF hsz E0 hXB hNc htab
  obtain ⟨S, hr, hlocks, hK, hW, hA, hl⟩ := E0
  have hX_ := S.1
  have hB_ := S.2.1
  have hts := S.2.2.2.2
  have hl : lv_has ls 2 [(0, .ref (a 0))] := hl
  have w0 := hts (.classLink RL 43 "java/util/NoSuchElementException") (List.mem_cons_of_mem _ (List.mem_append_left _ (List.mem_append_left _ (List.mem_append_left _ (List.mem_append_left _ (List.mem_append_left _ (List.mem_append_left _ (List.mem_of_getElem? (i := 0) rfl))))))))
  have w1 := hts (.classLink RL 15 "java/lang/IllegalStateException") (List.mem_cons_of_mem _ (List.mem_append_left _ (List.mem_append_left _ (List.mem_append_left _ (List.mem_append_left _ (List.mem_append_left _ (List.mem_append_left _ (List.mem_of_getElem? (i := 1) rfl))))))))
  have w2 := hts (.constant RL 26 (-900002)) (List.mem_cons_of_mem _ (List.mem_append_left _ (List.mem_append_left _ (List.mem_append_left _ (List.mem_append_left _ (List.mem_append_left _ (List.mem_append_left _ (List.mem_of_getElem? (i := 4) rfl))))))))
  have hW := ze_W0 hW
  refine lv_aload_n hX_ hB_ dL_tie_0 rfl (lv_at hl 0 rfl) ?_
  refine zx_FVc (As := []) (rest := []) (ci := 8) (q0 := 0) (k := (RX8, TX8, 8)) S (zt_tie_t2 l D hst c a n A B E hN h h2) (cwV 0 hts gL_tie_X8_tie rfl rfl rfl (by decide +kernel) ⟨(Nat.le_of_ble_eq_true rfl), (Nat.le_of_ble_eq_true rfl)⟩) hK hW hXB hA rfl (ze_at0 0 rfl) rfl hl.1 rfl (lv_room (Nat.le_of_ble_eq_true rfl)) dL_tie_1 ⟨(Nat.le_of_ble_eq_true rfl), (Nat.le_of_ble_eq_true rfl)⟩ [⟨0, 4, 5, 43⟩] ⟨0, 4, 9, 15⟩ [⟨0, 4, 13, 35⟩] htab (by
      intro z hz
      simp only [List.mem_cons, List.not_mem_nil, or_false] at hz
      rcases hz with rfl
      exact Or.inr ⟨by decide, "java/util/NoSuchElementException", w0, hNc ("java/lang/IllegalStateException", "java/util/NoSuchElementException") (by decide +kernel)⟩) (by decide) (by decide) w1 (va_Nw.use rfl (hXB.2.2.2 _ (List.mem_of_getElem? (i := 3) rfl))) (fun q9 H locs hW => ?_)
  have hW := ze_W0' hW
  refine lv_astore_n (lv' := [(1, .ref q9), (0, .ref (a 0))]) hX_ hB_ dL_tie_9 rfl hl (by decide) rfl (fun ls hl => ?_)
  refine lv_ldc (own := RL) (v := -900002) hX_ hB_ S.2.2.2.1 w2 dL_tie_10 ?_
  exact ze_iret S hr hlocks hF hK hW rfl dL_tie_12 (Nat.le_of_ble_eq_true rfl) (Nat.le_of_ble_eq_true rfl) rfl rfl
set_option maxHeartbeats 4000000 in
set_option maxRecDepth 100000 in
theorem xw_tie_t3 (l : Launch) (D : va_G) (hst : l.stackTraces = false) (c : Nat → ClassId) (a n : Nat → Nat) (A : Nat → Nat → Int32) (B : Nat → Int64) (E : Nat → Nat → Int32) (hN : zf_N n) (h : ¬ n 0 = 0) (h2 : A 38 0 = 0) (h3 : ¬ ze_mn (ze_ab ((if zf_tied A 0 then 0 else A 0 (ze_ix 0)) - 0)) (360 - ze_ab ((if zf_tied A 0 then 0 else A 0 (ze_ix 0)) - 0)) ≤ 10) : ze_Q l yL_tie wsL_tie 7 102 1 6 D c (ze_wC c a n A B E) [.ref (a 0)] (-900003) (ze_wC c a n A B E) := by
  intro sz
  refine zq_start (cc := cL_tie) (maxL := 2) (ret := (some .int)) (own := RL) (by decide) rfl rfl (Nat.le_of_ble_eq_true rfl) ?_
  intro p e s m_ below meth cd F ls hF hsz E0 hXB hNc htab
  obtain ⟨S, hr, hlocks, hK, hW, hA, hl⟩ := E0
  have hX_ := S.1
  have hB_ := S.2.1
  have hts := S.2.2.2.2
  have hl : lv_has ls 2 [(0, .ref (a 0))] := hl
  have w0 := hts (.classLink RL 43 "java/util/NoSuchElementException") (List.mem_cons_of_mem _ (List.mem_append_left _ (List.mem_append_left _ (List.mem_append_left _ (List.mem_append_left _ (List.mem_append_left _ (List.mem_append_left _ (List.mem_of_getElem? (i := 0) rfl))))))))
  have w1 := hts (.classLink RL 15 "java/lang/IllegalStateException") (List.mem_cons_of_mem _ (List.mem_append_left _ (List.mem_append_left _ (List.mem_append_left _ (List.mem_append_left _ (List.mem_append_left _ (List.mem_append_left _ (List.mem_of_getElem? (i := 1) rfl))))))))
  have w2 := hts (.classLink RL 35 "java/lang/UnsupportedOperationException") (List.mem_cons_of_mem _ (List.mem_append_left _ (List.mem_append_left _ (List.mem_append_left _ (List.mem_append_left _ (List.mem_append_left _ (List.mem_append_left _ (List.mem_of_getElem? (i := 2) rfl))))))))
  have w3 := hts (.constant RL 30 (-900003)) (List.mem_cons_of_mem _ (List.mem_append_left _ (List.mem_append_left _ (List.mem_append_left _ (List.mem_append_left _ (List.mem_append_left _ (List.mem_append_left _ (List.mem_of_getElem? (i := 5) rfl))))))))
  have hW := ze_W0 hW
  refine lv_aload_n hX_ hB_ dL_tie_0 rfl (lv_at hl 0 rfl) ?_
  refine zx_FVc (As := []) (rest := []) (ci := 8) (q0 := 0) (k := (RX8, TX8, 8)) S (zt_tie_t3 l D hst c a n A B E hN h h2 h3) (cwV 0 hts gL_tie_X8_tie rfl rfl rfl (by decide +kernel) ⟨(Nat.le_of_ble_eq_true rfl), (Nat.le_of_ble_eq_true rfl)⟩) hK hW hXB hA rfl (ze_at0 0 rfl) rfl hl.1 rfl (lv_room (Nat.le_of_ble_eq_true rfl)) dL_tie_1 ⟨(Nat.le_of_ble_eq_true rfl), (Nat.le_of_ble_eq_true rfl)⟩ [⟨0, 4, 5, 43⟩, ⟨0, 4, 9, 15⟩] ⟨0, 4, 13, 35⟩ [] htab (by
      intro z hz
      simp only [List.mem_cons, List.not_mem_nil, or_false] at hz
      rcases hz with rfl | rfl
      · exact Or.inr ⟨by decide, "java/util/NoSuchElementException", w0, hNc ("java/lang/UnsupportedOperationException", "java/util/NoSuchElementException") (by decide +kernel)⟩
      · exact Or.inr ⟨by decide, "java/lang/IllegalStateException", w1, hNc ("java/lang/UnsupportedOperationException", "java/lang/IllegalStateException") (by decide +kernel)⟩) (by decide) (by decide) w2 (va_Nw.use rfl (hXB.2.2.2 _ (List.mem_of_getElem? (i := 5) rfl))) (fun q9 H locs hW => ?_)
  have hW := ze_W0' hW
  refine lv_astore_n (lv' := [(1, .ref q9), (0, .ref (a 0))]) hX_ hB_ dL_tie_13 rfl hl (by decide) rfl (fun ls hl => ?_)
  refine lv_ldc (own := RL) (v := -900003) hX_ hB_ S.2.2.2.1 w3 dL_tie_14 ?_
  exact ze_iret S hr hlocks hF hK hW rfl dL_tie_16 (Nat.le_of_ble_eq_true rfl) (Nat.le_of_ble_eq_true rfl) rfl rfl
set_option maxHeartbeats 4000000 in
set_option maxRecDepth 100000 in
theorem xw_untie_t1 (l : Launch) (D : va_G) (hst : l.stackTraces = false) (c : Nat → ClassId) (a n : Nat → Nat) (A : Nat → Nat → Int32) (B : Nat → Int64) (E : Nat → Nat → Int32) (h2 : A 38 0 = 0) : ze_Q l yL_untie wsL_untie 7 102 1 6 D c (ze_wC c a n A B E) [.ref (a 0)] (-900001) (ze_wC c a n A B E) := by
  intro sz
  refine zq_start (cc := cL_untie) (maxL := 2) (ret := (some .int)) (own := RL) (by decide) rfl rfl (Nat.le_of_ble_eq_true rfl) ?_
  intro p e s m_ below meth cd F ls hF hsz E0 hXB hNc htab
  obtain ⟨S, hr, hlocks, hK, hW, hA, hl⟩ := E0
  have hX_ := S.1
  have hB_ := S.2.1
  have hts := S.2.2.2.2
  have hl : lv_has ls 2 [(0, .ref (a 0))] := hl
  have w0 := hts (.classLink RL 15 "java/lang/IllegalStateException") (List.mem_cons_of_mem _ (List.mem_append_left _ (List.mem_append_left _ (List.mem_append_left _ (List.mem_of_getElem? (i := 0) rfl)))))
  have w1 := hts (.constant RL 17 (-900001)) (List.mem_cons_of_mem _ (List.mem_append_left _ (List.mem_append_left _ (List.mem_append_left _ (List.mem_of_getElem? (i := 1) rfl)))))
  have hW := ze_W0 hW
  refine lv_aload_n hX_ hB_ dL_untie_0 rfl (lv_at hl 0 rfl) ?_
  refine zx_FVc (As := []) (rest := []) (ci := 8) (q0 := 0) (k := (RX8, TX8, 8)) S (zt_untie_t1 l D hst c a n A B E h2) (cwV 0 hts gL_untie_X8_untie rfl rfl rfl (by decide +kernel) ⟨(Nat.le_of_ble_eq_true rfl), (Nat.le_of_ble_eq_true rfl)⟩) hK hW hXB hA rfl (ze_at0 0 rfl) rfl hl.1 rfl (lv_room (Nat.le_of_ble_eq_true rfl)) dL_untie_1 ⟨(Nat.le_of_ble_eq_true rfl), (Nat.le_of_ble_eq_true rfl)⟩ [] ⟨0, 4, 5, 15⟩ [] htab (by intro z hz; cases hz) (by decide) (by decide) w0 (va_Nw.use rfl (hXB.2.2.2 _ (List.mem_of_getElem? (i := 3) rfl))) (fun q9 H locs hW => ?_)
  have hW := ze_W0' hW
  refine lv_astore_n (lv' := [(1, .ref q9), (0, .ref (a 0))]) hX_ hB_ dL_untie_5 rfl hl (by decide) rfl (fun ls hl => ?_)
  refine lv_ldc (own := RL) (v := -900001) hX_ hB_ S.2.2.2.1 w1 dL_untie_6 ?_
  exact ze_iret S hr hlocks hF hK hW rfl dL_untie_8 (Nat.le_of_ble_eq_true rfl) (Nat.le_of_ble_eq_true rfl) rfl rfl
set_option maxHeartbeats 4000000 in
set_option maxRecDepth 100000 in
theorem xw_startNext_t1 (l : Launch) (D : va_G) (hst : l.stackTraces = false) (c : Nat → ClassId) (a n : Nat → Nat) (A : Nat → Nat → Int32) (B : Nat → Int64) (E : Nat → Nat → Int32) (x : Int32) (hN : zf_N n) (hx : ¬ zf_isIn x 0 (nI (n 0) - 1)) : ze_Q l yL_startNext wsL_startNext 9 146 1 6 D c (ze_wC c a n A B E) [.ref (a 0), .int x] (-900001) (ze_wC c a n A B E) := by
  intro sz
  refine zq_start (cc := cL_startNext) (maxL := 3) (ret := (some .int)) (own := RL) (by decide) rfl rfl (Nat.le_of_ble_eq_true rfl) ?_
  intro p e s m_ below meth cd F ls hF hsz E0 hXB hNc htab
  obtain ⟨S, hr, hlocks, hK, hW, hA, hl⟩ := E0
  have hX_ := S.1
  have hB_ := S.2.1
  have hts := S.2.2.2.2
  have hl : lv_has ls 3 [(0, .ref (a 0)), (1, .int x)] := hl
  have w0 := hts (.classLink RL 22 "java/lang/IndexOutOfBoundsException") (List.mem_cons_of_mem _ (List.mem_append_left _ (List.mem_append_left _ (List.mem_append_left _ (List.mem_append_left _ (List.mem_append_left _ (List.mem_append_left _ (List.mem_append_left _ (List.mem_of_getElem? (i := 0) rfl)))))))))
  have w1 := hts (.constant RL 17 (-900001)) (List.mem_cons_of_mem _ (List.mem_append_left _ (List.mem_append_left _ (List.mem_append_left _ (List.mem_append_left _ (List.mem_append_left _ (List.mem_append_left _ (List.mem_append_left _ (List.mem_of_getElem? (i := 2) rfl)))))))))
  have hW := ze_W0 hW
  refine lv_aload_n hX_ hB_ dL_startNext_0 rfl (lv_at hl 0 rfl) ?_
  refine lv_iload_n hX_ hB_ dL_startNext_1 rfl (lv_at hl 1 rfl) ?_
  refine zx_FVc (As := [.int x]) (rest := []) (ci := 8) (q0 := 0) (k := (RX8, TX8, 8)) S (zt_startNext_t1 l D hst c a n A B E x hN hx) (cwV 1 hts gL_startNext_X8_startNext rfl rfl rfl (by decide +kernel) ⟨(Nat.le_of_ble_eq_true rfl), (Nat.le_of_ble_eq_true rfl)⟩) hK hW hXB hA rfl (ze_at0 0 rfl) rfl hl.1 rfl (lv_room (Nat.le_of_ble_eq_true rfl)) dL_startNext_2 ⟨(Nat.le_of_ble_eq_true rfl), (Nat.le_of_ble_eq_true rfl)⟩ [] ⟨0, 5, 6, 22⟩ [⟨0, 5, 10, 43⟩] htab (by intro z hz; cases hz) (by decide) (by decide) w0 (va_Nw.use rfl (hXB.2.2.2 _ (List.mem_of_getElem? (i := 7) rfl))) (fun q9 H locs hW => ?_)
  have hW := ze_W0' hW
  refine lv_astore_n (lv' := [(2, .ref q9), (0, .ref (a 0)), (1, .int x)]) hX_ hB_ dL_startNext_6 rfl hl (by decide) rfl (fun ls hl => ?_)
  refine lv_ldc (own := RL) (v := -900001) hX_ hB_ S.2.2.2.1 w1 dL_startNext_7 ?_
  exact ze_iret S hr hlocks hF hK hW rfl dL_startNext_9 (Nat.le_of_ble_eq_true rfl) (Nat.le_of_ble_eq_true rfl) rfl rfl
set_option maxHeartbeats 4000000 in
set_option maxRecDepth 100000 in
theorem xw_bound_t1 (l : Launch) (D : va_G) (hst : l.stackTraces = false) (c : Nat → ClassId) (a n : Nat → Nat) (A : Nat → Nat → Int32) (B : Nat → Int64) (E : Nat → Nat → Int32) (x : Int32) (hN : zf_N n) (hx : ¬ zf_isIn x 0 (nI (n 0) - 1)) : ze_Q l yL_bound wsL_bound 9 145 1 6 D c (ze_wC c a n A B E) [.ref (a 0), .int x] (-900001) (ze_wC c a n A B E) := by
  intro sz
  refine zq_start (cc := cL_bound) (maxL := 3) (ret := (some .int)) (own := RL) (by decide) rfl rfl (Nat.le_of_ble_eq_true rfl) ?_
  intro p e s m_ below meth cd F ls hF hsz E0 hXB hNc htab
  obtain ⟨S, hr, hlocks, hK, hW, hA, hl⟩ := E0
  have hX_ := S.1
  have hB_ := S.2.1
  have hts := S.2.2.2.2
  have hl : lv_has ls 3 [(0, .ref (a 0)), (1, .int x)] := hl
  have w0 := hts (.classLink RL 22 "java/lang/IndexOutOfBoundsException") (List.mem_cons_of_mem _ (List.mem_append_left _ (List.mem_append_left _ (List.mem_append_left _ (List.mem_append_left _ (List.mem_append_left _ (List.mem_append_left _ (List.mem_append_left _ (List.mem_append_left _ (List.mem_of_getElem? (i := 0) rfl))))))))))
  have w1 := hts (.constant RL 17 (-900001)) (List.mem_cons_of_mem _ (List.mem_append_left _ (List.mem_append_left _ (List.mem_append_left _ (List.mem_append_left _ (List.mem_append_left _ (List.mem_append_left _ (List.mem_append_left _ (List.mem_append_left _ (List.mem_of_getElem? (i := 1) rfl))))))))))
  have hW := ze_W0 hW
  refine lv_aload_n hX_ hB_ dL_bound_0 rfl (lv_at hl 0 rfl) ?_
  refine lv_iload_n hX_ hB_ dL_bound_1 rfl (lv_at hl 1 rfl) ?_
  refine zx_FVc (As := [.int x]) (rest := []) (ci := 8) (q0 := 0) (k := (RX8, TX8, 8)) S (zt_bound_t1 l D hst c a n A B E x hN hx) (cwV 1 hts gL_bound_X8_bound rfl rfl rfl (by decide +kernel) ⟨(Nat.le_of_ble_eq_true rfl), (Nat.le_of_ble_eq_true rfl)⟩) hK hW hXB hA rfl (ze_at0 0 rfl) rfl hl.1 rfl (lv_room (Nat.le_of_ble_eq_true rfl)) dL_bound_2 ⟨(Nat.le_of_ble_eq_true rfl), (Nat.le_of_ble_eq_true rfl)⟩ [] ⟨0, 5, 6, 22⟩ [] htab (by intro z hz; cases hz) (by decide) (by decide) w0 (va_Nw.use rfl (hXB.2.2.2 _ (List.mem_of_getElem? (i := 7) rfl))) (fun q9 H locs hW => ?_)
  have hW := ze_W0' hW
  refine lv_astore_n (lv' := [(2, .ref q9), (0, .ref (a 0)), (1, .int x)]) hX_ hB_ dL_bound_6 rfl hl (by decide) rfl (fun ls hl => ?_)
  refine lv_ldc (own := RL) (v := -900001) hX_ hB_ S.2.2.2.1 w1 dL_bound_7 ?_
  exact ze_iret S hr hlocks hF hK hW rfl dL_bound_9 (Nat.le_of_ble_eq_true rfl) (Nat.le_of_ble_eq_true rfl) rfl rfl
