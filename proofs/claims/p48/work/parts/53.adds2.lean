set_option maxHeartbeats 4000000 in
set_option maxRecDepth 100000 in
theorem zi_X1 (l : Launch) (D : va_G) (c : Nat → ClassId) (q : Nat) (si le gr wu fu : Int32) : ze_V l yX1_init wsX1_init 1 12 0 0 D c ([(q, .inr (1, [.int 0, .int 0, .int 0, .int 0, .int 0, .int 0, .int 0, .int 0]))] : va_W) [.ref q, .int si, .int le, .int gr, .int wu, .int fu] ([(q, .inr (1, [.int si, .int le, .int gr, .int wu, .int fu, .int 111, .int 0, .int 0]))] : va_W) := by
  intro sz
  refine zi_start rfl (cc := cX1_init) (maxL := 6) (ret := none) (own := RX1) (by decide) rfl rfl (Nat.le_of_ble_eq_true rfl) ?_
  intro p e s m_ below meth cd F ls hF hsz E0 hin2
  obtain ⟨S, hr, hlocks, hK, hW, hA, hl⟩ := E0
  have hX_ := S.1
  have hB_ := S.2.1
  have hts := S.2.2.2.2
  have hl : lv_has ls 6 [(0, .ref q), (1, .int si), (2, .int le), (3, .int gr), (4, .int wu), (5, .int fu)] := hl
  have hiX1 : ∀ w ∈ u_ws RX1 TX1 8, w ∈ wsX1_init := fun _ h => (List.mem_cons_of_mem _ (List.mem_append_right _ h))
  have w0 := hts (.methodLink RX1 3 objectInit) (List.mem_cons_of_mem _ (List.mem_append_left _ (List.mem_of_getElem? (i := 0) rfl)))
  have w1 := hts (.instanceMethod objectInit) (List.mem_cons_of_mem _ (List.mem_append_left _ (List.mem_of_getElem? (i := 1) rfl)))
  have w2 := hts (.code objectInit ⟨#[0xb1]⟩ 1 none) (List.mem_cons_of_mem _ (List.mem_append_left _ (List.mem_of_getElem? (i := 2) rfl)))
  have w3 := hts (.fieldLink RX1 9 "Islandgrid$Generator" "mode" "C") (List.mem_cons_of_mem _ (List.mem_append_left _ (List.mem_of_getElem? (i := 3) rfl)))
  have w4 := hts (.fieldLink RX1 15 "Islandgrid$Generator" "site" "I") (List.mem_cons_of_mem _ (List.mem_append_left _ (List.mem_of_getElem? (i := 4) rfl)))
  have w5 := hts (.fieldLink RX1 19 "Islandgrid$Generator" "least" "I") (List.mem_cons_of_mem _ (List.mem_append_left _ (List.mem_of_getElem? (i := 5) rfl)))
  have w6 := hts (.fieldLink RX1 22 "Islandgrid$Generator" "greatest" "I") (List.mem_cons_of_mem _ (List.mem_append_left _ (List.mem_of_getElem? (i := 6) rfl)))
  have w7 := hts (.fieldLink RX1 25 "Islandgrid$Generator" "warmUp" "I") (List.mem_cons_of_mem _ (List.mem_append_left _ (List.mem_of_getElem? (i := 7) rfl)))
  have w8 := hts (.fieldLink RX1 28 "Islandgrid$Generator" "tank" "I") (List.mem_cons_of_mem _ (List.mem_append_left _ (List.mem_of_getElem? (i := 8) rfl)))
  refine lv_aload_n hX_ hB_ dX1_init_0 rfl (lv_at hl 0 rfl) ?_
  refine ze_obj S hl.1 w0 w1 w2 dX1_init_1 ⟨Nat.le_of_ble_eq_true rfl, Nat.le_of_ble_eq_true rfl⟩ ?_
  refine lv_aload_n hX_ hB_ dX1_init_4 rfl (lv_at hl 0 rfl) ?_
  refine lv_bipush (v := 111) hX_ hB_ dX1_init_5 (by decide) ?_
  refine ze_put (ci := 1) (C := RX1) (T := TX1) (N := 8) (v := .int 111) S hiX1 tyX1 tyX1_ok nmX1 hK hW 0 rfl rfl 5 (by decide) (Nat.le_of_ble_eq_true rfl) rfl rfl rfl w3 dX1_init_7 rfl (fun H locs hW => ?_)
  have hW : ze_W D ([(q, .inr (1, [.int 0, .int 0, .int 0, .int 0, .int 0, .int 111, .int 0, .int 0]))] : va_W) F s.heap _ _ := hW
  refine lv_aload_n hX_ hB_ dX1_init_10 rfl (lv_at hl 0 rfl) ?_
  refine lv_iload_n hX_ hB_ dX1_init_11 rfl (lv_at hl 1 rfl) ?_
  refine ze_putF (ci := 1) (C := RX1) (T := TX1) (N := 8) (v := .int si) S hiX1 tyX1 tyX1_ok nmX1 hin2 hK hW 0 rfl rfl 0 (by decide) (Nat.le_of_ble_eq_true rfl) rfl rfl rfl rfl w4 dX1_init_12 rfl (fun H locs hW => ?_)
  have hW : ze_W D ([(q, .inr (1, [.int si, .int 0, .int 0, .int 0, .int 0, .int 111, .int 0, .int 0]))] : va_W) F s.heap _ _ := hW
  refine lv_aload_n hX_ hB_ dX1_init_15 rfl (lv_at hl 0 rfl) ?_
  refine lv_iload_n hX_ hB_ dX1_init_16 rfl (lv_at hl 2 rfl) ?_
  refine ze_putF (ci := 1) (C := RX1) (T := TX1) (N := 8) (v := .int le) S hiX1 tyX1 tyX1_ok nmX1 hin2 hK hW 0 rfl rfl 1 (by decide) (Nat.le_of_ble_eq_true rfl) rfl rfl rfl rfl w5 dX1_init_17 rfl (fun H locs hW => ?_)
  have hW : ze_W D ([(q, .inr (1, [.int si, .int le, .int 0, .int 0, .int 0, .int 111, .int 0, .int 0]))] : va_W) F s.heap _ _ := hW
  refine lv_aload_n hX_ hB_ dX1_init_20 rfl (lv_at hl 0 rfl) ?_
  refine lv_iload_n hX_ hB_ dX1_init_21 rfl (lv_at hl 3 rfl) ?_
  refine ze_putF (ci := 1) (C := RX1) (T := TX1) (N := 8) (v := .int gr) S hiX1 tyX1 tyX1_ok nmX1 hin2 hK hW 0 rfl rfl 2 (by decide) (Nat.le_of_ble_eq_true rfl) rfl rfl rfl rfl w6 dX1_init_22 rfl (fun H locs hW => ?_)
  have hW : ze_W D ([(q, .inr (1, [.int si, .int le, .int gr, .int 0, .int 0, .int 111, .int 0, .int 0]))] : va_W) F s.heap _ _ := hW
  refine lv_aload_n hX_ hB_ dX1_init_25 rfl (lv_at hl 0 rfl) ?_
  refine lv_iload hX_ hB_ dX1_init_26 (lv_at hl 4 rfl) ?_
  refine ze_putF (ci := 1) (C := RX1) (T := TX1) (N := 8) (v := .int wu) S hiX1 tyX1 tyX1_ok nmX1 hin2 hK hW 0 rfl rfl 3 (by decide) (Nat.le_of_ble_eq_true rfl) rfl rfl rfl rfl w7 dX1_init_28 rfl (fun H locs hW => ?_)
  have hW : ze_W D ([(q, .inr (1, [.int si, .int le, .int gr, .int wu, .int 0, .int 111, .int 0, .int 0]))] : va_W) F s.heap _ _ := hW
  refine lv_aload_n hX_ hB_ dX1_init_31 rfl (lv_at hl 0 rfl) ?_
  refine lv_iload hX_ hB_ dX1_init_32 (lv_at hl 5 rfl) ?_
  refine ze_put (ci := 1) (C := RX1) (T := TX1) (N := 8) (v := .int fu) S hiX1 tyX1 tyX1_ok nmX1 hK hW 0 rfl rfl 4 (by decide) (Nat.le_of_ble_eq_true rfl) rfl rfl rfl w8 dX1_init_34 rfl (fun H locs hW => ?_)
  have hW : ze_W D ([(q, .inr (1, [.int si, .int le, .int gr, .int wu, .int fu, .int 111, .int 0, .int 0]))] : va_W) F s.heap _ _ := hW
  exact ze_vret S hr hlocks hF hK hW dX1_init_37 (Nat.le_of_ble_eq_true rfl) (Nat.le_of_ble_eq_true rfl) rfl
set_option maxHeartbeats 4000000 in
set_option maxRecDepth 100000 in
theorem zi_X7 (l : Launch) (D : va_G) (c : Nat → ClassId) (q : Nat) (si ca ra : Int32) : ze_V l yX7_init wsX7_init 1 12 0 0 D c ([(q, .inr (7, [.int 0, .int 0, .int 0, .int 0, .int 0]))] : va_W) [.ref q, .int si, .int ca, .int ra] ([(q, .inr (7, [.int si, .int ca, .int ra, .int 0, .int 0]))] : va_W) := by
  intro sz
  refine zi_start rfl (cc := cX7_init) (maxL := 4) (ret := none) (own := RX7) (by decide) rfl rfl (Nat.le_of_ble_eq_true rfl) ?_
  intro p e s m_ below meth cd F ls hF hsz E0 hin2
  obtain ⟨S, hr, hlocks, hK, hW, hA, hl⟩ := E0
  have hX_ := S.1
  have hB_ := S.2.1
  have hts := S.2.2.2.2
  have hl : lv_has ls 4 [(0, .ref q), (1, .int si), (2, .int ca), (3, .int ra)] := hl
  have hiX7 : ∀ w ∈ u_ws RX7 TX7 5, w ∈ wsX7_init := fun _ h => (List.mem_cons_of_mem _ (List.mem_append_right _ h))
  have w0 := hts (.methodLink RX7 1 objectInit) (List.mem_cons_of_mem _ (List.mem_append_left _ (List.mem_of_getElem? (i := 0) rfl)))
  have w1 := hts (.instanceMethod objectInit) (List.mem_cons_of_mem _ (List.mem_append_left _ (List.mem_of_getElem? (i := 1) rfl)))
  have w2 := hts (.code objectInit ⟨#[0xb1]⟩ 1 none) (List.mem_cons_of_mem _ (List.mem_append_left _ (List.mem_of_getElem? (i := 2) rfl)))
  have w3 := hts (.fieldLink RX7 7 "Islandgrid$Store" "site" "I") (List.mem_cons_of_mem _ (List.mem_append_left _ (List.mem_of_getElem? (i := 3) rfl)))
  have w4 := hts (.fieldLink RX7 13 "Islandgrid$Store" "capacity" "I") (List.mem_cons_of_mem _ (List.mem_append_left _ (List.mem_of_getElem? (i := 4) rfl)))
  have w5 := hts (.fieldLink RX7 16 "Islandgrid$Store" "rate" "I") (List.mem_cons_of_mem _ (List.mem_append_left _ (List.mem_of_getElem? (i := 5) rfl)))
  refine lv_aload_n hX_ hB_ dX7_init_0 rfl (lv_at hl 0 rfl) ?_
  refine ze_obj S hl.1 w0 w1 w2 dX7_init_1 ⟨Nat.le_of_ble_eq_true rfl, Nat.le_of_ble_eq_true rfl⟩ ?_
  refine lv_aload_n hX_ hB_ dX7_init_4 rfl (lv_at hl 0 rfl) ?_
  refine lv_iload_n hX_ hB_ dX7_init_5 rfl (lv_at hl 1 rfl) ?_
  refine ze_putF (ci := 7) (C := RX7) (T := TX7) (N := 5) (v := .int si) S hiX7 tyX7 tyX7_ok nmX7 hin2 hK hW 0 rfl rfl 0 (by decide) (Nat.le_of_ble_eq_true rfl) rfl rfl rfl rfl w3 dX7_init_6 rfl (fun H locs hW => ?_)
  have hW : ze_W D ([(q, .inr (7, [.int si, .int 0, .int 0, .int 0, .int 0]))] : va_W) F s.heap _ _ := hW
  refine lv_aload_n hX_ hB_ dX7_init_9 rfl (lv_at hl 0 rfl) ?_
  refine lv_iload_n hX_ hB_ dX7_init_10 rfl (lv_at hl 2 rfl) ?_
  refine ze_putF (ci := 7) (C := RX7) (T := TX7) (N := 5) (v := .int ca) S hiX7 tyX7 tyX7_ok nmX7 hin2 hK hW 0 rfl rfl 1 (by decide) (Nat.le_of_ble_eq_true rfl) rfl rfl rfl rfl w4 dX7_init_11 rfl (fun H locs hW => ?_)
  have hW : ze_W D ([(q, .inr (7, [.int si, .int ca, .int 0, .int 0, .int 0]))] : va_W) F s.heap _ _ := hW
  refine lv_aload_n hX_ hB_ dX7_init_14 rfl (lv_at hl 0 rfl) ?_
  refine lv_iload_n hX_ hB_ dX7_init_15 rfl (lv_at hl 3 rfl) ?_
  refine ze_putF (ci := 7) (C := RX7) (T := TX7) (N := 5) (v := .int ra) S hiX7 tyX7 tyX7_ok nmX7 hin2 hK hW 0 rfl rfl 2 (by decide) (Nat.le_of_ble_eq_true rfl) rfl rfl rfl rfl w5 dX7_init_16 rfl (fun H locs hW => ?_)
  have hW : ze_W D ([(q, .inr (7, [.int si, .int ca, .int ra, .int 0, .int 0]))] : va_W) F s.heap _ _ := hW
  exact ze_vret S hr hlocks hF hK hW dX7_init_19 (Nat.le_of_ble_eq_true rfl) (Nat.le_of_ble_eq_true rfl) rfl
set_option maxHeartbeats 4000000 in
set_option maxRecDepth 100000 in
theorem zi_X3 (l : Launch) (D : va_G) (c : Nat → ClassId) (q : Nat) (nu si po ra : Int32) : ze_V l yX3_init wsX3_init 1 12 0 0 D c ([(q, .inr (3, [.int 0, .int 0, .int 0, .int 0, .int 0, .int 0]))] : va_W) [.ref q, .int nu, .int si, .int po, .int ra] ([(q, .inr (3, [.int nu, .int si, .int po, .int ra, .int 1, .int 0]))] : va_W) := by
  intro sz
  refine zi_start rfl (cc := cX3_init) (maxL := 5) (ret := none) (own := RX3) (by decide) rfl rfl (Nat.le_of_ble_eq_true rfl) ?_
  intro p e s m_ below meth cd F ls hF hsz E0 hin2
  obtain ⟨S, hr, hlocks, hK, hW, hA, hl⟩ := E0
  have hX_ := S.1
  have hB_ := S.2.1
  have hts := S.2.2.2.2
  have hl : lv_has ls 5 [(0, .ref q), (1, .int nu), (2, .int si), (3, .int po), (4, .int ra)] := hl
  have hiX3 : ∀ w ∈ u_ws RX3 TX3 6, w ∈ wsX3_init := fun _ h => (List.mem_cons_of_mem _ (List.mem_append_right _ h))
  have w0 := hts (.methodLink RX3 1 objectInit) (List.mem_cons_of_mem _ (List.mem_append_left _ (List.mem_of_getElem? (i := 0) rfl)))
  have w1 := hts (.instanceMethod objectInit) (List.mem_cons_of_mem _ (List.mem_append_left _ (List.mem_of_getElem? (i := 1) rfl)))
  have w2 := hts (.code objectInit ⟨#[0xb1]⟩ 1 none) (List.mem_cons_of_mem _ (List.mem_append_left _ (List.mem_of_getElem? (i := 2) rfl)))
  have w3 := hts (.fieldLink RX3 7 "Islandgrid$Load" "lit" "Z") (List.mem_cons_of_mem _ (List.mem_append_left _ (List.mem_of_getElem? (i := 3) rfl)))
  have w4 := hts (.fieldLink RX3 13 "Islandgrid$Load" "number" "I") (List.mem_cons_of_mem _ (List.mem_append_left _ (List.mem_of_getElem? (i := 4) rfl)))
  have w5 := hts (.fieldLink RX3 17 "Islandgrid$Load" "site" "I") (List.mem_cons_of_mem _ (List.mem_append_left _ (List.mem_of_getElem? (i := 5) rfl)))
  have w6 := hts (.fieldLink RX3 20 "Islandgrid$Load" "power" "I") (List.mem_cons_of_mem _ (List.mem_append_left _ (List.mem_of_getElem? (i := 6) rfl)))
  have w7 := hts (.fieldLink RX3 23 "Islandgrid$Load" "rank" "I") (List.mem_cons_of_mem _ (List.mem_append_left _ (List.mem_of_getElem? (i := 7) rfl)))
  refine lv_aload_n hX_ hB_ dX3_init_0 rfl (lv_at hl 0 rfl) ?_
  refine ze_obj S hl.1 w0 w1 w2 dX3_init_1 ⟨Nat.le_of_ble_eq_true rfl, Nat.le_of_ble_eq_true rfl⟩ ?_
  refine lv_aload_n hX_ hB_ dX3_init_4 rfl (lv_at hl 0 rfl) ?_
  refine lv_iconst (v := 1) hX_ hB_ dX3_init_5 (by decide) ?_
  refine ze_put (ci := 3) (C := RX3) (T := TX3) (N := 6) (v := .int 1) S hiX3 tyX3 tyX3_ok nmX3 hK hW 0 rfl rfl 4 (by decide) (Nat.le_of_ble_eq_true rfl) rfl rfl rfl w3 dX3_init_6 rfl (fun H locs hW => ?_)
  have hW : ze_W D ([(q, .inr (3, [.int 0, .int 0, .int 0, .int 0, .int 1, .int 0]))] : va_W) F s.heap _ _ := hW
  refine lv_aload_n hX_ hB_ dX3_init_9 rfl (lv_at hl 0 rfl) ?_
  refine lv_iload_n hX_ hB_ dX3_init_10 rfl (lv_at hl 1 rfl) ?_
  refine ze_putF (ci := 3) (C := RX3) (T := TX3) (N := 6) (v := .int nu) S hiX3 tyX3 tyX3_ok nmX3 hin2 hK hW 0 rfl rfl 0 (by decide) (Nat.le_of_ble_eq_true rfl) rfl rfl rfl rfl w4 dX3_init_11 rfl (fun H locs hW => ?_)
  have hW : ze_W D ([(q, .inr (3, [.int nu, .int 0, .int 0, .int 0, .int 1, .int 0]))] : va_W) F s.heap _ _ := hW
  refine lv_aload_n hX_ hB_ dX3_init_14 rfl (lv_at hl 0 rfl) ?_
  refine lv_iload_n hX_ hB_ dX3_init_15 rfl (lv_at hl 2 rfl) ?_
  refine ze_putF (ci := 3) (C := RX3) (T := TX3) (N := 6) (v := .int si) S hiX3 tyX3 tyX3_ok nmX3 hin2 hK hW 0 rfl rfl 1 (by decide) (Nat.le_of_ble_eq_true rfl) rfl rfl rfl rfl w5 dX3_init_16 rfl (fun H locs hW => ?_)
  have hW : ze_W D ([(q, .inr (3, [.int nu, .int si, .int 0, .int 0, .int 1, .int 0]))] : va_W) F s.heap _ _ := hW
  refine lv_aload_n hX_ hB_ dX3_init_19 rfl (lv_at hl 0 rfl) ?_
  refine lv_iload_n hX_ hB_ dX3_init_20 rfl (lv_at hl 3 rfl) ?_
  refine ze_putF (ci := 3) (C := RX3) (T := TX3) (N := 6) (v := .int po) S hiX3 tyX3 tyX3_ok nmX3 hin2 hK hW 0 rfl rfl 2 (by decide) (Nat.le_of_ble_eq_true rfl) rfl rfl rfl rfl w6 dX3_init_21 rfl (fun H locs hW => ?_)
  have hW : ze_W D ([(q, .inr (3, [.int nu, .int si, .int po, .int 0, .int 1, .int 0]))] : va_W) F s.heap _ _ := hW
  refine lv_aload_n hX_ hB_ dX3_init_24 rfl (lv_at hl 0 rfl) ?_
  refine lv_iload hX_ hB_ dX3_init_25 (lv_at hl 4 rfl) ?_
  refine ze_put (ci := 3) (C := RX3) (T := TX3) (N := 6) (v := .int ra) S hiX3 tyX3 tyX3_ok nmX3 hK hW 0 rfl rfl 3 (by decide) (Nat.le_of_ble_eq_true rfl) rfl rfl rfl w7 dX3_init_27 rfl (fun H locs hW => ?_)
  have hW : ze_W D ([(q, .inr (3, [.int nu, .int si, .int po, .int ra, .int 1, .int 0]))] : va_W) F s.heap _ _ := hW
  exact ze_vret S hr hlocks hF hK hW dX3_init_30 (Nat.le_of_ble_eq_true rfl) (Nat.le_of_ble_eq_true rfl) rfl
set_option maxHeartbeats 4000000 in
set_option maxRecDepth 100000 in
theorem zc_X0_put (l : Launch) (D : va_G) (c : Nat → ClassId) (a n : Nat → Nat) (A : Nat → Nat → Int32) (B : Nat → Int64) (E : Nat → Nat → Int32) (A2 : Nat → Nat → Int32) (q : Nat) (hN : zf_N n) (h6 : n 2 < 6) (hs : zf_sees A A2) (hg : ∀ g, g ≠ n 2 → ze_fG A2 g = ze_fG A g) (hT : ∀ g, ze_fT A2 g = ze_fT A g) (hL : ∀ g, ze_fL A2 g = ze_fL A g) : ze_I l yX0_put wsX0_put 0 0 0 0 D c ((ze_wC c a n A B E) ++ ([(q, .inr (1, (ze_fG A2 (n 2))))] : va_W)) [.ref (a 9), .ref q] (nI (n 2)) (ze_wC c (va_up a (20 + n 2) q) (ze_sn n 2 (n 2 + 1)) A2 B E) := by
  intro sz
  refine ze_start (cc := cX0_put) (maxL := 3) (ret := (some .int)) (own := RX0) (by decide) rfl rfl (Nat.le_of_ble_eq_true rfl) ?_
  obtain ⟨hn0, hn1, hn2, hn3, hn4⟩ := id hN
  intro p e s m_ below meth cd F ls hF hsz E0
  obtain ⟨S, hr, hlocks, hK, hW, hA, hl⟩ := E0
  have hX_ := S.1
  have hB_ := S.2.1
  have hts := S.2.2.2.2
  have hl : lv_has ls 3 [(0, .ref (a 9)), (1, .ref q)] := hl
  have hiX0 : ∀ w ∈ u_ws RX0 TX0 5, w ∈ wsX0_put := fun _ h => (List.mem_cons_of_mem _ (List.mem_append_right _ h))
  have w0 := hts (.fieldLink RX0 28 "Islandgrid$Fleet" "count" "I") (List.mem_cons_of_mem _ (List.mem_append_left _ (List.mem_of_getElem? (i := 0) rfl)))
  have w1 := hts (.fieldLink RX0 11 "Islandgrid$Fleet" "all" "[LIslandgrid$Generator;") (List.mem_cons_of_mem _ (List.mem_append_left _ (List.mem_of_getElem? (i := 1) rfl)))
  refine lv_aload_n hX_ hB_ dX0_put_0 rfl (lv_at hl 0 rfl) ?_
  refine ze_get (ci := 0) (C := RX0) (T := TX0) (N := 5) (v := .int (nI (n 2))) S hiX0 hK hW 9 (ze_appget0 (ze_at0 9 rfl)) rfl 2 (by decide) rfl w0 dX0_put_1 ?_
  refine lv_istore_n (lv' := [(2, .int (nI (n 2))), (0, .ref (a 9)), (1, .ref q)]) hX_ hB_ dX0_put_4 rfl hl (by decide) rfl (fun ls hl => ?_)
  refine lv_aload_n hX_ hB_ dX0_put_5 rfl (lv_at hl 1 rfl) ?_
  refine ze_get (ci := 0) (C := RX0) (T := TX0) (N := 5) (v := .ref (a 10)) S hiX0 hK hW 9 (ze_appget0 (ze_at0 9 rfl)) rfl 1 (by decide) rfl w1 dX0_put_6 ?_
  refine lv_iload_n hX_ hB_ dX0_put_9 rfl (lv_at hl 0 rfl) ?_
  refine lv_aload_n hX_ hB_ dX0_put_10 rfl (lv_at hl 2 rfl) ?_
  refine ze_ast hX_ hB_ hK hW 10 3 ((ze_wC c a n A B E).length + 0) 1 (i := n 2) (ze_appget0 (ze_at0 10 rfl)) rfl (ze_appL (k := 0) rfl) rfl (by omega) (by decide) dX0_put_11 (fun H locs hW => ?_)
  have hW : ze_W D (List.set ((ze_wC c a n A B E) ++ ([(q, .inr (1, (ze_fG A2 (n 2))))] : va_W)) 10 (a 10, .inl (c 3, 6, .inr (.inr (.inr (.inr (va_up (ze_rw a 20 (n 2)) (n 2) (some q)))))))) F s.heap _ _ := hW
  refine lv_aload_n hX_ hB_ dX0_put_12 rfl (lv_at hl 1 rfl) ?_
  refine lv_dup hX_ hB_ dX0_put_13 rfl ?_
  refine ze_get (ci := 0) (C := RX0) (T := TX0) (N := 5) (v := .int (nI (n 2))) S hiX0 hK hW 9 (ze_setne (by decide) (ze_appget0 (ze_at0 9 rfl))) rfl 2 (by decide) rfl w0 dX0_put_14 ?_
  refine lv_iconst (v := 1) hX_ hB_ dX0_put_17 (by decide) ?_
  refine lv_iadd hX_ hB_ dX0_put_18 ?_
  refine ze_top (nI_add (n 2) 1) ?_
  refine ze_put (ci := 0) (C := RX0) (T := TX0) (N := 5) (v := .int (nI (n 2 + 1))) S hiX0 tyX0 tyX0_ok nmX0 hK hW 9 (ze_setne (by decide) (ze_appget0 (ze_at0 9 rfl))) rfl 2 (by decide) (Nat.le_of_ble_eq_true rfl) rfl rfl rfl w0 dX0_put_19 rfl (fun H locs hW => ?_)
  have hW : ze_W D (List.set (List.set ((ze_wC c a n A B E) ++ ([(q, .inr (1, (ze_fG A2 (n 2))))] : va_W)) 10 (a 10, .inl (c 3, 6, .inr (.inr (.inr (.inr (va_up (ze_rw a 20 (n 2)) (n 2) (some q)))))))) 9 (a 9, .inr (0, [.ref (a 1), .ref (a 10), .int (nI (n 2 + 1)), .ref (a 11), .ref (a 12)]))) F s.heap _ _ := hW
  refine lv_iload_n hX_ hB_ dX0_put_22 rfl (lv_at hl 0 rfl) ?_
  have hW := ze_addG hN h6 hs hg hT hL hW
  exact ze_iret S hr hlocks hF hK hW rfl dX0_put_23 (Nat.le_of_ble_eq_true rfl) (Nat.le_of_ble_eq_true rfl) rfl rfl
set_option maxHeartbeats 4000000 in
set_option maxRecDepth 100000 in
theorem zc_X6_put (l : Launch) (D : va_G) (c : Nat → ClassId) (a n : Nat → Nat) (A : Nat → Nat → Int32) (B : Nat → Int64) (E : Nat → Nat → Int32) (A2 : Nat → Nat → Int32) (q : Nat) (hN : zf_N n) (h6 : n 3 < 4) (hs : zf_sees A A2) (hg : ∀ g, g ≠ n 3 → ze_fT A2 g = ze_fT A g) (hT : ∀ g, ze_fG A2 g = ze_fG A g) (hL : ∀ g, ze_fL A2 g = ze_fL A g) : ze_I l yX6_put wsX6_put 0 0 0 0 D c ((ze_wC c a n A B E) ++ ([(q, .inr (7, (ze_fT A2 (n 3))))] : va_W)) [.ref (a 13), .ref q] (nI (n 3)) (ze_wC c (va_up a (30 + n 3) q) (ze_sn n 3 (n 3 + 1)) A2 B E) := by
  intro sz
  refine ze_start (cc := cX6_put) (maxL := 3) (ret := (some .int)) (own := RX6) (by decide) rfl rfl (Nat.le_of_ble_eq_true rfl) ?_
  obtain ⟨hn0, hn1, hn2, hn3, hn4⟩ := id hN
  intro p e s m_ below meth cd F ls hF hsz E0
  obtain ⟨S, hr, hlocks, hK, hW, hA, hl⟩ := E0
  have hX_ := S.1
  have hB_ := S.2.1
  have hts := S.2.2.2.2
  have hl : lv_has ls 3 [(0, .ref (a 13)), (1, .ref q)] := hl
  have hiX6 : ∀ w ∈ u_ws RX6 TX6 3, w ∈ wsX6_put := fun _ h => (List.mem_cons_of_mem _ (List.mem_append_right _ h))
  have w0 := hts (.fieldLink RX6 21 "Islandgrid$Storage" "count" "I") (List.mem_cons_of_mem _ (List.mem_append_left _ (List.mem_of_getElem? (i := 0) rfl)))
  have w1 := hts (.fieldLink RX6 11 "Islandgrid$Storage" "all" "[LIslandgrid$Store;") (List.mem_cons_of_mem _ (List.mem_append_left _ (List.mem_of_getElem? (i := 1) rfl)))
  refine lv_aload_n hX_ hB_ dX6_put_0 rfl (lv_at hl 0 rfl) ?_
  refine ze_get (ci := 6) (C := RX6) (T := TX6) (N := 3) (v := .int (nI (n 3))) S hiX6 hK hW 13 (ze_appget0 (ze_at0 13 rfl)) rfl 2 (by decide) rfl w0 dX6_put_1 ?_
  refine lv_istore_n (lv' := [(2, .int (nI (n 3))), (0, .ref (a 13)), (1, .ref q)]) hX_ hB_ dX6_put_4 rfl hl (by decide) rfl (fun ls hl => ?_)
  refine lv_aload_n hX_ hB_ dX6_put_5 rfl (lv_at hl 1 rfl) ?_
  refine ze_get (ci := 6) (C := RX6) (T := TX6) (N := 3) (v := .ref (a 14)) S hiX6 hK hW 13 (ze_appget0 (ze_at0 13 rfl)) rfl 1 (by decide) rfl w1 dX6_put_6 ?_
  refine lv_iload_n hX_ hB_ dX6_put_9 rfl (lv_at hl 0 rfl) ?_
  refine lv_aload_n hX_ hB_ dX6_put_10 rfl (lv_at hl 2 rfl) ?_
  refine ze_ast hX_ hB_ hK hW 14 4 ((ze_wC c a n A B E).length + 0) 7 (i := n 3) (ze_appget0 (ze_at0 14 rfl)) rfl (ze_appL (k := 0) rfl) rfl (by omega) (by decide) dX6_put_11 (fun H locs hW => ?_)
  have hW : ze_W D (List.set ((ze_wC c a n A B E) ++ ([(q, .inr (7, (ze_fT A2 (n 3))))] : va_W)) 14 (a 14, .inl (c 4, 4, .inr (.inr (.inr (.inr (va_up (ze_rw a 30 (n 3)) (n 3) (some q)))))))) F s.heap _ _ := hW
  refine lv_aload_n hX_ hB_ dX6_put_12 rfl (lv_at hl 1 rfl) ?_
  refine lv_dup hX_ hB_ dX6_put_13 rfl ?_
  refine ze_get (ci := 6) (C := RX6) (T := TX6) (N := 3) (v := .int (nI (n 3))) S hiX6 hK hW 13 (ze_setne (by decide) (ze_appget0 (ze_at0 13 rfl))) rfl 2 (by decide) rfl w0 dX6_put_14 ?_
  refine lv_iconst (v := 1) hX_ hB_ dX6_put_17 (by decide) ?_
  refine lv_iadd hX_ hB_ dX6_put_18 ?_
  refine ze_top (nI_add (n 3) 1) ?_
  refine ze_put (ci := 6) (C := RX6) (T := TX6) (N := 3) (v := .int (nI (n 3 + 1))) S hiX6 tyX6 tyX6_ok nmX6 hK hW 13 (ze_setne (by decide) (ze_appget0 (ze_at0 13 rfl))) rfl 2 (by decide) (Nat.le_of_ble_eq_true rfl) rfl rfl rfl w0 dX6_put_19 rfl (fun H locs hW => ?_)
  have hW : ze_W D (List.set (List.set ((ze_wC c a n A B E) ++ ([(q, .inr (7, (ze_fT A2 (n 3))))] : va_W)) 14 (a 14, .inl (c 4, 4, .inr (.inr (.inr (.inr (va_up (ze_rw a 30 (n 3)) (n 3) (some q)))))))) 13 (a 13, .inr (6, [.ref (a 1), .ref (a 14), .int (nI (n 3 + 1))]))) F s.heap _ _ := hW
  refine lv_iload_n hX_ hB_ dX6_put_22 rfl (lv_at hl 0 rfl) ?_
  have hW := ze_addT hN h6 hs hg hT hL hW
  exact ze_iret S hr hlocks hF hK hW rfl dX6_put_23 (Nat.le_of_ble_eq_true rfl) (Nat.le_of_ble_eq_true rfl) rfl rfl
set_option maxHeartbeats 4000000 in
set_option maxRecDepth 100000 in
theorem zc_X4_put (l : Launch) (D : va_G) (c : Nat → ClassId) (a n : Nat → Nat) (A : Nat → Nat → Int32) (B : Nat → Int64) (E : Nat → Nat → Int32) (A2 : Nat → Nat → Int32) (x y z : Int32) (hN : zf_N n) (h6 : n 4 < 10) (hs : zf_sees A A2) (hg : ∀ g, g ≠ n 4 → ze_fL A2 g = ze_fL A g) (hT : ∀ g, ze_fT A2 g = ze_fT A g) (hL : ∀ g, ze_fG A2 g = ze_fG A g) (hfl : ze_fL A2 (n 4) = [.int (nI (n 4)), .int x, .int y, .int z, .int 1, .int 0]) : ze_IE l yX4_put wsX4_put 2 36 1 6 D c (ze_wC c a n A B E) [.ref (a 15), .int x, .int y, .int z] (nI (n 4)) (fun qn => (ze_wC c (va_up a (40 + n 4) qn) (ze_sn n 4 (n 4 + 1)) A2 B E)) := by
  intro sz
  refine ze_start (cc := cX4_put) (maxL := 5) (ret := (some .int)) (own := RX4) (by decide) rfl rfl (Nat.le_of_ble_eq_true rfl) ?_
  obtain ⟨hn0, hn1, hn2, hn3, hn4⟩ := id hN
  intro p e s m_ below meth cd F ls hF hsz E0
  obtain ⟨S, hr, hlocks, hK, hW, hA, hl⟩ := E0
  have hX_ := S.1
  have hB_ := S.2.1
  have hts := S.2.2.2.2
  have hl : lv_has ls 5 [(0, .ref (a 15)), (1, .int x), (2, .int y), (3, .int z)] := hl
  have hiX3 : ∀ w ∈ u_ws RX3 TX3 6, w ∈ wsX4_put := fun _ h => (List.mem_cons_of_mem _ (List.mem_append_right _ h))
  have hiX4 : ∀ w ∈ u_ws RX4 TX4 3, w ∈ wsX4_put := fun _ h => (List.mem_cons_of_mem _ (List.mem_append_left _ (List.mem_append_right _ h)))
  have w0 := hts (.fieldLink RX4 21 "Islandgrid$Loads" "count" "I") (List.mem_cons_of_mem _ (List.mem_append_left _ (List.mem_append_left _ (List.mem_of_getElem? (i := 0) rfl))))
  have w1 := hts (.fieldLink RX4 11 "Islandgrid$Loads" "all" "[LIslandgrid$Load;") (List.mem_cons_of_mem _ (List.mem_append_left _ (List.mem_append_left _ (List.mem_of_getElem? (i := 1) rfl))))
  have w2 := hts (.classLink RX4 9 RX3) (List.mem_cons_of_mem _ (List.mem_append_left _ (List.mem_append_left _ (List.mem_of_getElem? (i := 2) rfl))))
  have w3 := hts (.instantiable RX3 6) (List.mem_cons_of_mem _ (List.mem_append_left _ (List.mem_append_left _ (List.mem_of_getElem? (i := 3) rfl))))
  have w4 := hts (.initialized RX3) (List.mem_cons_of_mem _ (List.mem_append_left _ (List.mem_append_left _ (List.mem_of_getElem? (i := 4) rfl))))
  have w5 := hts (.methodLink RX4 25 yX3_init) (List.mem_cons_of_mem _ (List.mem_append_left _ (List.mem_append_left _ (List.mem_of_getElem? (i := 5) rfl))))
  have w6 := hts (.instanceMethod yX3_init) (List.mem_cons_of_mem _ (List.mem_append_left _ (List.mem_append_left _ (List.mem_of_getElem? (i := 6) rfl))))
  refine lv_aload_n hX_ hB_ dX4_put_0 rfl (lv_at hl 0 rfl) ?_
  refine ze_get (ci := 4) (C := RX4) (T := TX4) (N := 3) (v := .int (nI (n 4))) S hiX4 hK hW 15 (ze_at0 15 rfl) rfl 2 (by decide) rfl w0 dX4_put_1 ?_
  refine lv_istore (lv' := [(4, .int (nI (n 4))), (0, .ref (a 15)), (1, .int x), (2, .int y), (3, .int z)]) hX_ hB_ dX4_put_4 hl (by decide) rfl (fun ls hl => ?_)
  refine lv_aload_n hX_ hB_ dX4_put_6 rfl (lv_at hl 1 rfl) ?_
  refine ze_get (ci := 4) (C := RX4) (T := TX4) (N := 3) (v := .ref (a 16)) S hiX4 hK hW 15 (ze_at0 15 rfl) rfl 1 (by decide) rfl w1 dX4_put_7 ?_
  refine lv_iload hX_ hB_ dX4_put_10 (lv_at hl 0 rfl) ?_
  refine ze_new (ci := 3) (C := RX3) (T := TX3) (N := 6) (fs := [.int 0, .int 0, .int 0, .int 0, .int 0, .int 0]) S hiX3 tyX3 tyX3_ok w2 w3 w4 hK hW hA rfl (by decide) (Nat.le_of_ble_eq_true rfl) (Nat.le_of_ble_eq_true rfl) dX4_put_12 (fun qn H hW => ?_)
  refine lv_dup hX_ hB_ dX4_put_15 rfl ?_
  refine lv_iload hX_ hB_ dX4_put_16 (lv_at hl 0 rfl) ?_
  refine lv_iload_n hX_ hB_ dX4_put_18 rfl (lv_at hl 2 rfl) ?_
  refine lv_iload_n hX_ hB_ dX4_put_19 rfl (lv_at hl 3 rfl) ?_
  refine lv_iload_n hX_ hB_ dX4_put_20 rfl (lv_at hl 4 rfl) ?_
  have hW := ze_Wc hW
  refine ze_FIv (As := [.int (nI (n 4)), .int x, .int y, .int z]) (rest := [.ref qn, .int (nI (n 4)), .ref (a 16)]) S (zi_X3 l D c qn (nI (n 4)) x y z) (cwI 4 hts gX4_put_X3_init rfl rfl rfl w4 w5 w6 rfl (by decide +kernel) ⟨Nat.le_of_ble_eq_true rfl, Nat.le_of_ble_eq_true rfl⟩) hK hW hA rfl hl.1 rfl (lv_room (Nat.le_of_ble_eq_true rfl)) dX4_put_21 ⟨Nat.le_of_ble_eq_true rfl, Nat.le_of_ble_eq_true rfl⟩ (fun H locs hW => ?_)
  have hW := ze_Wc hW
  have hW : ze_W D ((ze_wC c a n A B E) ++ ([(qn, .inr (3, [.int (nI (n 4)), .int x, .int y, .int z, .int 1, .int 0]))] : va_W)) F s.heap _ _ := hW
  rw [← hfl] at hW
  refine ze_ast hX_ hB_ hK hW 16 5 ((ze_wC c a n A B E).length + 0) 3 (i := n 4) (ze_appget0 (ze_at0 16 rfl)) rfl (ze_appL (k := 0) rfl) rfl (by omega) (by decide) dX4_put_24 (fun H locs hW => ?_)
  have hW : ze_W D (List.set ((ze_wC c a n A B E) ++ ([(qn, .inr (3, (ze_fL A2 (n 4))))] : va_W)) 16 (a 16, .inl (c 5, 10, .inr (.inr (.inr (.inr (va_up (ze_rw a 40 (n 4)) (n 4) (some qn)))))))) F s.heap _ _ := hW
  refine lv_aload_n hX_ hB_ dX4_put_25 rfl (lv_at hl 1 rfl) ?_
  refine lv_dup hX_ hB_ dX4_put_26 rfl ?_
  refine ze_get (ci := 4) (C := RX4) (T := TX4) (N := 3) (v := .int (nI (n 4))) S hiX4 hK hW 15 (ze_setne (by decide) (ze_appget0 (ze_at0 15 rfl))) rfl 2 (by decide) rfl w0 dX4_put_27 ?_
  refine lv_iconst (v := 1) hX_ hB_ dX4_put_30 (by decide) ?_
  refine lv_iadd hX_ hB_ dX4_put_31 ?_
  refine ze_top (nI_add (n 4) 1) ?_
  refine ze_put (ci := 4) (C := RX4) (T := TX4) (N := 3) (v := .int (nI (n 4 + 1))) S hiX4 tyX4 tyX4_ok nmX4 hK hW 15 (ze_setne (by decide) (ze_appget0 (ze_at0 15 rfl))) rfl 2 (by decide) (Nat.le_of_ble_eq_true rfl) rfl rfl rfl w0 dX4_put_32 rfl (fun H locs hW => ?_)
  have hW : ze_W D (List.set (List.set ((ze_wC c a n A B E) ++ ([(qn, .inr (3, (ze_fL A2 (n 4))))] : va_W)) 16 (a 16, .inl (c 5, 10, .inr (.inr (.inr (.inr (va_up (ze_rw a 40 (n 4)) (n 4) (some qn)))))))) 15 (a 15, .inr (4, [.ref (a 1), .ref (a 16), .int (nI (n 4 + 1))]))) F s.heap _ _ := hW
  refine lv_iload hX_ hB_ dX4_put_35 (lv_at hl 0 rfl) ?_
  have hW := ze_addL hN h6 hs hg hT hL hW
  exact ze_eret (q := qn) S hr hlocks hF hK hW rfl dX4_put_37 (Nat.le_of_ble_eq_true rfl) (Nat.le_of_ble_eq_true rfl) rfl rfl
set_option maxHeartbeats 4000000 in
set_option maxRecDepth 100000 in
theorem zp_addGenerator_f (l : Launch) (D : va_G) (c : Nat → ClassId) (a n : Nat → Nat) (A : Nat → Nat → Int32) (B : Nat → Int64) (E : Nat → Nat → Int32) (j : Nat) (hN : zf_N n) (hj : j < n 0) (le gr wu fu : Int32) (h1 : zf_isIn le 0 100) (h2 : zf_isIn gr (ze_mx 1 le) 200) (h3 : zf_isIn wu 0 9) (h4 : zf_isIn fu 0 9999) (h5 : n 2 < 6) (ho11 : A 11 (n 2) = 0) (ho12 : A 12 (n 2) = 0) : ze_IE l yX8_addGenerator wsX8_addGenerator 2 42 1 8 D c (ze_wC c a n A B E) [.ref (a 0), .int (nI j), .int le, .int gr, .int wu, .int fu] (nI (n 2)) (fun qn => (ze_wC c (va_up a (20 + n 2) qn) (ze_sn n 2 (n 2 + 1)) (ze_sE (ze_sE (ze_sE (ze_sE (ze_sE (ze_sE A 6 (n 2) (nI j)) 7 (n 2) le) 8 (n 2) gr) 9 (n 2) wu) 10 (n 2) fu) 13 (n 2) 111) B E)) := by
  intro sz
  refine ze_start (cc := cX8_addGenerator) (maxL := 6) (ret := (some .int)) (own := RX8) (by decide) rfl rfl (Nat.le_of_ble_eq_true rfl) ?_
  obtain ⟨hn0, hn1, hn2, hn3, hn4⟩ := id hN
  generalize eA2 : (ze_sE (ze_sE (ze_sE (ze_sE (ze_sE (ze_sE A 6 (n 2) (nI j)) 7 (n 2) le) 8 (n 2) gr) 9 (n 2) wu) 10 (n 2) fu) 13 (n 2) 111) = A2
  have hs : zf_sees A A2 := by subst eA2; exact ⟨rfl, rfl, rfl, rfl, rfl, rfl, rfl, rfl, rfl⟩
  have hg : ∀ g, g ≠ n 2 → ze_fG A2 g = ze_fG A g := fun g h9 => by subst eA2; simp only [ze_fG, ze_sE_ne h9]
  have hT : ∀ g, ze_fT A2 g = ze_fT A g := fun g => by subst eA2; rfl
  have hL : ∀ g, ze_fL A2 g = ze_fL A g := fun g => by subst eA2; rfl
  have hfl : ze_fG A2 (n 2) = [.int (nI j), .int le, .int gr, .int wu, .int fu, .int 111, .int 0, .int 0] := by subst eA2; simp [ze_fG, ze_sE, ze_sA, upd, ze_nt, ho11, ho12]
  intro p e s m_ below meth cd F ls hF hsz E0
  obtain ⟨S, hr, hlocks, hK, hW, hA, hl⟩ := E0
  have hX_ := S.1
  have hB_ := S.2.1
  have hts := S.2.2.2.2
  have hl : lv_has ls 6 [(0, .ref (a 0)), (1, .int (nI j)), (2, .int le), (3, .int gr), (4, .int wu), (5, .int fu)] := hl
  have hiX0 : ∀ w ∈ u_ws RX0 TX0 5, w ∈ wsX8_addGenerator := fun _ h => (List.mem_cons_of_mem _ (List.mem_append_left _ (List.mem_append_left _ (List.mem_append_left _ (List.mem_append_left _ (List.mem_append_left _ (List.mem_append_right _ h)))))))
  have hiX1 : ∀ w ∈ u_ws RX1 TX1 8, w ∈ wsX8_addGenerator := fun _ h => (List.mem_cons_of_mem _ (List.mem_append_left _ (List.mem_append_left _ (List.mem_append_left _ (List.mem_append_left _ (List.mem_append_right _ h))))))
  have hiX8 : ∀ w ∈ u_ws RX8 TX8 8, w ∈ wsX8_addGenerator := fun _ h => (List.mem_cons_of_mem _ (List.mem_append_left _ (List.mem_append_left _ (List.mem_append_left _ (List.mem_append_left _ (List.mem_append_left _ (List.mem_append_left _ (List.mem_append_right _ h))))))))
  have w0 := hts (.methodLink RX8 146 Lib.Math.max.name) (List.mem_cons_of_mem _ (List.mem_append_left _ (List.mem_append_left _ (List.mem_append_left _ (List.mem_append_left _ (List.mem_append_left _ (List.mem_append_left _ (List.mem_append_left _ (List.mem_append_left _ (List.mem_of_getElem? (i := 2) rfl))))))))))
  have w1 := hts (.static Lib.Math.max.name) (List.mem_cons_of_mem _ (List.mem_append_left _ (List.mem_append_left _ (List.mem_append_left _ (List.mem_append_left _ (List.mem_append_left _ (List.mem_append_left _ (List.mem_append_left _ (List.mem_append_left _ (List.mem_of_getElem? (i := 3) rfl))))))))))
  have w2 := hts (.initialized "java/lang/Math") (List.mem_cons_of_mem _ (List.mem_append_left _ (List.mem_append_left _ (List.mem_append_left _ (List.mem_append_left _ (List.mem_append_left _ (List.mem_append_left _ (List.mem_append_left _ (List.mem_append_left _ (List.mem_of_getElem? (i := 4) rfl))))))))))
  have w3 := hts (.code Lib.Math.max.name Lib.Math.max.code 2 (some .int)) (List.mem_cons_of_mem _ (List.mem_append_left _ (List.mem_append_left _ (List.mem_append_left _ (List.mem_append_left _ (List.mem_append_left _ (List.mem_append_left _ (List.mem_append_left _ (List.mem_append_left _ (List.mem_of_getElem? (i := 5) rfl))))))))))
  have w4 := hts (.fieldLink RX8 21 "Islandgrid" "fleet" "LIslandgrid$Fleet;") (List.mem_cons_of_mem _ (List.mem_append_left _ (List.mem_append_left _ (List.mem_append_left _ (List.mem_append_left _ (List.mem_append_left _ (List.mem_append_left _ (List.mem_append_left _ (List.mem_append_left _ (List.mem_of_getElem? (i := 6) rfl))))))))))
  have w5 := hts (.fieldLink RX8 151 "Islandgrid$Fleet" "count" "I") (List.mem_cons_of_mem _ (List.mem_append_left _ (List.mem_append_left _ (List.mem_append_left _ (List.mem_append_left _ (List.mem_append_left _ (List.mem_append_left _ (List.mem_append_left _ (List.mem_append_left _ (List.mem_of_getElem? (i := 7) rfl))))))))))
  have w6 := hts (.classLink RX8 156 RX1) (List.mem_cons_of_mem _ (List.mem_append_left _ (List.mem_append_left _ (List.mem_append_left _ (List.mem_append_left _ (List.mem_append_left _ (List.mem_append_left _ (List.mem_append_left _ (List.mem_append_left _ (List.mem_of_getElem? (i := 8) rfl))))))))))
  have w7 := hts (.instantiable RX1 8) (List.mem_cons_of_mem _ (List.mem_append_left _ (List.mem_append_left _ (List.mem_append_left _ (List.mem_append_left _ (List.mem_append_left _ (List.mem_append_left _ (List.mem_append_left _ (List.mem_append_left _ (List.mem_of_getElem? (i := 9) rfl))))))))))
  have w8 := hts (.initialized RX1) (List.mem_cons_of_mem _ (List.mem_append_left _ (List.mem_append_left _ (List.mem_append_left _ (List.mem_append_left _ (List.mem_append_left _ (List.mem_append_left _ (List.mem_append_left _ (List.mem_append_left _ (List.mem_of_getElem? (i := 10) rfl))))))))))
  have w9 := hts (.methodLink RX8 158 yX1_init) (List.mem_cons_of_mem _ (List.mem_append_left _ (List.mem_append_left _ (List.mem_append_left _ (List.mem_append_left _ (List.mem_append_left _ (List.mem_append_left _ (List.mem_append_left _ (List.mem_append_right _ (List.mem_of_getElem? (i := 4) rfl))))))))))
  have w10 := hts (.instanceMethod yX1_init) (List.mem_cons_of_mem _ (List.mem_append_left _ (List.mem_append_left _ (List.mem_append_left _ (List.mem_append_left _ (List.mem_append_left _ (List.mem_append_left _ (List.mem_append_left _ (List.mem_append_right _ (List.mem_of_getElem? (i := 5) rfl))))))))))
  refine lv_aload_n hX_ hB_ dX8_addGenerator_0 rfl (lv_at hl 0 rfl) ?_
  refine lv_iload_n hX_ hB_ dX8_addGenerator_1 rfl (lv_at hl 1 rfl) ?_
  refine ze_Vv (As := [.int (nI j)]) (rest := []) (ci := 8) (q0 := 0) (k := (RX8, TX8, 8)) S (zp_checkSite l D c a n A B E j hN (by omega)) (cwV 1 hts gX8_addGenerator_X8_checkSite rfl rfl rfl (by decide +kernel) ⟨Nat.le_of_ble_eq_true rfl, Nat.le_of_ble_eq_true rfl⟩) hK hW hA rfl (ze_at0 0 rfl) rfl hl.1 rfl (lv_room (Nat.le_of_ble_eq_true rfl)) dX8_addGenerator_2 ⟨Nat.le_of_ble_eq_true rfl, Nat.le_of_ble_eq_true rfl⟩ (fun H locs hW => ?_)
  refine lv_iload_n hX_ hB_ dX8_addGenerator_5 rfl (lv_at hl 2 rfl) ?_
  refine lv_iconst (v := 0) hX_ hB_ dX8_addGenerator_6 (by decide) ?_
  refine lv_bipush (v := 100) hX_ hB_ dX8_addGenerator_7 (by decide) ?_
  refine ze_Sv (As := [.int le, .int 0, .int 100]) (rest := []) S (zp_checkRange l D c (ze_wC c a n A B E) le 0 100 (by assumption)) (va_cwS 3 hts gX8_addGenerator_X8_checkRange rfl rfl rfl (by decide +kernel) ⟨Nat.le_of_ble_eq_true rfl, Nat.le_of_ble_eq_true rfl⟩) hK hW hA rfl hl.1 rfl (lv_room (Nat.le_of_ble_eq_true rfl)) dX8_addGenerator_9 ⟨Nat.le_of_ble_eq_true rfl, Nat.le_of_ble_eq_true rfl⟩ (fun H locs hW => ?_)
  refine lv_iload_n hX_ hB_ dX8_addGenerator_12 rfl (lv_at hl 3 rfl) ?_
  refine lv_iconst (v := 1) hX_ hB_ dX8_addGenerator_13 (by decide) ?_
  refine lv_iload_n hX_ hB_ dX8_addGenerator_14 rfl (lv_at hl 2 rfl) ?_
  refine ze_max S hl.1 w0 w1 w2 w3 ⟨Nat.le_of_ble_eq_true rfl, Nat.le_of_ble_eq_true rfl, Nat.le_of_ble_eq_true rfl, Nat.le_of_ble_eq_true rfl⟩ dX8_addGenerator_15 ?_
  refine lv_sipush (v := 200) hX_ hB_ dX8_addGenerator_18 (by decide) ?_
  refine ze_Sv (As := [.int gr, .int (ze_mx 1 le), .int 200]) (rest := []) S (zp_checkRange l D c (ze_wC c a n A B E) gr (ze_mx 1 le) 200 (by assumption)) (va_cwS 3 hts gX8_addGenerator_X8_checkRange rfl rfl rfl (by decide +kernel) ⟨Nat.le_of_ble_eq_true rfl, Nat.le_of_ble_eq_true rfl⟩) hK hW hA rfl hl.1 rfl (lv_room (Nat.le_of_ble_eq_true rfl)) dX8_addGenerator_21 ⟨Nat.le_of_ble_eq_true rfl, Nat.le_of_ble_eq_true rfl⟩ (fun H locs hW => ?_)
  refine lv_iload hX_ hB_ dX8_addGenerator_24 (lv_at hl 4 rfl) ?_
  refine lv_iconst (v := 0) hX_ hB_ dX8_addGenerator_26 (by decide) ?_
  refine lv_bipush (v := 9) hX_ hB_ dX8_addGenerator_27 (by decide) ?_
  refine ze_Sv (As := [.int wu, .int 0, .int 9]) (rest := []) S (zp_checkRange l D c (ze_wC c a n A B E) wu 0 9 (by assumption)) (va_cwS 3 hts gX8_addGenerator_X8_checkRange rfl rfl rfl (by decide +kernel) ⟨Nat.le_of_ble_eq_true rfl, Nat.le_of_ble_eq_true rfl⟩) hK hW hA rfl hl.1 rfl (lv_room (Nat.le_of_ble_eq_true rfl)) dX8_addGenerator_29 ⟨Nat.le_of_ble_eq_true rfl, Nat.le_of_ble_eq_true rfl⟩ (fun H locs hW => ?_)
  refine lv_iload hX_ hB_ dX8_addGenerator_32 (lv_at hl 5 rfl) ?_
  refine lv_iconst (v := 0) hX_ hB_ dX8_addGenerator_34 (by decide) ?_
  refine lv_sipush (v := 9999) hX_ hB_ dX8_addGenerator_35 (by decide) ?_
  refine ze_Sv (As := [.int fu, .int 0, .int 9999]) (rest := []) S (zp_checkRange l D c (ze_wC c a n A B E) fu 0 9999 (by assumption)) (va_cwS 3 hts gX8_addGenerator_X8_checkRange rfl rfl rfl (by decide +kernel) ⟨Nat.le_of_ble_eq_true rfl, Nat.le_of_ble_eq_true rfl⟩) hK hW hA rfl hl.1 rfl (lv_room (Nat.le_of_ble_eq_true rfl)) dX8_addGenerator_38 ⟨Nat.le_of_ble_eq_true rfl, Nat.le_of_ble_eq_true rfl⟩ (fun H locs hW => ?_)
  refine lv_aload_n hX_ hB_ dX8_addGenerator_41 rfl (lv_at hl 0 rfl) ?_
  refine ze_get (ci := 8) (C := RX8) (T := TX8) (N := 8) (v := .ref (a 9)) S hiX8 hK hW 0 (ze_at0 0 rfl) rfl 1 (by decide) rfl w4 dX8_addGenerator_42 ?_
  refine ze_get (ci := 0) (C := RX0) (T := TX0) (N := 5) (v := .int (nI (n 2))) S hiX0 hK hW 9 (ze_at0 9 rfl) rfl 2 (by decide) rfl w5 dX8_addGenerator_45 ?_
  refine lv_bipush (v := 6) hX_ hB_ dX8_addGenerator_48 (by decide) ?_
  refine lv_icmp_lt (tgt := 63) hX_ hB_ dX8_addGenerator_50 (by decide) (fun c50 => ?_) (fun c50 => ?_)
  · have c50 : (n 2) < 6 := (nI_ltI (a := (n 2)) (b := 6) (by omega) (by omega)).mp c50
    refine lv_aload_n hX_ hB_ dX8_addGenerator_63 rfl (lv_at hl 0 rfl) ?_
    refine ze_get (ci := 8) (C := RX8) (T := TX8) (N := 8) (v := .ref (a 9)) S hiX8 hK hW 0 (ze_at0 0 rfl) rfl 1 (by decide) rfl w4 dX8_addGenerator_64 ?_
    refine ze_new (ci := 1) (C := RX1) (T := TX1) (N := 8) (fs := [.int 0, .int 0, .int 0, .int 0, .int 0, .int 0, .int 0, .int 0]) S hiX1 tyX1 tyX1_ok w6 w7 w8 hK hW hA rfl (by decide) (Nat.le_of_ble_eq_true rfl) (Nat.le_of_ble_eq_true rfl) dX8_addGenerator_67 (fun qn H hW => ?_)
    refine lv_dup hX_ hB_ dX8_addGenerator_70 rfl ?_
    refine lv_iload_n hX_ hB_ dX8_addGenerator_71 rfl (lv_at hl 1 rfl) ?_
    refine lv_iload_n hX_ hB_ dX8_addGenerator_72 rfl (lv_at hl 2 rfl) ?_
    refine lv_iload_n hX_ hB_ dX8_addGenerator_73 rfl (lv_at hl 3 rfl) ?_
    refine lv_iload hX_ hB_ dX8_addGenerator_74 (lv_at hl 4 rfl) ?_
    refine lv_iload hX_ hB_ dX8_addGenerator_76 (lv_at hl 5 rfl) ?_
    have hW := ze_Wc hW
    refine ze_FIv (As := [.int (nI j), .int le, .int gr, .int wu, .int fu]) (rest := [.ref qn, .ref (a 9)]) S (zi_X1 l D c qn (nI j) le gr wu fu) (cwI 5 hts gX8_addGenerator_X1_init rfl rfl rfl w8 w9 w10 rfl (by decide +kernel) ⟨Nat.le_of_ble_eq_true rfl, Nat.le_of_ble_eq_true rfl⟩) hK hW hA rfl hl.1 rfl (lv_room (Nat.le_of_ble_eq_true rfl)) dX8_addGenerator_78 ⟨Nat.le_of_ble_eq_true rfl, Nat.le_of_ble_eq_true rfl⟩ (fun H locs hW => ?_)
    have hW := ze_Wc hW
    have hW : ze_W D ((ze_wC c a n A B E) ++ ([(qn, .inr (1, [.int (nI j), .int le, .int gr, .int wu, .int fu, .int 111, .int 0, .int 0]))] : va_W)) F s.heap _ _ := hW
    rw [← hfl] at hW
    refine ze_Vi (As := [.ref qn]) (rest := []) (ci := 0) (q0 := 9) (k := (RX0, TX0, 5)) S (zc_X0_put l D c a n A B E A2 qn hN (by omega) hs hg hT hL) (cwV 1 hts gX8_addGenerator_X0_put rfl rfl rfl (by decide +kernel) ⟨Nat.le_of_ble_eq_true rfl, Nat.le_of_ble_eq_true rfl⟩) hK hW hA rfl (ze_appget0 (ze_at0 9 rfl)) rfl hl.1 rfl (lv_room (Nat.le_of_ble_eq_true rfl)) dX8_addGenerator_81 ⟨Nat.le_of_ble_eq_true rfl, Nat.le_of_ble_eq_true rfl⟩ (fun H locs hW => ?_)
    have hW : ze_W D (ze_wC c (va_up a (20 + n 2) qn) (ze_sn n 2 (n 2 + 1)) A2 B E) F s.heap _ _ := hW
    subst eA2
    exact ze_eret (q := qn) S hr hlocks hF hK hW rfl dX8_addGenerator_84 (Nat.le_of_ble_eq_true rfl) (Nat.le_of_ble_eq_true rfl) rfl rfl
  · have c50 : ¬ (n 2) < 6 := fun h9 => c50 ((nI_ltI (a := (n 2)) (b := 6) (by omega) (by omega)).mpr h9)
    exact absurd h5 c50
set_option maxHeartbeats 4000000 in
set_option maxRecDepth 100000 in
theorem zp_addStore_f (l : Launch) (D : va_G) (c : Nat → ClassId) (a n : Nat → Nat) (A : Nat → Nat → Int32) (B : Nat → Int64) (E : Nat → Nat → Int32) (j : Nat) (hN : zf_N n) (hj : j < n 0) (y z : Int32) (h1 : zf_isIn y 1 999) (h2 : zf_isIn z 1 99) (h5 : n 3 < 4) (ho17 : A 17 (n 3) = 0) (ho18 : A 18 (n 3) = 0) : ze_IE l yX8_addStore wsX8_addStore 2 42 1 5 D c (ze_wC c a n A B E) [.ref (a 0), .int (nI j), .int y, .int z] (nI (n 3)) (fun qn => (ze_wC c (va_up a (30 + n 3) qn) (ze_sn n 3 (n 3 + 1)) (ze_sE (ze_sE (ze_sE A 14 (n 3) (nI j)) 15 (n 3) y) 16 (n 3) z) B E)) := by
  intro sz
  refine ze_start (cc := cX8_addStore) (maxL := 4) (ret := (some .int)) (own := RX8) (by decide) rfl rfl (Nat.le_of_ble_eq_true rfl) ?_
  obtain ⟨hn0, hn1, hn2, hn3, hn4⟩ := id hN
  generalize eA2 : (ze_sE (ze_sE (ze_sE A 14 (n 3) (nI j)) 15 (n 3) y) 16 (n 3) z) = A2
  have hs : zf_sees A A2 := by subst eA2; exact ⟨rfl, rfl, rfl, rfl, rfl, rfl, rfl, rfl, rfl⟩
  have hg : ∀ g, g ≠ n 3 → ze_fT A2 g = ze_fT A g := fun g h9 => by subst eA2; simp only [ze_fT, ze_sE_ne h9]
  have hT : ∀ g, ze_fG A2 g = ze_fG A g := fun g => by subst eA2; rfl
  have hL : ∀ g, ze_fL A2 g = ze_fL A g := fun g => by subst eA2; rfl
  have hfl : ze_fT A2 (n 3) = [.int (nI j), .int y, .int z, .int 0, .int 0] := by subst eA2; simp [ze_fT, ze_sE, ze_sA, upd, ze_nt, ho17, ho18]
  intro p e s m_ below meth cd F ls hF hsz E0
  obtain ⟨S, hr, hlocks, hK, hW, hA, hl⟩ := E0
  have hX_ := S.1
  have hB_ := S.2.1
  have hts := S.2.2.2.2
  have hl : lv_has ls 4 [(0, .ref (a 0)), (1, .int (nI j)), (2, .int y), (3, .int z)] := hl
  have hiX6 : ∀ w ∈ u_ws RX6 TX6 3, w ∈ wsX8_addStore := fun _ h => (List.mem_cons_of_mem _ (List.mem_append_left _ (List.mem_append_left _ (List.mem_append_left _ (List.mem_append_left _ (List.mem_append_left _ (List.mem_append_right _ h)))))))
  have hiX7 : ∀ w ∈ u_ws RX7 TX7 5, w ∈ wsX8_addStore := fun _ h => (List.mem_cons_of_mem _ (List.mem_append_left _ (List.mem_append_left _ (List.mem_append_left _ (List.mem_append_left _ (List.mem_append_right _ h))))))
  have hiX8 : ∀ w ∈ u_ws RX8 TX8 8, w ∈ wsX8_addStore := fun _ h => (List.mem_cons_of_mem _ (List.mem_append_left _ (List.mem_append_left _ (List.mem_append_left _ (List.mem_append_left _ (List.mem_append_left _ (List.mem_append_left _ (List.mem_append_right _ h))))))))
  have w0 := hts (.fieldLink RX8 28 "Islandgrid" "storage" "LIslandgrid$Storage;") (List.mem_cons_of_mem _ (List.mem_append_left _ (List.mem_append_left _ (List.mem_append_left _ (List.mem_append_left _ (List.mem_append_left _ (List.mem_append_left _ (List.mem_append_left _ (List.mem_append_left _ (List.mem_of_getElem? (i := 2) rfl))))))))))
  have w1 := hts (.fieldLink RX8 209 "Islandgrid$Storage" "count" "I") (List.mem_cons_of_mem _ (List.mem_append_left _ (List.mem_append_left _ (List.mem_append_left _ (List.mem_append_left _ (List.mem_append_left _ (List.mem_append_left _ (List.mem_append_left _ (List.mem_append_left _ (List.mem_of_getElem? (i := 3) rfl))))))))))
  have w2 := hts (.classLink RX8 212 RX7) (List.mem_cons_of_mem _ (List.mem_append_left _ (List.mem_append_left _ (List.mem_append_left _ (List.mem_append_left _ (List.mem_append_left _ (List.mem_append_left _ (List.mem_append_left _ (List.mem_append_left _ (List.mem_of_getElem? (i := 4) rfl))))))))))
  have w3 := hts (.instantiable RX7 5) (List.mem_cons_of_mem _ (List.mem_append_left _ (List.mem_append_left _ (List.mem_append_left _ (List.mem_append_left _ (List.mem_append_left _ (List.mem_append_left _ (List.mem_append_left _ (List.mem_append_left _ (List.mem_of_getElem? (i := 5) rfl))))))))))
  have w4 := hts (.initialized RX7) (List.mem_cons_of_mem _ (List.mem_append_left _ (List.mem_append_left _ (List.mem_append_left _ (List.mem_append_left _ (List.mem_append_left _ (List.mem_append_left _ (List.mem_append_left _ (List.mem_append_left _ (List.mem_of_getElem? (i := 6) rfl))))))))))
  have w5 := hts (.methodLink RX8 214 yX7_init) (List.mem_cons_of_mem _ (List.mem_append_left _ (List.mem_append_left _ (List.mem_append_left _ (List.mem_append_left _ (List.mem_append_left _ (List.mem_append_left _ (List.mem_append_left _ (List.mem_append_right _ (List.mem_of_getElem? (i := 0) rfl))))))))))
  have w6 := hts (.instanceMethod yX7_init) (List.mem_cons_of_mem _ (List.mem_append_left _ (List.mem_append_left _ (List.mem_append_left _ (List.mem_append_left _ (List.mem_append_left _ (List.mem_append_left _ (List.mem_append_left _ (List.mem_append_right _ (List.mem_of_getElem? (i := 1) rfl))))))))))
  refine lv_aload_n hX_ hB_ dX8_addStore_0 rfl (lv_at hl 0 rfl) ?_
  refine lv_iload_n hX_ hB_ dX8_addStore_1 rfl (lv_at hl 1 rfl) ?_
  refine ze_Vv (As := [.int (nI j)]) (rest := []) (ci := 8) (q0 := 0) (k := (RX8, TX8, 8)) S (zp_checkSite l D c a n A B E j hN (by omega)) (cwV 1 hts gX8_addStore_X8_checkSite rfl rfl rfl (by decide +kernel) ⟨Nat.le_of_ble_eq_true rfl, Nat.le_of_ble_eq_true rfl⟩) hK hW hA rfl (ze_at0 0 rfl) rfl hl.1 rfl (lv_room (Nat.le_of_ble_eq_true rfl)) dX8_addStore_2 ⟨Nat.le_of_ble_eq_true rfl, Nat.le_of_ble_eq_true rfl⟩ (fun H locs hW => ?_)
  refine lv_iload_n hX_ hB_ dX8_addStore_5 rfl (lv_at hl 2 rfl) ?_
  refine lv_iconst (v := 1) hX_ hB_ dX8_addStore_6 (by decide) ?_
  refine lv_sipush (v := 999) hX_ hB_ dX8_addStore_7 (by decide) ?_
  refine ze_Sv (As := [.int y, .int 1, .int 999]) (rest := []) S (zp_checkRange l D c (ze_wC c a n A B E) y 1 999 (by assumption)) (va_cwS 3 hts gX8_addStore_X8_checkRange rfl rfl rfl (by decide +kernel) ⟨Nat.le_of_ble_eq_true rfl, Nat.le_of_ble_eq_true rfl⟩) hK hW hA rfl hl.1 rfl (lv_room (Nat.le_of_ble_eq_true rfl)) dX8_addStore_10 ⟨Nat.le_of_ble_eq_true rfl, Nat.le_of_ble_eq_true rfl⟩ (fun H locs hW => ?_)
  refine lv_iload_n hX_ hB_ dX8_addStore_13 rfl (lv_at hl 3 rfl) ?_
  refine lv_iconst (v := 1) hX_ hB_ dX8_addStore_14 (by decide) ?_
  refine lv_bipush (v := 99) hX_ hB_ dX8_addStore_15 (by decide) ?_
  refine ze_Sv (As := [.int z, .int 1, .int 99]) (rest := []) S (zp_checkRange l D c (ze_wC c a n A B E) z 1 99 (by assumption)) (va_cwS 3 hts gX8_addStore_X8_checkRange rfl rfl rfl (by decide +kernel) ⟨Nat.le_of_ble_eq_true rfl, Nat.le_of_ble_eq_true rfl⟩) hK hW hA rfl hl.1 rfl (lv_room (Nat.le_of_ble_eq_true rfl)) dX8_addStore_17 ⟨Nat.le_of_ble_eq_true rfl, Nat.le_of_ble_eq_true rfl⟩ (fun H locs hW => ?_)
  refine lv_aload_n hX_ hB_ dX8_addStore_20 rfl (lv_at hl 0 rfl) ?_
  refine ze_get (ci := 8) (C := RX8) (T := TX8) (N := 8) (v := .ref (a 13)) S hiX8 hK hW 0 (ze_at0 0 rfl) rfl 2 (by decide) rfl w0 dX8_addStore_21 ?_
  refine ze_get (ci := 6) (C := RX6) (T := TX6) (N := 3) (v := .int (nI (n 3))) S hiX6 hK hW 13 (ze_at0 13 rfl) rfl 2 (by decide) rfl w1 dX8_addStore_24 ?_
  refine lv_iconst (v := 4) hX_ hB_ dX8_addStore_27 (by decide) ?_
  refine lv_icmp_lt (tgt := 41) hX_ hB_ dX8_addStore_28 (by decide) (fun c28 => ?_) (fun c28 => ?_)
  · have c28 : (n 3) < 4 := (nI_ltI (a := (n 3)) (b := 4) (by omega) (by omega)).mp c28
    refine lv_aload_n hX_ hB_ dX8_addStore_41 rfl (lv_at hl 0 rfl) ?_
    refine ze_get (ci := 8) (C := RX8) (T := TX8) (N := 8) (v := .ref (a 13)) S hiX8 hK hW 0 (ze_at0 0 rfl) rfl 2 (by decide) rfl w0 dX8_addStore_42 ?_
    refine ze_new (ci := 7) (C := RX7) (T := TX7) (N := 5) (fs := [.int 0, .int 0, .int 0, .int 0, .int 0]) S hiX7 tyX7 tyX7_ok w2 w3 w4 hK hW hA rfl (by decide) (Nat.le_of_ble_eq_true rfl) (Nat.le_of_ble_eq_true rfl) dX8_addStore_45 (fun qn H hW => ?_)
    refine lv_dup hX_ hB_ dX8_addStore_48 rfl ?_
    refine lv_iload_n hX_ hB_ dX8_addStore_49 rfl (lv_at hl 1 rfl) ?_
    refine lv_iload_n hX_ hB_ dX8_addStore_50 rfl (lv_at hl 2 rfl) ?_
    refine lv_iload_n hX_ hB_ dX8_addStore_51 rfl (lv_at hl 3 rfl) ?_
    have hW := ze_Wc hW
    refine ze_FIv (As := [.int (nI j), .int y, .int z]) (rest := [.ref qn, .ref (a 13)]) S (zi_X7 l D c qn (nI j) y z) (cwI 3 hts gX8_addStore_X7_init rfl rfl rfl w4 w5 w6 rfl (by decide +kernel) ⟨Nat.le_of_ble_eq_true rfl, Nat.le_of_ble_eq_true rfl⟩) hK hW hA rfl hl.1 rfl (lv_room (Nat.le_of_ble_eq_true rfl)) dX8_addStore_52 ⟨Nat.le_of_ble_eq_true rfl, Nat.le_of_ble_eq_true rfl⟩ (fun H locs hW => ?_)
    have hW := ze_Wc hW
    have hW : ze_W D ((ze_wC c a n A B E) ++ ([(qn, .inr (7, [.int (nI j), .int y, .int z, .int 0, .int 0]))] : va_W)) F s.heap _ _ := hW
    rw [← hfl] at hW
    refine ze_Vi (As := [.ref qn]) (rest := []) (ci := 6) (q0 := 13) (k := (RX6, TX6, 3)) S (zc_X6_put l D c a n A B E A2 qn hN (by omega) hs hg hT hL) (cwV 1 hts gX8_addStore_X6_put rfl rfl rfl (by decide +kernel) ⟨Nat.le_of_ble_eq_true rfl, Nat.le_of_ble_eq_true rfl⟩) hK hW hA rfl (ze_appget0 (ze_at0 13 rfl)) rfl hl.1 rfl (lv_room (Nat.le_of_ble_eq_true rfl)) dX8_addStore_55 ⟨Nat.le_of_ble_eq_true rfl, Nat.le_of_ble_eq_true rfl⟩ (fun H locs hW => ?_)
    have hW : ze_W D (ze_wC c (va_up a (30 + n 3) qn) (ze_sn n 3 (n 3 + 1)) A2 B E) F s.heap _ _ := hW
    subst eA2
    exact ze_eret (q := qn) S hr hlocks hF hK hW rfl dX8_addStore_58 (Nat.le_of_ble_eq_true rfl) (Nat.le_of_ble_eq_true rfl) rfl rfl
  · have c28 : ¬ (n 3) < 4 := fun h9 => c28 ((nI_ltI (a := (n 3)) (b := 4) (by omega) (by omega)).mpr h9)
    exact absurd h5 c28
set_option maxHeartbeats 4000000 in
set_option maxRecDepth 100000 in
theorem zp_addLoad_f (l : Launch) (D : va_G) (c : Nat → ClassId) (a n : Nat → Nat) (A : Nat → Nat → Int32) (B : Nat → Int64) (E : Nat → Nat → Int32) (j : Nat) (hN : zf_N n) (hj : j < n 0) (y z : Int32) (h1 : zf_isIn y 1 200) (h2 : zf_isIn z 1 9) (h5 : n 4 < 10) (ho5 : A 5 (n 4) = 0) (ho22 : A 22 (n 4) = 0) : ze_IE l yX8_addLoad wsX8_addLoad 3 60 1 6 D c (ze_wC c a n A B E) [.ref (a 0), .int (nI j), .int y, .int z] (nI (n 4)) (fun qn => (ze_wC c (va_up a (40 + n 4) qn) (ze_sn n 4 (n 4 + 1)) (ze_sE (ze_sE (ze_sE A 19 (n 4) (nI j)) 20 (n 4) y) 21 (n 4) z) B E)) := by
  intro sz
  refine ze_start (cc := cX8_addLoad) (maxL := 4) (ret := (some .int)) (own := RX8) (by decide) rfl rfl (Nat.le_of_ble_eq_true rfl) ?_
  obtain ⟨hn0, hn1, hn2, hn3, hn4⟩ := id hN
  generalize eA2 : (ze_sE (ze_sE (ze_sE A 19 (n 4) (nI j)) 20 (n 4) y) 21 (n 4) z) = A2
  have hs : zf_sees A A2 := by subst eA2; exact ⟨rfl, rfl, rfl, rfl, rfl, rfl, rfl, rfl, rfl⟩
  have hg : ∀ g, g ≠ n 4 → ze_fL A2 g = ze_fL A g := fun g h9 => by subst eA2; simp only [ze_fL, ze_sE_ne h9]
  have hT : ∀ g, ze_fT A2 g = ze_fT A g := fun g => by subst eA2; rfl
  have hL : ∀ g, ze_fG A2 g = ze_fG A g := fun g => by subst eA2; rfl
  have hfl : ze_fL A2 (n 4) = [.int (nI (n 4)), .int (nI j), .int y, .int z, .int 1, .int 0] := by subst eA2; simp [ze_fL, ze_sE, ze_sA, upd, ze_nt, ho5, ho22]
  intro p e s m_ below meth cd F ls hF hsz E0
  obtain ⟨S, hr, hlocks, hK, hW, hA, hl⟩ := E0
  have hX_ := S.1
  have hB_ := S.2.1
  have hts := S.2.2.2.2
  have hl : lv_has ls 4 [(0, .ref (a 0)), (1, .int (nI j)), (2, .int y), (3, .int z)] := hl
  have hiX4 : ∀ w ∈ u_ws RX4 TX4 3, w ∈ wsX8_addLoad := fun _ h => (List.mem_cons_of_mem _ (List.mem_append_left _ (List.mem_append_left _ (List.mem_append_left _ (List.mem_append_left _ (List.mem_append_left _ (List.mem_append_right _ h)))))))
  have hiX8 : ∀ w ∈ u_ws RX8 TX8 8, w ∈ wsX8_addLoad := fun _ h => (List.mem_cons_of_mem _ (List.mem_append_left _ (List.mem_append_left _ (List.mem_append_left _ (List.mem_append_left _ (List.mem_append_left _ (List.mem_append_left _ (List.mem_append_right _ h))))))))
  have w0 := hts (.fieldLink RX8 35 "Islandgrid" "loads" "LIslandgrid$Loads;") (List.mem_cons_of_mem _ (List.mem_append_left _ (List.mem_append_left _ (List.mem_append_left _ (List.mem_append_left _ (List.mem_append_left _ (List.mem_append_left _ (List.mem_append_left _ (List.mem_append_left _ (List.mem_of_getElem? (i := 2) rfl))))))))))
  have w1 := hts (.fieldLink RX8 226 "Islandgrid$Loads" "count" "I") (List.mem_cons_of_mem _ (List.mem_append_left _ (List.mem_append_left _ (List.mem_append_left _ (List.mem_append_left _ (List.mem_append_left _ (List.mem_append_left _ (List.mem_append_left _ (List.mem_append_left _ (List.mem_of_getElem? (i := 3) rfl))))))))))
  refine lv_aload_n hX_ hB_ dX8_addLoad_0 rfl (lv_at hl 0 rfl) ?_
  refine lv_iload_n hX_ hB_ dX8_addLoad_1 rfl (lv_at hl 1 rfl) ?_
  refine ze_Vv (As := [.int (nI j)]) (rest := []) (ci := 8) (q0 := 0) (k := (RX8, TX8, 8)) S (zp_checkSite l D c a n A B E j hN (by omega)) (cwV 1 hts gX8_addLoad_X8_checkSite rfl rfl rfl (by decide +kernel) ⟨Nat.le_of_ble_eq_true rfl, Nat.le_of_ble_eq_true rfl⟩) hK hW hA rfl (ze_at0 0 rfl) rfl hl.1 rfl (lv_room (Nat.le_of_ble_eq_true rfl)) dX8_addLoad_2 ⟨Nat.le_of_ble_eq_true rfl, Nat.le_of_ble_eq_true rfl⟩ (fun H locs hW => ?_)
  refine lv_iload_n hX_ hB_ dX8_addLoad_5 rfl (lv_at hl 2 rfl) ?_
  refine lv_iconst (v := 1) hX_ hB_ dX8_addLoad_6 (by decide) ?_
  refine lv_sipush (v := 200) hX_ hB_ dX8_addLoad_7 (by decide) ?_
  refine ze_Sv (As := [.int y, .int 1, .int 200]) (rest := []) S (zp_checkRange l D c (ze_wC c a n A B E) y 1 200 (by assumption)) (va_cwS 3 hts gX8_addLoad_X8_checkRange rfl rfl rfl (by decide +kernel) ⟨Nat.le_of_ble_eq_true rfl, Nat.le_of_ble_eq_true rfl⟩) hK hW hA rfl hl.1 rfl (lv_room (Nat.le_of_ble_eq_true rfl)) dX8_addLoad_10 ⟨Nat.le_of_ble_eq_true rfl, Nat.le_of_ble_eq_true rfl⟩ (fun H locs hW => ?_)
  refine lv_iload_n hX_ hB_ dX8_addLoad_13 rfl (lv_at hl 3 rfl) ?_
  refine lv_iconst (v := 1) hX_ hB_ dX8_addLoad_14 (by decide) ?_
  refine lv_bipush (v := 9) hX_ hB_ dX8_addLoad_15 (by decide) ?_
  refine ze_Sv (As := [.int z, .int 1, .int 9]) (rest := []) S (zp_checkRange l D c (ze_wC c a n A B E) z 1 9 (by assumption)) (va_cwS 3 hts gX8_addLoad_X8_checkRange rfl rfl rfl (by decide +kernel) ⟨Nat.le_of_ble_eq_true rfl, Nat.le_of_ble_eq_true rfl⟩) hK hW hA rfl hl.1 rfl (lv_room (Nat.le_of_ble_eq_true rfl)) dX8_addLoad_17 ⟨Nat.le_of_ble_eq_true rfl, Nat.le_of_ble_eq_true rfl⟩ (fun H locs hW => ?_)
  refine lv_aload_n hX_ hB_ dX8_addLoad_20 rfl (lv_at hl 0 rfl) ?_
  refine ze_get (ci := 8) (C := RX8) (T := TX8) (N := 8) (v := .ref (a 15)) S hiX8 hK hW 0 (ze_at0 0 rfl) rfl 3 (by decide) rfl w0 dX8_addLoad_21 ?_
  refine ze_get (ci := 4) (C := RX4) (T := TX4) (N := 3) (v := .int (nI (n 4))) S hiX4 hK hW 15 (ze_at0 15 rfl) rfl 2 (by decide) rfl w1 dX8_addLoad_24 ?_
  refine lv_bipush (v := 10) hX_ hB_ dX8_addLoad_27 (by decide) ?_
  refine lv_icmp_lt (tgt := 42) hX_ hB_ dX8_addLoad_29 (by decide) (fun c29 => ?_) (fun c29 => ?_)
  · have c29 : (n 4) < 10 := (nI_ltI (a := (n 4)) (b := 10) (by omega) (by omega)).mp c29
    refine lv_aload_n hX_ hB_ dX8_addLoad_42 rfl (lv_at hl 0 rfl) ?_
    refine ze_get (ci := 8) (C := RX8) (T := TX8) (N := 8) (v := .ref (a 15)) S hiX8 hK hW 0 (ze_at0 0 rfl) rfl 3 (by decide) rfl w0 dX8_addLoad_43 ?_
    refine lv_iload_n hX_ hB_ dX8_addLoad_46 rfl (lv_at hl 1 rfl) ?_
    refine lv_iload_n hX_ hB_ dX8_addLoad_47 rfl (lv_at hl 2 rfl) ?_
    refine lv_iload_n hX_ hB_ dX8_addLoad_48 rfl (lv_at hl 3 rfl) ?_
    have hW := ze_W0 hW
    refine ze_FVe (As := [.int (nI j), .int y, .int z]) (rest := []) (ci := 4) (q0 := 15) (k := (RX4, TX4, 3)) S (zc_X4_put l D c a n A B E A2 (nI j) y z hN (by omega) hs hg hT hL hfl) (cwV 3 hts gX8_addLoad_X4_put rfl rfl rfl (by decide +kernel) ⟨Nat.le_of_ble_eq_true rfl, Nat.le_of_ble_eq_true rfl⟩) hK hW hA rfl (ze_at0 15 rfl) rfl hl.1 rfl (lv_room (Nat.le_of_ble_eq_true rfl)) dX8_addLoad_49 ⟨Nat.le_of_ble_eq_true rfl, Nat.le_of_ble_eq_true rfl⟩ (fun qn H locs hW => ?_)
    have hW := ze_W0' hW
    have hW : ze_W D (ze_wC c (va_up a (40 + n 4) qn) (ze_sn n 4 (n 4 + 1)) A2 B E) F s.heap _ _ := hW
    subst eA2
    exact ze_eret (q := qn) S hr hlocks hF hK hW rfl dX8_addLoad_52 (Nat.le_of_ble_eq_true rfl) (Nat.le_of_ble_eq_true rfl) rfl rfl
  · have c29 : ¬ (n 4) < 10 := fun h9 => c29 ((nI_ltI (a := (n 4)) (b := 10) (by omega) (by omega)).mpr h9)
    exact absurd h5 c29
