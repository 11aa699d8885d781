/-! ===== the law's longer methods over the object and the net ===== -/
set_option maxHeartbeats 8000000 in
set_option maxRecDepth 100000 in
theorem xj_isNext (l : Launch) (D : va_G) (hst : l.stackTraces = false) (c : Nat → ClassId) (q : Nat) (a n : Nat → Nat) (A : Nat → Nat → Int32) (B : Nat → Int64) (E : Nat → Nat → Int32) (N : Nat → Int32) (t : Nat) (hI : xd_I n A B E N t) (i : Nat) (hi : i < n 0) : xb_M (T := xd_T) l yL_isNext wsL_isNext 8 126 1 6 D c none ((ze_wC c a n A B E) ++ [(q, .inl (c 0, 210, .inl N))]) [.ref (a 0), .ref q, .int (nI i)] (fun r (u : xd_T) => r = 1 ∧ xd_P (a 0) n (t) u) (fun u => xd_w c q u) := by
  intro sz
  refine xb_start (cc := cL_isNext) (maxL := 8) (ret := (some .boolean)) (own := RL) (by decide) rfl rfl (Nat.le_of_ble_eq_true rfl) ?_
  have hKc := xd_K hI
  have hH := xc_KH hKc
  obtain ⟨hV, hR, hPh, hY, hWu⟩ := id hI
  obtain ⟨hN, hS, hE, hz, h4, h4z, hT, hC, hKz, hZ, hp⟩ := id hV
  obtain ⟨hn0, hn1, hn2, hn3, hn4⟩ := id hN
  have hE1 := zv_hE hV
  have h8z := xd_h8 hI
  intro p e s m_ below meth cd F ls hF hsz E0 hG
  obtain ⟨S, hr, hlocks, hK, hW, hA, hl⟩ := E0
  have hX_ := S.1
  have hB_ := S.2.1
  have hts := S.2.2.2.2
  have hl : lv_has ls 8 [(0, .ref (a 0)), (1, .ref q), (2, .int (nI i))] := hl
  have w0 := hts (.constant RL 26 (-900002)) (List.mem_cons_of_mem _ (List.mem_append_left _ (List.mem_append_left _ (List.mem_append_left _ (List.mem_append_left _ (List.mem_append_left _ (List.mem_append_left _ (List.mem_append_left _ (List.mem_of_getElem? (i := 0) rfl)))))))))
  refine lv_iconst (v := (-1)) hX_ hB_ dL_isNext_0 (by decide) ?_
  refine lv_istore_n (lv' := [(3, .int (-1)), (0, .ref (a 0)), (1, .ref q), (2, .int (nI i))]) hX_ hB_ dL_isNext_1 rfl hl (by decide) rfl (fun ls hl => ?_)
  refine lv_aload_n hX_ hB_ dL_isNext_2 rfl (lv_at hl 2 rfl) ?_
  refine lv_iconst (v := 2) hX_ hB_ dL_isNext_3 (by decide) ?_
  refine ze_ialdN hX_ hB_ hK hW ((ze_wC c a n A B E).length + 0) (f := N) (ze_appL (k := 0) rfl) (i := 2) (by omega) (by decide) dL_isNext_4 ?_
  refine ze_top (y := nI (n 2)) hR.1.2.2.1 ?_
  refine lv_iconst (v := 1) hX_ hB_ dL_isNext_5 (by decide) ?_
  refine lv_isub hX_ hB_ dL_isNext_6 ?_
  refine ze_top (y := nI (n 2) + (-1)) (Int32.sub_eq_add_neg _ _) ?_
  refine lv_istore (lv' := [(4, .int (nI (n 2) + (-1))), (3, .int (-1)), (0, .ref (a 0)), (1, .ref q), (2, .int (nI i))]) hX_ hB_ dL_isNext_7 hl (by decide) rfl (fun ls hl => ?_)
  have L9 : ∀ (k9 : Nat) (k : Nat) (o : Option Nat), (k ≤ n 2) → (xd_min A (E 0) (E 0 i) k (n 2) o) → k < k9 → ∀ (H : Heap) (locs : List Loc) (ls : Array Slot), ze_W D ((ze_wC c a n A B E) ++ [(q, .inl (c 0, 210, .inl N))]) F s.heap H locs → lv_has ls 8 [(4, .int (nI k + (-1))), (3, .int (zf_on o)), (0, .ref (a 0)), (1, .ref q), (2, .int (nI i))] → W p l e { frames := 8, cells := 1, slots := 6, locals := 126 } s m_ ([.ref (a 0), .ref q, .int (nI i)] : List Value).toArray below meth cd H locs 0 0 (MQ below (xb_Q (T := xd_T) D c ((ze_wC c a n A B E) ++ [(q, .inl (c 0, 210, .inl N))]) sz (fun r (u : xd_T) => r = 1 ∧ xd_P (a 0) n (t) u) (fun u => xd_w c q u)) ([.ref (a 0), .ref q, .int (nI i)] : List Value).toArray s 1 6 F) (F0 m_ 9 ls []) := by
    intro k9
    induction k9 with
    | zero =>
      intro k o hk hm hk9
      exact absurd hk9 (Nat.not_lt_zero _)
    | succ k9 ih9 =>
      intro k o hk hm hk9 H locs ls hW hl
      rcases k with _ | k
      · have hl : lv_has ls 8 [(4, .int (-1)), (3, .int (zf_on o)), (0, .ref (a 0)), (1, .ref q), (2, .int (nI i))] := by
          rw [xd_pr0] at hl
          exact hl
        refine lv_iload hX_ hB_ dL_isNext_9 (lv_at hl 0 rfl) ?_
        refine lv_if_lt (tgt := 140) hX_ hB_ dL_isNext_11 (by decide) (fun c11 => ?_) (fun c11 => ?_)
        · have ho140 : o = none ∨ ∃ b, o = some b := by cases o; exact Or.inl rfl; exact Or.inr ⟨_, rfl⟩
          rcases ho140 with rfl | ⟨b, rfl⟩
          · have hl : lv_has ls 8 [(4, .int (-1)), (3, .int (-1)), (0, .ref (a 0)), (1, .ref q), (2, .int (nI i))] := hl
            refine lv_iload_n hX_ hB_ dL_isNext_140 rfl (lv_at hl 1 rfl) ?_
            refine lv_if_ge (tgt := 160) hX_ hB_ dL_isNext_141 (by decide) (fun c141 => ?_) (fun c141 => ?_)
            · exact absurd c141 (by decide)
            · refine lv_aload_n hX_ hB_ dL_isNext_144 rfl (lv_at hl 2 rfl) ?_
              refine lv_iload_n hX_ hB_ dL_isNext_145 rfl (lv_at hl 4 rfl) ?_
              refine xb_FSq (As := [.ref (a 0), .int (nI i)]) (rest := []) S (xw_startNext_t2 l D hst c a n A B E i hN hi hS (xd_minU (xd_nx hWu h8z (n 2) (Nat.le_refl _)) hm)) (vx_cwSW 2 hts gL_isNext_L_startNext rfl rfl rfl (by decide +kernel) ⟨(Nat.le_of_ble_eq_true rfl), (Nat.le_of_ble_eq_true rfl)⟩) hG hK hW hA rfl hl.1 rfl (lv_room (Nat.le_of_ble_eq_true rfl)) dL_isNext_146 ⟨(Nat.le_of_ble_eq_true rfl), (Nat.le_of_ble_eq_true rfl)⟩ (fun H locs hW => ?_)
              have hW : ze_W D ((ze_wC c a n A B E) ++ [(q, .inl (c 0, 210, .inl N))]) F s.heap _ _ := hW
              refine lv_ldc (own := RL) (v := -900002) hX_ hB_ S.2.2.2.1 w0 dL_isNext_149 ?_
              refine lv_icmp_ne (tgt := 158) hX_ hB_ dL_isNext_151 (by decide) (fun c151 => ?_) (fun c151 => ?_)
              · exact absurd c151 (by decide)
              · refine lv_iconst (v := 1) hX_ hB_ dL_isNext_154 (by decide) ?_
                refine lv_goto (tgt := 159) hX_ hB_ dL_isNext_155 (by decide) ?_
                exact xb_iret (T := xd_T) (a, n, A, B, E, N) S hr hlocks hF hK hW rfl dL_isNext_159 (Nat.le_of_ble_eq_true rfl) (Nat.le_of_ble_eq_true rfl) ⟨rfl, ⟨rfl, hI, rfl, Nat.le_refl _, Nat.le_refl _⟩⟩ rfl
          · have hl : lv_has ls 8 [(4, .int (-1)), (3, .int (nI b)), (0, .ref (a 0)), (1, .ref q), (2, .int (nI i))] := hl
            have hb9 : b < n 2 := hm.2.1
            refine lv_iload_n hX_ hB_ dL_isNext_140 rfl (lv_at hl 1 rfl) ?_
            refine lv_if_ge (tgt := 160) hX_ hB_ dL_isNext_141 (by decide) (fun c141 => ?_) (fun c141 => ?_)
            · have c141 : True := trivial
              refine lv_aload_n hX_ hB_ dL_isNext_160 rfl (lv_at hl 3 rfl) ?_
              refine lv_bipush (v := 55) hX_ hB_ dL_isNext_161 (by decide) ?_
              refine lv_bipush (v := 9) hX_ hB_ dL_isNext_163 (by decide) ?_
              refine lv_iload_n hX_ hB_ dL_isNext_165 rfl (lv_at hl 1 rfl) ?_
              refine lv_imul hX_ hB_ dL_isNext_166 ?_
              refine ze_top (xb_mul (a := 9) (b := b) (c := 9 * b) (by omega)) ?_
              refine lv_iadd hX_ hB_ dL_isNext_167 ?_
              refine ze_top (xb_add (a := 55) (b := 9 * b) (c := 9 * b + 55) (by omega)) ?_
              refine lv_aload_n hX_ hB_ dL_isNext_168 rfl (lv_at hl 3 rfl) ?_
              refine lv_bipush (v := 53) hX_ hB_ dL_isNext_169 (by decide) ?_
              refine lv_bipush (v := 9) hX_ hB_ dL_isNext_171 (by decide) ?_
              refine lv_iload_n hX_ hB_ dL_isNext_173 rfl (lv_at hl 1 rfl) ?_
              refine lv_imul hX_ hB_ dL_isNext_174 ?_
              refine ze_top (xb_mul (a := 9) (b := b) (c := 9 * b) (by omega)) ?_
              refine lv_iadd hX_ hB_ dL_isNext_175 ?_
              refine ze_top (xb_add (a := 53) (b := 9 * b) (c := 9 * b + 53) (by omega)) ?_
              refine ze_ialdN hX_ hB_ hK hW ((ze_wC c a n A B E).length + 0) (f := N) (ze_appL (k := 0) rfl) (i := 9 * b + 53) (by omega) (by decide) dL_isNext_176 ?_
              refine ze_top (y := A 9 b) (hR.2.2.2.1.1 b (by omega)).2.2.2.1 ?_
              refine lv_if_ne (tgt := 184) hX_ hB_ dL_isNext_177 (by decide) (fun c177 => ?_) (fun c177 => ?_)
              · refine lv_iconst (v := 1) hX_ hB_ dL_isNext_184 (by decide) ?_
                refine ze_iastN hX_ hB_ hK hW ((ze_wC c a n A B E).length + 0) (f := N) (ze_appL (k := 0) rfl) (i := 9 * b + 55) (by omega) (by decide) dL_isNext_185 (ze_appset rfl) (fun H locs hW => ?_)
                have hW : ze_W D ((ze_wC c a n A B E) ++ [(q, .inl (c 0, 210, .inl (upd N (9 * b + 55) 1)))]) F s.heap _ _ := hW
                refine lv_aload_n hX_ hB_ dL_isNext_186 rfl (lv_at hl 3 rfl) ?_
                refine lv_bipush (v := 56) hX_ hB_ dL_isNext_187 (by decide) ?_
                refine lv_bipush (v := 9) hX_ hB_ dL_isNext_189 (by decide) ?_
                refine lv_iload_n hX_ hB_ dL_isNext_191 rfl (lv_at hl 1 rfl) ?_
                refine lv_imul hX_ hB_ dL_isNext_192 ?_
                refine ze_top (xb_mul (a := 9) (b := b) (c := 9 * b) (by omega)) ?_
                refine lv_iadd hX_ hB_ dL_isNext_193 ?_
                refine ze_top (xb_add (a := 56) (b := 9 * b) (c := 9 * b + 56) (by omega)) ?_
                refine lv_aload_n hX_ hB_ dL_isNext_194 rfl (lv_at hl 3 rfl) ?_
                refine lv_bipush (v := 53) hX_ hB_ dL_isNext_195 (by decide) ?_
                refine lv_bipush (v := 9) hX_ hB_ dL_isNext_197 (by decide) ?_
                refine lv_iload_n hX_ hB_ dL_isNext_199 rfl (lv_at hl 1 rfl) ?_
                refine lv_imul hX_ hB_ dL_isNext_200 ?_
                refine ze_top (xb_mul (a := 9) (b := b) (c := 9 * b) (by omega)) ?_
                refine lv_iadd hX_ hB_ dL_isNext_201 ?_
                refine ze_top (xb_add (a := 53) (b := 9 * b) (c := 9 * b + 53) (by omega)) ?_
                refine ze_ialdN hX_ hB_ hK hW ((ze_wC c a n A B E).length + 0) (f := (upd N (9 * b + 55) 1)) (ze_appL (k := 0) rfl) (i := 9 * b + 53) (by omega) (by decide) dL_isNext_202 ?_
                refine ze_top (xb_un (by omega)) ?_
                refine ze_top (y := A 9 b) (hR.2.2.2.1.1 b (by omega)).2.2.2.1 ?_
                refine ze_iastN hX_ hB_ hK hW ((ze_wC c a n A B E).length + 0) (f := (upd N (9 * b + 55) 1)) (ze_appL (k := 0) rfl) (i := 9 * b + 56) (by omega) (by decide) dL_isNext_203 (ze_appset rfl) (fun H locs hW => ?_)
                have hW : ze_W D ((ze_wC c a n A B E) ++ [(q, .inl (c 0, 210, .inl (upd (upd N (9 * b + 55) 1) (9 * b + 56) (A 9 b))))]) F s.heap _ _ := hW
                refine lv_aload_n hX_ hB_ dL_isNext_204 rfl (lv_at hl 2 rfl) ?_
                refine lv_iload_n hX_ hB_ dL_isNext_205 rfl (lv_at hl 4 rfl) ?_
                refine xb_FSq (As := [.ref (a 0), .int (nI i)]) (rest := []) S (xw_startNext_f l D c a n A B E i hN hi hS b (xd_minU (xd_nx hWu h8z (n 2) (Nat.le_refl _)) hm)) (vx_cwSW 2 hts gL_isNext_L_startNext rfl rfl rfl (by decide +kernel) ⟨(Nat.le_of_ble_eq_true rfl), (Nat.le_of_ble_eq_true rfl)⟩) hG hK hW hA rfl hl.1 rfl (lv_room (Nat.le_of_ble_eq_true rfl)) dL_isNext_206 ⟨(Nat.le_of_ble_eq_true rfl), (Nat.le_of_ble_eq_true rfl)⟩ (fun H locs hW => ?_)
                have hW : ze_W D ((ze_wC c a n (zf_start A b) B E) ++ [(q, .inl (c 0, 210, .inl (upd (upd N (9 * b + 55) 1) (9 * b + 56) (A 9 b))))]) F s.heap _ _ := hW
                refine lv_iload_n hX_ hB_ dL_isNext_209 rfl (lv_at hl 1 rfl) ?_
                refine lv_icmp_ne (tgt := 217) hX_ hB_ dL_isNext_210 (by decide) (fun c210 => ?_) (fun c210 => ?_)
                · exact absurd rfl c210
                · have c210 : b = b := (nI_eq (a := b) (b := b) (by omega) (by omega)).mp c210
                  refine lv_iconst (v := 1) hX_ hB_ dL_isNext_213 (by decide) ?_
                  refine lv_goto (tgt := 218) hX_ hB_ dL_isNext_214 (by decide) ?_
                  exact xb_iret (T := xd_T) (a, n, (zf_start A b), B, E, (upd (upd N (9 * b + 55) 1) (9 * b + 56) (A 9 b))) S hr hlocks hF hK hW rfl dL_isNext_218 (Nat.le_of_ble_eq_true rfl) (Nat.le_of_ble_eq_true rfl) ⟨rfl, ⟨rfl, (by have z9 := xd_start hI hb9; rw [if_neg c177] at z9; exact z9), rfl, Nat.le_refl _, Nat.le_refl _⟩⟩ rfl
              · refine lv_iconst (v := 2) hX_ hB_ dL_isNext_180 (by decide) ?_
                refine lv_goto (tgt := 185) hX_ hB_ dL_isNext_181 (by decide) ?_
                refine ze_iastN hX_ hB_ hK hW ((ze_wC c a n A B E).length + 0) (f := N) (ze_appL (k := 0) rfl) (i := 9 * b + 55) (by omega) (by decide) dL_isNext_185 (ze_appset rfl) (fun H locs hW => ?_)
                have hW : ze_W D ((ze_wC c a n A B E) ++ [(q, .inl (c 0, 210, .inl (upd N (9 * b + 55) 2)))]) F s.heap _ _ := hW
                refine lv_aload_n hX_ hB_ dL_isNext_186 rfl (lv_at hl 3 rfl) ?_
                refine lv_bipush (v := 56) hX_ hB_ dL_isNext_187 (by decide) ?_
                refine lv_bipush (v := 9) hX_ hB_ dL_isNext_189 (by decide) ?_
                refine lv_iload_n hX_ hB_ dL_isNext_191 rfl (lv_at hl 1 rfl) ?_
                refine lv_imul hX_ hB_ dL_isNext_192 ?_
                refine ze_top (xb_mul (a := 9) (b := b) (c := 9 * b) (by omega)) ?_
                refine lv_iadd hX_ hB_ dL_isNext_193 ?_
                refine ze_top (xb_add (a := 56) (b := 9 * b) (c := 9 * b + 56) (by omega)) ?_
                refine lv_aload_n hX_ hB_ dL_isNext_194 rfl (lv_at hl 3 rfl) ?_
                refine lv_bipush (v := 53) hX_ hB_ dL_isNext_195 (by decide) ?_
                refine lv_bipush (v := 9) hX_ hB_ dL_isNext_197 (by decide) ?_
                refine lv_iload_n hX_ hB_ dL_isNext_199 rfl (lv_at hl 1 rfl) ?_
                refine lv_imul hX_ hB_ dL_isNext_200 ?_
                refine ze_top (xb_mul (a := 9) (b := b) (c := 9 * b) (by omega)) ?_
                refine lv_iadd hX_ hB_ dL_isNext_201 ?_
                refine ze_top (xb_add (a := 53) (b := 9 * b) (c := 9 * b + 53) (by omega)) ?_
                refine ze_ialdN hX_ hB_ hK hW ((ze_wC c a n A B E).length + 0) (f := (upd N (9 * b + 55) 2)) (ze_appL (k := 0) rfl) (i := 9 * b + 53) (by omega) (by decide) dL_isNext_202 ?_
                refine ze_top (xb_un (by omega)) ?_
                refine ze_top (y := A 9 b) (hR.2.2.2.1.1 b (by omega)).2.2.2.1 ?_
                refine ze_iastN hX_ hB_ hK hW ((ze_wC c a n A B E).length + 0) (f := (upd N (9 * b + 55) 2)) (ze_appL (k := 0) rfl) (i := 9 * b + 56) (by omega) (by decide) dL_isNext_203 (ze_appset rfl) (fun H locs hW => ?_)
                have hW : ze_W D ((ze_wC c a n A B E) ++ [(q, .inl (c 0, 210, .inl (upd (upd N (9 * b + 55) 2) (9 * b + 56) (A 9 b))))]) F s.heap _ _ := hW
                refine lv_aload_n hX_ hB_ dL_isNext_204 rfl (lv_at hl 2 rfl) ?_
                refine lv_iload_n hX_ hB_ dL_isNext_205 rfl (lv_at hl 4 rfl) ?_
                refine xb_FSq (As := [.ref (a 0), .int (nI i)]) (rest := []) S (xw_startNext_f l D c a n A B E i hN hi hS b (xd_minU (xd_nx hWu h8z (n 2) (Nat.le_refl _)) hm)) (vx_cwSW 2 hts gL_isNext_L_startNext rfl rfl rfl (by decide +kernel) ⟨(Nat.le_of_ble_eq_true rfl), (Nat.le_of_ble_eq_true rfl)⟩) hG hK hW hA rfl hl.1 rfl (lv_room (Nat.le_of_ble_eq_true rfl)) dL_isNext_206 ⟨(Nat.le_of_ble_eq_true rfl), (Nat.le_of_ble_eq_true rfl)⟩ (fun H locs hW => ?_)
                have hW : ze_W D ((ze_wC c a n (zf_start A b) B E) ++ [(q, .inl (c 0, 210, .inl (upd (upd N (9 * b + 55) 2) (9 * b + 56) (A 9 b))))]) F s.heap _ _ := hW
                refine lv_iload_n hX_ hB_ dL_isNext_209 rfl (lv_at hl 1 rfl) ?_
                refine lv_icmp_ne (tgt := 217) hX_ hB_ dL_isNext_210 (by decide) (fun c210 => ?_) (fun c210 => ?_)
                · exact absurd rfl c210
                · have c210 : b = b := (nI_eq (a := b) (b := b) (by omega) (by omega)).mp c210
                  refine lv_iconst (v := 1) hX_ hB_ dL_isNext_213 (by decide) ?_
                  refine lv_goto (tgt := 218) hX_ hB_ dL_isNext_214 (by decide) ?_
                  exact xb_iret (T := xd_T) (a, n, (zf_start A b), B, E, (upd (upd N (9 * b + 55) 2) (9 * b + 56) (A 9 b))) S hr hlocks hF hK hW rfl dL_isNext_218 (Nat.le_of_ble_eq_true rfl) (Nat.le_of_ble_eq_true rfl) ⟨rfl, ⟨rfl, (by have z9 := xd_start hI hb9; rw [if_pos c177] at z9; exact z9), rfl, Nat.le_refl _, Nat.le_refl _⟩⟩ rfl
            · exact absurd (nI_pos' (by omega)) c141
        · exact absurd c11 (by decide)
      · have hk9 : k < n 2 := by omega
        have hl : lv_has ls 8 [(4, .int (nI k)), (3, .int (zf_on o)), (0, .ref (a 0)), (1, .ref q), (2, .int (nI i))] := by
          rw [xd_pr k (by omega)] at hl
          exact hl
        refine lv_iload hX_ hB_ dL_isNext_9 (lv_at hl 0 rfl) ?_
        refine lv_if_lt (tgt := 140) hX_ hB_ dL_isNext_11 (by decide) (fun c11 => ?_) (fun c11 => ?_)
        · exact absurd c11 (nI_pos (by omega))
        · have c11 : True := trivial
          refine lv_bipush (v := 50) hX_ hB_ dL_isNext_14 (by decide) ?_
          refine lv_bipush (v := 9) hX_ hB_ dL_isNext_16 (by decide) ?_
          refine lv_iload hX_ hB_ dL_isNext_18 (lv_at hl 0 rfl) ?_
          refine lv_imul hX_ hB_ dL_isNext_20 ?_
          refine ze_top (xb_mul (a := 9) (b := k) (c := 9 * k) (by omega)) ?_
          refine lv_iadd hX_ hB_ dL_isNext_21 ?_
          refine ze_top (xb_add (a := 50) (b := 9 * k) (c := 9 * k + 50) (by omega)) ?_
          refine lv_istore (lv' := [(5, .int (nI (9 * k + 50))), (4, .int (nI k)), (3, .int (zf_on o)), (0, .ref (a 0)), (1, .ref q), (2, .int (nI i))]) hX_ hB_ dL_isNext_22 hl (by decide) rfl (fun ls hl => ?_)
          refine lv_aload_n hX_ hB_ dL_isNext_24 rfl (lv_at hl 4 rfl) ?_
          refine lv_iload hX_ hB_ dL_isNext_25 (lv_at hl 0 rfl) ?_
          refine lv_iconst (v := 5) hX_ hB_ dL_isNext_27 (by decide) ?_
          refine lv_iadd hX_ hB_ dL_isNext_28 ?_
          refine ze_top (xb_add (a := 9 * k + 50) (b := 5) (c := 9 * k + 55) (by omega)) ?_
          refine ze_ialdN hX_ hB_ hK hW ((ze_wC c a n A B E).length + 0) (f := N) (ze_appL (k := 0) rfl) (i := 9 * k + 55) (by omega) (by decide) dL_isNext_29 ?_
          refine ze_top (y := xc_st (A 13 k)) (hR.2.2.2.1.1 k (by omega)).2.2.2.2.2 ?_
          refine lv_if_ne (tgt := 68) hX_ hB_ dL_isNext_30 (by decide) (fun c30 => ?_) (fun c30 => ?_)
          · refine lv_iconst (v := 0) hX_ hB_ dL_isNext_68 (by decide) ?_
            refine lv_istore (lv' := [(6, .int 0), (5, .int (nI (9 * k + 50))), (4, .int (nI k)), (3, .int (zf_on o)), (0, .ref (a 0)), (1, .ref q), (2, .int (nI i))]) hX_ hB_ dL_isNext_69 hl (by decide) rfl (fun ls hl => ?_)
            refine lv_sipush (v := 1000) hX_ hB_ dL_isNext_71 (by decide) ?_
            refine lv_aload_n hX_ hB_ dL_isNext_74 rfl (lv_at hl 5 rfl) ?_
            refine lv_iload hX_ hB_ dL_isNext_75 (lv_at hl 1 rfl) ?_
            refine lv_iconst (v := 3) hX_ hB_ dL_isNext_77 (by decide) ?_
            refine lv_iadd hX_ hB_ dL_isNext_78 ?_
            refine ze_top (xb_add (a := 9 * k + 50) (b := 3) (c := 9 * k + 53) (by omega)) ?_
            refine ze_ialdN hX_ hB_ hK hW ((ze_wC c a n A B E).length + 0) (f := N) (ze_appL (k := 0) rfl) (i := 9 * k + 53) (by omega) (by decide) dL_isNext_79 ?_
            refine ze_top (y := A 9 k) (hR.2.2.2.1.1 k (by omega)).2.2.2.1 ?_
            refine lv_imul hX_ hB_ dL_isNext_80 ?_
            refine lv_aload_n hX_ hB_ dL_isNext_81 rfl (lv_at hl 5 rfl) ?_
            refine lv_iload hX_ hB_ dL_isNext_82 (lv_at hl 1 rfl) ?_
            refine lv_iconst (v := 2) hX_ hB_ dL_isNext_84 (by decide) ?_
            refine lv_iadd hX_ hB_ dL_isNext_85 ?_
            refine ze_top (xb_add (a := 9 * k + 50) (b := 2) (c := 9 * k + 52) (by omega)) ?_
            refine ze_ialdN hX_ hB_ hK hW ((ze_wC c a n A B E).length + 0) (f := N) (ze_appL (k := 0) rfl) (i := 9 * k + 52) (by omega) (by decide) dL_isNext_86 ?_
            refine ze_top (y := A 8 k) (hR.2.2.2.1.1 k (by omega)).2.2.1 ?_
            refine lv_isub hX_ hB_ dL_isNext_87 ?_
            refine lv_istore (lv' := [(7, .int ((1000 * A 9 k) - A 8 k)), (6, .int 0), (5, .int (nI (9 * k + 50))), (4, .int (nI k)), (3, .int (zf_on o)), (0, .ref (a 0)), (1, .ref q), (2, .int (nI i))]) hX_ hB_ dL_isNext_88 hl (by decide) rfl (fun ls hl => ?_)
            refine lv_iload hX_ hB_ dL_isNext_90 (lv_at hl 1 rfl) ?_
            refine lv_if_eq (tgt := 132) hX_ hB_ dL_isNext_92 (by decide) (fun c92 => ?_) (fun c92 => ?_)
            · refine lv_iload_n hX_ hB_ dL_isNext_132 rfl (lv_at hl 4 rfl) ?_
              refine lv_istore_n (lv' := [(3, .int (zf_on o)), (7, .int ((1000 * A 9 k) - A 8 k)), (6, .int 0), (5, .int (nI (9 * k + 50))), (4, .int (nI k)), (0, .ref (a 0)), (1, .ref q), (2, .int (nI i))]) hX_ hB_ dL_isNext_133 rfl hl (by decide) rfl (fun ls hl => ?_)
              refine lv_iinc (v := nI k + (-1)) (lv' := [(4, .int (nI k + (-1))), (3, .int (zf_on o)), (7, .int ((1000 * A 9 k) - A 8 k)), (6, .int 0), (5, .int (nI (9 * k + 50))), (0, .ref (a 0)), (1, .ref q), (2, .int (nI i))]) hX_ hB_ dL_isNext_134 hl (k := 4) rfl rfl (by decide) rfl (fun ls hl => ?_)
              refine lv_goto (tgt := 9) hX_ hB_ dL_isNext_137 (by decide) ?_
              exact ih9 k o (by omega) (xd_minN hm (fun z9 => c30 ((xc_st0 (hC k hk9)).mpr z9.1))) (by omega) _ _ ls hW (lv_sub hl [0, 1, 5, 6, 7] rfl)
            · exact absurd c92 (by decide)
          · refine lv_aload_n hX_ hB_ dL_isNext_33 rfl (lv_at hl 4 rfl) ?_
            refine lv_iload hX_ hB_ dL_isNext_34 (lv_at hl 0 rfl) ?_
            refine lv_iconst (v := 4) hX_ hB_ dL_isNext_36 (by decide) ?_
            refine lv_iadd hX_ hB_ dL_isNext_37 ?_
            refine ze_top (xb_add (a := 9 * k + 50) (b := 4) (c := 9 * k + 54) (by omega)) ?_
            refine ze_ialdN hX_ hB_ hK hW ((ze_wC c a n A B E).length + 0) (f := N) (ze_appL (k := 0) rfl) (i := 9 * k + 54) (by omega) (by decide) dL_isNext_38 ?_
            refine ze_top (y := A 10 k) (hR.2.2.2.1.1 k (by omega)).2.2.2.2.1 ?_
            refine lv_aload_n hX_ hB_ dL_isNext_39 rfl (lv_at hl 4 rfl) ?_
            refine lv_iload hX_ hB_ dL_isNext_40 (lv_at hl 0 rfl) ?_
            refine lv_iconst (v := 1) hX_ hB_ dL_isNext_42 (by decide) ?_
            refine lv_iadd hX_ hB_ dL_isNext_43 ?_
            refine ze_top (xb_add (a := 9 * k + 50) (b := 1) (c := 9 * k + 51) (by omega)) ?_
            refine ze_ialdN hX_ hB_ hK hW ((ze_wC c a n A B E).length + 0) (f := N) (ze_appL (k := 0) rfl) (i := 9 * k + 51) (by omega) (by decide) dL_isNext_44 ?_
            refine ze_top (y := A 7 k) (hR.2.2.2.1.1 k (by omega)).2.1 ?_
            refine lv_icmp_lt (tgt := 68) hX_ hB_ dL_isNext_45 (by decide) (fun c45 => ?_) (fun c45 => ?_)
            · refine lv_iconst (v := 0) hX_ hB_ dL_isNext_68 (by decide) ?_
              refine lv_istore (lv' := [(6, .int 0), (5, .int (nI (9 * k + 50))), (4, .int (nI k)), (3, .int (zf_on o)), (0, .ref (a 0)), (1, .ref q), (2, .int (nI i))]) hX_ hB_ dL_isNext_69 hl (by decide) rfl (fun ls hl => ?_)
              refine lv_sipush (v := 1000) hX_ hB_ dL_isNext_71 (by decide) ?_
              refine lv_aload_n hX_ hB_ dL_isNext_74 rfl (lv_at hl 5 rfl) ?_
              refine lv_iload hX_ hB_ dL_isNext_75 (lv_at hl 1 rfl) ?_
              refine lv_iconst (v := 3) hX_ hB_ dL_isNext_77 (by decide) ?_
              refine lv_iadd hX_ hB_ dL_isNext_78 ?_
              refine ze_top (xb_add (a := 9 * k + 50) (b := 3) (c := 9 * k + 53) (by omega)) ?_
              refine ze_ialdN hX_ hB_ hK hW ((ze_wC c a n A B E).length + 0) (f := N) (ze_appL (k := 0) rfl) (i := 9 * k + 53) (by omega) (by decide) dL_isNext_79 ?_
              refine ze_top (y := A 9 k) (hR.2.2.2.1.1 k (by omega)).2.2.2.1 ?_
              refine lv_imul hX_ hB_ dL_isNext_80 ?_
              refine lv_aload_n hX_ hB_ dL_isNext_81 rfl (lv_at hl 5 rfl) ?_
              refine lv_iload hX_ hB_ dL_isNext_82 (lv_at hl 1 rfl) ?_
              refine lv_iconst (v := 2) hX_ hB_ dL_isNext_84 (by decide) ?_
              refine lv_iadd hX_ hB_ dL_isNext_85 ?_
              refine ze_top (xb_add (a := 9 * k + 50) (b := 2) (c := 9 * k + 52) (by omega)) ?_
              refine ze_ialdN hX_ hB_ hK hW ((ze_wC c a n A B E).length + 0) (f := N) (ze_appL (k := 0) rfl) (i := 9 * k + 52) (by omega) (by decide) dL_isNext_86 ?_
              refine ze_top (y := A 8 k) (hR.2.2.2.1.1 k (by omega)).2.2.1 ?_
              refine lv_isub hX_ hB_ dL_isNext_87 ?_
              refine lv_istore (lv' := [(7, .int ((1000 * A 9 k) - A 8 k)), (6, .int 0), (5, .int (nI (9 * k + 50))), (4, .int (nI k)), (3, .int (zf_on o)), (0, .ref (a 0)), (1, .ref q), (2, .int (nI i))]) hX_ hB_ dL_isNext_88 hl (by decide) rfl (fun ls hl => ?_)
              refine lv_iload hX_ hB_ dL_isNext_90 (lv_at hl 1 rfl) ?_
              refine lv_if_eq (tgt := 132) hX_ hB_ dL_isNext_92 (by decide) (fun c92 => ?_) (fun c92 => ?_)
              · refine lv_iload_n hX_ hB_ dL_isNext_132 rfl (lv_at hl 4 rfl) ?_
                refine lv_istore_n (lv' := [(3, .int (zf_on o)), (7, .int ((1000 * A 9 k) - A 8 k)), (6, .int 0), (5, .int (nI (9 * k + 50))), (4, .int (nI k)), (0, .ref (a 0)), (1, .ref q), (2, .int (nI i))]) hX_ hB_ dL_isNext_133 rfl hl (by decide) rfl (fun ls hl => ?_)
                refine lv_iinc (v := nI k + (-1)) (lv' := [(4, .int (nI k + (-1))), (3, .int (zf_on o)), (7, .int ((1000 * A 9 k) - A 8 k)), (6, .int 0), (5, .int (nI (9 * k + 50))), (0, .ref (a 0)), (1, .ref q), (2, .int (nI i))]) hX_ hB_ dL_isNext_134 hl (k := 4) rfl rfl (by decide) rfl (fun ls hl => ?_)
                refine lv_goto (tgt := 9) hX_ hB_ dL_isNext_137 (by decide) ?_
                exact ih9 k o (by omega) (xd_minN hm (fun z9 => z9.2.1 (xd_shrt.mp c45))) (by omega) _ _ ls hW (lv_sub hl [0, 1, 5, 6, 7] rfl)
              · exact absurd c92 (by decide)
            · refine lv_aload_n hX_ hB_ dL_isNext_48 rfl (lv_at hl 4 rfl) ?_
              refine lv_aload_n hX_ hB_ dL_isNext_49 rfl (lv_at hl 4 rfl) ?_
              refine lv_iload hX_ hB_ dL_isNext_50 (lv_at hl 0 rfl) ?_
              refine ze_ialdN hX_ hB_ hK hW ((ze_wC c a n A B E).length + 0) (f := N) (ze_appL (k := 0) rfl) (i := 9 * k + 50) (by omega) (by decide) dL_isNext_52 ?_
              refine ze_top (y := nI (ze_ix (N (9 * k + 50)))) (hH.2.2.2.1 k (by omega)).1 ?_
              have hW := ze_Wc hW
              refine ze_FSi (As := [.ref q, .int (nI (ze_ix (N (9 * k + 50))))]) (rest := []) S (xl_island l D c q n N hH (ze_ix (N (9 * k + 50))) (hH.2.2.2.1 k (by omega)).2) (va_cwS 2 hts gL_isNext_L_island rfl rfl rfl (by decide +kernel) ⟨(Nat.le_of_ble_eq_true rfl), (Nat.le_of_ble_eq_true rfl)⟩) hK hW hA rfl hl.1 rfl (lv_room (Nat.le_of_ble_eq_true rfl)) dL_isNext_53 ⟨(Nat.le_of_ble_eq_true rfl), (Nat.le_of_ble_eq_true rfl)⟩ (fun H locs hW => ?_)
              have hi53 := xa_islt hH (s := (ze_ix (N (9 * k + 50)))) (hH.2.2.2.1 k (by omega)).2
              have hW := ze_Wc hW
              have hW : ze_W D ((ze_wC c a n A B E) ++ [(q, .inl (c 0, 210, .inl N))]) F s.heap _ _ := hW
              refine lv_aload_n hX_ hB_ dL_isNext_56 rfl (lv_at hl 4 rfl) ?_
              refine lv_iload_n hX_ hB_ dL_isNext_57 rfl (lv_at hl 5 rfl) ?_
              have hW := ze_Wc hW
              refine ze_FSi (As := [.ref q, .int (nI i)]) (rest := [.int (nI (xa_isl N (n 1) (ze_ix (N (9 * k + 50)))))]) S (xl_island l D c q n N hH i (by omega)) (va_cwS 2 hts gL_isNext_L_island rfl rfl rfl (by decide +kernel) ⟨(Nat.le_of_ble_eq_true rfl), (Nat.le_of_ble_eq_true rfl)⟩) hK hW hA rfl hl.1 rfl (lv_room (Nat.le_of_ble_eq_true rfl)) dL_isNext_58 ⟨(Nat.le_of_ble_eq_true rfl), (Nat.le_of_ble_eq_true rfl)⟩ (fun H locs hW => ?_)
              have hi58 := xa_islt hH (s := i) (by omega)
              have hW := ze_Wc hW
              have hW : ze_W D ((ze_wC c a n A B E) ++ [(q, .inl (c 0, 210, .inl N))]) F s.heap _ _ := hW
              refine lv_icmp_ne (tgt := 68) hX_ hB_ dL_isNext_61 (by decide) (fun c61 => ?_) (fun c61 => ?_)
              · have c61 : ¬ (xa_isl N (n 1) (ze_ix (N (9 * k + 50)))) = (xa_isl N (n 1) i) := fun h9 => c61 ((nI_eq (a := (xa_isl N (n 1) (ze_ix (N (9 * k + 50))))) (b := (xa_isl N (n 1) i)) (by omega) (by omega)).mpr h9)
                refine lv_iconst (v := 0) hX_ hB_ dL_isNext_68 (by decide) ?_
                refine lv_istore (lv' := [(6, .int 0), (5, .int (nI (9 * k + 50))), (4, .int (nI k)), (3, .int (zf_on o)), (0, .ref (a 0)), (1, .ref q), (2, .int (nI i))]) hX_ hB_ dL_isNext_69 hl (by decide) rfl (fun ls hl => ?_)
                refine lv_sipush (v := 1000) hX_ hB_ dL_isNext_71 (by decide) ?_
                refine lv_aload_n hX_ hB_ dL_isNext_74 rfl (lv_at hl 5 rfl) ?_
                refine lv_iload hX_ hB_ dL_isNext_75 (lv_at hl 1 rfl) ?_
                refine lv_iconst (v := 3) hX_ hB_ dL_isNext_77 (by decide) ?_
                refine lv_iadd hX_ hB_ dL_isNext_78 ?_
                refine ze_top (xb_add (a := 9 * k + 50) (b := 3) (c := 9 * k + 53) (by omega)) ?_
                refine ze_ialdN hX_ hB_ hK hW ((ze_wC c a n A B E).length + 0) (f := N) (ze_appL (k := 0) rfl) (i := 9 * k + 53) (by omega) (by decide) dL_isNext_79 ?_
                refine ze_top (y := A 9 k) (hR.2.2.2.1.1 k (by omega)).2.2.2.1 ?_
                refine lv_imul hX_ hB_ dL_isNext_80 ?_
                refine lv_aload_n hX_ hB_ dL_isNext_81 rfl (lv_at hl 5 rfl) ?_
                refine lv_iload hX_ hB_ dL_isNext_82 (lv_at hl 1 rfl) ?_
                refine lv_iconst (v := 2) hX_ hB_ dL_isNext_84 (by decide) ?_
                refine lv_iadd hX_ hB_ dL_isNext_85 ?_
                refine ze_top (xb_add (a := 9 * k + 50) (b := 2) (c := 9 * k + 52) (by omega)) ?_
                refine ze_ialdN hX_ hB_ hK hW ((ze_wC c a n A B E).length + 0) (f := N) (ze_appL (k := 0) rfl) (i := 9 * k + 52) (by omega) (by decide) dL_isNext_86 ?_
                refine ze_top (y := A 8 k) (hR.2.2.2.1.1 k (by omega)).2.2.1 ?_
                refine lv_isub hX_ hB_ dL_isNext_87 ?_
                refine lv_istore (lv' := [(7, .int ((1000 * A 9 k) - A 8 k)), (6, .int 0), (5, .int (nI (9 * k + 50))), (4, .int (nI k)), (3, .int (zf_on o)), (0, .ref (a 0)), (1, .ref q), (2, .int (nI i))]) hX_ hB_ dL_isNext_88 hl (by decide) rfl (fun ls hl => ?_)
                refine lv_iload hX_ hB_ dL_isNext_90 (lv_at hl 1 rfl) ?_
                refine lv_if_eq (tgt := 132) hX_ hB_ dL_isNext_92 (by decide) (fun c92 => ?_) (fun c92 => ?_)
                · refine lv_iload_n hX_ hB_ dL_isNext_132 rfl (lv_at hl 4 rfl) ?_
                  refine lv_istore_n (lv' := [(3, .int (zf_on o)), (7, .int ((1000 * A 9 k) - A 8 k)), (6, .int 0), (5, .int (nI (9 * k + 50))), (4, .int (nI k)), (0, .ref (a 0)), (1, .ref q), (2, .int (nI i))]) hX_ hB_ dL_isNext_133 rfl hl (by decide) rfl (fun ls hl => ?_)
                  refine lv_iinc (v := nI k + (-1)) (lv' := [(4, .int (nI k + (-1))), (3, .int (zf_on o)), (7, .int ((1000 * A 9 k) - A 8 k)), (6, .int 0), (5, .int (nI (9 * k + 50))), (0, .ref (a 0)), (1, .ref q), (2, .int (nI i))]) hX_ hB_ dL_isNext_134 hl (k := 4) rfl rfl (by decide) rfl (fun ls hl => ?_)
                  refine lv_goto (tgt := 9) hX_ hB_ dL_isNext_137 (by decide) ?_
                  exact ih9 k o (by omega) (xd_minN hm (fun z9 => c61 ((xd_isE hI hk9 hi).mpr z9.2.2))) (by omega) _ _ ls hW (lv_sub hl [0, 1, 5, 6, 7] rfl)
                · exact absurd c92 (by decide)
              · have c61 : (xa_isl N (n 1) (ze_ix (N (9 * k + 50)))) = (xa_isl N (n 1) i) := (nI_eq (a := (xa_isl N (n 1) (ze_ix (N (9 * k + 50))))) (b := (xa_isl N (n 1) i)) (by omega) (by omega)).mp c61
                refine lv_iconst (v := 1) hX_ hB_ dL_isNext_64 (by decide) ?_
                refine lv_goto (tgt := 69) hX_ hB_ dL_isNext_65 (by decide) ?_
                refine lv_istore (lv' := [(6, .int 1), (5, .int (nI (9 * k + 50))), (4, .int (nI k)), (3, .int (zf_on o)), (0, .ref (a 0)), (1, .ref q), (2, .int (nI i))]) hX_ hB_ dL_isNext_69 hl (by decide) rfl (fun ls hl => ?_)
                refine lv_sipush (v := 1000) hX_ hB_ dL_isNext_71 (by decide) ?_
                refine lv_aload_n hX_ hB_ dL_isNext_74 rfl (lv_at hl 5 rfl) ?_
                refine lv_iload hX_ hB_ dL_isNext_75 (lv_at hl 1 rfl) ?_
                refine lv_iconst (v := 3) hX_ hB_ dL_isNext_77 (by decide) ?_
                refine lv_iadd hX_ hB_ dL_isNext_78 ?_
                refine ze_top (xb_add (a := 9 * k + 50) (b := 3) (c := 9 * k + 53) (by omega)) ?_
                refine ze_ialdN hX_ hB_ hK hW ((ze_wC c a n A B E).length + 0) (f := N) (ze_appL (k := 0) rfl) (i := 9 * k + 53) (by omega) (by decide) dL_isNext_79 ?_
                refine ze_top (y := A 9 k) (hR.2.2.2.1.1 k (by omega)).2.2.2.1 ?_
                refine lv_imul hX_ hB_ dL_isNext_80 ?_
                refine lv_aload_n hX_ hB_ dL_isNext_81 rfl (lv_at hl 5 rfl) ?_
                refine lv_iload hX_ hB_ dL_isNext_82 (lv_at hl 1 rfl) ?_
                refine lv_iconst (v := 2) hX_ hB_ dL_isNext_84 (by decide) ?_
                refine lv_iadd hX_ hB_ dL_isNext_85 ?_
                refine ze_top (xb_add (a := 9 * k + 50) (b := 2) (c := 9 * k + 52) (by omega)) ?_
                refine ze_ialdN hX_ hB_ hK hW ((ze_wC c a n A B E).length + 0) (f := N) (ze_appL (k := 0) rfl) (i := 9 * k + 52) (by omega) (by decide) dL_isNext_86 ?_
                refine ze_top (y := A 8 k) (hR.2.2.2.1.1 k (by omega)).2.2.1 ?_
                refine lv_isub hX_ hB_ dL_isNext_87 ?_
                refine lv_istore (lv' := [(7, .int ((1000 * A 9 k) - A 8 k)), (6, .int 1), (5, .int (nI (9 * k + 50))), (4, .int (nI k)), (3, .int (zf_on o)), (0, .ref (a 0)), (1, .ref q), (2, .int (nI i))]) hX_ hB_ dL_isNext_88 hl (by decide) rfl (fun ls hl => ?_)
                refine lv_iload hX_ hB_ dL_isNext_90 (lv_at hl 1 rfl) ?_
                refine lv_if_eq (tgt := 132) hX_ hB_ dL_isNext_92 (by decide) (fun c92 => ?_) (fun c92 => ?_)
                · exact absurd c92 (by decide)
                · have ho95 : o = none ∨ ∃ b, o = some b := by cases o; exact Or.inl rfl; exact Or.inr ⟨_, rfl⟩
                  rcases ho95 with rfl | ⟨b, rfl⟩
                  · have hl : lv_has ls 8 [(7, .int ((1000 * A 9 k) - A 8 k)), (6, .int 1), (5, .int (nI (9 * k + 50))), (4, .int (nI k)), (3, .int (-1)), (0, .ref (a 0)), (1, .ref q), (2, .int (nI i))] := hl
                    refine lv_iload_n hX_ hB_ dL_isNext_95 rfl (lv_at hl 4 rfl) ?_
                    refine lv_if_lt (tgt := 127) hX_ hB_ dL_isNext_96 (by decide) (fun c96 => ?_) (fun c96 => ?_)
                    · refine lv_iload hX_ hB_ dL_isNext_127 (lv_at hl 3 rfl) ?_
                      refine lv_goto (tgt := 133) hX_ hB_ dL_isNext_129 (by decide) ?_
                      refine lv_istore_n (lv' := [(3, .int (nI k)), (7, .int ((1000 * A 9 k) - A 8 k)), (6, .int 1), (5, .int (nI (9 * k + 50))), (4, .int (nI k)), (0, .ref (a 0)), (1, .ref q), (2, .int (nI i))]) hX_ hB_ dL_isNext_133 rfl hl (by decide) rfl (fun ls hl => ?_)
                      refine lv_iinc (v := nI k + (-1)) (lv' := [(4, .int (nI k + (-1))), (3, .int (nI k)), (7, .int ((1000 * A 9 k) - A 8 k)), (6, .int 1), (5, .int (nI (9 * k + 50))), (0, .ref (a 0)), (1, .ref q), (2, .int (nI i))]) hX_ hB_ dL_isNext_134 hl (k := 4) rfl rfl (by decide) rfl (fun ls hl => ?_)
                      refine lv_goto (tgt := 9) hX_ hB_ dL_isNext_137 (by decide) ?_
                      exact ih9 k (some k) (by omega) (xd_min0 hk9 hm ⟨(xc_st0 (hC k hk9)).mp c30, fun z9 => c45 (xd_shrt.mpr z9), (xd_isE hI hk9 hi).mp c61⟩) (by omega) _ _ ls hW (lv_sub hl [0, 1, 5, 6, 7] rfl)
                    · exact absurd c96 (by decide)
                  · have hl : lv_has ls 8 [(7, .int ((1000 * A 9 k) - A 8 k)), (6, .int 1), (5, .int (nI (9 * k + 50))), (4, .int (nI k)), (3, .int (nI b)), (0, .ref (a 0)), (1, .ref q), (2, .int (nI i))] := hl
                    have hb9 : b < n 2 := hm.2.1
                    refine lv_iload_n hX_ hB_ dL_isNext_95 rfl (lv_at hl 4 rfl) ?_
                    refine lv_if_lt (tgt := 127) hX_ hB_ dL_isNext_96 (by decide) (fun c96 => ?_) (fun c96 => ?_)
                    · exact absurd c96 (nI_pos (by omega))
                    · have c96 : True := trivial
                      refine lv_iload hX_ hB_ dL_isNext_99 (lv_at hl 0 rfl) ?_
                      refine lv_sipush (v := 1000) hX_ hB_ dL_isNext_101 (by decide) ?_
                      refine lv_aload_n hX_ hB_ dL_isNext_104 rfl (lv_at hl 6 rfl) ?_
                      refine lv_bipush (v := 53) hX_ hB_ dL_isNext_105 (by decide) ?_
                      refine lv_bipush (v := 9) hX_ hB_ dL_isNext_107 (by decide) ?_
                      refine lv_iload_n hX_ hB_ dL_isNext_109 rfl (lv_at hl 4 rfl) ?_
                      refine lv_imul hX_ hB_ dL_isNext_110 ?_
                      refine ze_top (xb_mul (a := 9) (b := b) (c := 9 * b) (by omega)) ?_
                      refine lv_iadd hX_ hB_ dL_isNext_111 ?_
                      refine ze_top (xb_add (a := 53) (b := 9 * b) (c := 9 * b + 53) (by omega)) ?_
                      refine ze_ialdN hX_ hB_ hK hW ((ze_wC c a n A B E).length + 0) (f := N) (ze_appL (k := 0) rfl) (i := 9 * b + 53) (by omega) (by decide) dL_isNext_112 ?_
                      refine ze_top (y := A 9 b) (hR.2.2.2.1.1 b (by omega)).2.2.2.1 ?_
                      refine lv_imul hX_ hB_ dL_isNext_113 ?_
                      refine lv_aload_n hX_ hB_ dL_isNext_114 rfl (lv_at hl 6 rfl) ?_
                      refine lv_bipush (v := 52) hX_ hB_ dL_isNext_115 (by decide) ?_
                      refine lv_bipush (v := 9) hX_ hB_ dL_isNext_117 (by decide) ?_
                      refine lv_iload_n hX_ hB_ dL_isNext_119 rfl (lv_at hl 4 rfl) ?_
                      refine lv_imul hX_ hB_ dL_isNext_120 ?_
                      refine ze_top (xb_mul (a := 9) (b := b) (c := 9 * b) (by omega)) ?_
                      refine lv_iadd hX_ hB_ dL_isNext_121 ?_
                      refine ze_top (xb_add (a := 52) (b := 9 * b) (c := 9 * b + 52) (by omega)) ?_
                      refine ze_ialdN hX_ hB_ hK hW ((ze_wC c a n A B E).length + 0) (f := N) (ze_appL (k := 0) rfl) (i := 9 * b + 52) (by omega) (by decide) dL_isNext_122 ?_
                      refine ze_top (y := A 8 b) (hR.2.2.2.1.1 b (by omega)).2.2.1 ?_
                      refine lv_isub hX_ hB_ dL_isNext_123 ?_
                      refine lv_icmp_gt (tgt := 132) hX_ hB_ dL_isNext_124 (by decide) (fun c124 => ?_) (fun c124 => ?_)
                      · refine lv_iload_n hX_ hB_ dL_isNext_132 rfl (lv_at hl 4 rfl) ?_
                        refine lv_istore_n (lv' := [(3, .int (nI b)), (7, .int ((1000 * A 9 k) - A 8 k)), (6, .int 1), (5, .int (nI (9 * k + 50))), (4, .int (nI k)), (0, .ref (a 0)), (1, .ref q), (2, .int (nI i))]) hX_ hB_ dL_isNext_133 rfl hl (by decide) rfl (fun ls hl => ?_)
                        refine lv_iinc (v := nI k + (-1)) (lv' := [(4, .int (nI k + (-1))), (3, .int (nI b)), (7, .int ((1000 * A 9 k) - A 8 k)), (6, .int 1), (5, .int (nI (9 * k + 50))), (0, .ref (a 0)), (1, .ref q), (2, .int (nI i))]) hX_ hB_ dL_isNext_134 hl (k := 4) rfl rfl (by decide) rfl (fun ls hl => ?_)
                        refine lv_goto (tgt := 9) hX_ hB_ dL_isNext_137 (by decide) ?_
                        exact ih9 k (some b) (by omega) (xd_min2 hm c124) (by omega) _ _ ls hW (lv_sub hl [0, 1, 5, 6, 7] rfl)
                      · refine lv_iload hX_ hB_ dL_isNext_127 (lv_at hl 3 rfl) ?_
                        refine lv_goto (tgt := 133) hX_ hB_ dL_isNext_129 (by decide) ?_
                        refine lv_istore_n (lv' := [(3, .int (nI k)), (7, .int ((1000 * A 9 k) - A 8 k)), (6, .int 1), (5, .int (nI (9 * k + 50))), (4, .int (nI k)), (0, .ref (a 0)), (1, .ref q), (2, .int (nI i))]) hX_ hB_ dL_isNext_133 rfl hl (by decide) rfl (fun ls hl => ?_)
                        refine lv_iinc (v := nI k + (-1)) (lv' := [(4, .int (nI k + (-1))), (3, .int (nI k)), (7, .int ((1000 * A 9 k) - A 8 k)), (6, .int 1), (5, .int (nI (9 * k + 50))), (0, .ref (a 0)), (1, .ref q), (2, .int (nI i))]) hX_ hB_ dL_isNext_134 hl (k := 4) rfl rfl (by decide) rfl (fun ls hl => ?_)
                        refine lv_goto (tgt := 9) hX_ hB_ dL_isNext_137 (by decide) ?_
                        exact ih9 k (some k) (by omega) (xd_min1 hk9 hm ⟨(xc_st0 (hC k hk9)).mp c30, fun z9 => c45 (xd_shrt.mpr z9), (xd_isE hI hk9 hi).mp c61⟩ c124) (by omega) _ _ ls hW (lv_sub hl [0, 1, 5, 6, 7] rfl)
  exact L9 _ (n 2) none (Nat.le_refl _) (fun g9 h8 h9 => absurd h9 (by omega)) (Nat.lt_succ_self _) _ _ ls hW (lv_sub hl [0, 1, 2, 3, 4] rfl)
