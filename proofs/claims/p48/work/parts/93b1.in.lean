/-! ===== the law's methods over the object and the net ===== -/
set_option maxHeartbeats 8000000 in
set_option maxRecDepth 100000 in
theorem xj_in (l : Launch) (D : va_G) (c : Nat → ClassId) (b L : Nat) (xs : Nat → Int32) (hL : L ≤ 260) (i : Nat) (hi : i < 2000) (k : Nat) (hk : 0 < k) (hk2 : k < 2000) : xb_X l yL_in wsL_in 1 22 0 0 D c (some (b, L, xs)) ([] : va_W) [.ref b, .int (nI i), .int (nI k)] (nI (xd_in xs L i k)) ([] : va_W) := by
  intro sz
  refine xb_start (cc := cL_in) (maxL := 3) (ret := (some .int)) (own := RL) (by decide) rfl rfl (Nat.le_of_ble_eq_true rfl) ?_
  intro p e s m_ below meth cd F ls hF hsz E0 hG
  obtain ⟨S, hr, hlocks, hK, hW, hA, hl⟩ := E0
  have hX_ := S.1
  have hB_ := S.2.1
  have hts := S.2.2.2.2
  obtain ⟨hX9, hb9, hF9⟩ := hG.2.2 _ rfl
  have hl : lv_has ls 3 [(0, .ref b), (1, .int (nI i)), (2, .int (nI k))] := hl
  have w0 := hts (.constant RL 132 (2147483647)) (List.mem_cons_of_mem _ (List.mem_of_getElem? (i := 0) rfl))
  refine lv_aload_n hX_ hB_ dL_in_0 rfl (lv_at hl 0 rfl) ?_
  refine lv_iload_n hX_ hB_ dL_in_1 rfl (lv_at hl 1 rfl) ?_
  have hW : ze_W D (([] : va_W) ++ ([] : va_W)) F s.heap _ _ := hW
  refine xb_FSx (As := [.ref b, .int (nI i)]) (rest := []) S (xj_cell l D c b L xs hL i (by omega)) (va_cwS 2 hts gL_in_L_cell rfl rfl rfl (by decide +kernel) ⟨(Nat.le_of_ble_eq_true rfl), (Nat.le_of_ble_eq_true rfl)⟩) (Or.inr rfl) hG hK hW hA rfl hl.1 rfl (lv_room (Nat.le_of_ble_eq_true rfl)) dL_in_2 ⟨(Nat.le_of_ble_eq_true rfl), (Nat.le_of_ble_eq_true rfl)⟩ (fun H locs hW => ?_)
  have hW : ze_W D ([] : va_W) F s.heap _ _ := hW
  refine lv_ldc (own := RL) (v := 2147483647) hX_ hB_ S.2.2.2.1 w0 dL_in_5 ?_
  refine lv_iand hX_ hB_ dL_in_7 ?_
  refine lv_iload_n hX_ hB_ dL_in_8 rfl (lv_at hl 2 rfl) ?_
  refine lv_irem hX_ hB_ dL_in_9 (nI_ne0 hk (by omega)) ?_
  exact ze_iret S hr hlocks hF hK hW rfl dL_in_10 (Nat.le_of_ble_eq_true rfl) (Nat.le_of_ble_eq_true rfl) (xd_rem hk (by omega)) rfl
