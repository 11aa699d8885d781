/-! ===== one cell changed, ticks passed ===== -/
section XD2
variable {n : Nat → Nat} {A : Nat → Nat → Int32} {B : Nat → Int64} {E E2 : Nat → Nat → Int32} {N : Nat → Int32} {t : Nat}
theorem xd_Y {N2 : Nat → Int32} {f c : Nat} (h : xc_Y n A N f c) (e : ∀ k, 200 ≤ k → k < 203 → N2 k = N k) : xc_Y n A N2 f c := by
  obtain ⟨y1, y2, y3, y4, y5, y6, y7⟩ := h
  refine ⟨y1, y2, y3, y4, ?_, ?_, ?_⟩
  · rw [e 200 (by omega) (by omega)]
    exact y5
  · rw [e 201 (by omega) (by omega)]
    exact y6
  · rw [e 202 (by omega) (by omega)]
    exact y7
theorem xd_sEs (A : Nat → Nat → Int32) (k i : Nat) (v : Int32) : ze_sE A k i v k i = v := by simp [ze_sE, ze_sA, upd]
theorem xd_sw (h : xd_I n A B E N t) {j : Nat} (hj : j < n 1) {y : Int32} (hy : y = 0 ∨ y = 1) (hE2 : E2 0 = zf_CI n (ze_sE A 4 j y)) : xd_I n (ze_sE A 4 j y) B E2 (upd N (3 * j + 22) y) t := by
  obtain ⟨hV, ⟨q1, q2, q3, q4, q5, q6, q7⟩, h3, h4, h5⟩ := h
  obtain ⟨hn0, hn1, hn2, hn3, hn4⟩ := id hV.1
  have key : ∀ k, k ≠ 3 * j + 22 → upd N (3 * j + 22) y k = N k := fun k z => xb_un z
  refine ⟨zv_line hV hj hy hE2 (fun _ _ => rfl), ⟨xc_cC q1 (fun k _ => key k (by omega)), xc_pC q2 ⟨rfl, rfl, rfl, rfl, rfl, rfl⟩ (fun k _ _ => key k (by omega)), ⟨fun i hi => ?_, fun i hi => ?_⟩, xc_gC hn2 q4 ⟨rfl, rfl, rfl, rfl, rfl, rfl, rfl, rfl⟩ (fun k _ _ => key k (by omega)), xc_tC hn3 q5 ⟨rfl, rfl, rfl, rfl, rfl⟩ (fun k _ _ => key k (by omega)), xc_dC hn4 q6 ⟨rfl, rfl, rfl, rfl, rfl⟩ (fun k _ _ => key k (by omega)), xc_bC q7 ⟨rfl, rfl, rfl⟩ (fun k _ _ => key k (by omega))⟩, h3, xd_Y h4 (fun k _ _ => key k (by omega)), h5⟩
  · rw [key _ (by omega), key _ (by omega)]
    exact q3.1 i hi
  · by_cases e : i = j
    · subst e
      rw [pk_us, xd_sEs]
    · rw [key _ (by omega), ze_sE_ne e]
      exact q3.2 i hi
theorem xd_tie (h : xd_I n A B E N t) {y : Int32} (hy : y = 0 ∨ y = 1) : xd_I n (ze_sC A 38 y) B E (upd N 8 y) t := by
  obtain ⟨hV, ⟨q1, q2, q3, q4, q5, q6, q7⟩, h3, h4, h5⟩ := h
  obtain ⟨hn0, hn1, hn2, hn3, hn4⟩ := id hV.1
  have key : ∀ k, k ≠ 8 → upd N 8 y k = N k := fun k z => xb_un z
  refine ⟨zv_tie hV hy (fun _ _ => rfl), ⟨xc_cC q1 (fun k _ => key k (by omega)), ⟨⟨(key 5 (by omega)).trans q2.1.1, (key 6 (by omega)).trans q2.1.2.1, (key 7 (by omega)).trans q2.1.2.2.1, pk_us, (key 9 (by omega)).trans q2.1.2.2.2.2⟩, fun i hi => (key _ (by omega)).trans (q2.2 i hi)⟩, xc_lC hn1 q3 ⟨rfl, rfl, rfl⟩ (fun k _ _ => key k (by omega)), xc_gC hn2 q4 ⟨rfl, rfl, rfl, rfl, rfl, rfl, rfl, rfl⟩ (fun k _ _ => key k (by omega)), xc_tC hn3 q5 ⟨rfl, rfl, rfl, rfl, rfl⟩ (fun k _ _ => key k (by omega)), xc_dC hn4 q6 ⟨rfl, rfl, rfl, rfl, rfl⟩ (fun k _ _ => key k (by omega)), xc_bC q7 ⟨rfl, rfl, rfl⟩ (fun k _ _ => key k (by omega))⟩, h3, xd_Y h4 (fun k _ _ => key k (by omega)), h5⟩
theorem xd_start (h : xd_I n A B E N t) {g : Nat} (hg : g < n 2) : xd_I n (zf_start A g) B E (upd (upd N (9 * g + 55) (if A 9 g = 0 then 2 else 1)) (9 * g + 56) (A 9 g)) t := by
  obtain ⟨hV, ⟨q1, q2, q3, q4, q5, q6, q7⟩, h3, h4, h5⟩ := h
  obtain ⟨hn0, hn1, hn2, hn3, hn4⟩ := id hV.1
  have key : ∀ k, k ≠ 9 * g + 55 → k ≠ 9 * g + 56 → upd (upd N (9 * g + 55) (if A 9 g = 0 then 2 else 1)) (9 * g + 56) (A 9 g) k = N k := fun k z z2 => by rw [xb_un z2, xb_un z]
  refine ⟨zv_start hV hg, ⟨xc_cC q1 (fun k _ => key k (by omega) (by omega)), xc_pC q2 ⟨rfl, rfl, rfl, rfl, rfl, rfl⟩ (fun k _ _ => key k (by omega) (by omega)), xc_lC hn1 q3 ⟨rfl, rfl, rfl⟩ (fun k _ _ => key k (by omega) (by omega)), ⟨fun i hi => ?_, fun i hi => ?_, fun i hi z => ?_⟩, xc_tC hn3 q5 ⟨rfl, rfl, rfl, rfl, rfl⟩ (fun k _ _ => key k (by omega) (by omega)), xc_dC hn4 q6 ⟨rfl, rfl, rfl, rfl, rfl⟩ (fun k _ _ => key k (by omega) (by omega)), xc_bC q7 ⟨rfl, rfl, rfl⟩ (fun k _ _ => key k (by omega) (by omega))⟩, h3, xd_Y h4 (fun k _ _ => key k (by omega) (by omega)), h5⟩
  · obtain ⟨s0, s1, s2, s3, s4, s5⟩ := q4.1 i hi
    refine ⟨(key _ (by omega) (by omega)).trans s0, (key _ (by omega) (by omega)).trans s1, (key _ (by omega) (by omega)).trans s2, (key _ (by omega) (by omega)).trans s3, (key _ (by omega) (by omega)).trans s4, ?_⟩
    by_cases e : i = g
    · subst e
      rw [xb_un (by omega), pk_us]
      unfold zf_start
      rw [xd_sEs]
      have d1 : xc_st 114 = 2 := by decide
      have d2 : xc_st 119 = 1 := by decide
      split
      · exact d1.symm
      · exact d2.symm
    · rw [key _ (by omega) (by omega), s5]
      unfold zf_start
      rw [ze_sE_ne e, ze_sE_ne e]
  · obtain ⟨s6, s7⟩ := q4.2.1 i hi
    rw [key (9 * i + 57) (by omega) (by omega)]
    refine ⟨?_, s7⟩
    by_cases e : i = g
    · subst e
      rw [pk_us]
      show _ = ze_sE A 11 i (A 9 i) 11 i
      rw [xd_sEs]
    · rw [key _ (by omega) (by omega), s6]
      unfold zf_start
      rw [ze_sE_ne e, ze_sE_ne e]
  · rw [key _ (by omega) (by omega)]
    exact q4.2.2 i hi z
theorem xd_stop (h : xd_I n A B E N t) {g : Nat} (hg : g < n 2) : xd_I n (ze_sE A 13 g 111) B E (upd N (9 * g + 55) 0) t := by
  obtain ⟨hV, ⟨q1, q2, q3, q4, q5, q6, q7⟩, h3, h4, h5⟩ := h
  obtain ⟨hn0, hn1, hn2, hn3, hn4⟩ := id hV.1
  have key : ∀ k, k ≠ 9 * g + 55 → upd N (9 * g + 55) 0 k = N k := fun k z => xb_un z
  refine ⟨zv_char hV (Or.inl rfl), ⟨xc_cC q1 (fun k _ => key k (by omega)), xc_pC q2 ⟨rfl, rfl, rfl, rfl, rfl, rfl⟩ (fun k _ _ => key k (by omega)), xc_lC hn1 q3 ⟨rfl, rfl, rfl⟩ (fun k _ _ => key k (by omega)), ⟨fun i hi => ?_, fun i hi => ?_, fun i hi z => ?_⟩, xc_tC hn3 q5 ⟨rfl, rfl, rfl, rfl, rfl⟩ (fun k _ _ => key k (by omega)), xc_dC hn4 q6 ⟨rfl, rfl, rfl, rfl, rfl⟩ (fun k _ _ => key k (by omega)), xc_bC q7 ⟨rfl, rfl, rfl⟩ (fun k _ _ => key k (by omega))⟩, h3, xd_Y h4 (fun k _ _ => key k (by omega)), h5⟩
  · obtain ⟨s0, s1, s2, s3, s4, s5⟩ := q4.1 i hi
    refine ⟨(key _ (by omega)).trans s0, (key _ (by omega)).trans s1, (key _ (by omega)).trans s2, (key _ (by omega)).trans s3, (key _ (by omega)).trans s4, ?_⟩
    by_cases e : i = g
    · subst e
      rw [pk_us, xd_sEs]
      decide
    · rw [key _ (by omega), s5, ze_sE_ne e]
  · rw [key _ (by omega), key _ (by omega)]
    exact q4.2.1 i hi
  · rw [key _ (by omega)]
    exact q4.2.2 i hi z
theorem xd_refuel (h : xd_I n A B E N t) (ht : t ≤ 200) {g z : Nat} (hg : g < n 2) (l1 : 1 ≤ z) (l2 : z ≤ 300) : xd_I n (ze_sE A 10 g (A 10 g + nI z)) B E (upd N (9 * g + 54) (A 10 g + nI z)) (t + 3) ∧ zf_isIn (nI z) 1 9999 ∧ A 10 g + nI z ≤ 99999 := by
  obtain ⟨hV, ⟨q1, q2, q3, q4, q5, q6, q7⟩, h3, h4, h5⟩ := h
  obtain ⟨hn0, hn1, hn2, hn3, hn4⟩ := id hV.1
  have i1 : (1 : Int32) = nI 1 := by decide
  have i9999 : (9999 : Int32) = nI 9999 := by decide
  have i99999 : (99999 : Int32) = nI 99999 := by decide
  obtain ⟨y1, y2, y3, y4, y5, y6, y7⟩ := id h4
  obtain ⟨x, lx, ex⟩ := y4 g hg
  have hin : zf_isIn (nI z) 1 9999 := ⟨by rw [i1, nI_ltI (by omega) (by omega)]; omega, by rw [i9999, nI_ltI (by omega) (by omega)]; omega⟩
  have hle : A 10 g + nI z ≤ 99999 := by
    rw [ex, nI_add, i99999, nI_leI (by omega) (by omega)]
    omega
  have key : ∀ k, k ≠ 9 * g + 54 → upd N (9 * g + 54) (A 10 g + nI z) k = N k := fun k z => xb_un z
  refine ⟨⟨zv_refuel hV hin hle, ⟨xc_cC q1 (fun k _ => key k (by omega)), xc_pC q2 ⟨rfl, rfl, rfl, rfl, rfl, rfl⟩ (fun k _ _ => key k (by omega)), xc_lC hn1 q3 ⟨rfl, rfl, rfl⟩ (fun k _ _ => key k (by omega)), ⟨fun i hi => ?_, fun i hi => ?_, fun i hi z => ?_⟩, xc_tC hn3 q5 ⟨rfl, rfl, rfl, rfl, rfl⟩ (fun k _ _ => key k (by omega)), xc_dC hn4 q6 ⟨rfl, rfl, rfl, rfl, rfl⟩ (fun k _ _ => key k (by omega)), xc_bC q7 ⟨rfl, rfl, rfl⟩ (fun k _ _ => key k (by omega))⟩, h3, xd_Y (N := N) ⟨y1, y2, y3, fun i hi => ?_, ?_, ?_, ?_⟩ (fun k _ _ => key k (by omega)), h5⟩, hin, hle⟩
  · obtain ⟨s0, s1, s2, s3, s4, s5⟩ := q4.1 i hi
    refine ⟨(key _ (by omega)).trans s0, (key _ (by omega)).trans s1, (key _ (by omega)).trans s2, (key _ (by omega)).trans s3, ?_, (key _ (by omega)).trans s5⟩
    by_cases e : i = g
    · subst e
      rw [pk_us, xd_sEs]
    · rw [key _ (by omega), s4, ze_sE_ne e]
  · rw [key _ (by omega), key _ (by omega)]
    exact q4.2.1 i hi
  · rw [key _ (by omega)]
    exact q4.2.2 i hi z
  · by_cases e : i = g
    · subst e
      rw [xd_sEs, ex, nI_add]
      exact ⟨x + z, by omega, rfl⟩
    · rw [ze_sE_ne e]
      obtain ⟨w, lw, ew⟩ := y4 i hi
      exact ⟨w, by omega, ew⟩
  · obtain ⟨w, lw, ew⟩ := y5
    exact ⟨w, by omega, ew⟩
  · obtain ⟨w, lw, ew⟩ := y6
    exact ⟨w, by omega, ew⟩
  · obtain ⟨w, lw, ew⟩ := y7
    exact ⟨w, by omega, ew⟩
theorem xd_phase (h : xd_I n A B E N t) {j p : Nat} (hj : j < n 0) (hp : p < 360) : xd_I n (ze_sE A 0 j (nI p)) B E (upd N (j + 10) (nI p)) t ∧ zf_isIn (nI p) 0 359 := by
  obtain ⟨hV, ⟨q1, q2, q3, q4, q5, q6, q7⟩, h3, h4, h5⟩ := h
  obtain ⟨hn0, hn1, hn2, hn3, hn4⟩ := id hV.1
  have i0 : (0 : Int32) = nI 0 := rfl
  have i359 : (359 : Int32) = nI 359 := by decide
  have hin : zf_isIn (nI p) 0 359 := ⟨by rw [i0, nI_ltI (by omega) (by omega)]; omega, by rw [i359, nI_ltI (by omega) (by omega)]; omega⟩
  have key : ∀ k, k ≠ j + 10 → upd N (j + 10) (nI p) k = N k := fun k z => xb_un z
  refine ⟨⟨zv_setPhase hV hin, ⟨xc_cC q1 (fun k _ => key k (by omega)), ⟨⟨(key 5 (by omega)).trans q2.1.1, (key 6 (by omega)).trans q2.1.2.1, (key 7 (by omega)).trans q2.1.2.2.1, (key 8 (by omega)).trans q2.1.2.2.2.1, (key 9 (by omega)).trans q2.1.2.2.2.2⟩, fun i hi => ?_⟩, xc_lC hn1 q3 ⟨rfl, rfl, rfl⟩ (fun k _ _ => key k (by omega)), xc_gC hn2 q4 ⟨rfl, rfl, rfl, rfl, rfl, rfl, rfl, rfl⟩ (fun k _ _ => key k (by omega)), xc_tC hn3 q5 ⟨rfl, rfl, rfl, rfl, rfl⟩ (fun k _ _ => key k (by omega)), xc_dC hn4 q6 ⟨rfl, rfl, rfl, rfl, rfl⟩ (fun k _ _ => key k (by omega)), xc_bC q7 ⟨rfl, rfl, rfl⟩ (fun k _ _ => key k (by omega))⟩, fun i hi => ?_, xd_Y h4 (fun k _ _ => key k (by omega)), h5⟩, hin⟩
  · by_cases e : i = j
    · subst e
      rw [pk_us, xd_sEs]
    · rw [key _ (by omega), ze_sE_ne e]
      exact q2.2 i hi
  · by_cases e : i = j
    · subst e
      exact ⟨p, hp, xd_sEs _ _ _ _⟩
    · rw [ze_sE_ne e]
      exact h3 i hi
theorem xd_resv (h : xd_I n A B E N t) {r d : Nat} (hr : r ≤ 999) (hd : d ≤ 9) : xd_I n (ze_sC (ze_sC A 28 (nI r)) 29 (nI d)) B E (upd (upd N 5 (nI r)) 6 (nI d)) t ∧ zf_isIn (nI r) 0 999 ∧ zf_isIn (nI d) 0 9 := by
  obtain ⟨hV, ⟨q1, q2, q3, q4, q5, q6, q7⟩, h3, ⟨y1, y2, y3, y4, y5⟩, h5⟩ := h
  obtain ⟨hn0, hn1, hn2, hn3, hn4⟩ := id hV.1
  have i0 : (0 : Int32) = nI 0 := rfl
  have i999 : (999 : Int32) = nI 999 := by decide
  have i9 : (9 : Int32) = nI 9 := by decide
  have key : ∀ k, k ≠ 5 → k ≠ 6 → upd (upd N 5 (nI r)) 6 (nI d) k = N k := fun k z z2 => by rw [xb_un z2, xb_un z]
  refine ⟨⟨zv_setDelay (zv_setReserve hV), ⟨xc_cC q1 (fun k _ => key k (by omega) (by omega)), ⟨⟨?_, pk_us, (key 7 (by omega) (by omega)).trans q2.1.2.2.1, (key 8 (by omega) (by omega)).trans q2.1.2.2.2.1, (key 9 (by omega) (by omega)).trans q2.1.2.2.2.2⟩, fun i hi => (key _ (by omega) (by omega)).trans (q2.2 i hi)⟩, xc_lC hn1 q3 ⟨rfl, rfl, rfl⟩ (fun k _ _ => key k (by omega) (by omega)), xc_gC hn2 q4 ⟨rfl, rfl, rfl, rfl, rfl, rfl, rfl, rfl⟩ (fun k _ _ => key k (by omega) (by omega)), xc_tC hn3 q5 ⟨rfl, rfl, rfl, rfl, rfl⟩ (fun k _ _ => key k (by omega) (by omega)), xc_dC hn4 q6 ⟨rfl, rfl, rfl, rfl, rfl⟩ (fun k _ _ => key k (by omega) (by omega)), xc_bC q7 ⟨rfl, rfl, rfl⟩ (fun k _ _ => key k (by omega) (by omega))⟩, h3, xd_Y (N := N) ⟨y1, ⟨d, hd, rfl⟩, ⟨r, hr, rfl⟩, y4, y5⟩ (fun k _ _ => key k (by omega) (by omega)), h5⟩, ⟨by rw [i0, nI_ltI (by omega) (by omega)]; omega, by rw [i999, nI_ltI (by omega) (by omega)]; omega⟩, ⟨by rw [i0, nI_ltI (by omega) (by omega)]; omega, by rw [i9, nI_ltI (by omega) (by omega)]; omega⟩⟩
  rw [xb_un (by omega), pk_us]
  rfl
theorem xd_rank (h : xd_I n A B E N t) {k y : Nat} (hk : k < n 4) (l1 : 1 ≤ y) (l2 : y ≤ 9) : xd_I n (ze_sE A 21 k (nI y)) B E (upd N (5 * k + 142) (nI y)) t ∧ zf_isIn (nI y) 1 9 := by
  obtain ⟨hV, ⟨q1, q2, q3, q4, q5, q6, q7⟩, h3, h4, h5⟩ := h
  obtain ⟨hn0, hn1, hn2, hn3, hn4⟩ := id hV.1
  have i1 : (1 : Int32) = nI 1 := by decide
  have i9 : (9 : Int32) = nI 9 := by decide
  have key : ∀ i, i ≠ 5 * k + 142 → upd N (5 * k + 142) (nI y) i = N i := fun i z => xb_un z
  refine ⟨⟨zv_setRank hV, ⟨xc_cC q1 (fun k _ => key k (by omega)), xc_pC q2 ⟨rfl, rfl, rfl, rfl, rfl, rfl⟩ (fun k _ _ => key k (by omega)), xc_lC hn1 q3 ⟨rfl, rfl, rfl⟩ (fun k _ _ => key k (by omega)), xc_gC hn2 q4 ⟨rfl, rfl, rfl, rfl, rfl, rfl, rfl, rfl⟩ (fun k _ _ => key k (by omega)), xc_tC hn3 q5 ⟨rfl, rfl, rfl, rfl, rfl⟩ (fun k _ _ => key k (by omega)), ⟨fun i hi => ?_, fun i hi => ?_⟩, xc_bC q7 ⟨rfl, rfl, rfl⟩ (fun k _ _ => key k (by omega))⟩, h3, xd_Y h4 (fun k _ _ => key k (by omega)), h5⟩, ⟨by rw [i1, nI_ltI (by omega) (by omega)]; omega, by rw [i9, nI_ltI (by omega) (by omega)]; omega⟩⟩
  · obtain ⟨s0, s1, s2⟩ := q6.1 i hi
    refine ⟨(key _ (by omega)).trans s0, (key _ (by omega)).trans s1, ?_⟩
    by_cases e : i = k
    · subst e
      rw [pk_us, xd_sEs]
    · rw [key _ (by omega), s2, ze_sE_ne e]
  · rw [key _ (by omega), key _ (by omega)]
    exact q6.2 i hi
theorem xd_pass (h : xd_I n A B E N t) (ht : t ≤ 200) {k : Nat} (hk : k ≤ 3) : xd_I n (zf_ctks n A B E k).1 (zf_ctks n A B E k).2.1 (zf_ctks n A B E k).2.2 (xa_tks n N k) (t + 3) := by
  have hK := xd_K h
  obtain ⟨hV, hR, h3, h4, h5⟩ := h
  obtain ⟨Z1, Z2⟩ := xc_tks hK h4 (by omega) (by omega) k (by omega)
  obtain ⟨hN, hS, hE, hz, h4', h4z, hT, hC, ⟨P, hKK⟩, hZ, hp⟩ := id hV
  obtain ⟨⟨i1, i2, i3⟩, iK⟩ := zh_tks (B := B) hN hE hKK k
  have e0 : (zf_tks n A B k).1 0 = A 0 := zf_tksfix n _ _ _ (by decide)
  have e9 : (zf_tks n A B k).1 9 = A 9 := zf_tksfix n _ _ _ (by decide)
  rw [i1, i2]
  exact ⟨zv_pass hV k (i3 0 (by decide)) (fun _ _ => rfl), Z1.2.2.2.2.2.2, by rw [e0]; exact h3, xc_Ym Z2 (by omega) (by omega), by rw [e9]; exact h5⟩
theorem xd_lits (h : xd_I n A B E N t) : ze_sum 0 (fun k => 1 - N (5 * k + 143)) (n 4) = zf_lits A (n 4) := by
  obtain ⟨hV, ⟨q1, q2, q3, q4, q5, q6, q7⟩, h3, h4, h5⟩ := h
  have hn4 := hV.1.2.2.2.2
  refine xc_sum (n 4) (fun k hk => ?_)
  show 1 - N (5 * k + 143) = if A 5 k = 0 then 1 else 0
  rw [(q6.2 k (by omega)).1]
  rcases (h4.1 k hk).1 with q | q <;> rw [q] <;> decide
/-! the script's cells -/
def xd_cell0 (xs : Nat → Int32) (L i : Nat) : Int32 := if i < L then 69069 * (xs i + nI (1009 * i)) + 12345 else nI (69690621 * i + 12345)
def xd_cell (xs : Nat → Int32) (L i : Nat) : Int32 :=
  (xd_cell0 xs L i ^^^ ((xd_cell0 xs L i).toUInt32 >>> ((13 : Int32).toUInt32 &&& Int32.toUInt32 31)).toInt32) * 1103515245 ^^^
  (((xd_cell0 xs L i ^^^ ((xd_cell0 xs L i).toUInt32 >>> ((13 : Int32).toUInt32 &&& Int32.toUInt32 31)).toInt32) * 1103515245).toUInt32 >>> ((16 : Int32).toUInt32 &&& Int32.toUInt32 31)).toInt32
def xd_in (xs : Nat → Int32) (L i k : Nat) : Nat := ((xd_cell xs L i).toBitVec.toNat % 2 ^ 31) % k
theorem xd_inlt {xs : Nat → Int32} {L i k : Nat} (hk : 0 < k) : xd_in xs L i k < k := Nat.mod_lt _ hk
theorem nx_and (a b : Nat) : nI a &&& nI b = nI (a &&& b) := by
  apply Int32.toBitVec_inj.1
  show BitVec.ofNat 32 a &&& BitVec.ofNat 32 b = BitVec.ofNat 32 (a &&& b)
  apply BitVec.eq_of_getLsbD_eq
  intro i hi
  simp [hi]
theorem xd_msk (x : Int32) : x &&& 2147483647 = nI (x.toBitVec.toNat % 2 ^ 31) := by
  have e : x = nI x.toBitVec.toNat := Int32.toBitVec_inj.mp (by show _ = BitVec.ofNat 32 _; simp)
  have e2 : (2147483647 : Int32) = nI (2 ^ 31 - 1) := by decide
  have e3 : x &&& 2147483647 = nI x.toBitVec.toNat &&& nI (2 ^ 31 - 1) := by rw [e2, ← e]
  rw [e3, nx_and, Nat.and_two_pow_sub_one_eq_mod]
theorem xd_rem {xs : Nat → Int32} {L i k : Nat} (hk : 0 < k) (hk2 : k < 2 ^ 31) : (xd_cell xs L i &&& 2147483647) - (xd_cell xs L i &&& 2147483647) / nI k * nI k = nI (xd_in xs L i k) := by
  rw [xd_msk]
  generalize hm : (xd_cell xs L i).toBitVec.toNat % 2 ^ 31 = a
  have ha : a < 2 ^ 31 := by rw [← hm]; exact Nat.mod_lt _ (by decide)
  have hd := Nat.div_mul_le_self a k
  rw [zn_divN ha hk2 hk, nI_mulN, zn_sub hd ha]
  unfold xd_in
  rw [hm]
  congr 1
  have := Nat.div_add_mod a k
  rw [Nat.mul_comm] at this
  omega
end XD2
