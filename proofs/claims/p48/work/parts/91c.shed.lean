/-! ===== what a change of the net leaves as it is; the shedding ===== -/
section XC3
variable {n : Nat → Nat} {A A2 : Nat → Nat → Int32} {B B2 : Nat → Int64} {N N2 : Nat → Int32}
theorem xc_cC (h : xc_c n N) (e : ∀ k, k < 5 → N2 k = N k) : xc_c n N2 := by
  obtain ⟨h0, h1, h2, h3, h4⟩ := h
  exact ⟨(e 0 (by omega)).trans h0, (e 1 (by omega)).trans h1, (e 2 (by omega)).trans h2, (e 3 (by omega)).trans h3, (e 4 (by omega)).trans h4⟩
theorem xc_pC (h : xc_p A N) (r : A2 28 0 = A 28 0 ∧ A2 29 0 = A 29 0 ∧ A2 30 0 = A 30 0 ∧ A2 38 0 = A 38 0 ∧ A2 31 0 = A 31 0 ∧ A2 0 = A 0) (e : ∀ k, 5 ≤ k → k < 16 → N2 k = N k) : xc_p A2 N2 := by
  obtain ⟨⟨h0, h1, h2, h3, h4⟩, h5⟩ := h
  obtain ⟨r0, r1, r2, r3, r4, r5⟩ := r
  refine ⟨⟨?_, ?_, ?_, ?_, ?_⟩, fun i hi => ?_⟩
  · rw [r0, e 5 (by omega) (by omega), h0]
  · rw [r1, e 6 (by omega) (by omega), h1]
  · rw [r2, e 7 (by omega) (by omega), h2]
  · rw [r3, e 8 (by omega) (by omega), h3]
  · rw [r4, e 9 (by omega) (by omega), h4]
  · rw [r5, e (i + 10) (by omega) (by omega), h5 i hi]
theorem xc_lC (h8 : n 1 ≤ 8) (h : xc_l n A N) (r : A2 2 = A 2 ∧ A2 3 = A 3 ∧ A2 4 = A 4) (e : ∀ k, 20 ≤ k → k < 44 → N2 k = N k) : xc_l n A2 N2 := by
  obtain ⟨h0, h1⟩ := h
  obtain ⟨r0, r1, r2⟩ := r
  refine ⟨fun i hi => ?_, fun i hi => ?_⟩
  · rw [r0, r1, e _ (by omega) (by omega), e _ (by omega) (by omega)]
    exact h0 i hi
  · rw [r2, e _ (by omega) (by omega)]
    exact h1 i hi
theorem xc_gC (h6 : n 2 ≤ 6) (h : xc_g n A N) (r : A2 6 = A 6 ∧ A2 7 = A 7 ∧ A2 8 = A 8 ∧ A2 9 = A 9 ∧ A2 10 = A 10 ∧ A2 13 = A 13 ∧ A2 11 = A 11 ∧ A2 12 = A 12) (e : ∀ k, 50 ≤ k → k < 104 → N2 k = N k) : xc_g n A2 N2 := by
  obtain ⟨h0, h1, h2⟩ := h
  obtain ⟨r0, r1, r2, r3, r4, r5, r6, r7⟩ := r
  refine ⟨fun g hg => ?_, fun g hg => ?_, fun g hg q => ?_⟩
  · rw [r0, r1, r2, r3, r4, r5, e _ (by omega) (by omega), e _ (by omega) (by omega), e _ (by omega) (by omega), e _ (by omega) (by omega), e _ (by omega) (by omega), e _ (by omega) (by omega)]
    exact h0 g hg
  · rw [r6, r7, e _ (by omega) (by omega), e _ (by omega) (by omega)]
    exact h1 g hg
  · rw [e _ (by omega) (by omega)]
    exact h2 g hg q
theorem xc_tC (h4 : n 3 ≤ 4) (h : xc_t n A N) (r : A2 14 = A 14 ∧ A2 15 = A 15 ∧ A2 16 = A 16 ∧ A2 17 = A 17 ∧ A2 18 = A 18) (e : ∀ k, 110 ≤ k → k < 134 → N2 k = N k) : xc_t n A2 N2 := by
  obtain ⟨h0, h1⟩ := h
  obtain ⟨r0, r1, r2, r3, r4⟩ := r
  refine ⟨fun k hk => ?_, fun k hk => ?_⟩
  · rw [r0, r1, r2, e _ (by omega) (by omega), e _ (by omega) (by omega), e _ (by omega) (by omega)]
    exact h0 k hk
  · rw [r3, r4, e _ (by omega) (by omega), e _ (by omega) (by omega)]
    exact h1 k hk
theorem xc_dC (h10 : n 4 ≤ 10) (h : xc_d n A N) (r : A2 19 = A 19 ∧ A2 20 = A 20 ∧ A2 21 = A 21 ∧ A2 5 = A 5 ∧ A2 22 = A 22) (e : ∀ k, 140 ≤ k → k < 190 → N2 k = N k) : xc_d n A2 N2 := by
  obtain ⟨h0, h1⟩ := h
  obtain ⟨r0, r1, r2, r3, r4⟩ := r
  refine ⟨fun k hk => ?_, fun k hk => ?_⟩
  · rw [r0, r1, r2, e _ (by omega) (by omega), e _ (by omega) (by omega), e _ (by omega) (by omega)]
    exact h0 k hk
  · rw [r3, r4, e _ (by omega) (by omega), e _ (by omega) (by omega)]
    exact h1 k hk
theorem xc_bC (h : xc_b B N) (r : B2 33 = B 33 ∧ B2 34 = B 34 ∧ B2 35 = B 35) (e : ∀ k, 200 ≤ k → k < 203 → N2 k = N k) : xc_b B2 N2 := by
  obtain ⟨h0, h1, h2⟩ := h
  obtain ⟨r0, r1, r2⟩ := r
  exact ⟨by rw [r0, e _ (by omega) (by omega), h0], by rw [r1, e _ (by omega) (by omega), h1], by rw [r2, e _ (by omega) (by omega), h2]⟩
end XC3
/-- the ranges that a tick needs and keeps -/
def xc_Y (n : Nat → Nat) (A : Nat → Nat → Int32) (N : Nat → Int32) (f c : Nat) : Prop := (∀ k, k < n 4 → (A 5 k = 0 ∨ A 5 k = 1) ∧ ∃ w : Nat, w ≤ 9 ∧ A 22 k = nI w) ∧ (∃ d : Nat, d ≤ 9 ∧ A 29 0 = nI d) ∧ (∃ r : Nat, r ≤ 999 ∧ A 28 0 = nI r) ∧ (∀ g, g < n 2 → ∃ x : Nat, x ≤ f ∧ A 10 g = nI x) ∧ (∃ x : Nat, x ≤ c ∧ N 200 = nI x) ∧ (∃ x : Nat, x ≤ c ∧ N 201 = nI x) ∧ ∃ x : Nat, x ≤ c ∧ N 202 = nI x
theorem xc_mx0 {w : Nat} (hw : w ≤ 9) : ze_mx 0 (nI w - 1) = (if nI w = 0 then 0 else nI w - 1) ∧ ze_mx 0 (nI w - 0) = nI w ∧ (nI w ≤ 0 ↔ nI w = 0) := by
  have key : ∀ w : Fin 10, ze_mx 0 (nI w.val - 1) = (if nI w.val = 0 then 0 else nI w.val - 1) ∧ ze_mx 0 (nI w.val - 0) = nI w.val ∧ (nI w.val ≤ 0 ↔ nI w.val = 0) := by decide +kernel
  exact key ⟨w, by omega⟩
section XC4
variable {n : Nat → Nat} {A : Nat → Nat → Int32} {B : Nat → Int64} {N : Nat → Int32}
theorem xc_Ks (h : xc_K n A B N) {m : Int32} {i : Nat} {N2 : Nat → Int32} (hR : xc_R n (zf_shed n A (zf_CI n A) m i) B N2) : xc_K n (zf_shed n A (zf_CI n A) m i) B N2 := by
  obtain ⟨hN, hS, h4, hT, hC, ⟨P, hK⟩, -⟩ := h
  exact ⟨hN, zf_Scong rfl rfl rfl rfl rfl hS, h4, hT, hC, ⟨P, zh_Ks _ _ _ hK⟩, hR⟩
theorem xc_sCI (n : Nat → Nat) (A : Nat → Nat → Int32) (m : Int32) (i : Nat) : zf_CI n (zf_shed n A (zf_CI n A) m i) = zf_CI n A := zf_CIcong rfl rfl rfl
theorem xc_sd (h : xc_K n A B N) {m : Nat} (hm : m < 6) (hY1 : ∀ k, k < n 4 → (A 5 k = 0 ∨ A 5 k = 1) ∧ ∃ w : Nat, w ≤ 9 ∧ A 22 k = nI w) : ∀ i, i ≤ n 4 → xc_K n (zf_shed n A (zf_CI n A) (nI m) i) B (xa_sd n N m i) := by
  obtain ⟨hn0, hn1, hn2, hn3, hn4⟩ := id h.1
  intro i
  induction i with
  | zero =>
    intro _
    refine xc_Ks h ?_
    obtain ⟨q1, q2, q3, q4, q5, q6, q7⟩ := h.2.2.2.2.2.2
    refine ⟨q1, xc_pC q2 ⟨rfl, rfl, rfl, rfl, rfl, rfl⟩ (fun _ _ _ => rfl), xc_lC hn1 q3 ⟨rfl, rfl, rfl⟩ (fun _ _ _ => rfl), xc_gC hn2 q4 ⟨rfl, rfl, rfl, rfl, rfl, rfl, rfl, rfl⟩ (fun _ _ _ => rfl), xc_tC hn3 q5 ⟨rfl, rfl, rfl, rfl, rfl⟩ (fun _ _ _ => rfl), xc_dC hn4 q6 ⟨rfl, rfl, rfl, ?_, ?_⟩ (fun _ _ _ => rfl), q7⟩
    · exact ze_up_0 (zf_sD n A (zf_CI n A) (nI m)) (A 5)
    · exact ze_up_0 (zf_sW n A (zf_CI n A) (nI m)) (A 22)
  | succ i ih =>
    intro hi
    have hk := ih (by omega)
    refine xc_Ks h ?_
    have hcond := xc_is hk (xc_ix hk (hk.2.1.2.2.2 i (by omega))) hm
    have hkp := xc_kp hk (o := i) (by omega)
    rw [xc_sCI] at hcond hkp
    have hkp : xa_kp n (xa_sd n N m i) i ↔ zf_keeps n A (zf_CI n A) i := hkp
    have hcond : xa_isl (xa_sd n N m i) (n 1) (ze_ix (A 19 i)) = m ↔ zf_CI n A (ze_ix (A 19 i)) = nI m := hcond
    obtain ⟨-, -, -, -, -, -, q1, q2, q3, q4, q5, q6, q7⟩ := hk
    obtain ⟨d1, d2⟩ := id q6
    obtain ⟨e19, -, -⟩ := d1 i (by omega)
    obtain ⟨e5, e22⟩ := d2 i (by omega)
    have e19 : xa_sd n N m i (5 * i + 140) = A 19 i := e19
    have e5 : xa_sd n N m i (5 * i + 143) = A 5 i := e5.trans (ze_up_at _ _ _)
    have e22 : xa_sd n N m i (5 * i + 144) = A 22 i := e22.trans (ze_up_at _ _ _)
    have e6 : xa_sd n N m i 6 = A 29 0 := q2.1.2.1
    obtain ⟨hb, w, hw, ew⟩ := hY1 i (by omega)
    obtain ⟨m1, m2, m3⟩ := xc_mx0 hw
    by_cases c : zf_CI n A (ze_ix (A 19 i)) = nI m
    · have hv1 : xa_d1 n (xa_sd n N m i) i = zf_sD n A (zf_CI n A) (nI m) i := by
        unfold xa_d1 zf_sD
        rw [if_pos c, e5, e22]
        by_cases kq : zf_keeps n A (zf_CI n A) i
        · have kq2 := hkp.mpr kq
          rcases hb with q | q
          · rw [if_neg (fun z => z.elim (fun z => z kq2) (fun z => by rw [q] at z; exact absurd z.1 (by decide))), if_neg (fun z => z kq), if_neg (fun z => z.1 q), q]
          · rw [q, ew]
            by_cases wz : nI w = 0
            · rw [if_neg (fun z => z.elim (fun z => z kq2) (fun z => z.2 (m3.mpr wz))), if_neg (fun z => z kq), if_pos ⟨by decide, wz⟩]
            · rw [if_pos (Or.inr ⟨rfl, fun z => wz (m3.mp z)⟩), if_neg (fun z => z kq), if_neg (fun z => wz z.2)]
        · rw [if_pos (Or.inl (fun z => kq (hkp.mp z))), if_pos kq]
      have hv2 : xa_w1 n (xa_sd n N m i) i = zf_sW n A (zf_CI n A) (nI m) i := by
        unfold xa_w1 zf_sW
        rw [if_pos c, e5, e22, e6]
        by_cases kq : zf_keeps n A (zf_CI n A) i
        · rw [if_pos (hkp.mpr kq), if_neg (fun z => z kq)]
          rcases hb with q | q
          · have e0 : ze_b (A 5 i = 1) = 0 := by
              unfold ze_b
              rw [if_neg (by rw [q]; decide)]
            rw [e0, ew, m2, if_neg (fun z => z.1 q)]
          · have e0 : ze_b (A 5 i = 1) = 1 := by
              unfold ze_b
              rw [if_pos q]
            rw [e0, ew, m1]
            by_cases wz : nI w = 0
            · rw [if_pos wz, if_neg (fun z => z.2 wz), wz]
            · rw [if_neg wz, if_pos ⟨by rw [q]; decide, wz⟩]
        · rw [if_neg (fun z => kq (hkp.mp z)), if_pos kq]
      have eN : xa_sd n N m (i + 1) = upd (upd (xa_sd n N m i) (5 * i + 143) (zf_sD n A (zf_CI n A) (nI m) i)) (5 * i + 144) (zf_sW n A (zf_CI n A) (nI m) i) := by
        simp only [xa_sd]
        rw [e19, if_pos (hcond.mpr c), hv1, hv2]
      have key : ∀ k, k ≠ 5 * i + 143 → k ≠ 5 * i + 144 → xa_sd n N m (i + 1) k = xa_sd n N m i k := fun k z1 z2 => by rw [eN, xb_un z2, xb_un z1]
      refine ⟨xc_cC q1 (fun k _ => key k (by omega) (by omega)), xc_pC q2 ⟨rfl, rfl, rfl, rfl, rfl, rfl⟩ (fun k _ _ => key k (by omega) (by omega)), xc_lC hn1 q3 ⟨rfl, rfl, rfl⟩ (fun k _ _ => key k (by omega) (by omega)), xc_gC hn2 q4 ⟨rfl, rfl, rfl, rfl, rfl, rfl, rfl, rfl⟩ (fun k _ _ => key k (by omega) (by omega)), xc_tC hn3 q5 ⟨rfl, rfl, rfl, rfl, rfl⟩ (fun k _ _ => key k (by omega) (by omega)), ⟨fun k z => ?_, fun k z => ?_⟩, xc_bC q7 ⟨rfl, rfl, rfl⟩ (fun k _ _ => key k (by omega) (by omega))⟩
      · rw [key _ (by omega) (by omega), key _ (by omega) (by omega), key _ (by omega) (by omega)]
        exact d1 k z
      · by_cases kk : k = i
        · subst kk
          refine ⟨?_, ?_⟩
          · rw [eN, xb_un (by omega), pk_us]
            show _ = ze_up (zf_sD n A (zf_CI n A) (nI m)) (A 5) (k + 1) k
            simp [ze_up]
          · rw [eN, pk_us]
            show _ = ze_up (zf_sW n A (zf_CI n A) (nI m)) (A 22) (k + 1) k
            simp [ze_up]
        · rw [key _ (by omega) (by omega), key _ (by omega) (by omega)]
          obtain ⟨z1, z2⟩ := d2 k z
          refine ⟨z1.trans ?_, z2.trans ?_⟩
          · show ze_up _ (A 5) i k = ze_up _ (A 5) (i + 1) k
            unfold ze_up
            exact xc_ifc (by omega) rfl rfl
          · show ze_up _ (A 22) i k = ze_up _ (A 22) (i + 1) k
            unfold ze_up
            exact xc_ifc (by omega) rfl rfl
    · have eN : xa_sd n N m (i + 1) = xa_sd n N m i := by
        simp only [xa_sd]
        rw [e19, if_neg (fun z => c (hcond.mp z))]
      rw [eN]
      have e1 : ze_up (zf_sD n A (zf_CI n A) (nI m)) (A 5) i = ze_up (zf_sD n A (zf_CI n A) (nI m)) (A 5) (i + 1) := ze_up_k (by unfold zf_sD; rw [if_neg c])
      have e2 : ze_up (zf_sW n A (zf_CI n A) (nI m)) (A 22) i = ze_up (zf_sW n A (zf_CI n A) (nI m)) (A 22) (i + 1) := ze_up_k (by unfold zf_sW; rw [if_neg c])
      have eA : zf_shed n A (zf_CI n A) (nI m) (i + 1) = zf_shed n A (zf_CI n A) (nI m) i := by
        unfold zf_shed
        rw [e1, e2]
      rw [eA]
      exact ⟨q1, q2, q3, q4, q5, q6, q7⟩
/-- the ranges behind the shedding -/
theorem xc_sY (hY : (∀ k, k < n 4 → (A 5 k = 0 ∨ A 5 k = 1) ∧ ∃ w : Nat, w ≤ 9 ∧ A 22 k = nI w) ∧ ∃ d : Nat, d ≤ 9 ∧ A 29 0 = nI d) (io : Nat → Int32) (m : Int32) : ∀ k, k < n 4 → (zf_shed n A io m (n 4) 5 k = 0 ∨ zf_shed n A io m (n 4) 5 k = 1) ∧ ∃ w : Nat, w ≤ 9 ∧ zf_shed n A io m (n 4) 22 k = nI w := by
  intro k hk
  obtain ⟨h1, d, hd, ed⟩ := hY
  obtain ⟨hb, w, hw, ew⟩ := h1 k hk
  have e5 : zf_shed n A io m (n 4) 5 k = zf_sD n A io m k := by
    show ze_up (zf_sD n A io m) (A 5) (n 4) k = _
    unfold ze_up
    rw [if_pos hk]
  have e22 : zf_shed n A io m (n 4) 22 k = zf_sW n A io m k := by
    show ze_up (zf_sW n A io m) (A 22) (n 4) k = _
    unfold ze_up
    rw [if_pos hk]
  rw [e5, e22]
  unfold zf_sD zf_sW
  refine ⟨?_, ?_⟩
  · split
    · split
      · exact Or.inr rfl
      · split
        · exact Or.inl rfl
        · exact hb
    · exact hb
  · split
    · split
      · exact ⟨d, hd, ed⟩
      · split
        · rename_i q
          rw [ew] at q ⊢
          cases w with
          | zero => exact absurd rfl q.2
          | succ w => exact ⟨w, by omega, nI_pred w⟩
        · exact ⟨w, hw, ew⟩
    · exact ⟨w, hw, ew⟩
/-! what is lit lies within the bound -/
theorem xc_ahT (A : Nat → Nat → Int32) (k o : Nat) : (A 21 k < A 21 o ∨ A 21 k = A 21 o ∧ k < o) ∨ k = o ∨ (A 21 o < A 21 k ∨ A 21 o = A 21 k ∧ o < k) := by
  rw [Int32.lt_iff_toInt_lt, Int32.lt_iff_toInt_lt, ← Int32.toInt_inj, ← Int32.toInt_inj]
  omega
theorem xc_ahR {A : Nat → Nat → Int32} {i j k : Nat} (h : A 21 i < A 21 j ∨ A 21 i = A 21 j ∧ i < j) (h2 : A 21 j < A 21 k ∨ A 21 j = A 21 k ∧ j < k) : A 21 i < A 21 k ∨ A 21 i = A 21 k ∧ i < k := by
  rw [Int32.lt_iff_toInt_lt, ← Int32.toInt_inj] at h h2 ⊢
  omega
end XC4
