/-! ===== the balance: what generators give, what stores move ===== -/
theorem xc_or_b {a b c : Nat} (h : a ≤ b) (h2 : b ≤ c) : a ≤ c := Nat.le_trans h h2
theorem xc_nsum {f : Nat → Int32} {F : Nat → Nat} : ∀ N : Nat, (∀ k, k < N → f k = nI (F k)) → ze_sum 0 f N = nI (zn_sum F N) := by
  intro N
  induction N with
  | zero => exact fun _ => rfl
  | succ N ih =>
    intro h
    show ze_sum 0 f N + f N = nI (zn_sum F N + F N)
    rw [ih (fun k hk => h k (by omega)), h N (by omega), nI_add]
theorem xc_nle {F G : Nat → Nat} : ∀ N : Nat, (∀ k, k < N → F k ≤ G k) → zn_sum F N ≤ zn_sum G N := by
  intro N
  induction N with
  | zero => exact fun _ => Nat.le_refl _
  | succ N ih =>
    intro h
    show zn_sum F N + F N ≤ zn_sum G N + G N
    have h1 := ih (fun k hk => h k (by omega))
    have h2 := h N (by omega)
    omega
theorem xc_nadd (F G : Nat → Nat) : ∀ N : Nat, zn_sum (fun k => F k + G k) N = zn_sum F N + zn_sum G N := by
  intro N
  induction N with
  | zero => rfl
  | succ N ih =>
    show zn_sum (fun k => F k + G k) N + (F N + G N) = zn_sum F N + F N + (zn_sum G N + G N)
    rw [ih]
    omega
theorem xc_n1 (F : Nat → Nat) (M : Nat) : ∀ N : Nat, zn_sum (fun k => if k = M then F M else 0) N = if M < N then F M else 0 := by
  intro N
  induction N with
  | zero => rw [if_neg (Nat.not_lt_zero _)]; rfl
  | succ N ih =>
    show zn_sum (fun k => if k = M then F M else 0) N + (if N = M then F M else 0) = _
    rw [ih]
    by_cases h1 : M < N
    · rw [if_pos h1, if_neg (by omega), if_pos (by omega)]
      rfl
    · by_cases h2 : N = M
      · rw [if_neg h1, if_pos h2, if_pos (by omega), Nat.zero_add]
      · rw [if_neg h1, if_neg h2, if_neg (by omega)]
section XC5
variable {n : Nat → Nat} {A : Nat → Nat → Int32} {io : Nat → Int32} {m : Int32} {P : Nat → Nat}
/-- the last of the loads that are kept -/
theorem xc_last (Kp : Nat → Prop) : ∀ N : Nat, (∀ k, k < N → ¬ Kp k) ∨ ∃ M, M < N ∧ Kp M ∧ ∀ k, k < N → Kp k → k = M ∨ (A 21 k < A 21 M ∨ A 21 k = A 21 M ∧ k < M) := by
  intro N
  induction N with
  | zero => exact Or.inl (fun k h => absurd h (Nat.not_lt_zero _))
  | succ N ih =>
    by_cases hN : Kp N
    · refine Or.inr ?_
      rcases ih with h | ⟨M, hM, hK, h⟩
      · refine ⟨N, by omega, hN, fun k hk hp => ?_⟩
        by_cases e : k = N
        · exact Or.inl e
        · exact absurd hp (h k (by omega))
      · rcases xc_ahT A N M with q | q | q
        · refine ⟨M, by omega, hK, fun k hk hp => ?_⟩
          by_cases e : k = N
          · exact Or.inr (e ▸ q)
          · exact h k (by omega) hp
        · omega
        · refine ⟨N, by omega, hN, fun k hk hp => ?_⟩
          by_cases e : k = N
          · exact Or.inl e
          · refine Or.inr ?_
            rcases h k (by omega) hp with z | z
            · exact z ▸ q
            · exact xc_ahR z q
    · rcases ih with h | ⟨M, hM, hK, h⟩
      · refine Or.inl (fun k hk => ?_)
        by_cases e : k = N
        · exact e ▸ hN
        · exact h k (by omega)
      · refine Or.inr ⟨M, by omega, hK, fun k hk hp => ?_⟩
        by_cases e : k = N
        · exact absurd (e ▸ hp) hN
        · exact h k (by omega) hp
theorem xc_lit (hP : zg_RL (n 4) A P) (A1 : Nat → Nat → Int32) (h5 : ∀ k, k < n 4 → io (ze_ix (A 19 k)) = m → A1 5 k = 0 → zf_keeps n A io k) (hnt : ¬ zf_tied A m) {b d : Nat} (hb : zf_bounded n A io m = nI b) (hb2 : b < 2 ^ 31) (e19 : A1 19 = A 19) (e20 : A1 20 = A 20) (hd : zf_demanded A1 io m (n 4) = nI d) (hd2 : d < 2 ^ 31) (hn4 : n 4 ≤ 10) : d ≤ b := by
  have hD := xc_nsum (f := fun k => if io (ze_ix (A1 19 k)) = m ∧ A1 5 k = 0 then A1 20 k else 0) (F := fun k => if io (ze_ix (A 19 k)) = m ∧ A1 5 k = 0 then P k else 0) (n 4) (fun k hk => by
    simp only [e19, e20]
    split
    · exact (hP k hk).1
    · rfl)
  have hD2 : zn_sum (fun k => if io (ze_ix (A 19 k)) = m ∧ A1 5 k = 0 then P k else 0) (n 4) ≤ 200 * n 4 := zn_sumle (fun o ho => by
    have := (hP o ho).2
    split <;> omega)
  have ed : nI d = nI (zn_sum (fun k => if io (ze_ix (A 19 k)) = m ∧ A1 5 k = 0 then P k else 0) (n 4)) := hd.symm.trans hD
  rw [nI_eq hd2 (by omega)] at ed
  rcases xc_last (A := A) (fun k => io (ze_ix (A 19 k)) = m ∧ A1 5 k = 0) (n 4) with h | ⟨M, hM, ⟨hM1, hM2⟩, h⟩
  · have z : zn_sum (fun k => if io (ze_ix (A 19 k)) = m ∧ A1 5 k = 0 then P k else 0) (n 4) ≤ zn_sum (fun _ => 0) (n 4) := xc_nle (n 4) (fun k hk => by
      rw [if_neg (h k hk)]
      exact Nat.le_refl _)
    rw [zn_sum0] at z
    omega
  · have hk := (h5 M hM hM1 hM2).resolve_left (by rw [hM1]; exact hnt)
    rw [hM1, hb] at hk
    have hU := xc_nsum (f := fun k => if zf_ahead A io k M then A 20 k else 0) (F := fun k => if zf_ahead A io k M then P k else 0) (n 4) (fun k hk => by
      show (if zf_ahead A io k M then A 20 k else 0) = nI (if zf_ahead A io k M then P k else 0)
      split
      · exact (hP k hk).1
      · rfl)
    have hU2 : zn_sum (fun k => if zf_ahead A io k M then P k else 0) (n 4) ≤ 200 * n 4 := zn_sumle (fun o ho => by
      have := (hP o ho).2
      split <;> omega)
    have eU : zf_upTo A io M (n 4) = nI (P M + zn_sum (fun k => if zf_ahead A io k M then P k else 0) (n 4)) := by
      unfold zf_upTo
      rw [ze_sumx, (hP M hM).1, hU, nI_add]
    have hPM := (hP M hM).2
    rw [eU, nI_ltI hb2 (by omega)] at hk
    have z : zn_sum (fun k => if io (ze_ix (A 19 k)) = m ∧ A1 5 k = 0 then P k else 0) (n 4) ≤ zn_sum (fun k => (if k = M then P M else 0) + (if zf_ahead A io k M then P k else 0)) (n 4) := xc_nle (n 4) (fun k hk => by
      by_cases c : io (ze_ix (A 19 k)) = m ∧ A1 5 k = 0
      · rw [if_pos c]
        rcases h k hk c with e | e
        · subst e
          rw [if_pos rfl]
          omega
        · have a1 : zf_ahead A io k M := ⟨c.1.trans hM1.symm, e⟩
          rw [if_pos a1]
          omega
      · rw [if_neg c]
        omega)
    rw [xc_nadd, xc_n1, if_pos hM] at z
    omega
/-- what the generators give, in all -/
theorem xc_gsum (h : zg_R (n 2) A) (t : Int32) : ∀ i, i ≤ n 2 → ze_sum 0 (fun g => if zf_runs A io g m then (zf_gives n A io m t).2 g else 0) i = zf_gs A io m i + nI (zn_sum (zg_T n A io m t) i) := by
  intro i
  induction i with
  | zero => exact fun _ => rfl
  | succ i ih =>
    intro hi
    show ze_sum 0 _ i + (if zf_runs A io i m then (zf_gives n A io m t).2 i else 0) = (zf_gs A io m i + (if zf_runs A io i m then A 7 i else 0)) + nI (zn_sum (zg_T n A io m t) i + zg_T n A io m t i)
    rw [ih (by omega), ← nI_add]
    by_cases q : zf_runs A io i m
    · rw [if_pos q, if_pos q, zg_gv h (by omega), if_pos q, Int32.add_assoc, Int32.add_assoc, ← Int32.add_assoc (nI _) (A 7 i), Int32.add_comm (nI _) (A 7 i), Int32.add_assoc]
    · have hT := zg_Tle (n := n) (A := A) (io := io) (m := m) (t := t) (g := i) (by omega)
      have hS : zg_S A io m i = 0 := by
        unfold zg_S
        rw [if_neg q]
      have e0 : zg_T n A io m t i = 0 := by omega
      rw [if_neg q, if_neg q, e0]
      show _ + 0 = _ + 0 + (_ + 0)
      rw [Int32.add_zero, Int32.add_zero, Int32.add_zero]
theorem xc_made (h : zg_R (n 2) A) (t : Int32) : (zf_gives n A io m t).1 = ze_sum 0 (fun g => if zf_runs A io g m then (zf_gives n A io m t).2 g else 0) (n 2) := by
  rw [xc_gsum h t (n 2) (Nat.le_refl _)]
  exact (zg_givesE h).2
/-- where they give less than is wanted they give all they can -/
theorem xc_full2 (hN : zf_N n) (h : zg_R (n 2) A) {d q sG : Nat} (hd : d < 2 ^ 30) (hq : (zf_gives n A io m (nI d)).1 = nI q) (hq2 : q ≤ 1800) (hlt : q < d) (hG : zf_supG A io m 0 (n 2) = nI sG) (hG2 : sG < 2 ^ 31) : sG ≤ q := by
  obtain ⟨h0, h1, h2, h3, h4⟩ := id hN
  obtain ⟨z, ez, lz⟩ := zh_gs (io := io) (m := m) hN h
  have e1 := (zg_givesE (io := io) (m := m) (t := nI d) h).2
  have hsT : zn_sum (zg_T n A io m (nI d)) (n 2) ≤ 200 * n 2 := zn_sumle (fun o ho => Nat.le_trans (zg_Tle ho) (zg_SE h ho).2)
  rw [hq, ez, nI_add, nI_eq (by omega) (by omega)] at e1
  have hfu : zf_fu (zf_gs A io m (n 2)) (nI d) = d - z := by
    unfold zf_fu
    rw [ez, nI_toInt (by omega), nI_toInt (by omega)]
    omega
  have hT := (zn_tlD (S := zg_S A io m) (N := n 2) (zf_fu (zf_gs A io m (n 2)) (nI d)) (fun _ => 0) (zn_D0 _ _)).2
  rw [zn_sum0, hfu] at hT
  have eT : zn_tl (zg_S A io m) (n 2) (d - z) (fun _ => 0) = zg_T n A io m (nI d) := by
    unfold zg_T
    rw [hfu]
  rw [eT] at hT
  have hfull : ∀ g, g < n 2 → zg_T n A io m (nI d) g = zg_S A io m g := by
    rcases hT with q1 | ⟨-, q1⟩
    · omega
    · exact q1
  have eS : zn_sum (zg_T n A io m (nI d)) (n 2) = zn_sum (zg_S A io m) (n 2) := Nat.le_antisymm (xc_nle (n 2) (fun k hk => by rw [hfull k hk]; exact Nat.le_refl _)) (xc_nle (n 2) (fun k hk => by rw [hfull k hk]; exact Nat.le_refl _))
  have k1 := xc_nsum (f := fun g => if zf_runs A io g m then ze_mn (A 8 g) (A 10 g) else 0) (F := fun g => if zf_runs A io g m then (zf_can A g).toNatClampNeg else 0) (n 2) (fun g hg => by
    obtain ⟨le, c, e7, ec, -, l2⟩ := zg_can h hg
    show (if zf_runs A io g m then zf_can A g else 0) = nI (if zf_runs A io g m then (zf_can A g).toNatClampNeg else 0)
    split
    · rw [ec, nI_clamp (by omega)]
    · rfl)
  have k1b : zn_sum (fun g => if zf_runs A io g m then (zf_can A g).toNatClampNeg else 0) (n 2) ≤ 200 * n 2 := zn_sumle (fun g hg => by
    obtain ⟨le, c, e7, ec, -, l2⟩ := zg_can h hg
    show (if zf_runs A io g m then (zf_can A g).toNatClampNeg else 0) ≤ 200
    split
    · rw [ec, nI_clamp (by omega)]
      exact l2
    · omega)
  have k2 := xc_nsum (f := fun g => if zf_runs A io g m then A 7 g else 0) (F := fun g => if zf_runs A io g m then (A 7 g).toNatClampNeg else 0) (n 2) (fun g hg => by
    obtain ⟨le, c, e7, ec, l1, l2⟩ := zg_can h hg
    show (if zf_runs A io g m then A 7 g else 0) = nI (if zf_runs A io g m then (A 7 g).toNatClampNeg else 0)
    split
    · rw [e7, nI_clamp (by omega)]
    · rfl)
  have k2b : zn_sum (fun g => if zf_runs A io g m then (A 7 g).toNatClampNeg else 0) (n 2) ≤ 100 * n 2 := zn_sumle (fun g hg => by
    obtain ⟨le, c, e7, ec, l1, l2⟩ := zg_can h hg
    show (if zf_runs A io g m then (A 7 g).toNatClampNeg else 0) ≤ 100
    split
    · rw [e7, nI_clamp (by omega)]
      exact l1
    · omega)
  have a1 : nI sG = nI (zn_sum (fun g => if zf_runs A io g m then (zf_can A g).toNatClampNeg else 0) (n 2)) := hG.symm.trans k1
  have a2 : nI z = nI (zn_sum (fun g => if zf_runs A io g m then (A 7 g).toNatClampNeg else 0) (n 2)) := ez.symm.trans k2
  rw [nI_eq hG2 (by omega)] at a1
  rw [nI_eq (by omega) (by omega)] at a2
  have k3 := xc_nle (F := fun g => if zf_runs A io g m then (zf_can A g).toNatClampNeg else 0) (G := fun g => (if zf_runs A io g m then (A 7 g).toNatClampNeg else 0) + zg_S A io m g) (n 2) (fun g hg => by
    show (if zf_runs A io g m then (zf_can A g).toNatClampNeg else 0) ≤ (if zf_runs A io g m then (A 7 g).toNatClampNeg else 0) + zg_S A io m g
    unfold zg_S
    split <;> omega)
  rw [xc_nadd] at k3
  omega
/-- what stores can't give of x -/
theorem xc_dcN (hT : zg_RT (n 3) A) {x : Nat} (hx : x < 2 ^ 30) : ∀ i, i ≤ n 3 → ∃ y z : Nat, zf_dc A io m (nI x) i = nI y ∧ zf_supT A io m 0 i = nI z ∧ y ≤ x ∧ z ≤ 99 * i ∧ x ≤ y + z ∧ (z < x → y + z = x) ∧ (x ≤ z → y = 0) := by
  intro i
  induction i with
  | zero => exact fun _ => ⟨x, 0, rfl, rfl, Nat.le_refl _, Nat.zero_le _, by omega, fun _ => rfl, fun h => by omega⟩
  | succ i ih =>
    intro hi
    obtain ⟨y, z, e1, e2, l1, l2, l3, l4, l5⟩ := ih (by omega)
    obtain ⟨u, v, e3, e4, b1, b2⟩ := zg_RTs hT (k := i) (by omega)
    by_cases c : io (ze_ix (A 14 i)) = m
    · have f1 : zf_dc A io m (nI x) (i + 1) = nI (y - min y u) := by
        simp only [zf_dc]
        rw [if_pos c, e1, e3, zf_mnN (by omega) (by omega), zn_sub (by omega) (by omega)]
      have f2 : zf_supT A io m 0 (i + 1) = nI (z + u) := by
        show zf_supT A io m 0 i + (if io (ze_ix (A 14 i)) = m then ze_mn (A 16 i) (A 17 i) else 0) = _
        rw [if_pos c, e2, e3, nI_add]
      exact ⟨y - min y u, z + u, f1, f2, by omega, by omega, by omega, fun h => by omega, fun h => by omega⟩
    · have f1 : zf_dc A io m (nI x) (i + 1) = nI y := by
        simp only [zf_dc]
        rw [if_neg c, e1]
      have f2 : zf_supT A io m 0 (i + 1) = nI z := by
        show zf_supT A io m 0 i + (if io (ze_ix (A 14 i)) = m then ze_mn (A 16 i) (A 17 i) else 0) = _
        rw [if_neg c, e2, Int32.add_zero]
      exact ⟨y, z, f1, f2, l1, by omega, l3, l4, l5⟩
theorem xc_ccN (hT : zg_RT (n 3) A) {x : Nat} (hx : x < 2 ^ 30) : ∀ i, i ≤ n 3 → ∃ y : Nat, zf_cc A io m (nI x) i = nI y ∧ y ≤ x := by
  intro i
  induction i with
  | zero => exact fun _ => ⟨x, rfl, Nat.le_refl _⟩
  | succ i ih =>
    intro hi
    obtain ⟨y, e1, l1⟩ := ih (by omega)
    obtain ⟨u, v, e3, e4, b1, b2⟩ := zg_RTs hT (k := i) (by omega)
    simp only [zf_cc]
    split
    · rw [e1, e4, zf_mnN (by omega) (by omega), zn_sub (by omega) (by omega)]
      exact ⟨_, rfl, by omega⟩
    · exact ⟨y, e1, l1⟩
end XC5
