/-! ===== each change of the state keeps what the law's loop stands on ===== -/
abbrev xd_T : Type := (Nat → Nat) × (Nat → Nat) × (Nat → Nat → Int32) × (Nat → Int64) × (Nat → Nat → Int32) × (Nat → Int32)
abbrev xd_w (c : Nat → ClassId) (q : Nat) (u : xd_T) : va_W := ze_wC c u.1 u.2.1 u.2.2.1 u.2.2.2.1 u.2.2.2.2.1 ++ [(q, .inl (c 0, 210, .inl u.2.2.2.2.2))]
/-- what always holds in the law's loop; t bounds the ticks -/
def xd_I (n : Nat → Nat) (A : Nat → Nat → Int32) (B : Nat → Int64) (E : Nat → Nat → Int32) (N : Nat → Int32) (t : Nat) : Prop := zv_I n A E (fun _ => 0) ∧ xc_R n A B N ∧ (∀ i, i < 6 → ∃ p : Nat, p < 360 ∧ A 0 i = nI p) ∧ xc_Y n A N (1500 + 100 * t) (20000 * t) ∧ ∀ g, g < n 2 → ∃ w : Nat, w ≤ 9 ∧ A 9 g = nI w
section XD
variable {n : Nat → Nat} {A : Nat → Nat → Int32} {B : Nat → Int64} {E E2 : Nat → Nat → Int32} {N : Nat → Int32} {t : Nat}
theorem xd_K (h : xd_I n A B E N t) : xc_K n A B N := by
  obtain ⟨⟨hN, hS, hE, hz, h4, h4z, hT, hC, hK, hZ, hp⟩, hR, -⟩ := h
  exact ⟨hN, hS, h4, hT, hC, hK, hR⟩
theorem xc_Ym {f c f2 c2 : Nat} (h : xc_Y n A N f c) (hf : f ≤ f2) (hc : c ≤ c2) : xc_Y n A N f2 c2 := by
  obtain ⟨y1, y2, y3, y4, ⟨x0, l0, e0⟩, ⟨x1, l1, e1⟩, ⟨x2, l2, e2⟩⟩ := h
  exact ⟨y1, y2, y3, fun g hg => by
    obtain ⟨x, lx, ex⟩ := y4 g hg
    exact ⟨x, by omega, ex⟩, ⟨x0, by omega, e0⟩, ⟨x1, by omega, e1⟩, ⟨x2, by omega, e2⟩⟩
theorem xd_m {t2 : Nat} (h : xd_I n A B E N t) (ht : t ≤ t2) : xd_I n A B E N t2 := by
  obtain ⟨h1, h2, h3, h4, h5⟩ := h
  exact ⟨h1, h2, h3, xc_Ym h4 (by omega) (by omega), h5⟩
theorem xd_E (h : xd_I n A B E N t) (h2 : E2 0 = E 0) : xd_I n A B E2 N t := ⟨zv_E h.1 h2, h.2⟩
/-! a site, a line, a generator, a store, a load more -/
theorem xd_site (h : xd_I n A B E N t) (h6 : n 0 < 6) (hE2 : E2 0 = zf_CI (ze_sn n 0 (n 0 + 1)) A) : xd_I (ze_sn n 0 (n 0 + 1)) A B E2 (upd N 0 (nI (n 0 + 1))) t := by
  obtain ⟨hV, ⟨q1, q2, q3, q4, q5, q6, q7⟩, h3, h4, h5⟩ := h
  obtain ⟨hn0, hn1, hn2, hn3, hn4⟩ := id hV.1
  have key : ∀ k, k ≠ 0 → upd N 0 (nI (n 0 + 1)) k = N k := fun k z => xb_un z
  obtain ⟨a0, a1, a2, a3, a4⟩ := q1
  obtain ⟨y1, y2, y3, y4, y5, y6, y7⟩ := h4
  refine ⟨zv_addSite hV h6 hE2, ⟨⟨pk_us, a1, a2, a3, a4⟩, xc_pC q2 ⟨rfl, rfl, rfl, rfl, rfl, rfl⟩ (fun k _ _ => key k (by omega)), xc_lC (n := n) hn1 q3 ⟨rfl, rfl, rfl⟩ (fun k _ _ => key k (by omega)), xc_gC (n := n) hn2 q4 ⟨rfl, rfl, rfl, rfl, rfl, rfl, rfl, rfl⟩ (fun k _ _ => key k (by omega)), xc_tC (n := n) hn3 q5 ⟨rfl, rfl, rfl, rfl, rfl⟩ (fun k _ _ => key k (by omega)), xc_dC (n := n) hn4 q6 ⟨rfl, rfl, rfl, rfl, rfl⟩ (fun k _ _ => key k (by omega)), xc_bC q7 ⟨rfl, rfl, rfl⟩ (fun k _ _ => key k (by omega))⟩, h3, ⟨y1, y2, y3, y4, ?_, ?_, ?_⟩, h5⟩
  · rw [key 200 (by omega)]
    exact y5
  · rw [key 201 (by omega)]
    exact y6
  · rw [key 202 (by omega)]
    exact y7
theorem xd_line (h : xd_I n A B E N t) (h8 : n 1 < 8) {j k : Nat} (hj : j < n 0) (hk : k < n 0) : xd_I (ze_sn n 1 (n 1 + 1)) (ze_sE (ze_sE A 2 (n 1) (nI j)) 3 (n 1) (nI k)) B E (upd (upd (upd N (3 * n 1 + 20) (nI j)) (3 * n 1 + 21) (nI k)) 1 (nI (n 1 + 1))) t := by
  obtain ⟨hV, ⟨q1, q2, q3, q4, q5, q6, q7⟩, h3, h4, h5⟩ := h
  obtain ⟨hn0, hn1, hn2, hn3, hn4⟩ := id hV.1
  have hV2 := zv_addLine hV h8 hj hk
  generalize hN2 : upd (upd (upd N (3 * n 1 + 20) (nI j)) (3 * n 1 + 21) (nI k)) 1 (nI (n 1 + 1)) = N2
  have key : ∀ i, i ≠ 1 → i ≠ 3 * n 1 + 20 → i ≠ 3 * n 1 + 21 → N2 i = N i := fun i z1 z2 z3 => by rw [← hN2, xb_un z1, xb_un z3, xb_un z2]
  have e1 : N2 1 = nI (n 1 + 1) := by rw [← hN2, pk_us]
  have e20 : N2 (3 * n 1 + 20) = nI j := by rw [← hN2, xb_un (by omega), xb_un (by omega), pk_us]
  have e21 : N2 (3 * n 1 + 21) = nI k := by rw [← hN2, xb_un (by omega), pk_us]
  obtain ⟨a0, a1, a2, a3, a4⟩ := q1
  obtain ⟨y1, y2, y3, y4, y5, y6, y7⟩ := h4
  refine ⟨hV2, ⟨⟨(key 0 (by omega) (by omega) (by omega)).trans a0, e1, (key 2 (by omega) (by omega) (by omega)).trans a2, (key 3 (by omega) (by omega) (by omega)).trans a3, (key 4 (by omega) (by omega) (by omega)).trans a4⟩, xc_pC q2 ⟨rfl, rfl, rfl, rfl, rfl, rfl⟩ (fun i _ _ => key i (by omega) (by omega) (by omega)), ⟨fun i hi => ?_, fun i hi => ?_⟩, xc_gC (n := n) hn2 q4 ⟨rfl, rfl, rfl, rfl, rfl, rfl, rfl, rfl⟩ (fun i _ _ => key i (by omega) (by omega) (by omega)), xc_tC (n := n) hn3 q5 ⟨rfl, rfl, rfl, rfl, rfl⟩ (fun i _ _ => key i (by omega) (by omega) (by omega)), xc_dC (n := n) hn4 q6 ⟨rfl, rfl, rfl, rfl, rfl⟩ (fun i _ _ => key i (by omega) (by omega) (by omega)), xc_bC q7 ⟨rfl, rfl, rfl⟩ (fun i _ _ => key i (by omega) (by omega) (by omega))⟩, h3, ⟨y1, y2, y3, y4, ?_, ?_, ?_⟩, h5⟩
  · have hi : i < n 1 + 1 := hi
    by_cases e : i = n 1
    · subst e
      rw [e20, e21]
      exact ⟨by simp [ze_sE, ze_sA, upd], by simp [ze_sE, ze_sA, upd]⟩
    · rw [key _ (by omega) (by omega) (by omega), key _ (by omega) (by omega) (by omega), ze_sE_ne (by omega), ze_sE_ne (by omega), ze_sE_ne (by omega), ze_sE_ne (by omega)]
      exact q3.1 i (by omega)
  · rw [key _ (by omega) (by omega) (by omega)]
    exact q3.2 i hi
  · rw [key 200 (by omega) (by omega) (by omega)]
    exact y5
  · rw [key 201 (by omega) (by omega) (by omega)]
    exact y6
  · rw [key 202 (by omega) (by omega) (by omega)]
    exact y7
theorem xd_gen (h : xd_I n A B E N t) (h6 : n 2 < 6) {j le gr wu fu : Nat} (hj : j < n 0) (l1 : le ≤ 100) (l2 : 1 ≤ gr) (l3 : gr ≤ 200) (l4 : le ≤ gr) (l5 : wu ≤ 9) (l6 : fu ≤ 1500) :
    xd_I (ze_sn n 2 (n 2 + 1)) (ze_sE (ze_sE (ze_sE (ze_sE (ze_sE (ze_sE A 6 (n 2) (nI j)) 7 (n 2) (nI le)) 8 (n 2) (nI gr)) 9 (n 2) (nI wu)) 10 (n 2) (nI fu)) 13 (n 2) 111) B E (upd (upd (upd (upd (upd (upd N (9 * n 2 + 50) (nI j)) (9 * n 2 + 51) (nI le)) (9 * n 2 + 52) (nI gr)) (9 * n 2 + 53) (nI wu)) (9 * n 2 + 54) (nI fu)) 2 (nI (n 2 + 1))) t := by
  obtain ⟨hV, ⟨q1, q2, q3, q4, q5, q6, q7⟩, h3, h4, h5⟩ := h
  obtain ⟨hn0, hn1, hn2, hn3, hn4⟩ := id hV.1
  have i0 : (0 : Int32) = nI 0 := rfl
  have i100 : (100 : Int32) = nI 100 := by decide
  have i1 : (1 : Int32) = nI 1 := by decide
  have i200 : (200 : Int32) = nI 200 := by decide
  have i9999 : (9999 : Int32) = nI 9999 := by decide
  have hV2 := zv_addGenerator hV h6 hj (le := nI le) (gr := nI gr) (wu := nI wu) (fu := nI fu) ⟨by rw [i0, nI_ltI (by omega) (by omega)]; omega, by rw [i100, nI_ltI (by omega) (by omega)]; omega⟩ ⟨by rw [i1, nI_ltI (by omega) (by omega)]; omega, by rw [i200, nI_ltI (by omega) (by omega)]; omega⟩ (by rw [nI_ltI (by omega) (by omega)]; omega) ⟨by rw [i0, nI_ltI (by omega) (by omega)]; omega, by rw [i9999, nI_ltI (by omega) (by omega)]; omega⟩
  generalize hN2 : upd (upd (upd (upd (upd (upd N (9 * n 2 + 50) (nI j)) (9 * n 2 + 51) (nI le)) (9 * n 2 + 52) (nI gr)) (9 * n 2 + 53) (nI wu)) (9 * n 2 + 54) (nI fu)) 2 (nI (n 2 + 1)) = N2
  have key : ∀ i, i ≠ 2 → i ≠ 9 * n 2 + 50 → i ≠ 9 * n 2 + 51 → i ≠ 9 * n 2 + 52 → i ≠ 9 * n 2 + 53 → i ≠ 9 * n 2 + 54 → N2 i = N i := fun i z1 z2 z3 z4 z5 z6 => by rw [← hN2, xb_un z1, xb_un z6, xb_un z5, xb_un z4, xb_un z3, xb_un z2]
  have e2 : N2 2 = nI (n 2 + 1) := by rw [← hN2, pk_us]
  have e50 : N2 (9 * n 2 + 50) = nI j := by rw [← hN2, xb_un (by omega), xb_un (by omega), xb_un (by omega), xb_un (by omega), xb_un (by omega), pk_us]
  have e51 : N2 (9 * n 2 + 51) = nI le := by rw [← hN2, xb_un (by omega), xb_un (by omega), xb_un (by omega), xb_un (by omega), pk_us]
  have e52 : N2 (9 * n 2 + 52) = nI gr := by rw [← hN2, xb_un (by omega), xb_un (by omega), xb_un (by omega), pk_us]
  have e53 : N2 (9 * n 2 + 53) = nI wu := by rw [← hN2, xb_un (by omega), xb_un (by omega), pk_us]
  have e54 : N2 (9 * n 2 + 54) = nI fu := by rw [← hN2, xb_un (by omega), pk_us]
  obtain ⟨a0, a1, a2, a3, a4⟩ := q1
  obtain ⟨y1, y2, y3, y4, y5, y6, y7⟩ := h4
  refine ⟨hV2, ⟨⟨(key 0 (by omega) (by omega) (by omega) (by omega) (by omega) (by omega)).trans a0, (key 1 (by omega) (by omega) (by omega) (by omega) (by omega) (by omega)).trans a1, e2, (key 3 (by omega) (by omega) (by omega) (by omega) (by omega) (by omega)).trans a3, (key 4 (by omega) (by omega) (by omega) (by omega) (by omega) (by omega)).trans a4⟩, xc_pC q2 ⟨rfl, rfl, rfl, rfl, rfl, rfl⟩ (fun i _ _ => key i (by omega) (by omega) (by omega) (by omega) (by omega) (by omega)), xc_lC (n := n) hn1 q3 ⟨rfl, rfl, rfl⟩ (fun i _ _ => key i (by omega) (by omega) (by omega) (by omega) (by omega) (by omega)), ⟨fun g hg => ?_, fun g hg => ?_, fun g hg z => ?_⟩, xc_tC (n := n) hn3 q5 ⟨rfl, rfl, rfl, rfl, rfl⟩ (fun i _ _ => key i (by omega) (by omega) (by omega) (by omega) (by omega) (by omega)), xc_dC (n := n) hn4 q6 ⟨rfl, rfl, rfl, rfl, rfl⟩ (fun i _ _ => key i (by omega) (by omega) (by omega) (by omega) (by omega) (by omega)), xc_bC q7 ⟨rfl, rfl, rfl⟩ (fun i _ _ => key i (by omega) (by omega) (by omega) (by omega) (by omega) (by omega))⟩, h3, ⟨y1, y2, y3, fun g hg => ?_, ?_, ?_, ?_⟩, fun g hg => ?_⟩
  · have hg : g < n 2 + 1 := hg
    by_cases e : g = n 2
    · subst e
      rw [e50, e51, e52, e53, e54, key _ (by omega) (by omega) (by omega) (by omega) (by omega) (by omega), q4.2.2 (n 2) h6 (Nat.le_refl _)]
      exact ⟨by simp [ze_sE, ze_sA, upd], by simp [ze_sE, ze_sA, upd], by simp [ze_sE, ze_sA, upd], by simp [ze_sE, ze_sA, upd], by simp [ze_sE, ze_sA, upd], by simp [ze_sE, ze_sA, upd, xc_st]⟩
    · obtain ⟨s0, s1, s2, s3, s4, s5⟩ := q4.1 g (by omega)
      simp only [ze_sE_ne e]
      exact ⟨(key _ (by omega) (by omega) (by omega) (by omega) (by omega) (by omega)).trans s0, (key _ (by omega) (by omega) (by omega) (by omega) (by omega) (by omega)).trans s1, (key _ (by omega) (by omega) (by omega) (by omega) (by omega) (by omega)).trans s2, (key _ (by omega) (by omega) (by omega) (by omega) (by omega) (by omega)).trans s3, (key _ (by omega) (by omega) (by omega) (by omega) (by omega) (by omega)).trans s4, (key _ (by omega) (by omega) (by omega) (by omega) (by omega) (by omega)).trans s5⟩
  · rw [key _ (by omega) (by omega) (by omega) (by omega) (by omega) (by omega), key _ (by omega) (by omega) (by omega) (by omega) (by omega) (by omega)]
    exact q4.2.1 g hg
  · have z : n 2 + 1 ≤ g := z
    rw [key _ (by omega) (by omega) (by omega) (by omega) (by omega) (by omega)]
    exact q4.2.2 g hg (by omega)
  · have hg : g < n 2 + 1 := hg
    by_cases e : g = n 2
    · subst e
      exact ⟨fu, by omega, by simp [ze_sE, ze_sA, upd]⟩
    · simp only [ze_sE_ne e]
      exact y4 g (by omega)
  · rw [key 200 (by omega) (by omega) (by omega) (by omega) (by omega) (by omega)]
    exact y5
  · rw [key 201 (by omega) (by omega) (by omega) (by omega) (by omega) (by omega)]
    exact y6
  · rw [key 202 (by omega) (by omega) (by omega) (by omega) (by omega) (by omega)]
    exact y7
  · have hg : g < n 2 + 1 := hg
    by_cases e : g = n 2
    · subst e
      exact ⟨wu, l5, by simp [ze_sE, ze_sA, upd]⟩
    · simp only [ze_sE_ne e]
      exact h5 g (by omega)
theorem xd_store (h : xd_I n A B E N t) (h6 : n 3 < 4) {j ca ra : Nat} (hj : j < n 0) (l1 : 1 ≤ ca) (l2 : ca ≤ 999) (l3 : 1 ≤ ra) (l4 : ra ≤ 99) :
    xd_I (ze_sn n 3 (n 3 + 1)) (ze_sE (ze_sE (ze_sE A 14 (n 3) (nI j)) 15 (n 3) (nI ca)) 16 (n 3) (nI ra)) B E (upd (upd (upd (upd N (6 * n 3 + 110) (nI j)) (6 * n 3 + 111) (nI ca)) (6 * n 3 + 112) (nI ra)) 3 (nI (n 3 + 1))) t := by
  obtain ⟨hV, ⟨q1, q2, q3, q4, q5, q6, q7⟩, h3, h4, h5⟩ := h
  obtain ⟨hn0, hn1, hn2, hn3, hn4⟩ := id hV.1
  have i1 : (1 : Int32) = nI 1 := by decide
  have i999 : (999 : Int32) = nI 999 := by decide
  have i99 : (99 : Int32) = nI 99 := by decide
  have hV2 := zv_addStore hV h6 hj (y := nI ca) (z := nI ra) ⟨by rw [i1, nI_ltI (by omega) (by omega)]; omega, by rw [i999, nI_ltI (by omega) (by omega)]; omega⟩ ⟨by rw [i1, nI_ltI (by omega) (by omega)]; omega, by rw [i99, nI_ltI (by omega) (by omega)]; omega⟩
  generalize hN2 : upd (upd (upd (upd N (6 * n 3 + 110) (nI j)) (6 * n 3 + 111) (nI ca)) (6 * n 3 + 112) (nI ra)) 3 (nI (n 3 + 1)) = N2
  have key : ∀ i, i ≠ 3 → i ≠ 6 * n 3 + 110 → i ≠ 6 * n 3 + 111 → i ≠ 6 * n 3 + 112 → N2 i = N i := fun i z1 z2 z3 z4 => by rw [← hN2, xb_un z1, xb_un z4, xb_un z3, xb_un z2]
  have e3 : N2 3 = nI (n 3 + 1) := by rw [← hN2, pk_us]
  have e10 : N2 (6 * n 3 + 110) = nI j := by rw [← hN2, xb_un (by omega), xb_un (by omega), xb_un (by omega), pk_us]
  have e11 : N2 (6 * n 3 + 111) = nI ca := by rw [← hN2, xb_un (by omega), xb_un (by omega), pk_us]
  have e12 : N2 (6 * n 3 + 112) = nI ra := by rw [← hN2, xb_un (by omega), pk_us]
  obtain ⟨a0, a1, a2, a3, a4⟩ := q1
  obtain ⟨y1, y2, y3, y4, y5, y6, y7⟩ := h4
  refine ⟨hV2, ⟨⟨(key 0 (by omega) (by omega) (by omega) (by omega)).trans a0, (key 1 (by omega) (by omega) (by omega) (by omega)).trans a1, (key 2 (by omega) (by omega) (by omega) (by omega)).trans a2, e3, (key 4 (by omega) (by omega) (by omega) (by omega)).trans a4⟩, xc_pC q2 ⟨rfl, rfl, rfl, rfl, rfl, rfl⟩ (fun i _ _ => key i (by omega) (by omega) (by omega) (by omega)), xc_lC (n := n) hn1 q3 ⟨rfl, rfl, rfl⟩ (fun i _ _ => key i (by omega) (by omega) (by omega) (by omega)), xc_gC (n := n) hn2 q4 ⟨rfl, rfl, rfl, rfl, rfl, rfl, rfl, rfl⟩ (fun i _ _ => key i (by omega) (by omega) (by omega) (by omega)), ⟨fun k hk => ?_, fun k hk => ?_⟩, xc_dC (n := n) hn4 q6 ⟨rfl, rfl, rfl, rfl, rfl⟩ (fun i _ _ => key i (by omega) (by omega) (by omega) (by omega)), xc_bC q7 ⟨rfl, rfl, rfl⟩ (fun i _ _ => key i (by omega) (by omega) (by omega) (by omega))⟩, h3, ⟨y1, y2, y3, y4, ?_, ?_, ?_⟩, h5⟩
  · have hk : k < n 3 + 1 := hk
    by_cases e : k = n 3
    · subst e
      rw [e10, e11, e12]
      exact ⟨by simp [ze_sE, ze_sA, upd], by simp [ze_sE, ze_sA, upd], by simp [ze_sE, ze_sA, upd]⟩
    · obtain ⟨s0, s1, s2⟩ := q5.1 k (by omega)
      simp only [ze_sE_ne e]
      exact ⟨(key _ (by omega) (by omega) (by omega) (by omega)).trans s0, (key _ (by omega) (by omega) (by omega) (by omega)).trans s1, (key _ (by omega) (by omega) (by omega) (by omega)).trans s2⟩
  · rw [key _ (by omega) (by omega) (by omega) (by omega), key _ (by omega) (by omega) (by omega) (by omega)]
    exact q5.2 k hk
  · rw [key 200 (by omega) (by omega) (by omega) (by omega)]
    exact y5
  · rw [key 201 (by omega) (by omega) (by omega) (by omega)]
    exact y6
  · rw [key 202 (by omega) (by omega) (by omega) (by omega)]
    exact y7
theorem xd_load (h : xd_I n A B E N t) (h6 : n 4 < 10) {j po ra : Nat} (hj : j < n 0) (l1 : 1 ≤ po) (l2 : po ≤ 200) (l3 : ra ≤ 9) :
    xd_I (ze_sn n 4 (n 4 + 1)) (ze_sE (ze_sE (ze_sE A 19 (n 4) (nI j)) 20 (n 4) (nI po)) 21 (n 4) (nI ra)) B E (upd (upd (upd (upd N (5 * n 4 + 140) (nI j)) (5 * n 4 + 141) (nI po)) (5 * n 4 + 142) (nI ra)) 4 (nI (n 4 + 1))) t := by
  obtain ⟨hV, ⟨q1, q2, q3, q4, q5, q6, q7⟩, h3, h4, h5⟩ := h
  obtain ⟨hn0, hn1, hn2, hn3, hn4⟩ := id hV.1
  have hZ := hV.2.2.2.2.2.2.2.2.2.1
  have i1 : (1 : Int32) = nI 1 := by decide
  have i200 : (200 : Int32) = nI 200 := by decide
  have hV2 := zv_addLoad hV h6 hj (y := nI po) (z := nI ra) ⟨by rw [i1, nI_ltI (by omega) (by omega)]; omega, by rw [i200, nI_ltI (by omega) (by omega)]; omega⟩
  generalize hN2 : upd (upd (upd (upd N (5 * n 4 + 140) (nI j)) (5 * n 4 + 141) (nI po)) (5 * n 4 + 142) (nI ra)) 4 (nI (n 4 + 1)) = N2
  have key : ∀ i, i ≠ 4 → i ≠ 5 * n 4 + 140 → i ≠ 5 * n 4 + 141 → i ≠ 5 * n 4 + 142 → N2 i = N i := fun i z1 z2 z3 z4 => by rw [← hN2, xb_un z1, xb_un z4, xb_un z3, xb_un z2]
  have e4 : N2 4 = nI (n 4 + 1) := by rw [← hN2, pk_us]
  have e10 : N2 (5 * n 4 + 140) = nI j := by rw [← hN2, xb_un (by omega), xb_un (by omega), xb_un (by omega), pk_us]
  have e11 : N2 (5 * n 4 + 141) = nI po := by rw [← hN2, xb_un (by omega), xb_un (by omega), pk_us]
  have e12 : N2 (5 * n 4 + 142) = nI ra := by rw [← hN2, xb_un (by omega), pk_us]
  obtain ⟨a0, a1, a2, a3, a4⟩ := q1
  obtain ⟨y1, y2, y3, y4, y5, y6, y7⟩ := h4
  refine ⟨hV2, ⟨⟨(key 0 (by omega) (by omega) (by omega) (by omega)).trans a0, (key 1 (by omega) (by omega) (by omega) (by omega)).trans a1, (key 2 (by omega) (by omega) (by omega) (by omega)).trans a2, (key 3 (by omega) (by omega) (by omega) (by omega)).trans a3, e4⟩, xc_pC q2 ⟨rfl, rfl, rfl, rfl, rfl, rfl⟩ (fun i _ _ => key i (by omega) (by omega) (by omega) (by omega)), xc_lC (n := n) hn1 q3 ⟨rfl, rfl, rfl⟩ (fun i _ _ => key i (by omega) (by omega) (by omega) (by omega)), xc_gC (n := n) hn2 q4 ⟨rfl, rfl, rfl, rfl, rfl, rfl, rfl, rfl⟩ (fun i _ _ => key i (by omega) (by omega) (by omega) (by omega)), xc_tC (n := n) hn3 q5 ⟨rfl, rfl, rfl, rfl, rfl⟩ (fun i _ _ => key i (by omega) (by omega) (by omega) (by omega)), ⟨fun k hk => ?_, fun k hk => ?_⟩, xc_bC q7 ⟨rfl, rfl, rfl⟩ (fun i _ _ => key i (by omega) (by omega) (by omega) (by omega))⟩, h3, ⟨fun k hk => ?_, y2, y3, y4, ?_, ?_, ?_⟩, h5⟩
  · have hk : k < n 4 + 1 := hk
    by_cases e : k = n 4
    · subst e
      rw [e10, e11, e12]
      exact ⟨by simp [ze_sE, ze_sA, upd], by simp [ze_sE, ze_sA, upd], by simp [ze_sE, ze_sA, upd]⟩
    · obtain ⟨s0, s1, s2⟩ := q6.1 k (by omega)
      simp only [ze_sE_ne e]
      exact ⟨(key _ (by omega) (by omega) (by omega) (by omega)).trans s0, (key _ (by omega) (by omega) (by omega) (by omega)).trans s1, (key _ (by omega) (by omega) (by omega) (by omega)).trans s2⟩
  · rw [key _ (by omega) (by omega) (by omega) (by omega), key _ (by omega) (by omega) (by omega) (by omega)]
    exact q6.2 k hk
  · have hk : k < n 4 + 1 := hk
    show (A 5 k = 0 ∨ A 5 k = 1) ∧ ∃ w : Nat, w ≤ 9 ∧ A 22 k = nI w
    by_cases e : k = n 4
    · obtain ⟨z1, z2⟩ := hZ.2.2 k (by omega)
      exact ⟨Or.inl z1, 0, by omega, z2⟩
    · exact y1 k (by omega)
  · rw [key 200 (by omega) (by omega) (by omega) (by omega)]
    exact y5
  · rw [key 201 (by omega) (by omega) (by omega) (by omega)]
    exact y6
  · rw [key 202 (by omega) (by omega) (by omega) (by omega)]
    exact y7
end XD
