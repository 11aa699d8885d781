/-! ===== each of the law's calls: class and reference alike ===== -/
theorem zv_b (P : Prop) [Decidable P] : ze_b P = 0 ∨ ze_b P = 1 := by
  unfold ze_b
  split
  · exact Or.inr rfl
  · exact Or.inl rfl
section ZW
variable {l : Launch} {D : va_G} {c : Nat → ClassId} {a d n : Nat → Nat} {A : Nat → Nat → Int32} {B : Nat → Int64} {E : Nat → Nat → Int32} {mk : Nat → Int32} {th : Int32} {o : Nat} {f : Nat → Int64}
theorem zw_island (hI : zv_I n A E mk) (hst : l.stackTraces = false) (x : Int32) : zv_O l D c a d n A B E mk th o f yL_island wsL_island yX9_island wsX9_island [.int x] (fun _ => True) := by
  obtain ⟨hN, hS, hE, hz, h4, h4z, hT, hC, ⟨P, hK⟩, hZ, hp⟩ := id hI
  have hEs := zv_hE hI
  have hci := zv_ci hI
  have bj : n 0 < 2 ^ 31 := by
    have q := hN.1
    omega
  by_cases hx : zf_isIn x 0 (nI (n 0) - 1)
  · obtain ⟨j, hj, rfl⟩ := zf_isInO bj hx
    exact zv_ok (zv_mk hI hci) (zl_island_f l D c a n A B E o f j hN hj) (zr_island_f l D c d n A B mk th j hN hj hS hz) (by rw [hE]) trivial (by decide)
  · exact zv_thr hI hz (zl_island_t1 l D hst c a n A B E o f x hN hx) (zr_island_t1 l D c d n A B mk th x hN hx) (by decide) trivial (by decide)
theorem zw_islandByRounds (hI : zv_I n A E mk) (hst : l.stackTraces = false) (x : Int32) : zv_O l D c a d n A B E mk th o f yL_islandByRounds wsL_islandByRounds yX9_islandByRounds wsX9_islandByRounds [.int x] (fun _ => True) := by
  obtain ⟨hN, hS, hE, hz, h4, h4z, hT, hC, ⟨P, hK⟩, hZ, hp⟩ := id hI
  have hEs := zv_hE hI
  have hci := zv_ci hI
  have bj : n 0 < 2 ^ 31 := by
    have q := hN.1
    omega
  by_cases hx : zf_isIn x 0 (nI (n 0) - 1)
  · obtain ⟨j, hj, rfl⟩ := zf_isInO bj hx
    exact zv_ok (zv_E (zv_mk hI hci) (by rfl)) (zl_islandByRounds_f l D c a n A B E o f j hN hj hS) (zr_islandByRounds_f l D c d n A B mk th j hN hj hS hz) (by rw [zf_roundsE hN hS (E 2) hj]) trivial (by decide)
  · exact zv_thr hI hz (zl_islandByRounds_t1 l D hst c a n A B E o f x hN hx) (zr_islandByRounds_t1 l D c d n A B mk th x hN hx) (by decide) trivial (by decide)
theorem zw_phase (hI : zv_I n A E mk) (hst : l.stackTraces = false) (x : Int32) : zv_O l D c a d n A B E mk th o f yL_phase wsL_phase yX9_phase wsX9_phase [.int x] (fun _ => True) := by
  obtain ⟨hN, hS, hE, hz, h4, h4z, hT, hC, ⟨P, hK⟩, hZ, hp⟩ := id hI
  have hEs := zv_hE hI
  have hci := zv_ci hI
  have bj : n 0 < 2 ^ 31 := by
    have q := hN.1
    omega
  by_cases hx : zf_isIn x 0 (nI (n 0) - 1)
  · obtain ⟨j, hj, rfl⟩ := zf_isInO bj hx
    exact zv_ok (zv_mk hI hci) (zl_phase_f l D c a n A B E o f j hN hj hEs) (zr_phase_f l D c d n A B mk th j hN hj hS hz) (by rw [hE]; rfl) trivial (by decide)
  · exact zv_thr hI hz (zl_phase_t1 l D hst c a n A B E o f x hN hx) (zr_phase_t1 l D c d n A B mk th x hN hx) (by decide) trivial (by decide)
theorem zw_gap (hI : zv_I n A E mk) (hst : l.stackTraces = false) (x : Int32) : zv_O l D c a d n A B E mk th o f yL_gap wsL_gap yX9_gap wsX9_gap [.int x] (fun _ => True) := by
  obtain ⟨hN, hS, hE, hz, h4, h4z, hT, hC, ⟨P, hK⟩, hZ, hp⟩ := id hI
  have hEs := zv_hE hI
  have hci := zv_ci hI
  have bj : n 1 < 2 ^ 31 := by
    have q := hN.2.1
    omega
  by_cases hx : zf_isIn x 0 (nI (n 1) - 1)
  · obtain ⟨j, hj, rfl⟩ := zf_isInO bj hx
    exact zv_ok (zv_mk hI hci) (zl_gap_f l D c a n A B E o f j hN hj hS hEs) (zr_gap_f l D c d n A B mk th j hN hj hS hz) (by rw [hE, zf_gapE]) trivial (by decide)
  · exact zv_thr hI hz (zl_gap_t1 l D hst c a n A B E o f x hN hx) (zr_gap_t1 l D c d n A B mk th x hN hx) (by decide) trivial (by decide)
theorem zw_state (hI : zv_I n A E mk) (hst : l.stackTraces = false) (x : Int32) : zv_O l D c a d n A B E mk th o f yL_state wsL_state yX9_state wsX9_state [.int x] (fun _ => True) := by
  obtain ⟨hN, hS, hE, hz, h4, h4z, hT, hC, ⟨P, hK⟩, hZ, hp⟩ := id hI
  have hEs := zv_hE hI
  have hci := zv_ci hI
  have bj : n 2 < 2 ^ 31 := by
    have q := hN.2.2.1
    omega
  by_cases hx : zf_isIn x 0 (nI (n 2) - 1)
  · obtain ⟨j, hj, rfl⟩ := zf_isInO bj hx
    exact zv_ok (hI) (zl_state_f l D c a n A B E o f j hN hj (hC j hj)) (zr_state_f l D c d n A B mk th j hN hj (hC j hj)) (rfl) trivial (by decide)
  · exact zv_thr hI hz (zl_state_t1 l D hst c a n A B E o f x hN hx) (zr_state_t1 l D c d n A B mk th x hN hx) (by decide) trivial (by decide)
theorem zw_fuel (hI : zv_I n A E mk) (hst : l.stackTraces = false) (x : Int32) : zv_O l D c a d n A B E mk th o f yL_fuel wsL_fuel yX9_fuel wsX9_fuel [.int x] (fun _ => True) := by
  obtain ⟨hN, hS, hE, hz, h4, h4z, hT, hC, ⟨P, hK⟩, hZ, hp⟩ := id hI
  have hEs := zv_hE hI
  have hci := zv_ci hI
  have bj : n 2 < 2 ^ 31 := by
    have q := hN.2.2.1
    omega
  by_cases hx : zf_isIn x 0 (nI (n 2) - 1)
  · obtain ⟨j, hj, rfl⟩ := zf_isInO bj hx
    exact zv_ok (hI) (zl_fuel_f l D c a n A B E o f j hN hj) (zr_fuel_f l D c d n A B mk th j hN hj) (rfl) trivial (by decide)
  · exact zv_thr hI hz (zl_fuel_t1 l D hst c a n A B E o f x hN hx) (zr_fuel_t1 l D c d n A B mk th x hN hx) (by decide) trivial (by decide)
theorem zw_charge (hI : zv_I n A E mk) (hst : l.stackTraces = false) (x : Int32) : zv_O l D c a d n A B E mk th o f yL_charge wsL_charge yX9_charge wsX9_charge [.int x] (fun _ => True) := by
  obtain ⟨hN, hS, hE, hz, h4, h4z, hT, hC, ⟨P, hK⟩, hZ, hp⟩ := id hI
  have hEs := zv_hE hI
  have hci := zv_ci hI
  have bj : n 3 < 2 ^ 31 := by
    have q := hN.2.2.2.1
    omega
  by_cases hx : zf_isIn x 0 (nI (n 3) - 1)
  · obtain ⟨j, hj, rfl⟩ := zf_isInO bj hx
    exact zv_ok (hI) (zl_charge_f l D c a n A B E o f j hN hj) (zr_charge_f l D c d n A B mk th j hN hj) (rfl) trivial (by decide)
  · exact zv_thr hI hz (zl_charge_t1 l D hst c a n A B E o f x hN hx) (zr_charge_t1 l D c d n A B mk th x hN hx) (by decide) trivial (by decide)
theorem zw_given (hI : zv_I n A E mk) (hst : l.stackTraces = false) (x : Int32) : zv_O l D c a d n A B E mk th o f yL_given wsL_given yX9_given wsX9_given [.int x] (fun _ => True) := by
  obtain ⟨hN, hS, hE, hz, h4, h4z, hT, hC, ⟨P, hK⟩, hZ, hp⟩ := id hI
  have hEs := zv_hE hI
  have hci := zv_ci hI
  have bj : n 2 < 2 ^ 31 := by
    have q := hN.2.2.1
    omega
  by_cases hx : zf_isIn x 0 (nI (n 2) - 1)
  · obtain ⟨j, hj, rfl⟩ := zf_isInO bj hx
    exact zv_ok (hI) (zl_given_f l D c a n A B E o f j hN hj) (zr_given_f l D c d n A B mk th j hN hj) (rfl) trivial (by decide)
  · exact zv_thr hI hz (zl_given_t1 l D hst c a n A B E o f x hN hx) (zr_given_t1 l D c d n A B mk th x hN hx) (by decide) trivial (by decide)
theorem zw_flow (hI : zv_I n A E mk) (hst : l.stackTraces = false) (x : Int32) : zv_O l D c a d n A B E mk th o f yL_flow wsL_flow yX9_flow wsX9_flow [.int x] (fun _ => True) := by
  obtain ⟨hN, hS, hE, hz, h4, h4z, hT, hC, ⟨P, hK⟩, hZ, hp⟩ := id hI
  have hEs := zv_hE hI
  have hci := zv_ci hI
  have bj : n 3 < 2 ^ 31 := by
    have q := hN.2.2.2.1
    omega
  by_cases hx : zf_isIn x 0 (nI (n 3) - 1)
  · obtain ⟨j, hj, rfl⟩ := zf_isInO bj hx
    exact zv_ok (hI) (zl_flow_f l D c a n A B E o f j hN hj) (zr_flow_f l D c d n A B mk th j hN hj) (rfl) trivial (by decide)
  · exact zv_thr hI hz (zl_flow_t1 l D hst c a n A B E o f x hN hx) (zr_flow_t1 l D c d n A B mk th x hN hx) (by decide) trivial (by decide)
theorem zw_isLit (hI : zv_I n A E mk) (hst : l.stackTraces = false) (x : Int32) : zv_O l D c a d n A B E mk th o f yL_isLit wsL_isLit yX9_isLit wsX9_isLit [.int x] (fun v => v = 0 ∨ v = 1) := by
  obtain ⟨hN, hS, hE, hz, h4, h4z, hT, hC, ⟨P, hK⟩, hZ, hp⟩ := id hI
  have hEs := zv_hE hI
  have hci := zv_ci hI
  have bj : n 4 < 2 ^ 31 := by
    have q := hN.2.2.2.2
    omega
  by_cases hx : zf_isIn x 0 (nI (n 4) - 1)
  · obtain ⟨j, hj, rfl⟩ := zf_isInO bj hx
    exact zv_ok (hI) (zl_isLit_f l D c a n A B E o f j hN hj) (zr_isLit_f l D c d n A B mk th j hN hj) (by
      by_cases q : A 5 j = 0
      · rw [if_pos q]
        simp only [ze_b, if_pos q]
        rfl
      · rw [if_neg q]
        simp only [ze_b, if_neg q]
        rfl) (zv_b _) (by decide)
  · exact zv_thr hI hz (zl_isLit_t1 l D hst c a n A B E o f x hN hx) (zr_isLit_t1 l D c d n A B mk th x hN hx) (by decide) (Or.inl rfl) (by decide)
theorem zw_bound (hI : zv_I n A E mk) (hst : l.stackTraces = false) (x : Int32) : zv_O l D c a d n A B E mk th o f yL_bound wsL_bound yX9_bound wsX9_bound [.int x] (fun _ => True) := by
  obtain ⟨hN, hS, hE, hz, h4, h4z, hT, hC, ⟨P, hK⟩, hZ, hp⟩ := id hI
  have hEs := zv_hE hI
  have hci := zv_ci hI
  have bj : n 0 < 2 ^ 31 := by
    have q := hN.1
    omega
  by_cases hx : zf_isIn x 0 (nI (n 0) - 1)
  · obtain ⟨j, hj, rfl⟩ := zf_isInO bj hx
    exact zv_ok (zv_mk hI hci) (zl_bound_f l D c a n A B E o f j hN hj hS) (zr_bound_f l D c d n A B mk th j hN hj hS hz) (by rw [hE, zf_bOe]) trivial (by decide)
  · exact zv_thr hI hz (zl_bound_t1 l D hst c a n A B E o f x hN hx) (zr_bound_t1 l D c d n A B mk th x hN hx) (by decide) trivial (by decide)
theorem zw_demand (hI : zv_I n A E mk) (hst : l.stackTraces = false) (x : Int32) : zv_O l D c a d n A B E mk th o f yL_demand wsL_demand yX9_demand wsX9_demand [.int x] (fun _ => True) := by
  obtain ⟨hN, hS, hE, hz, h4, h4z, hT, hC, ⟨P, hK⟩, hZ, hp⟩ := id hI
  have hEs := zv_hE hI
  have hci := zv_ci hI
  have bj : n 0 < 2 ^ 31 := by
    have q := hN.1
    omega
  by_cases hx : zf_isIn x 0 (nI (n 0) - 1)
  · obtain ⟨j, hj, rfl⟩ := zf_isInO bj hx
    exact zv_ok (zv_mk hI hci) (zl_demand_f l D c a n A B E o f j hN hj hS) (zr_demand_f l D c d n A B mk th j hN hj hS hz) (by rw [hE]) trivial (by decide)
  · exact zv_thr hI hz (zl_demand_t1 l D hst c a n A B E o f x hN hx) (zr_demand_t1 l D c d n A B mk th x hN hx) (by decide) trivial (by decide)
theorem zw_isKept (hI : zv_I n A E mk) (hst : l.stackTraces = false) (x : Int32) : zv_O l D c a d n A B E mk th o f yL_isKept wsL_isKept yX9_isKept wsX9_isKept [.int x] (fun v => v = 0 ∨ v = 1) := by
  obtain ⟨hN, hS, hE, hz, h4, h4z, hT, hC, ⟨P, hK⟩, hZ, hp⟩ := id hI
  have hEs := zv_hE hI
  have hci := zv_ci hI
  have bj : n 4 < 2 ^ 31 := by
    have q := hN.2.2.2.2
    omega
  by_cases hx : zf_isIn x 0 (nI (n 4) - 1)
  · obtain ⟨j, hj, rfl⟩ := zf_isInO bj hx
    exact zv_ok (zv_mk hI hci) (zl_isKept_f l D c a n A B E o f j hN hj hS) (zr_isKept_f l D c d n A B mk th j hN hj hS hz) (by
      have key : zf_keepC n A (E 0) j (zf_bOf n A (E 0) (E 0 (ze_ix (A 19 j)))) ↔ zf_keeps n A (zf_CI n A) j := by
        rw [hE]
        exact zf_keepE rfl
      by_cases q : zf_keeps n A (zf_CI n A) j
      · rw [if_pos (key.mpr q)]
        simp only [ze_b, if_pos q]
        rfl
      · rw [if_neg (fun z => q (key.mp z))]
        simp only [ze_b, if_neg q]
        rfl) (zv_b _) (by decide)
  · exact zv_thr hI hci (zl_isKept_t1 l D hst c a n A B E o f x hN hx) (zr_isKept_t1 l D c d n A B mk th x hN hx hS hz) (by decide) (Or.inl rfl) (by decide)
theorem zw_addSite (hI : zv_I n A E mk) (hst : l.stackTraces = false) : zv_O l D c a d n A B E mk th o f yL_addSite wsL_addSite yX9_addSite wsX9_addSite [] (fun _ => True) := by
  obtain ⟨hN, hS, hE, hz, h4, h4z, hT, hC, ⟨P, hK⟩, hZ, hp⟩ := id hI
  have hEs := zv_hE hI
  have hci := zv_ci hI
  by_cases h : n 0 < 6
  · have hfi := zf_fiE (n := ze_sn n 0 (n 0 + 1)) (A := A) (io := E 0) (tv := E 1) (zf_N1 hN h) (zf_S1 hS) (fun t ht => by
      rw [hE]
      exact hci t (by have e : ze_sn n 0 (n 0 + 1) 0 = n 0 + 1 := rfl; omega))
    exact zv_ok (zv_addSite hI h (E2 := ze_sA (ze_sA E 0 ((zf_fi (ze_sn n 0 (n 0 + 1)) A (E 0) (E 1) (n 0 + 1)).1)) 1 ((zf_fi (ze_sn n 0 (n 0 + 1)) A (E 0) (E 1) (n 0 + 1)).2)) hfi) (zl_addSite_f l D c a n A B E o f hN hS h) (zr_addSite_f l D c d n A B mk th hN (by omega)) rfl trivial (by decide)
  · have q := hN.1
    exact zv_thr hI hz (zl_addSite_t1 l D hst c a n A B E o f hN h) (zr_addSite_t1 l D c d n A B mk th hN (by omega)) (by decide) trivial (by decide)
theorem zw_setPhase (hI : zv_I n A E mk) (hst : l.stackTraces = false) (x y : Int32) : zv_O l D c a d n A B E mk th o f yL_setPhase wsL_setPhase yX9_setPhase wsX9_setPhase [.int x, .int y] (fun _ => True) := by
  obtain ⟨hN, hS, hE, hz, h4, h4z, hT, hC, ⟨P, hK⟩, hZ, hp⟩ := id hI
  have hEs := zv_hE hI
  have hci := zv_ci hI
  have bj : n 0 < 2 ^ 31 := by
    have q := hN.1
    omega
  by_cases hx : zf_isIn x 0 (nI (n 0) - 1)
  · obtain ⟨j, hj, rfl⟩ := zf_isInO bj hx
    by_cases hy : zf_isIn y 0 359
    · exact zv_ok (zv_setPhase hI hy) (zl_setPhase_f l D c a n A B E o f j hN hj y hy) (zr_setPhase_f l D c d n A B mk th j hN hj y hy) rfl trivial (by decide)
    · exact zv_thr hI hz (zl_setPhase_t2 l D hst c a n A B E o f j hN hj y hy) (zr_setPhase_t2 l D c d n A B mk th j hN hj y hy) (by decide) trivial (by decide)
  · exact zv_thr hI hz (zl_setPhase_t1 l D hst c a n A B E o f x hN hx y) (zr_setPhase_t1 l D c d n A B mk th x hN hx y) (by decide) trivial (by decide)
theorem zw_addLine (hI : zv_I n A E mk) (hst : l.stackTraces = false) (x y : Int32) : zv_O l D c a d n A B E mk th o f yL_addLine wsL_addLine yX9_addLine wsX9_addLine [.int x, .int y] (fun _ => True) := by
  obtain ⟨hN, hS, hE, hz, h4, h4z, hT, hC, ⟨P, hK⟩, hZ, hp⟩ := id hI
  have hEs := zv_hE hI
  have hci := zv_ci hI
  have bj : n 0 < 2 ^ 31 := by
    have q := hN.1
    omega
  by_cases hx : zf_isIn x 0 (nI (n 0) - 1)
  · obtain ⟨j, hj, rfl⟩ := zf_isInO bj hx
    by_cases hy : zf_isIn y 0 (nI (n 0) - 1)
    · obtain ⟨k, hk, rfl⟩ := zf_isInO bj hy
      by_cases h : j = k
      · exact zv_thr hI hz (zl_addLine_t2 l D hst c a n A B E o f j hN hj k hk h) (zr_addLine_t2 l D c d n A B mk th j hN hj k hk h) (by decide) trivial (by decide)
      · by_cases h8 : n 1 < 8
        · exact zv_ok (zv_addLine hI h8 hj hk) (zl_addLine_f l D c a n A B E o f j hN hj k hk h h8) (zr_addLine_f l D c d n A B mk th j hN hj k hk h (by omega)) rfl trivial (by decide)
        · have q := hN.2.1
          exact zv_thr hI hz (zl_addLine_t3 l D hst c a n A B E o f j hN hj k hk h h8) (zr_addLine_t3 l D c d n A B mk th j hN hj k hk h (by omega)) (by decide) trivial (by decide)
    · exact zv_thr hI hz (zl_addLine_t1b l D hst c a n A B E o f j hN hj y hy) (zr_addLine_t1b l D c d n A B mk th j hN hj y hy) (by decide) trivial (by decide)
  · exact zv_thr hI hz (zl_addLine_t1a l D hst c a n A B E o f x hN hx y) (zr_addLine_t1a l D c d n A B mk th x hN hx y) (by decide) trivial (by decide)
theorem zw_close (hI : zv_I n A E mk) (hst : l.stackTraces = false) (x : Int32) : zv_O l D c a d n A B E mk th o f yL_close wsL_close yX9_close wsX9_close [.int x] (fun _ => True) := by
  obtain ⟨hN, hS, hE, hz, h4, h4z, hT, hC, ⟨P, hK⟩, hZ, hp⟩ := id hI
  have hEs := zv_hE hI
  have hci := zv_ci hI
  have bj : n 1 < 2 ^ 31 := by
    have q := hN.2.1
    omega
  by_cases hx : zf_isIn x 0 (nI (n 1) - 1)
  · obtain ⟨j, hj, rfl⟩ := zf_isInO bj hx
    by_cases q4 : A 4 j = 0
    · have hgE : zf_gapC A (E 0) j = zf_gap A (zf_CI n A) j := by rw [hE, zf_gapE]
      have hS2 : zf_S n (ze_sE A 4 j 1) := zf_Scong rfl rfl rfl rfl rfl hS
      by_cases hg : zf_gap A (zf_CI n A) j ≤ 10
      · have hfi := zf_fiE (A := ze_sE A 4 j 1) (io := E 0) (tv := E 1) hN hS2 (fun t ht => by
          rw [hE]
          exact hci t ht)
        exact zv_ok (zv_line hI hj (Or.inr rfl) (E2 := ze_sA (ze_sA E 0 ((zf_fi n (ze_sE A 4 j 1) (E 0) (E 1) (n 0)).1)) 1 ((zf_fi n (ze_sE A 4 j 1) (E 0) (E 1) (n 0)).2)) hfi (zf_CIz hN hS2)) (zl_close_f l D c a n A B E o f j hN hj hS hEs q4 (by rw [hgE]; exact hg)) (zr_close_f l D c d n A B mk th j hN hj hS hz h4 q4 hg) (by rw [hfi]) trivial (by decide)
      · exact zv_thr hI hci (zl_close_t3 l D hst c a n A B E o f j hN hj hS hEs q4 (by rw [hgE]; exact hg)) (zr_close_t3 l D c d n A B mk th j hN hj hS hz h4 q4 hg) (by decide) trivial (by decide)
    · exact zv_thr hI hz (zl_close_t2 l D hst c a n A B E o f j hN hj q4) (zr_close_t2 l D c d n A B mk th j hN hj hS hz h4 q4) (by decide) trivial (by decide)
  · exact zv_thr hI hz (zl_close_t1 l D hst c a n A B E o f x hN hx) (zr_close_t1 l D c d n A B mk th x hN hx) (by decide) trivial (by decide)
theorem zw_open (hI : zv_I n A E mk) (hst : l.stackTraces = false) (x : Int32) : zv_O l D c a d n A B E mk th o f yL_open wsL_open yX9_open wsX9_open [.int x] (fun _ => True) := by
  obtain ⟨hN, hS, hE, hz, h4, h4z, hT, hC, ⟨P, hK⟩, hZ, hp⟩ := id hI
  have hEs := zv_hE hI
  have hci := zv_ci hI
  have bj : n 1 < 2 ^ 31 := by
    have q := hN.2.1
    omega
  by_cases hx : zf_isIn x 0 (nI (n 1) - 1)
  · obtain ⟨j, hj, rfl⟩ := zf_isInO bj hx
    by_cases q4 : A 4 j = 0
    · exact zv_thr hI hz (zl_open_t2 l D hst c a n A B E o f j hN hj q4) (zr_open_t2 l D c d n A B mk th j hN hj hS hz h4 q4) (by decide) trivial (by decide)
    · have hS2 : zf_S n (ze_sE A 4 j 0) := zf_Scong rfl rfl rfl rfl rfl hS
      have hfi := zf_fiE (A := ze_sE A 4 j 0) (io := E 0) (tv := E 1) hN hS2 (fun t ht => by
          rw [hE]
          exact hci t ht)
      exact zv_ok (zv_line hI hj (Or.inl rfl) (E2 := ze_sA (ze_sA E 0 ((zf_fi n (ze_sE A 4 j 0) (E 0) (E 1) (n 0)).1)) 1 ((zf_fi n (ze_sE A 4 j 0) (E 0) (E 1) (n 0)).2)) hfi (zf_CIz hN hS2)) (zl_open_f l D c a n A B E o f j hN hj hS q4) (zr_open_f l D c d n A B mk th j hN hj hS hz h4 q4) (by rw [hfi]) trivial (by decide)
  · exact zv_thr hI hz (zl_open_t1 l D hst c a n A B E o f x hN hx) (zr_open_t1 l D c d n A B mk th x hN hx) (by decide) trivial (by decide)
theorem zw_tie (hI : zv_I n A E mk) (hst : l.stackTraces = false) : zv_O l D c a d n A B E mk th o f yL_tie wsL_tie yX9_tie wsX9_tie [] (fun _ => True) := by
  obtain ⟨hN, hS, hE, hz, h4, h4z, hT, hC, ⟨P, hK⟩, hZ, hp⟩ := id hI
  have hEs := zv_hE hI
  have hci := zv_ci hI
  by_cases h : n 0 = 0
  · exact zv_thr hI hz (zl_tie_t1 l D hst c a n A B E o f hN h) (zr_tie_t1 l D c d n A B mk th hN hT h) (by decide) trivial (by decide)
  · by_cases h2 : A 38 0 = 0
    · obtain ⟨p, ep, lp⟩ := hp
      have et : ze_mn (ze_ab ((if zf_tied A 0 then 0 else A 0 (ze_ix 0)) - 0)) (360 - ze_ab ((if zf_tied A 0 then 0 else A 0 (ze_ix 0)) - 0)) = ze_mn (A 0 0) (360 - A 0 0) := by
        have e0 : ze_ix 0 = 0 := rfl
        have e1 : ¬ zf_tied A 0 := fun z => z.1 h2
        rw [if_neg e1, e0, Int32.sub_zero, ep]
        unfold ze_ab
        have e2 : (0 : Int32) ≤ nI p := by
          have e3 : (0 : Int32) = nI 0 := rfl
          rw [e3, nI_leI (by decide) (by omega)]
          omega
        rw [if_pos e2]
      by_cases h3 : ze_mn (A 0 0) (360 - A 0 0) ≤ 10
      · exact zv_ok (zv_tie hI (Or.inr rfl) hci) (zl_tie_f l D c a n A B E o f hN h h2 (by rw [et]; exact h3)) (zr_tie_f l D c d n A B mk th hN hT hS hz h h2 h3) (by rw [hE]; rfl) trivial (by decide)
      · exact zv_thr hI hz (zl_tie_t3 l D hst c a n A B E o f hN h h2 (by rw [et]; exact h3)) (zr_tie_t3 l D c d n A B mk th hN hT h h2 h3) (by decide) trivial (by decide)
    · exact zv_thr hI hz (zl_tie_t2 l D hst c a n A B E o f hN h h2) (zr_tie_t2 l D c d n A B mk th hN hT h h2) (by decide) trivial (by decide)
theorem zw_untie (hI : zv_I n A E mk) (hst : l.stackTraces = false) : zv_O l D c a d n A B E mk th o f yL_untie wsL_untie yX9_untie wsX9_untie [] (fun _ => True) := by
  obtain ⟨hN, hS, hE, hz, h4, h4z, hT, hC, ⟨P, hK⟩, hZ, hp⟩ := id hI
  have hEs := zv_hE hI
  have hci := zv_ci hI
  by_cases h2 : A 38 0 = 0
  · exact zv_thr hI hz (zl_untie_t1 l D hst c a n A B E o f h2) (zr_untie_t1 l D c d n A B mk th h2) (by decide) trivial (by decide)
  · exact zv_ok (zv_tie hI (Or.inl rfl) hci) (zl_untie_f l D c a n A B E o f hN h2) (zr_untie_f l D c d n A B mk th hN hS hz h2) (by rw [hE]; rfl) trivial (by decide)
theorem zw_addGenerator (hI : zv_I n A E mk) (hst : l.stackTraces = false) (x le gr wu fu : Int32) : zv_O l D c a d n A B E mk th o f yL_addGenerator wsL_addGenerator yX9_addGenerator wsX9_addGenerator [.int x, .int le, .int gr, .int wu, .int fu] (fun _ => True) := by
  obtain ⟨hN, hS, hE, hz, h4, h4z, hT, hC, ⟨P, hK⟩, hZ, hp⟩ := id hI
  have hEs := zv_hE hI
  have hci := zv_ci hI
  have bj : n 0 < 2 ^ 31 := by
    have q := hN.1
    omega
  by_cases hx : zf_isIn x 0 (nI (n 0) - 1)
  · obtain ⟨j, hj, rfl⟩ := zf_isInO bj hx
    by_cases h1 : zf_isIn le 0 100
    · by_cases h2 : zf_isIn gr 1 200
      · by_cases h3 : gr < le
        · exact zv_thr hI hz (zl_addGenerator_t2b l D hst c a n A B E o f j hN hj le gr wu fu h1 (fun z => ((zg_mxin h1).mp z).2 h3)) (zr_addGenerator_t2c l D c d n A B mk th j hN hj le gr wu fu h1 h2 h3) (by decide) trivial (by decide)
        · have hm := (zg_mxin h1).mpr ⟨h2, h3⟩
          by_cases h5 : zf_isIn wu 0 9
          · by_cases h6 : zf_isIn fu 0 9999
            · by_cases h7 : n 2 < 6
              · exact zv_okE (zv_addGenerator hI h7 hj h1 h2 h3 h6) (zl_addGenerator_f l D c a n A B E o f j hN hj le gr wu fu h1 hm h5 h6 h7 (hZ.1 _ (Nat.le_refl _)).1 (hZ.1 _ (Nat.le_refl _)).2) (zr_addGenerator_f l D c d n A B mk th j hN hj le gr wu fu h1 h2 h3 h5 h6 (by omega)) (fun q => va_up_ne _ _ (by omega)) rfl trivial (by decide)
              · have q := hN.2.2.1
                exact zv_thr hI hz (zl_addGenerator_t3 l D hst c a n A B E o f j hN hj le gr wu fu h1 hm h5 h6 h7) (zr_addGenerator_t3 l D c d n A B mk th j hN hj le gr wu fu h1 h2 h3 h5 h6 (by omega)) (by decide) trivial (by decide)
            · exact zv_thr hI hz (zl_addGenerator_t2d l D hst c a n A B E o f j hN hj le gr wu fu h1 hm h5 h6) (zr_addGenerator_t2e l D c d n A B mk th j hN hj le gr wu fu h1 h2 h3 h5 h6) (by decide) trivial (by decide)
          · exact zv_thr hI hz (zl_addGenerator_t2c l D hst c a n A B E o f j hN hj le gr wu fu h1 hm h5) (zr_addGenerator_t2d l D c d n A B mk th j hN hj le gr wu fu h1 h2 h3 h5) (by decide) trivial (by decide)
      · exact zv_thr hI hz (zl_addGenerator_t2b l D hst c a n A B E o f j hN hj le gr wu fu h1 (fun z => h2 ((zg_mxin h1).mp z).1)) (zr_addGenerator_t2b l D c d n A B mk th j hN hj le gr wu fu h1 h2) (by decide) trivial (by decide)
    · exact zv_thr hI hz (zl_addGenerator_t2a l D hst c a n A B E o f j hN hj le gr wu fu h1) (zr_addGenerator_t2a l D c d n A B mk th j hN hj le gr wu fu h1) (by decide) trivial (by decide)
  · exact zv_thr hI hz (zl_addGenerator_t1 l D hst c a n A B E o f x hN hx le gr wu fu) (zr_addGenerator_t1 l D c d n A B mk th x hN hx le gr wu fu) (by decide) trivial (by decide)
theorem zw_start (hI : zv_I n A E mk) (hst : l.stackTraces = false) (x : Int32) : zv_O l D c a d n A B E mk th o f yL_start wsL_start yX9_start wsX9_start [.int x] (fun _ => True) := by
  obtain ⟨hN, hS, hE, hz, h4, h4z, hT, hC, ⟨P, hK⟩, hZ, hp⟩ := id hI
  have hEs := zv_hE hI
  have hci := zv_ci hI
  have bj : n 2 < 2 ^ 31 := by
    have q := hN.2.2.1
    omega
  by_cases hx : zf_isIn x 0 (nI (n 2) - 1)
  · obtain ⟨j, hj, rfl⟩ := zf_isInO bj hx
    by_cases h : A 13 j = 111
    · by_cases h2 : A 7 j ≤ A 10 j
      · exact zv_ok (zv_start hI hj) (zl_start_f l D c a n A B E o f j hN hj h (fun z => z h2)) (zr_start_f l D c d n A B mk th j hN hj h h2) (by simp [zf_start, ze_sE, ze_sA, upd]) trivial (by decide)
      · exact zv_thr hI hz (zl_start_t3 l D hst c a n A B E o f j hN hj h h2) (zr_start_t3 l D c d n A B mk th j hN hj h h2) (by decide) trivial (by decide)
    · exact zv_thr hI hz (zl_start_t2 l D hst c a n A B E o f j hN hj h) (zr_start_t2 l D c d n A B mk th j hN hj h) (by decide) trivial (by decide)
  · exact zv_thr hI hz (zl_start_t1 l D hst c a n A B E o f x hN hx) (zr_start_t1 l D c d n A B mk th x hN hx) (by decide) trivial (by decide)
theorem zw_stop (hI : zv_I n A E mk) (hst : l.stackTraces = false) (x : Int32) : zv_O l D c a d n A B E mk th o f yL_stop wsL_stop yX9_stop wsX9_stop [.int x] (fun _ => True) := by
  obtain ⟨hN, hS, hE, hz, h4, h4z, hT, hC, ⟨P, hK⟩, hZ, hp⟩ := id hI
  have hEs := zv_hE hI
  have hci := zv_ci hI
  have bj : n 2 < 2 ^ 31 := by
    have q := hN.2.2.1
    omega
  by_cases hx : zf_isIn x 0 (nI (n 2) - 1)
  · obtain ⟨j, hj, rfl⟩ := zf_isInO bj hx
    by_cases h : A 13 j = 111
    · exact zv_thr hI hz (zl_stop_t2 l D hst c a n A B E o f j hN hj h) (zr_stop_t2 l D c d n A B mk th j hN hj h) (by decide) trivial (by decide)
    · exact zv_ok (zv_char hI (Or.inl rfl)) (zl_stop_f l D c a n A B E o f j hN hj h) (zr_stop_f l D c d n A B mk th j hN hj h) rfl trivial (by decide)
  · exact zv_thr hI hz (zl_stop_t1 l D hst c a n A B E o f x hN hx) (zr_stop_t1 l D c d n A B mk th x hN hx) (by decide) trivial (by decide)
theorem zw_startNext (hI : zv_I n A E mk) (hst : l.stackTraces = false) (x : Int32) : zv_O l D c a d n A B E mk th o f yL_startNext wsL_startNext yX9_startNext wsX9_startNext [.int x] (fun _ => True) := by
  obtain ⟨hN, hS, hE, hz, h4, h4z, hT, hC, ⟨P, hK⟩, hZ, hp⟩ := id hI
  have hEs := zv_hE hI
  have hci := zv_ci hI
  have bj : n 0 < 2 ^ 31 := by
    have q := hN.1
    omega
  by_cases hx : zf_isIn x 0 (nI (n 0) - 1)
  · obtain ⟨j, hj, rfl⟩ := zf_isInO bj hx
    have hnx : zf_nx A (E 0) (E 0 j) (n 2) = zf_nr A (zf_CI n A) (zf_CI n A j) (n 2) := by rw [hE, zf_nxE]
    cases hpk : zf_nr A (zf_CI n A) (zf_CI n A j) (n 2) with
    | none => exact zv_thr hI hci (zl_startNext_t2 l D hst c a n A B E o f j hN hj hS (hnx.trans hpk)) (zr_startNext_t2 l D c d n A B mk th j hN hj hS hz hpk) (by decide) trivial (by decide)
    | some v => exact zv_ok (zv_mk (zv_start hI (zf_nrlt (Nat.le_refl _) hpk)) hci) (zl_startNext_f l D c a n A B E o f j hN hj hS v (hnx.trans hpk)) (zr_startNext_f l D c d n A B mk th j hN hj hS hz v hpk) rfl trivial (by decide)
  · exact zv_thr hI hz (zl_startNext_t1 l D hst c a n A B E o f x hN hx) (zr_startNext_t1 l D c d n A B mk th x hN hx) (by decide) trivial (by decide)
theorem zw_refuel (hI : zv_I n A E mk) (hst : l.stackTraces = false) (x y : Int32) : zv_O l D c a d n A B E mk th o f yL_refuel wsL_refuel yX9_refuel wsX9_refuel [.int x, .int y] (fun _ => True) := by
  obtain ⟨hN, hS, hE, hz, h4, h4z, hT, hC, ⟨P, hK⟩, hZ, hp⟩ := id hI
  have hEs := zv_hE hI
  have hci := zv_ci hI
  have bj : n 2 < 2 ^ 31 := by
    have q := hN.2.2.1
    omega
  by_cases hx : zf_isIn x 0 (nI (n 2) - 1)
  · obtain ⟨j, hj, rfl⟩ := zf_isInO bj hx
    by_cases hy : zf_isIn y 1 9999
    · by_cases h2 : A 10 j + y ≤ 99999
      · exact zv_ok (zv_refuel hI hy h2) (zl_refuel_f l D c a n A B E o f j hN hj y hy h2) (zr_refuel_f l D c d n A B mk th j hN hj y hy h2) rfl trivial (by decide)
      · exact zv_thr hI hz (zl_refuel_t3 l D hst c a n A B E o f j hN hj y hy h2) (zr_refuel_t3 l D c d n A B mk th j hN hj y hy h2) (by decide) trivial (by decide)
    · exact zv_thr hI hz (zl_refuel_t2 l D hst c a n A B E o f j hN hj y hy) (zr_refuel_t2 l D c d n A B mk th j hN hj y hy) (by decide) trivial (by decide)
  · exact zv_thr hI hz (zl_refuel_t1 l D hst c a n A B E o f x hN hx y) (zr_refuel_t1 l D c d n A B mk th x hN hx y) (by decide) trivial (by decide)
theorem zw_toGo (hI : zv_I n A E mk) (hst : l.stackTraces = false) (x : Int32) : zv_O l D c a d n A B E mk th o f yL_toGo wsL_toGo yX9_toGo wsX9_toGo [.int x] (fun _ => True) := by
  obtain ⟨hN, hS, hE, hz, h4, h4z, hT, hC, ⟨P, hK⟩, hZ, hp⟩ := id hI
  have hEs := zv_hE hI
  have hci := zv_ci hI
  have bj : n 2 < 2 ^ 31 := by
    have q := hN.2.2.1
    omega
  by_cases hx : zf_isIn x 0 (nI (n 2) - 1)
  · obtain ⟨j, hj, rfl⟩ := zf_isInO bj hx
    by_cases h : A 13 j = 119
    · exact zv_ok hI (zl_toGo_f l D c a n A B E o f j hN hj h) (zr_toGo_f l D c d n A B mk th j hN hj h) rfl trivial (by decide)
    · exact zv_thr hI hz (zl_toGo_t2 l D hst c a n A B E o f j hN hj h) (zr_toGo_t2 l D c d n A B mk th j hN hj h) (by decide) trivial (by decide)
  · exact zv_thr hI hz (zl_toGo_t1 l D hst c a n A B E o f x hN hx) (zr_toGo_t1 l D c d n A B mk th x hN hx) (by decide) trivial (by decide)
theorem zw_addStore (hI : zv_I n A E mk) (hst : l.stackTraces = false) (x y z : Int32) : zv_O l D c a d n A B E mk th o f yL_addStore wsL_addStore yX9_addStore wsX9_addStore [.int x, .int y, .int z] (fun _ => True) := by
  obtain ⟨hN, hS, hE, hz, h4, h4z, hT, hC, ⟨P, hK⟩, hZ, hp⟩ := id hI
  have hEs := zv_hE hI
  have hci := zv_ci hI
  have bj : n 0 < 2 ^ 31 := by
    have q := hN.1
    omega
  by_cases hx : zf_isIn x 0 (nI (n 0) - 1)
  · obtain ⟨j, hj, rfl⟩ := zf_isInO bj hx
    by_cases h1 : zf_isIn y 1 999
    · by_cases h2 : zf_isIn z 1 99
      · by_cases h3 : n 3 < 4
        · exact zv_okE (zv_addStore hI h3 hj h1 h2) (zl_addStore_f l D c a n A B E o f j hN hj y z h1 h2 h3 (hZ.2.1 _ (Nat.le_refl _)).1 (hZ.2.1 _ (Nat.le_refl _)).2) (zr_addStore_f l D c d n A B mk th j hN hj y z h1 h2 (by omega)) (fun q => va_up_ne _ _ (by omega)) rfl trivial (by decide)
        · have q := hN.2.2.2.1
          exact zv_thr hI hz (zl_addStore_t3 l D hst c a n A B E o f j hN hj y z h1 h2 h3) (zr_addStore_t3 l D c d n A B mk th j hN hj y z h1 h2 (by omega)) (by decide) trivial (by decide)
      · exact zv_thr hI hz (zl_addStore_t2b l D hst c a n A B E o f j hN hj y z h1 h2) (zr_addStore_t2b l D c d n A B mk th j hN hj y z h1 h2) (by decide) trivial (by decide)
    · exact zv_thr hI hz (zl_addStore_t2a l D hst c a n A B E o f j hN hj y z h1) (zr_addStore_t2a l D c d n A B mk th j hN hj y z h1) (by decide) trivial (by decide)
  · exact zv_thr hI hz (zl_addStore_t1 l D hst c a n A B E o f x hN hx y z) (zr_addStore_t1 l D c d n A B mk th x hN hx y z) (by decide) trivial (by decide)
theorem zw_addLoad (hI : zv_I n A E mk) (hst : l.stackTraces = false) (x y z : Int32) : zv_O l D c a d n A B E mk th o f yL_addLoad wsL_addLoad yX9_addLoad wsX9_addLoad [.int x, .int y, .int z] (fun _ => True) := by
  obtain ⟨hN, hS, hE, hz, h4, h4z, hT, hC, ⟨P, hK⟩, hZ, hp⟩ := id hI
  have hEs := zv_hE hI
  have hci := zv_ci hI
  have bj : n 0 < 2 ^ 31 := by
    have q := hN.1
    omega
  by_cases hx : zf_isIn x 0 (nI (n 0) - 1)
  · obtain ⟨j, hj, rfl⟩ := zf_isInO bj hx
    by_cases h1 : zf_isIn y 1 200
    · by_cases h2 : zf_isIn z 1 9
      · by_cases h3 : n 4 < 10
        · exact zv_okE (zv_addLoad hI h3 hj h1) (zl_addLoad_f l D c a n A B E o f j hN hj y z h1 h2 h3 (hZ.2.2 _ (Nat.le_refl _)).1 (hZ.2.2 _ (Nat.le_refl _)).2) (zr_addLoad_f l D c d n A B mk th j hN hj y z h1 h2 (by omega)) (fun q => va_up_ne _ _ (by omega)) rfl trivial (by decide)
        · have q := hN.2.2.2.2
          exact zv_thr hI hz (zl_addLoad_t3 l D hst c a n A B E o f j hN hj y z h1 h2 h3) (zr_addLoad_t3 l D c d n A B mk th j hN hj y z h1 h2 (by omega)) (by decide) trivial (by decide)
      · exact zv_thr hI hz (zl_addLoad_t2b l D hst c a n A B E o f j hN hj y z h1 h2) (zr_addLoad_t2b l D c d n A B mk th j hN hj y z h1 h2) (by decide) trivial (by decide)
    · exact zv_thr hI hz (zl_addLoad_t2a l D hst c a n A B E o f j hN hj y z h1) (zr_addLoad_t2a l D c d n A B mk th j hN hj y z h1) (by decide) trivial (by decide)
  · exact zv_thr hI hz (zl_addLoad_t1 l D hst c a n A B E o f x hN hx y z) (zr_addLoad_t1 l D c d n A B mk th x hN hx y z) (by decide) trivial (by decide)
theorem zw_setRank (hI : zv_I n A E mk) (hst : l.stackTraces = false) (x y : Int32) : zv_O l D c a d n A B E mk th o f yL_setRank wsL_setRank yX9_setRank wsX9_setRank [.int x, .int y] (fun _ => True) := by
  obtain ⟨hN, hS, hE, hz, h4, h4z, hT, hC, ⟨P, hK⟩, hZ, hp⟩ := id hI
  have hEs := zv_hE hI
  have hci := zv_ci hI
  have bj : n 4 < 2 ^ 31 := by
    have q := hN.2.2.2.2
    omega
  by_cases hx : zf_isIn x 0 (nI (n 4) - 1)
  · obtain ⟨j, hj, rfl⟩ := zf_isInO bj hx
    by_cases hy : zf_isIn y 1 9
    · exact zv_ok (zv_setRank hI) (zl_setRank_f l D c a n A B E o f j hN hj y hy) (zr_setRank_f l D c d n A B mk th j hN hj y hy) rfl trivial (by decide)
    · exact zv_thr hI hz (zl_setRank_t2 l D hst c a n A B E o f j hN hj y hy) (zr_setRank_t2 l D c d n A B mk th j hN hj y hy) (by decide) trivial (by decide)
  · exact zv_thr hI hz (zl_setRank_t1 l D hst c a n A B E o f x hN hx y) (zr_setRank_t1 l D c d n A B mk th x hN hx y) (by decide) trivial (by decide)
theorem zw_waits (hI : zv_I n A E mk) (hst : l.stackTraces = false) (x : Int32) : zv_O l D c a d n A B E mk th o f yL_waits wsL_waits yX9_waits wsX9_waits [.int x] (fun _ => True) := by
  obtain ⟨hN, hS, hE, hz, h4, h4z, hT, hC, ⟨P, hK⟩, hZ, hp⟩ := id hI
  have hEs := zv_hE hI
  have hci := zv_ci hI
  have bj : n 4 < 2 ^ 31 := by
    have q := hN.2.2.2.2
    omega
  by_cases hx : zf_isIn x 0 (nI (n 4) - 1)
  · obtain ⟨j, hj, rfl⟩ := zf_isInO bj hx
    by_cases h : A 5 j = 0
    · exact zv_thr hI hz (zl_waits_t2 l D hst c a n A B E o f j hN hj h) (zr_waits_t2 l D c d n A B mk th j hN hj h) (by decide) trivial (by decide)
    · exact zv_ok hI (zl_waits_f l D c a n A B E o f j hN hj h) (zr_waits_f l D c d n A B mk th j hN hj h) rfl trivial (by decide)
  · exact zv_thr hI hz (zl_waits_t1 l D hst c a n A B E o f x hN hx) (zr_waits_t1 l D c d n A B mk th x hN hx) (by decide) trivial (by decide)
theorem zw_setReserve (hI : zv_I n A E mk) (hst : l.stackTraces = false) (y : Int32) : zv_O l D c a d n A B E mk th o f yL_setReserve wsL_setReserve yX9_setReserve wsX9_setReserve [.int y] (fun _ => True) := by
  obtain ⟨hN, hS, hE, hz, h4, h4z, hT, hC, ⟨P, hK⟩, hZ, hp⟩ := id hI
  have hEs := zv_hE hI
  have hci := zv_ci hI
  by_cases hy : zf_isIn y 0 999
  · exact zv_ok (zv_setReserve hI) (zl_setReserve_f l D c a n A B E o f y hy) (zr_setReserve_f l D c d n A B mk th y hy) rfl trivial (by decide)
  · exact zv_thr hI hz (zl_setReserve_t1 l D hst c a n A B E o f y hy) (zr_setReserve_t1 l D c d n A B mk th y hy) (by decide) trivial (by decide)
theorem zw_setDelay (hI : zv_I n A E mk) (hst : l.stackTraces = false) (y : Int32) : zv_O l D c a d n A B E mk th o f yL_setDelay wsL_setDelay yX9_setDelay wsX9_setDelay [.int y] (fun _ => True) := by
  obtain ⟨hN, hS, hE, hz, h4, h4z, hT, hC, ⟨P, hK⟩, hZ, hp⟩ := id hI
  have hEs := zv_hE hI
  have hci := zv_ci hI
  by_cases hy : zf_isIn y 0 9
  · exact zv_ok (zv_setDelay hI) (zl_setDelay_f l D c a n A B E o f y hy) (zr_setDelay_f l D c d n A B mk th y hy) rfl trivial (by decide)
  · exact zv_thr hI hz (zl_setDelay_t1 l D hst c a n A B E o f y hy) (zr_setDelay_t1 l D c d n A B mk th y hy) (by decide) trivial (by decide)
theorem zw_barrier (hI : zv_I n A E mk) (hst : l.stackTraces = false) (x : Int32) : zv_O l D c a d n A B E mk th o f yL_barrier wsL_barrier yX9_barrier wsX9_barrier [.int x] (fun _ => True) := by
  obtain ⟨hN, hS, hE, hz, h4, h4z, hT, hC, ⟨P, hK⟩, hZ, hp⟩ := id hI
  have hEs := zv_hE hI
  have hci := zv_ci hI
  have bj : n 4 < 2 ^ 31 := by
    have q := hN.2.2.2.2
    omega
  by_cases hx : zf_isIn x 0 (nI (n 4) - 1)
  · obtain ⟨j, hj, rfl⟩ := zf_isInO bj hx
    have key : zf_keepC n A (E 0) j (zf_bOf n A (E 0) (E 0 (ze_ix (A 19 j)))) ↔ zf_keeps n A (zf_CI n A) j := by
      rw [hE]
      exact zf_keepE rfl
    by_cases hk : zf_keeps n A (zf_CI n A) j
    · exact zv_thr hI hci (zl_barrier_t2 l D hst c a n A B E o f j hN hj hS (key.mpr hk)) (zr_barrier_t2 l D c d n A B mk th j hN hj hS hz hk) (by decide) trivial (by decide)
    · exact zv_ok (zv_mk hI hci) (zl_barrier_f l D c a n A B E o f j hN hj hS (fun z => hk (key.mp z))) (zr_barrier_f l D c d n A B mk th j hN hj hS hz hk) (by rw [hE, zg_barrier hj hk]; rfl) trivial (by decide)
  · exact zv_thr hI hci (zl_barrier_t1 l D hst c a n A B E o f x hN hx) (zr_barrier_t1 l D c d n A B mk th x hN hx hS hz) (by decide) trivial (by decide)
theorem zw_behind (hI : zv_I n A E mk) (hst : l.stackTraces = false) (x : Int32) : zv_O l D c a d n A B E mk th o f yL_behind wsL_behind yX9_behind wsX9_behind [.int x] (fun _ => True) := by
  obtain ⟨hN, hS, hE, hz, h4, h4z, hT, hC, ⟨P, hK⟩, hZ, hp⟩ := id hI
  have hEs := zv_hE hI
  have hci := zv_ci hI
  have bj : n 4 < 2 ^ 31 := by
    have q := hN.2.2.2.2
    omega
  by_cases hx : zf_isIn x 0 (nI (n 4) - 1)
  · obtain ⟨j, hj, rfl⟩ := zf_isInO bj hx
    have key : zf_keepC n A (E 0) j (zf_bOf n A (E 0) (E 0 (ze_ix (A 19 j)))) ↔ zf_keeps n A (zf_CI n A) j := by
      rw [hE]
      exact zf_keepE rfl
    by_cases hk : zf_keeps n A (zf_CI n A) j
    · exact zv_thr hI hci (zl_behind_t2 l D hst c a n A B E o f j hN hj hS (key.mpr hk)) (zr_behind_t2 l D c d n A B mk th j hN hj hS hz hk) (by decide) trivial (by decide)
    · exact zv_ok (zv_mk hI hci) (zl_behind_f l D c a n A B E o f j hN hj hS (fun z => hk (key.mp z))) (zr_behind_f l D c d n A B mk th j hN hj hS hz hk) (by rw [hE, zg_behind hN hK.2.2.1 hj hk]) trivial (by decide)
  · exact zv_thr hI hci (zl_behind_t1 l D hst c a n A B E o f x hN hx) (zr_behind_t1 l D c d n A B mk th x hN hx hS hz) (by decide) trivial (by decide)
theorem zw_share (hI : zv_I n A E mk) (hst : l.stackTraces = false) (x y z : Int32) : zv_O l D c a d n A B E mk th o f yL_share wsL_share yX9_share wsX9_share [.int x, .int y, .int z] (fun _ => True) := by
  obtain ⟨hN, hS, hE, hz, h4, h4z, hT, hC, ⟨P, hK⟩, hZ, hp⟩ := id hI
  have hEs := zv_hE hI
  have hci := zv_ci hI
  have bj : n 0 < 2 ^ 31 := by
    have q := hN.1
    omega
  by_cases hx : zf_isIn x 0 (nI (n 0) - 1)
  · obtain ⟨j, hj, rfl⟩ := zf_isInO bj hx
    have bk : n 2 < 2 ^ 31 := by
      have q := hN.2.2.1
      omega
    by_cases hzz : zf_isIn z 0 (nI (n 2) - 1)
    · obtain ⟨k, hk, rfl⟩ := zf_isInO bk hzz
      by_cases hy : zf_isIn y 0 1200
      · by_cases hrr : zf_runs A (zf_CI n A) k (zf_CI n A j)
        · obtain ⟨q, eq, -, lq⟩ := zv_rng (a := 0) (b := 1200) hy (by decide) (by decide)
          have hfit := zh_fit (io := zf_CI n A) (m := zf_CI n A j) (t := y) hN hK.1 eq (by omega)
          exact zv_ok (zv_E (zv_mk hI hci) (by rfl)) (zl_share_f l D c a n A B E o f j hN hj y k hk hS hy (by rw [hE]; exact hrr)) (zr_share_f l D c d n A B mk th j hN hj y k hk hS hz hy hrr) (by rw [hE, zg_share hN hK.1 hfit hk hrr]) trivial (by decide)
        · exact zv_thr hI hci (zl_share_t3 l D hst c a n A B E o f j hN hj y k hk hS hy (by rw [hE]; exact hrr)) (zr_share_t3 l D c d n A B mk th j hN hj y k hk hS hz hy hrr) (by decide) trivial (by decide)
      · exact zv_thr hI hz (zl_share_t2 l D hst c a n A B E o f j hN hj y k hk hy) (zr_share_t2 l D c d n A B mk th j hN hj y k hk hy) (by decide) trivial (by decide)
    · exact zv_thr hI hz (zl_share_t1b l D hst c a n A B E o f j hN hj y z hzz) (zr_share_t1b l D c d n A B mk th j hN hj y z hzz) (by decide) trivial (by decide)
  · exact zv_thr hI hz (zl_share_t1a l D hst c a n A B E o f x hN hx y z) (zr_share_t1a l D c d n A B mk th x y z hN hx) (by decide) trivial (by decide)
theorem zw_shareBySteps (hI : zv_I n A E mk) (hst : l.stackTraces = false) (x y z : Int32) : zv_O l D c a d n A B E mk th o f yL_shareBySteps wsL_shareBySteps yX9_shareBySteps wsX9_shareBySteps [.int x, .int y, .int z] (fun _ => True) := by
  obtain ⟨hN, hS, hE, hz, h4, h4z, hT, hC, ⟨P, hK⟩, hZ, hp⟩ := id hI
  have hEs := zv_hE hI
  have hci := zv_ci hI
  have bj : n 0 < 2 ^ 31 := by
    have q := hN.1
    omega
  by_cases hx : zf_isIn x 0 (nI (n 0) - 1)
  · obtain ⟨j, hj, rfl⟩ := zf_isInO bj hx
    have bk : n 2 < 2 ^ 31 := by
      have q := hN.2.2.1
      omega
    by_cases hzz : zf_isIn z 0 (nI (n 2) - 1)
    · obtain ⟨k, hk, rfl⟩ := zf_isInO bk hzz
      by_cases hy : zf_isIn y 0 1200
      · by_cases hrr : zf_runs A (zf_CI n A) k (zf_CI n A j)
        · obtain ⟨q, eq, -, lq⟩ := zv_rng (a := 0) (b := 1200) hy (by decide) (by decide)
          have hfit := zh_fit (io := zf_CI n A) (m := zf_CI n A j) (t := y) hN hK.1 eq (by omega)
          exact zv_ok (zv_E (zv_mk hI hci) (by rfl)) (zl_shareBySteps_f l D c a n A B E o f j hN hj y k hk hS hy (by rw [hE]; exact hrr)) (zr_shareBySteps_f l D c d n A B mk th j hN hj y k hk hS hz hy hrr) (by rw [hE, zg_shareS hK.1 hk hrr]) trivial (by decide)
        · exact zv_thr hI hci (zl_shareBySteps_t3 l D hst c a n A B E o f j hN hj y k hk hS hy (by rw [hE]; exact hrr)) (zr_shareBySteps_t3 l D c d n A B mk th j hN hj y k hk hS hz hy hrr) (by decide) trivial (by decide)
      · exact zv_thr hI hz (zl_shareBySteps_t2 l D hst c a n A B E o f j hN hj y k hk hy) (zr_shareBySteps_t2 l D c d n A B mk th j hN hj y k hk hy) (by decide) trivial (by decide)
    · exact zv_thr hI hz (zl_shareBySteps_t1b l D hst c a n A B E o f j hN hj y z hzz) (zr_shareBySteps_t1b l D c d n A B mk th j hN hj y z hzz) (by decide) trivial (by decide)
  · exact zv_thr hI hz (zl_shareBySteps_t1a l D hst c a n A B E o f x hN hx y z) (zr_shareBySteps_t1a l D c d n A B mk th x y z hN hx) (by decide) trivial (by decide)
theorem zw_pass (hI : zv_I n A E mk) (hst : l.stackTraces = false) (x : Int32) : zv_O l D c a d n A B E mk th o f yL_pass wsL_pass yX9_pass wsX9_pass [.int x] (fun _ => True) := by
  obtain ⟨hN, hS, hE, hz, h4, h4z, hT, hC, ⟨P, hK⟩, hZ, hp⟩ := id hI
  have hEs := zv_hE hI
  have hci := zv_ci hI
  by_cases hx : zf_isIn x 1 12
  · obtain ⟨t, t1, t2, rfl⟩ := zf_isInKo hx
    obtain ⟨⟨e1, e2, e3⟩, -⟩ := zh_tks (B := B) hN hE hK t
    have hc := zl_pass_f l D c a n A B E o f t t1 t2 hN hS
    rw [e1, e2] at hc
    exact zv_ok (zv_pass (B := B) hI t (e3 0 (by decide)) hci) hc (zr_pass_f l D c d n A B mk th t t1 t2 hN hS hz hC) rfl trivial (by decide)
  · exact zv_thr hI hz (zl_pass_t1 l D hst c a n A B E o f x hx) (zr_pass_t1 l D c d n A B mk th x hx) (by decide) trivial (by decide)
end ZW
