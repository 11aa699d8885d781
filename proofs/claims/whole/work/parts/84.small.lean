/-! ===== small equalities ===== -/
theorem zg_mxin {le gr : Int32} (h : zf_isIn le 0 100) : zf_isIn gr (ze_mx 1 le) 200 ↔ (zf_isIn gr 1 200 ∧ ¬ gr < le) := by
  unfold zf_isIn ze_mx at *
  by_cases q : 1 < le
  · rw [if_pos q]
    simp only [Int32.lt_iff_toInt_lt] at *
    have e1 : (1 : Int32).toInt = 1 := by decide
    rw [e1] at q ⊢
    constructor
    · rintro ⟨h1, h2⟩
      exact ⟨⟨by omega, h2⟩, h1⟩
    · rintro ⟨⟨h1, h2⟩, h3⟩
      exact ⟨h3, h2⟩
  · rw [if_neg q]
    simp only [Int32.lt_iff_toInt_lt] at *
    have e1 : (1 : Int32).toInt = 1 := by decide
    rw [e1] at q ⊢
    constructor
    · rintro ⟨h1, h2⟩
      exact ⟨⟨h1, h2⟩, by omega⟩
    · rintro ⟨h1, h3⟩
      exact h1
theorem zg_first (io : Nat → Int32) (N : Nat) : ze_sum 0 (fun s => if io s = 0 then 1 else 0) N = zf_first io N := rfl
theorem zg_ph (A : Nat → Nat → Int32) (io : Nat → Int32) (j : Nat) : (if zf_tied A (io j) then 0 else A 0 (ze_ix (io j))) = zf_ph A io j := rfl
/-- what is held: an int's sum and a long's -/
theorem zg_held {N : Nat} {A : Nat → Nat → Int32} (h : zg_RT N A) (hN : N ≤ 4) : ∀ k, k ≤ N → (∃ q : Nat, zf_held A k = nI q ∧ q ≤ 999 * k) ∧ (zf_held A k).toInt64 = zf_st64 A k := by
  intro k
  induction k with
  | zero => exact fun _ => ⟨⟨0, rfl, Nat.le_refl _⟩, rfl⟩
  | succ k ih =>
    intro hk
    obtain ⟨⟨q, e, l⟩, e2⟩ := ih (by omega)
    obtain ⟨ca, ra, he, e3, e4, e5, l1, l2, l3⟩ := h k (by omega)
    have ex : zf_held A (k + 1) = zf_held A k + A 17 k := rfl
    refine ⟨⟨q + he, ?_, by omega⟩, ?_⟩
    · rw [ex, e, e5, nI_add]
    · have ey : zf_st64 A (k + 1) = zf_st64 A k + (A 17 k).toInt64 := rfl
      rw [ex, ey, ← e2, e, e5, nI_add]
      apply Int64.toInt_inj.mp
      rw [Int64.toInt_add, Int32.toInt_toInt64, Int32.toInt_toInt64, Int32.toInt_toInt64, nI_toInt (by omega), nI_toInt (by omega), nI_toInt (by omega)]
      rw [Int.bmod_eq_of_le (by omega) (by omega)]
      omega
