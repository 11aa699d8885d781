/-! ===== the class's two ways to share, and the reference's ===== -/
theorem zn_first {first : Int32} {q : Nat} (hq : q < 2 ^ 31) : (¬ first ≤ nI q) ↔ q < first.toInt.toNat := by
  rw [Int32.le_iff_toInt_le, nI_toInt hq]
  omega
theorem zf_swN {N : Nat} {s : Nat → Int32} {S : Nat → Nat} (hN : N ≤ 6) (h : ∀ g, g < N → s g = nI (S g) ∧ S g ≤ 200) {g : Nat} (hg : g < N) (first : Int32) : ∀ (k w : Nat), w + 2 ^ k ≤ 256 → zf_sw s N g first k (nI w) = nI (zn_sw S N g first.toInt.toNat k w) := by
  intro k
  induction k with
  | zero => exact fun w _ => rfl
  | succ k ih =>
    intro w hw
    have hp : 0 < 2 ^ k := Nat.pow_pos (by decide)
    have h3 : (2 : Nat) ^ (k + 1) = 2 ^ k + 2 ^ k := by rw [Nat.pow_succ]; omega
    obtain ⟨e1, l1⟩ := h g hg
    simp only [zf_sw, zn_sw]
    rw [nI_add]
    by_cases c1 : w + 2 ^ k ≤ S g
    · have d1 : ¬ s g < nI (w + 2 ^ k) := by
        rw [e1, nI_ltI (by omega) (by omega)]
        omega
      have e4 : (1 : Int32) = nI 1 := rfl
      have e5 : nI (w + 2 ^ k) - 1 = nI (w + 2 ^ k - 1) := by
        rw [e4]
        exact zn_sub (by omega) (by omega)
      obtain ⟨e6, l6⟩ := zn_saE hN h hg (by omega : 0 < S g) (i := w + 2 ^ k - 1) (by omega)
      rw [e5, e6]
      have hf := zn_first (first := first) (q := zn_sa S N g (w + 2 ^ k - 1)) (by omega)
      by_cases c2 : zn_sa S N g (w + 2 ^ k - 1) < first.toInt.toNat
      · rw [if_pos ⟨d1, hf.mpr c2⟩, if_pos ⟨c1, c2⟩]
        exact ih _ (by omega)
      · rw [if_neg (fun z => c2 (hf.mp z.2)), if_neg (fun z => c2 z.2)]
        exact ih _ (by omega)
    · have d1 : s g < nI (w + 2 ^ k) := by
        rw [e1, nI_ltI (by omega) (by omega)]
        omega
      rw [if_neg (fun z => z.1 d1), if_neg (fun z => c1 z.1)]
      exact ih _ (by omega)
theorem zf_swrE {N : Nat} {s : Nat → Int32} {S : Nat → Nat} (hN : N ≤ 6) (h : ∀ g, g < N → s g = nI (S g) ∧ S g ≤ 200) {g : Nat} (hg : g < N) (first : Int32) : zf_swr s N g first = nI (zn_tl S N first.toInt.toNat (fun _ => 0) g) := by
  unfold zf_swr
  have e0 : (0 : Int32) = nI 0 := rfl
  rw [e0, zf_swN hN h hg first 8 0 (by decide)]
  have hT := (zn_tlD first.toInt.toNat _ (zn_D0 S N)).1.1 g hg
  have hS := (h g hg).2
  rw [zn_swE hg 8 0 (Nat.zero_le _) (by have : (2 : Nat) ^ 8 = 256 := rfl; omega)]
/-- the ranges of the generators' numbers -/
def zg_R (N : Nat) (A : Nat → Nat → Int32) : Prop := ∀ g, g < N → ∃ le gr fu : Nat, A 7 g = nI le ∧ A 8 g = nI gr ∧ A 10 g = nI fu ∧ le ≤ 100 ∧ gr ≤ 200 ∧ fu ≤ 99999 ∧ le ≤ gr
theorem zg_can {N : Nat} {A : Nat → Nat → Int32} (h : zg_R N A) {g : Nat} (hg : g < N) : ∃ le c : Nat, A 7 g = nI le ∧ zf_can A g = nI c ∧ le ≤ 100 ∧ c ≤ 200 := by
  obtain ⟨le, gr, fu, e1, e2, e3, l1, l2, l3, l4⟩ := h g hg
  refine ⟨le, min gr fu, e1, ?_, l1, by omega⟩
  unfold zf_can
  rw [e2, e3, zf_mnN (by omega) (by omega)]
/-- the steps of a generator that runs on the island, in plain numbers -/
def zg_S (A : Nat → Nat → Int32) (io : Nat → Int32) (m : Int32) (g : Nat) : Nat := if zf_runs A io g m then (zf_can A g).toNatClampNeg - (A 7 g).toNatClampNeg else 0
theorem zg_SE {N : Nat} {A : Nat → Nat → Int32} {io : Nat → Int32} {m : Int32} (h : zg_R N A) {g : Nat} (hg : g < N) : zf_stp A io m g = nI (zg_S A io m g) ∧ zg_S A io m g ≤ 200 := by
  unfold zf_stp zg_S
  by_cases q : zf_runs A io g m
  · rw [if_pos q, if_pos q]
    obtain ⟨le, c, e1, e2, l1, l2⟩ := zg_can h hg
    unfold zf_steps
    rw [e1, e2, nI_clamp (by omega), nI_clamp (by omega)]
    refine ⟨?_, by omega⟩
    unfold ze_mx
    by_cases w : le ≤ c
    · rw [zn_sub w (by omega)]
      have e0 : (0 : Int32) = nI 0 := rfl
      by_cases z : c - le = 0
      · rw [z, e0, if_neg (by rw [nI_ltI (by omega) (by omega)]; omega)]
      · rw [e0, if_pos (by rw [nI_ltI (by omega) (by omega)]; omega)]
    · have z : c - le = 0 := by omega
      rw [z]
      have hneg : ¬ (0 : Int32) < nI c - nI le := by
        rw [Int32.lt_iff_toInt_lt, Int32.toInt_sub, nI_toInt (by omega), nI_toInt (by omega)]
        rw [Int.bmod_eq_of_le (by omega) (by omega)]
        have : (0 : Int32).toInt = 0 := by decide
        omega
      rw [if_neg hneg]
      rfl
  · rw [if_neg q, if_neg q]
    exact ⟨rfl, by omega⟩
/-- the reference's start: all least powers -/
theorem zg_G0 {n : Nat → Nat} {A : Nat → Nat → Int32} {io : Nat → Int32} {m : Int32} (h : zg_R (n 2) A) : zn_G (n 2) A io m (ze_up (zf_g1 A io m) (A 12) (n 2)) (fun _ => 0) (zg_S A io m) := by
  intro g hg
  have hu : ze_up (zf_g1 A io m) (A 12) (n 2) g = zf_g1 A io m g := by simp [ze_up, hg]
  refine ⟨Nat.zero_le _, (zg_SE h hg).2, fun q => ?_, fun q => ?_⟩
  · refine ⟨by unfold zg_S; rw [if_neg q], ?_⟩
    rw [hu]
    unfold zf_g1
    rw [if_neg q]
  · obtain ⟨le, c, e1, e2, l1, l2⟩ := zg_can h hg
    refine ⟨le, c, e1, e2, by omega, l2, ?_, ?_⟩
    · unfold zg_S
      rw [if_pos q, e1, e2, nI_clamp (by omega), nI_clamp (by omega)]
    · rw [hu]
      unfold zf_g1
      rw [if_pos q, e1, Nat.add_zero]
