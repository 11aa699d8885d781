/-! ===== the first load that is not kept ===== -/
theorem zf_caI {A : Nat → Nat → Int32} {k o : Nat} : zf_ca A k o ↔ ((A 21 k).toInt < (A 21 o).toInt ∨ ((A 21 k).toInt = (A 21 o).toInt ∧ k < o)) := by
  unfold zf_ca
  rw [Int32.lt_iff_toInt_lt, ← Int32.toInt_inj]
/-- not kept, on the island m -/
def zg_un (n : Nat → Nat) (A : Nat → Nat → Int32) (io : Nat → Int32) (m : Int32) (k : Nat) : Prop := io (ze_ix (A 19 k)) = m ∧ ¬ zf_keeps n A io k
theorem zg_fuS {n : Nat → Nat} {A : Nat → Nat → Int32} {io : Nat → Int32} {m : Int32} (i : Nat) : (io (ze_ix (A 19 i)) = m ∧ ¬ zf_keepC n A io i (zf_bOf n A io m) ∧ zf_caO A i (zf_fuC n A io m (zf_bOf n A io m) i) = true) ↔ (zg_un n A io m i ∧ zf_caO A i (zf_fuC n A io m (zf_bOf n A io m) i) = true) := by
  unfold zg_un
  constructor
  · rintro ⟨h1, h2, h3⟩
    exact ⟨⟨h1, fun z => h2 ((zf_keepE h1).mpr z)⟩, h3⟩
  · rintro ⟨⟨h1, h2⟩, h3⟩
    exact ⟨h1, fun z => h2 ((zf_keepE h1).mp z), h3⟩
/-- the class's search: the least of those looked at -/
theorem zg_fu {n : Nat → Nat} {A : Nat → Nat → Int32} {io : Nat → Int32} {m : Int32} : ∀ i : Nat, (zf_fuC n A io m (zf_bOf n A io m) i = none ∧ ∀ k, k < i → ¬ zg_un n A io m k) ∨ ∃ b, zf_fuC n A io m (zf_bOf n A io m) i = some b ∧ b < i ∧ zg_un n A io m b ∧ ∀ k, k < i → zg_un n A io m k → k = b ∨ zf_ca A b k := by
  intro i
  induction i with
  | zero => exact Or.inl ⟨rfl, fun k hk => absurd hk (Nat.not_lt_zero _)⟩
  | succ i ih =>
    simp only [zf_fuC]
    by_cases q : zg_un n A io m i ∧ zf_caO A i (zf_fuC n A io m (zf_bOf n A io m) i) = true
    · rw [if_pos ((zg_fuS i).mpr q)]
      refine Or.inr ⟨i, rfl, by omega, q.1, fun k hk hu => ?_⟩
      by_cases e : k = i
      · exact Or.inl e
      · right
        rcases ih with ⟨h1, h2⟩ | ⟨b, h1, h2, h3, h4⟩
        · exact absurd hu (h2 k (by omega))
        · have h5 := q.2
          rw [h1] at h5
          have h6 : zf_ca A i b := of_decide_eq_true h5
          rcases h4 k (by omega) hu with h7 | h7
          · rw [h7]
            exact h6
          · rw [zf_caI] at h6 h7 ⊢
            omega
    · rw [if_neg (fun z => q ((zg_fuS i).mp z))]
      rcases ih with ⟨h1, h2⟩ | ⟨b, h1, h2, h3, h4⟩
      · refine Or.inl ⟨h1, fun k hk hu => ?_⟩
        by_cases e : k = i
        · subst e
          exact q ⟨hu, by rw [h1]; rfl⟩
        · exact h2 k (by omega) hu
      · refine Or.inr ⟨b, h1, by omega, h3, fun k hk hu => ?_⟩
        by_cases e : k = i
        · subst e
          right
          have h5 : ¬ zf_ca A k b := fun z => q ⟨hu, by rw [h1]; exact decide_eq_true z⟩
          rw [zf_caI] at h5 ⊢
          omega
        · exact h4 k (by omega) hu
/-- the reference's search: the least of those looked at, and of the asked one -/
theorem zg_off {n : Nat → Nat} {A : Nat → Nat → Int32} {io : Nat → Int32} {o : Nat} (ho : ¬ zf_keeps n A io o) : ∀ i : Nat, zg_un n A io (io (ze_ix (A 19 o))) (zf_off n A io o i) ∧ (zf_off n A io o i = o ∨ zf_ca A (zf_off n A io o i) o) ∧ (zf_off n A io o i = o ∨ zf_off n A io o i < i) ∧ ∀ k, k < i → zg_un n A io (io (ze_ix (A 19 o))) k → k = zf_off n A io o i ∨ zf_ca A (zf_off n A io o i) k := by
  intro i
  induction i with
  | zero => exact ⟨⟨rfl, ho⟩, Or.inl rfl, Or.inl rfl, fun k hk => absurd hk (Nat.not_lt_zero _)⟩
  | succ i ih =>
    obtain ⟨h1, h2, h3, h4⟩ := ih
    simp only [zf_off]
    generalize zf_off n A io o i = f at h1 h2 h3 h4
    by_cases q : io (ze_ix (A 19 i)) = io (ze_ix (A 19 o)) ∧ ¬ zf_keeps n A io i ∧ zf_ahead A io i f
    · rw [if_pos q]
      have hca : zf_ca A i f := q.2.2.2
      refine ⟨⟨q.1, q.2.1⟩, Or.inr ?_, Or.inr (by omega), fun k hk hu => ?_⟩
      · rcases h2 with h2 | h2
        · rw [← h2]
          exact hca
        · rw [zf_caI] at hca h2 ⊢
          omega
      · by_cases e : k = i
        · exact Or.inl e
        · right
          rcases h4 k (by omega) hu with h5 | h5
          · rw [h5]
            exact hca
          · rw [zf_caI] at hca h5 ⊢
            omega
    · rw [if_neg q]
      refine ⟨h1, h2, by omega, fun k hk hu => ?_⟩
      by_cases e : k = i
      · subst e
        have h5 : ¬ zf_ca A k f := fun z => q ⟨hu.1, hu.2, hu.1.trans h1.1.symm, z⟩
        rw [zf_caI] at h5 ⊢
        omega
      · exact h4 k (by omega) hu
theorem zg_barrier {n : Nat → Nat} {A : Nat → Nat → Int32} {io : Nat → Int32} {o : Nat} (hl : o < n 4) (ho : ¬ zf_keeps n A io o) : zf_fuC n A io (io (ze_ix (A 19 o))) (zf_bOf n A io (io (ze_ix (A 19 o)))) (n 4) = some (zf_off n A io o (n 4)) := by
  obtain ⟨h1, h2, h3, h4⟩ := zg_off ho (n 4)
  have hlt : zf_off n A io o (n 4) < n 4 := by omega
  rcases zg_fu (n := n) (A := A) (io := io) (m := io (ze_ix (A 19 o))) (n 4) with ⟨-, g2⟩ | ⟨b, g1, g2, g3, g4⟩
  · exact absurd ⟨rfl, ho⟩ (g2 o hl)
  · rw [g1]
    rcases g4 _ hlt h1 with e | c1
    · rw [e]
    · rcases h4 b g2 g3 with e | c2
      · rw [e]
      · rw [zf_caI] at c1 c2
        omega
