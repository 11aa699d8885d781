/-! ===== the class and the reference say the same: bounds, shedding, the next to start, gaps ===== -/
theorem ze_sumx (x : Int32) (f : Nat → Int32) : ∀ N : Nat, ze_sum x f N = x + ze_sum 0 f N := by
  intro N
  induction N with
  | zero => exact (Int32.add_zero x).symm
  | succ N ih => rw [ze_sum, ze_sum, ih, Int32.add_assoc]
theorem zf_bounded_eq (n : Nat → Nat) (A : Nat → Nat → Int32) (io : Nat → Int32) (m : Int32) : zf_bounded n A io m = ze_mx 0 (zf_supG A io m 0 (n 2) + zf_supT A io m 0 (n 3) - A 28 0) := by
  unfold zf_bounded
  rw [show zf_supT A io m (zf_supG A io m 0 (n 2)) (n 3) = zf_supG A io m 0 (n 2) + zf_supT A io m 0 (n 3) from ze_sumx _ _ _]
theorem zf_bOf_t {n : Nat → Nat} {A : Nat → Nat → Int32} {io : Nat → Int32} {m : Int32} (h : zf_tied A m) : zf_bOf n A io m = -1 := by
  unfold zf_bOf
  rw [if_pos h]
theorem zf_bOf_f {n : Nat → Nat} {A : Nat → Nat → Int32} {io : Nat → Int32} {m : Int32} (h : ¬ zf_tied A m) : zf_bOf n A io m = zf_bounded n A io m := by
  unfold zf_bOf
  rw [if_neg h, zf_bounded_eq]
theorem ze_mx0 (x : Int32) : ¬ ze_mx 0 x = -1 := by
  unfold ze_mx
  split
  · rename_i h
    intro e
    rw [e] at h
    exact absurd h (by decide)
  · decide
theorem zf_bOe (n : Nat → Nat) (A : Nat → Nat → Int32) (io : Nat → Int32) (m : Int32) : zf_bOf n A io m = if zf_tied A m then -1 else zf_bounded n A io m := by
  by_cases h : zf_tied A m
  · rw [zf_bOf_t h, if_pos h]
  · rw [zf_bOf_f h, if_neg h]
/-- what is kept, both ways -/
theorem zf_keepE {n : Nat → Nat} {A : Nat → Nat → Int32} {io : Nat → Int32} {k : Nat} {m : Int32} (hm : io (ze_ix (A 19 k)) = m) : zf_keepC n A io k (zf_bOf n A io m) ↔ zf_keeps n A io k := by
  subst hm
  unfold zf_keepC zf_keeps
  by_cases h : zf_tied A (io (ze_ix (A 19 k)))
  · rw [zf_bOf_t h]
    exact ⟨fun _ => Or.inl h, fun _ => Or.inl rfl⟩
  · rw [zf_bOf_f h]
    refine ⟨fun q => Or.inr ?_, fun q => Or.inr ?_⟩
    · rcases q with q | q
      · exact absurd q (ze_mx0 _)
      · exact q
    · rcases q with q | q
      · exact absurd q h
      · exact q
theorem zf_shedE (n : Nat → Nat) (A : Nat → Nat → Int32) (io : Nat → Int32) (m : Int32) : zf_cA1 n A io m = zf_shed n A io m (n 4) := by
  unfold zf_cA1 zf_shed
  have e1 : zf_shC n A io m (zf_bOf n A io m) = zf_sD n A io m := by
    funext k
    unfold zf_shC zf_sD zf_cD
    by_cases h : io (ze_ix (A 19 k)) = m
    · rw [if_pos h, if_pos h]
      by_cases q : zf_keeps n A io k
      · have q2 := (zf_keepE h).mpr q
        simp only [eq_true q, eq_true q2, not_true_eq_false, if_false]
      · have q2 := fun z => q ((zf_keepE h).mp z)
        simp only [eq_false q, eq_false q2, not_false_eq_true, if_true]
    · rw [if_neg h, if_neg h]
  have e2 : zf_shW n A io m (zf_bOf n A io m) (A 29 0) = zf_sW n A io m := by
    funext k
    unfold zf_shW zf_sW zf_cW
    by_cases h : io (ze_ix (A 19 k)) = m
    · rw [if_pos h, if_pos h]
      by_cases q : zf_keeps n A io k
      · have q2 := (zf_keepE h).mpr q
        simp only [eq_true q, eq_true q2, not_true_eq_false, if_false]
      · have q2 := fun z => q ((zf_keepE h).mp z)
        simp only [eq_false q, eq_false q2, not_false_eq_true, if_true]
    · rw [if_neg h, if_neg h]
  rw [e1, e2]
/-- the next to start -/
theorem zf_nxE (A : Nat → Nat → Int32) (io : Nat → Int32) (m : Int32) : ∀ N : Nat, zf_nx A io m N = zf_nr A io m N := by
  intro N
  induction N with
  | zero => rfl
  | succ N ih =>
    simp only [zf_nx, zf_nr, ih]
    have hb : zf_bO A N (zf_nr A io m N) = zf_nrO A N (zf_nr A io m N) := by
      cases zf_nr A io m N with
      | none => rfl
      | some b =>
        show decide (zf_better A N b) = decide _
        refine decide_eq_decide.mpr ⟨fun h => ?_, fun h => ?_⟩
        · rcases h with ⟨h1, h2⟩ | h
          · exact Or.inl (Int32.not_le.mp h2)
          · exact Or.inr h
        · rcases h with h | h
          · exact Or.inl ⟨fun e => by rw [e] at h; exact Int32.lt_irrefl h, Int32.not_le.mpr h⟩
          · exact Or.inr h
    rw [hb]
    have hs : (¬ zf_short A N) ↔ ¬ A 10 N < A 7 N := by
      unfold zf_short
      rw [Decidable.not_not, Int32.not_lt]
    by_cases h1 : A 13 N = 111
    · by_cases h2 : A 10 N < A 7 N
      · have h3 : ¬ ¬ zf_short A N := fun z => (hs.mp z) h2
        simp only [eq_true h1, eq_true h2, eq_false h3, not_true_eq_false, false_and, and_false, if_false]
      · have h3 : ¬ zf_short A N := hs.mpr h2
        by_cases h4 : io (ze_ix (A 6 N)) = m
        · simp only [eq_true h1, eq_false h2, eq_false h3, eq_true h4, not_false_eq_true, true_and]
        · simp only [eq_false h4, false_and, and_false, if_false]
    · simp only [eq_false h1, false_and, and_false, if_false]
/-- gaps -/
theorem zf_gapE (A : Nat → Nat → Int32) (io : Nat → Int32) (i : Nat) : zf_gapC A io i = zf_gap A io i := by
  unfold zf_gapC zf_gap
  by_cases h : io (ze_ix (A 2 i)) = io (ze_ix (A 3 i))
  · rw [if_pos h]
    have e : zf_ph A io (ze_ix (A 2 i)) = zf_ph A io (ze_ix (A 3 i)) := by
      unfold zf_ph
      rw [h]
    rw [e, Int32.sub_self]
    decide
  · rw [if_neg h]
