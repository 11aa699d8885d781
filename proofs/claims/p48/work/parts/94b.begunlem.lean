/-! ===== the grid at its start ===== -/
theorem xd_I00 : zv_I (fun _ => 0) zs_A (fun _ _ => 0) (fun _ => 0) := by
  refine ⟨⟨Nat.zero_le _, Nat.zero_le _, Nat.zero_le _, Nat.zero_le _, Nat.zero_le _⟩, ⟨fun i h => absurd h (Nat.not_lt_zero _), fun i h => absurd h (Nat.not_lt_zero _), fun i h => absurd h (Nat.not_lt_zero _), fun i h => absurd h (Nat.not_lt_zero _)⟩, ?_, fun _ _ => rfl, fun _ => Or.inl rfl, fun _ _ => rfl, Or.inl rfl, fun g h => absurd h (Nat.not_lt_zero _), ⟨fun _ => 0, fun g h => absurd h (Nat.not_lt_zero _), fun g h => absurd h (Nat.not_lt_zero _), fun g h => absurd h (Nat.not_lt_zero _), rfl⟩, ⟨fun _ _ => ⟨rfl, rfl⟩, fun _ _ => ⟨rfl, rfl⟩, fun _ _ => ⟨rfl, rfl⟩⟩, 0, rfl, by decide⟩
  rfl
theorem xd_I0 : xd_I (fun _ => 0) zs_A (fun _ => 0) (fun _ _ => 0) (upd (fun _ => 0) 6 2) 0 := by
  have n0 : ∀ k, k ≠ 6 → (upd (fun _ => 0) 6 2 : Nat → Int32) k = 0 := fun k h => xb_un h
  have aZ : ∀ k i, k ≠ 29 → zs_A k i = 0 := fun k i h => by
    show (if k = 29 then (2 : Int32) else 0) = 0
    rw [if_neg h]
  have n6 : (upd (fun _ => 0) 6 2 : Nat → Int32) 6 = zs_A 29 0 := by
    rw [pk_us]
    rfl
  have e : ∀ k i j, k ≠ 6 → i ≠ 29 → (upd (fun _ => 0) 6 2 : Nat → Int32) k = zs_A i j := fun k i j h1 h2 => (n0 k h1).trans (aZ i j h2).symm
  have b : ∀ k, k ≠ 6 → (0 : Int64) = ((upd (fun _ => 0) 6 2 : Nat → Int32) k).toInt64 := fun k h => by
    rw [n0 k h]
    decide
  refine ⟨xd_I00, ⟨⟨n0 0 (by omega), n0 1 (by omega), n0 2 (by omega), n0 3 (by omega), n0 4 (by omega)⟩,
    ⟨⟨e 5 28 0 (by omega) (by omega), n6, e 7 30 0 (by omega) (by omega), e 8 38 0 (by omega) (by omega), e 9 31 0 (by omega) (by omega)⟩, fun i hi => e _ 0 i (by omega) (by omega)⟩,
    ⟨fun i h => absurd h (Nat.not_lt_zero _), fun i hi => e _ 4 i (by omega) (by omega)⟩,
    ⟨fun i h => absurd h (Nat.not_lt_zero _), fun g hg => ⟨e _ 11 g (by omega) (by omega), e _ 12 g (by omega) (by omega)⟩, fun g _ _ => n0 _ (by omega)⟩,
    ⟨fun i h => absurd h (Nat.not_lt_zero _), fun g hg => ⟨e _ 17 g (by omega) (by omega), e _ 18 g (by omega) (by omega)⟩⟩,
    ⟨fun i h => absurd h (Nat.not_lt_zero _), fun g hg => ⟨e _ 5 g (by omega) (by omega), e _ 22 g (by omega) (by omega)⟩⟩,
    b 200 (by omega), b 201 (by omega), b 202 (by omega)⟩,
    fun i _ => ⟨0, by omega, aZ 0 i (by omega)⟩,
    ⟨fun i h => absurd h (Nat.not_lt_zero _), ⟨2, by omega, rfl⟩, ⟨0, by omega, rfl⟩, fun i h => absurd h (Nat.not_lt_zero _), ⟨0, Nat.zero_le _, n0 200 (by omega)⟩, ⟨0, Nat.zero_le _, n0 201 (by omega)⟩, ⟨0, Nat.zero_le _, n0 202 (by omega)⟩⟩,
    fun i h => absurd h (Nat.not_lt_zero _)⟩
