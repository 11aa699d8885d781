/-! ===== a tick, when every island's balance keeps its bounds ===== -/
theorem zg_t0 (n : Nat → Nat) (A : Nat → Nat → Int32) : zf_ct0 n A = zf_t0 n A := by
  have e1 : zf_tG (ze_sC A 30 (A 30 0 + 1)) = zf_tG A := rfl
  have e2 : zf_tS (ze_sC A 30 (A 30 0 + 1)) = zf_tS A := rfl
  unfold zf_ct0 zf_t0
  rw [e1, e2]
  funext r
  by_cases h1 : r = 31
  · subst h1
    rfl
  · by_cases h2 : r = 13
    · subst h2
      rfl
    · by_cases h3 : r = 11
      · subst h3
        rfl
      · by_cases h4 : r = 12
        · subst h4
          rfl
        · simp [ze_sC, ze_sA, h1, h2, h3, h4]
theorem zg_il {n : Nat → Nat} {A : Nat → Nat → Int32} {B : Nat → Int64} {E : Nat → Nat → Int32} {io : Nat → Int32} (hN : zf_N n) (hE : E 0 = io) : ∀ s : Nat, (∀ j, j < s → io j = nI j → zg_Bal n (zf_shed n (zf_il n io A B j).1 io (nI j) (n 4)) io (nI j)) →
    (zf_cil n A B E s).1 = (zf_il n io A B s).1 ∧ (zf_cil n A B E s).2.1 = (zf_il n io A B s).2 ∧ ∀ k, k ≠ 3 → (zf_cil n A B E s).2.2 k = E k := by
  intro s
  induction s with
  | zero => exact fun _ => ⟨rfl, rfl, fun _ _ => rfl⟩
  | succ s ih =>
    intro hB
    obtain ⟨h1, h2, h3⟩ := ih (fun j hj => hB j (by omega))
    have h0 : (zf_cil n A B E s).2.2 0 = io := (h3 0 (by decide)).trans hE
    simp only [zf_cil, zf_il]
    rw [h0]
    by_cases q : io s = nI s
    · rw [if_pos q, if_pos q]
      have hb := zg_bal (B := (zf_il n io A B s).2) (s0 := (zf_cil n A B E s).2.2 3) hN (hB s (by omega) q)
      refine ⟨?_, ?_, fun k hk => ?_⟩
      · show zf_cbA n (zf_cil n A B E s).1 io _ (nI s) = zf_balA n (zf_il n io A B s).1 io (nI s)
        rw [h1]
        exact hb.1
      · show zf_cbB n (zf_cil n A B E s).1 (zf_cil n A B E s).2.1 io _ (nI s) = zf_balB n (zf_il n io A B s).1 (zf_il n io A B s).2 io (nI s)
        rw [h1, h2]
        exact hb.2
      · show zf_cbE n (zf_cil n A B E s).1 (zf_cil n A B E s).2.2 (nI s) k = E k
        have e : zf_cbE n (zf_cil n A B E s).1 (zf_cil n A B E s).2.2 (nI s) k = (zf_cil n A B E s).2.2 k := by simp [zf_cbE, ze_sA, hk]
        rw [e]
        exact h3 k hk
    · rw [if_neg q, if_neg q]
      exact ⟨h1, h2, h3⟩
theorem zg_tk {n : Nat → Nat} {A : Nat → Nat → Int32} {B : Nat → Int64} {E : Nat → Nat → Int32} (hN : zf_N n) (hE : E 0 = zf_CI n A) (hB : ∀ j, j < n 0 → zf_CI n A j = nI j → zg_Bal n (zf_shed n (zf_il n (zf_CI n A) (zf_t0 n A) B j).1 (zf_CI n A) (nI j) (n 4)) (zf_CI n A) (nI j)) :
    (zf_ctk n A B E).1 = (zf_tk n A B).1 ∧ (zf_ctk n A B E).2.1 = (zf_tk n A B).2 ∧ ∀ k, k ≠ 3 → (zf_ctk n A B E).2.2 k = E k := by
  unfold zf_ctk zf_tk
  rw [zg_t0]
  exact zg_il hN hE (n 0) hB
