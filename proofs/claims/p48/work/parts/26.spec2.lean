/-! ===== what the reference's last calls answer ===== -/
def zf_nrO (A : Nat → Nat → Int32) (g : Nat) (o : Option Nat) : Bool := match o with
  | none => true
  | some b => decide (A 9 g < A 9 b ∨ A 9 g = A 9 b ∧ ¬ A 8 g ≤ A 8 b)
def zf_nr (A : Nat → Nat → Int32) (io : Nat → Int32) (m : Int32) : Nat → Option Nat
  | 0 => none
  | g + 1 => if io (ze_ix (A 6 g)) = m ∧ A 13 g = 111 ∧ ¬ A 10 g < A 7 g ∧ zf_nrO A g (zf_nr A io m g) = true then some g else zf_nr A io m g
theorem zf_nrlt {A : Nat → Nat → Int32} {io : Nat → Int32} {m : Int32} {N : Nat} : ∀ {i b : Nat}, i ≤ N → zf_nr A io m i = some b → b < N := by
  intro i
  induction i with
  | zero =>
    intro b _ h
    simp [zf_nr] at h
  | succ i ih =>
    intro b hi h
    simp only [zf_nr] at h
    split at h
    · cases h
      omega
    · exact ih (by omega) h
def zf_tkm (n : Nat → Nat) (A : Nat → Nat → Int32) (mk : Nat → Int32) : Nat → Nat → Int32
  | 0 => mk
  | _ + 1 => zf_CI n A
theorem zf_tkmz {n : Nat → Nat} {A : Nat → Nat → Int32} {mk : Nat → Int32} (hN : zf_N n) (hS : zf_S n A) (hz : ∀ s, n 0 ≤ s → mk s = 0) (i : Nat) : ∀ s, n 0 ≤ s → zf_tkm n A mk i s = 0 := by
  cases i with
  | zero => exact hz
  | succ i => exact zf_CIz hN hS
theorem zf_tksS {n : Nat → Nat} {A : Nat → Nat → Int32} {B : Nat → Int64} (hS : zf_S n A) (i : Nat) : zf_S n (zf_tks n A B i).1 := zf_Scong (zf_tksfix n _ _ _ (by decide)) (zf_tksfix n _ _ _ (by decide)) (zf_tksfix n _ _ _ (by decide)) (zf_tksfix n _ _ _ (by decide)) (zf_tksfix n _ _ _ (by decide)) hS
theorem zf_tksCI {n : Nat → Nat} {A : Nat → Nat → Int32} {B : Nat → Int64} (i : Nat) : zf_CI n (zf_tks n A B i).1 = zf_CI n A := zf_CIcong (zf_tksfix n _ _ _ (by decide)) (zf_tksfix n _ _ _ (by decide)) (zf_tksfix n _ _ _ (by decide))
theorem zf_isInK {t : Nat} (h1 : 1 ≤ t) (h2 : t ≤ 12) : zf_isIn (nI t) 1 12 := by
  have e : ∀ q : Fin 13, 1 ≤ q.val → zf_isIn (nI q.val) 1 12 := by decide
  exact e ⟨t, by omega⟩ h1
theorem zf_isInKo {x : Int32} (h : zf_isIn x 1 12) : ∃ t : Nat, 1 ≤ t ∧ t ≤ 12 ∧ x = nI t := by
  obtain ⟨h1, h2⟩ := h
  have a1 : ¬ x.toInt < 1 := fun q => h1 (Int32.lt_iff_toInt_lt.mpr (by simpa using q))
  have a2 : ¬ 12 < x.toInt := fun q => h2 (Int32.lt_iff_toInt_lt.mpr (by simpa using q))
  refine ⟨x.toInt.toNat, by omega, by omega, ?_⟩
  apply Int32.toInt_inj.mp
  rw [nI_toInt (by omega)]
  omega
theorem zf_litsN (A : Nat → Nat → Int32) : ∀ N : Nat, ∃ j : Nat, j ≤ N ∧ zf_lits A N = nI j := by
  intro N
  induction N with
  | zero => exact ⟨0, Nat.le_refl _, rfl⟩
  | succ N ih =>
    obtain ⟨j, hj, e⟩ := ih
    by_cases h : A 5 N = 0
    · refine ⟨j + 1, by omega, ?_⟩
      show zf_lits A N + (if A 5 N = 0 then 1 else 0) = _
      rw [if_pos h, e, ← nI_1]
    · refine ⟨j, by omega, ?_⟩
      show zf_lits A N + (if A 5 N = 0 then 1 else 0) = _
      rw [if_neg h, e, Int32.add_zero]
theorem zf_shN {A : Nat → Nat → Int32} {N : Nat} (h0 : ¬ N = 0) (h : N ≤ 10) : vf_n32 (FP.fdiv (FP.i2f (zf_lits A N)) (FP.i2f (nI N))) := by
  obtain ⟨j, hj, e⟩ := zf_litsN A N
  rw [e]
  have key : ∀ a b : Fin 11, ¬ b.val = 0 → a.val ≤ b.val → (FP.fdiv (FP.i2f (nI a.val)) (FP.i2f (nI b.val))) &&& 0x7fffffff ≤ 0x7f800000 := by decide +kernel
  exact key ⟨j, by omega⟩ ⟨N, by omega⟩ h0 hj
theorem zf_tkm1 {n : Nat → Nat} {A : Nat → Nat → Int32} {mk : Nat → Int32} {t : Nat} (h : 1 ≤ t) : zf_tkm n A mk t = zf_CI n A := by
  cases t with
  | zero => omega
  | succ t => rfl
