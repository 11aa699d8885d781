/-! ===== shares, step by step, in plain numbers ===== -/
def zn_O (T S : Nat → Nat) (g : Nat) (o : Option Nat) : Bool := match o with
  | none => true
  | some b => decide (T g * S b < T b * S g)
def zn_nt (T S : Nat → Nat) : Nat → Option Nat
  | 0 => none
  | g + 1 => if T g < S g ∧ zn_O T S g (zn_nt T S g) = true then some g else zn_nt T S g
def zn_up (T : Nat → Nat) (g v : Nat) : Nat → Nat := fun j => if j = g then v else T j
def zn_tl (S : Nat → Nat) (N : Nat) : Nat → (Nat → Nat) → Nat → Nat
  | 0, T => T
  | k + 1, T => match zn_nt T S N with
    | none => T
    | some g => zn_tl S N k (zn_up T g (T g + 1))
theorem zn_ntlt {T S : Nat → Nat} {i b : Nat} : zn_nt T S i = some b → b < i ∧ T b < S b := by
  induction i with
  | zero =>
    intro h
    simp [zn_nt] at h
  | succ i ih =>
    intro h
    simp only [zn_nt] at h
    split at h
    · rename_i q
      cases h
      exact ⟨by omega, q.1⟩
    · have := ih h
      exact ⟨by omega, this.2⟩
theorem zn_mulI {a b c d : Nat} (ha : a ≤ 200) (hb : b ≤ 200) (hc : c ≤ 200) (hd : d ≤ 200) : (¬ nI a * nI b ≤ nI c * nI d) ↔ c * d < a * b := by
  have h1 : a * b ≤ 200 * 200 := Nat.mul_le_mul ha hb
  have h2 : c * d ≤ 200 * 200 := Nat.mul_le_mul hc hd
  have e1 : nI a * nI b = nI (a * b) := by
    apply Int32.toInt_inj.mp
    rw [Int32.toInt_mul, nI_toInt (by omega), nI_toInt (by omega), nI_toInt (by omega)]
    have h3 : (0 : Int) ≤ (a : Int) * b := Int.mul_nonneg (by omega) (by omega)
    have h4 : (a : Int) * b = ((a * b : Nat) : Int) := by rw [Int.natCast_mul]
    rw [h4, Int.bmod_eq_of_le (by omega) (by omega)]
  have e2 : nI c * nI d = nI (c * d) := by
    apply Int32.toInt_inj.mp
    rw [Int32.toInt_mul, nI_toInt (by omega), nI_toInt (by omega), nI_toInt (by omega)]
    have h4 : (c : Int) * d = ((c * d : Nat) : Int) := by rw [Int.natCast_mul]
    rw [h4, Int.bmod_eq_of_le (by omega) (by omega)]
  rw [e1, e2, nI_leI (by omega) (by omega)]
  omega
/-- the numbers that a row of counts and one of steps stand for -/
def zn_R (N : Nat) (tk s : Nat → Int32) (T S : Nat → Nat) : Prop := ∀ g, g < N → tk g = nI (T g) ∧ s g = nI (S g) ∧ T g ≤ S g ∧ S g ≤ 200
theorem zn_ntE {N : Nat} {tk s : Nat → Int32} {T S : Nat → Nat} (h : zn_R N tk s T S) : ∀ i, i ≤ N → zf_nt tk s i = zn_nt T S i := by
  intro i
  induction i with
  | zero => exact fun _ => rfl
  | succ i ih =>
    intro hi
    have hh := ih (by omega)
    obtain ⟨e1, e2, l1, l2⟩ := h i (by omega)
    simp only [zf_nt, zn_nt, hh]
    have c1 : (¬ s i ≤ tk i) ↔ T i < S i := by
      rw [e1, e2, nI_leI (by omega) (by omega)]
      omega
    have c2 : zf_llO tk s i (zn_nt T S i) = zn_O T S i (zn_nt T S i) := by
      cases ho : zn_nt T S i with
      | none => rfl
      | some b =>
        have hb := (zn_ntlt ho).1
        obtain ⟨f1, f2, m1, m2⟩ := h b (by omega)
        show decide (¬ tk b * s i ≤ tk i * s b) = decide (T i * S b < T b * S i)
        rw [e1, e2, f1, f2]
        exact decide_eq_decide.mpr (zn_mulI (by omega) (by omega) (by omega) (by omega))
    rw [c2]
    by_cases q : T i < S i
    · simp only [eq_true q, eq_true (c1.mpr q)]
    · simp only [eq_false q, eq_false (fun z => q (c1.mp z)), false_and]
theorem zn_upR {N : Nat} {tk s : Nat → Int32} {T S : Nat → Nat} {g : Nat} (h : zn_R N tk s T S) (hg : g < N) (hl : T g < S g) : zn_R N (upd tk g (tk g + 1)) s (zn_up T g (T g + 1)) S := by
  intro j hj
  obtain ⟨e1, e2, l1, l2⟩ := h j hj
  by_cases e : j = g
  · subst e
    refine ⟨by simp [upd, zn_up, e1, nI_1], e2, by simp [zn_up]; omega, l2⟩
  · exact ⟨by simp [upd, zn_up, e, e1], e2, by simp [zn_up, e]; exact l1, l2⟩
theorem zn_tlE {N : Nat} {s : Nat → Int32} {S : Nat → Nat} : ∀ (k : Nat) (tk : Nat → Int32) (T : Nat → Nat), zn_R N tk s T S → zn_R N (zf_tl s N k tk) s (zn_tl S N k T) S := by
  intro k
  induction k with
  | zero => exact fun tk T h => h
  | succ k ih =>
    intro tk T h
    simp only [zf_tl, zn_tl, zn_ntE h N (Nat.le_refl _)]
    cases ho : zn_nt T S N with
    | none => exact h
    | some g =>
      obtain ⟨h1, h2⟩ := zn_ntlt ho
      exact ih _ _ (zn_upR h h1 h2)
