/-! ===== the order of all steps: who comes ahead of a step ===== -/
/-- step j of o comes ahead of step i of g -/
def zn_pr (S : Nat → Nat) (j o i g : Nat) : Prop := j * S g < i * S o ∨ (j * S g = i * S o ∧ o < g)
def zn_ct (S : Nat → Nat) (g i o : Nat) : Nat := min (S o) (if o < g then i * S o / S g + 1 else (i * S o + S g - 1) / S g)
def zn_sa (S : Nat → Nat) (N g i : Nat) : Nat := zn_sum (zn_ct S g i) N
theorem zn_ctl {S : Nat → Nat} {g i o j : Nat} (hg : 0 < S g) (hj : j < S o) : j < zn_ct S g i o ↔ zn_pr S j o i g := by
  unfold zn_ct zn_pr
  by_cases h : o < g
  · rw [if_pos h]
    have h1 : j ≤ i * S o / S g ↔ j * S g ≤ i * S o := Nat.le_div_iff_mul_le hg
    constructor
    · intro q
      have h2 : j * S g ≤ i * S o := h1.mp (by omega)
      omega
    · intro q
      have h2 : j ≤ i * S o / S g := h1.mpr (by omega)
      omega
  · rw [if_neg h]
    have h1 : j + 1 ≤ (i * S o + S g - 1) / S g ↔ (j + 1) * S g ≤ i * S o + S g - 1 := Nat.le_div_iff_mul_le hg
    have h2 : (j + 1) * S g = j * S g + S g := Nat.succ_mul j (S g)
    constructor
    · intro q
      have h3 := h1.mp (by omega)
      omega
    · intro q
      have h3 := h1.mpr (by omega)
      omega
theorem zn_pras {S : Nat → Nat} {j o i g : Nat} (h : zn_pr S j o i g) (h2 : zn_pr S i g j o) : False := by
  unfold zn_pr at h h2
  omega
/-- what is taken comes ahead of what is left -/
def zn_D (S : Nat → Nat) (N : Nat) (T : Nat → Nat) : Prop := (∀ g, g < N → T g ≤ S g) ∧ ∀ o g j i, o < N → g < N → j < T o → T g ≤ i → i < S g → zn_pr S j o i g
theorem zn_min {T S : Nat → Nat} : ∀ {i b : Nat}, zn_nt T S i = some b → ∀ a, a < i → T a < S a → a = b ∨ zn_pr S (T b) b (T a) a := by
  intro i
  induction i with
  | zero =>
    intro b h
    simp [zn_nt] at h
  | succ i ih =>
    intro b h a ha hs
    have hlt := zn_ntlt h
    simp only [zn_nt] at h
    by_cases q : T i < S i ∧ zn_O T S i (zn_nt T S i) = true
    · rw [if_pos q] at h
      cases h
      by_cases e : a = i
      · exact Or.inl e
      · right
        cases ho : zn_nt T S i with
        | none =>
          -- nobody ahead could step: a could
          exfalso
          have key : ∀ k, zn_nt T S k = none → ∀ c, c < k → ¬ T c < S c := by
            intro k
            induction k with
            | zero => exact fun _ c hc => absurd hc (Nat.not_lt_zero _)
            | succ k ih2 =>
              intro hk c hc hs2
              simp only [zn_nt] at hk
              by_cases q2 : T k < S k ∧ zn_O T S k (zn_nt T S k) = true
              · rw [if_pos q2] at hk
                cases hk
              · rw [if_neg q2] at hk
                by_cases e2 : c = k
                · subst e2
                  exact q2 ⟨hs2, by rw [hk]; rfl⟩
                · exact ih2 hk c (by omega) hs2
          exact key i ho a (by omega) hs
        | some b0 =>
          have hO := q.2
          rw [ho] at hO
          have h1 : T i * S b0 < T b0 * S i := of_decide_eq_true hO
          have hb0 := zn_ntlt ho
          rcases ih ho a (by omega) hs with e3 | h3
          · subst e3
            exact Or.inl h1
          · -- T b0 / S b0 ≤ T a / S a, T i / S i < T b0 / S b0
            left
            have h4 : T b0 * S a ≤ T a * S b0 := by
              unfold zn_pr at h3
              omega
            have p0 : 0 < S b0 := by omega
            have pa : 0 < S a := by omega
            -- multiply: T i * S b0 * S a < T b0 * S i * S a ≤ T a * S b0 * S i
            have m1 : T i * S b0 * S a < T b0 * S i * S a := Nat.mul_lt_mul_of_pos_right h1 pa
            have m2 : T b0 * S a * S i ≤ T a * S b0 * S i := Nat.mul_le_mul_right _ h4
            have e1 : T b0 * S i * S a = T b0 * S a * S i := Nat.mul_right_comm _ _ _
            have e2 : T i * S b0 * S a = T i * S a * S b0 := Nat.mul_right_comm _ _ _
            have e4 : T a * S b0 * S i = T a * S i * S b0 := Nat.mul_right_comm _ _ _
            rw [e2, e1] at m1
            rw [e4] at m2
            exact Nat.lt_of_mul_lt_mul_right (Nat.lt_of_lt_of_le m1 m2)
    · rw [if_neg q] at h
      by_cases e : a = i
      · subst e
        right
        have hO : ¬ zn_O T S a (zn_nt T S a) = true := fun z => q ⟨hs, z⟩
        rw [h] at hO
        have h1 : ¬ T a * S b < T b * S a := fun z => hO (decide_eq_true z)
        have hb := (zn_ntlt h).1
        unfold zn_pr
        by_cases e5 : T b * S a = T a * S b
        · exact Or.inr ⟨e5, hb⟩
        · exact Or.inl (by omega)
      · exact ih h a (by omega) hs
theorem zn_Dup {T S : Nat → Nat} {N b : Nat} (h : zn_D S N T) (ho : zn_nt T S N = some b) : zn_D S N (zn_up T b (T b + 1)) := by
  obtain ⟨hb, hlb⟩ := zn_ntlt ho
  refine ⟨fun g hg => ?_, fun o g j i hoN hgN hj hi1 hi2 => ?_⟩
  · by_cases e : g = b
    · subst e
      simp [zn_up]
      omega
    · simp [zn_up, e]
      exact h.1 g hg
  · have hTg : T g ≤ i := by
      by_cases e : g = b
      · subst e
        simp [zn_up] at hi1
        omega
      · simpa [zn_up, e] using hi1
    by_cases q : j < T o
    · exact h.2 o g j i hoN hgN q hTg hi2
    · have eo : o = b := by
        refine Classical.byContradiction (fun e => q ?_)
        simpa [zn_up, e] using hj
      subst eo
      have ej : j = T o := by
        simp [zn_up] at hj
        omega
      subst ej
      by_cases e : g = o
      · subst e
        simp [zn_up] at hi1
        left
        exact Nat.mul_lt_mul_of_pos_right (by omega) (by omega)
      · rcases zn_min ho g hgN (by omega) with z | z
        · exact absurd z e
        · unfold zn_pr at z ⊢
          have m : T g * S o ≤ i * S o := Nat.mul_le_mul_right _ hTg
          omega
theorem zn_sumlt {f g : Nat → Nat} {b : Nat} : ∀ {N : Nat}, (∀ o, o < N → f o ≤ g o) → zn_sum f N ≤ zn_sum g N ∧ (b < N → f b < g b → zn_sum f N < zn_sum g N) := by
  intro N
  induction N with
  | zero => exact fun _ => ⟨Nat.le_refl _, fun h => absurd h (Nat.not_lt_zero _)⟩
  | succ N ih =>
    intro h
    have h1 := ih (fun o ho => h o (by omega))
    have h2 := h N (by omega)
    simp only [zn_sum]
    refine ⟨by omega, fun hb hlt => ?_⟩
    by_cases e : b = N
    · subst e
      omega
    · have := h1.2 (by omega) hlt
      omega
/-- a step is taken when fewer come ahead of it than are taken -/
theorem zn_thr {S T : Nat → Nat} {N g i : Nat} (h : zn_D S N T) (hg : g < N) (hi : i < S g) : zn_sa S N g i < zn_sum T N ↔ i < T g := by
  have hp : 0 < S g := by omega
  constructor
  · intro q
    refine Classical.byContradiction (fun z => ?_)
    have hle : ∀ o, o < N → T o ≤ zn_ct S g i o := by
      intro o ho
      refine Nat.not_lt.mp (fun w => ?_)
      have h1 := h.2 o g (zn_ct S g i o) i ho hg w (by omega) hi
      have h2 := (zn_ctl hp (by have := h.1 o ho; omega)).mpr h1
      omega
    have := (zn_sumlt (b := 0) hle).1
    unfold zn_sa at q
    omega
  · intro q
    have hle : ∀ o, o < N → zn_ct S g i o ≤ T o := by
      intro o ho
      refine Nat.not_lt.mp (fun w => ?_)
      have hTS := h.1 o ho
      by_cases e : T o < S o
      · have h1 := (zn_ctl hp e).mp w
        exact zn_pras h1 (h.2 g o i (T o) hg ho q (Nat.le_refl _) e)
      · have h3 : zn_ct S g i o ≤ S o := Nat.min_le_left _ _
        omega
    have hgl : zn_ct S g i g < T g := by
      refine Nat.lt_of_le_of_lt (Nat.not_lt.mp (fun w => ?_)) q
      have h1 := (zn_ctl hp hi).mp w
      unfold zn_pr at h1
      omega
    exact (zn_sumlt hle).2 hg hgl
