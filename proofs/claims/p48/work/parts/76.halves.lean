/-! ===== the halving search finds what the steps give ===== -/
theorem zn_D0 (S : Nat → Nat) (N : Nat) : zn_D S N (fun _ => 0) := ⟨fun _ _ => Nat.zero_le _, fun _ _ _ _ _ _ h => absurd h (Nat.not_lt_zero _)⟩
theorem zn_none {T S : Nat → Nat} : ∀ k, zn_nt T S k = none → ∀ c, c < k → ¬ T c < S c := by
  intro k
  induction k with
  | zero => exact fun _ c hc => absurd hc (Nat.not_lt_zero _)
  | succ k ih =>
    intro hk c hc hs
    simp only [zn_nt] at hk
    by_cases q : T k < S k ∧ zn_O T S k (zn_nt T S k) = true
    · rw [if_pos q] at hk
      cases hk
    · rw [if_neg q] at hk
      by_cases e : c = k
      · subst e
        exact q ⟨hs, by rw [hk]; rfl⟩
      · exact ih hk c (by omega) hs
/-- behind k steps: k are taken, or all -/
theorem zn_tlD {S : Nat → Nat} {N : Nat} : ∀ (k : Nat) (T : Nat → Nat), zn_D S N T → zn_D S N (zn_tl S N k T) ∧ (zn_sum (zn_tl S N k T) N = zn_sum T N + k ∨ (zn_sum (zn_tl S N k T) N ≤ zn_sum T N + k ∧ ∀ g, g < N → zn_tl S N k T g = S g)) := by
  intro k
  induction k with
  | zero => exact fun T h => ⟨h, Or.inl rfl⟩
  | succ k ih =>
    intro T h
    simp only [zn_tl]
    cases ho : zn_nt T S N with
    | none =>
      refine ⟨h, Or.inr ⟨by show zn_sum T N ≤ _; omega, fun g hg => ?_⟩⟩
      have h1 := zn_none N ho g hg
      have h2 := h.1 g hg
      show T g = S g
      omega
    | some b =>
      have hb := (zn_ntlt ho).1
      obtain ⟨g1, g2⟩ := ih (zn_up T b (T b + 1)) (zn_Dup h ho)
      have hs := zn_sumup (T := T) (v := T b + 1) hb
      refine ⟨g1, ?_⟩
      rcases g2 with g2 | ⟨g2, g3⟩
      · exact Or.inl (by show zn_sum (zn_tl S N k (zn_up T b (T b + 1))) N = _; omega)
      · exact Or.inr ⟨by show zn_sum (zn_tl S N k (zn_up T b (T b + 1))) N ≤ _; omega, g3⟩
theorem zn_sum0 (N : Nat) : zn_sum (fun _ => 0) N = 0 := by
  induction N with
  | zero => rfl
  | succ N ih => rw [zn_sum, ih]
theorem zn_thrk {S : Nat → Nat} {N g i k : Nat} (hg : g < N) (hi : i < S g) : zn_sa S N g i < k ↔ i < zn_tl S N k (fun _ => 0) g := by
  obtain ⟨h1, h2⟩ := zn_tlD k _ (zn_D0 S N)
  rw [zn_sum0, Nat.zero_add] at h2
  rw [← zn_thr h1 hg hi]
  rcases h2 with h2 | ⟨h2, h3⟩
  · rw [h2]
  · have h4 : zn_sa S N g i < zn_sum (zn_tl S N k (fun _ => 0)) N := (zn_thr h1 hg hi).mpr (by rw [h3 g hg]; exact hi)
    omega
/-- the search by halves, in plain numbers -/
def zn_sw (S : Nat → Nat) (N g f : Nat) : Nat → Nat → Nat
  | 0, w => w
  | k + 1, w => zn_sw S N g f k (if w + 2 ^ k ≤ S g ∧ zn_sa S N g (w + 2 ^ k - 1) < f then w + 2 ^ k else w)
theorem zn_swE {S : Nat → Nat} {N g f : Nat} (hg : g < N) : ∀ (k w : Nat), w ≤ zn_tl S N f (fun _ => 0) g → zn_tl S N f (fun _ => 0) g < w + 2 ^ k → zn_sw S N g f k w = zn_tl S N f (fun _ => 0) g := by
  have hT := (zn_tlD f _ (zn_D0 S N)).1.1 g hg
  intro k
  induction k with
  | zero =>
    intro w h1 h2
    show w = _
    have : (2 : Nat) ^ 0 = 1 := rfl
    omega
  | succ k ih =>
    intro w h1 h2
    have hp : 0 < 2 ^ k := Nat.pow_pos (by decide)
    have h3 : (2 : Nat) ^ (k + 1) = 2 ^ k + 2 ^ k := by rw [Nat.pow_succ]; omega
    simp only [zn_sw]
    by_cases q : w + 2 ^ k ≤ zn_tl S N f (fun _ => 0) g
    · have c : w + 2 ^ k ≤ S g ∧ zn_sa S N g (w + 2 ^ k - 1) < f := ⟨by omega, (zn_thrk hg (by omega)).mpr (by omega)⟩
      rw [if_pos c]
      exact ih _ q (by omega)
    · have c : ¬ (w + 2 ^ k ≤ S g ∧ zn_sa S N g (w + 2 ^ k - 1) < f) := by
        rintro ⟨c1, c2⟩
        have := (zn_thrk hg (by omega)).mp c2
        omega
      rw [if_neg c]
      exact ih _ h1 (by omega)
/-! .. and in the machine's -/
theorem zn_mulN {a b : Nat} (ha : a ≤ 255) (hb : b ≤ 255) : nI a * nI b = nI (a * b) := by
  have h1 : a * b ≤ 255 * 255 := Nat.mul_le_mul ha hb
  apply Int32.toInt_inj.mp
  rw [Int32.toInt_mul, nI_toInt (by omega), nI_toInt (by omega), nI_toInt (by omega)]
  have h4 : (a : Int) * b = ((a * b : Nat) : Int) := by rw [Int.natCast_mul]
  rw [h4, Int.bmod_eq_of_le (by omega) (by omega)]
theorem zn_divN {a b : Nat} (ha : a < 2 ^ 31) (hb : b < 2 ^ 31) (h0 : 0 < b) : nI a / nI b = nI (a / b) := by
  have hd : a / b ≤ a := Nat.div_le_self a b
  apply Int32.toInt_inj.mp
  rw [Int32.toInt_div, nI_toInt ha, nI_toInt hb, nI_toInt (by omega)]
  have h4 : (a : Int).tdiv b = ((a / b : Nat) : Int) := by
    rw [Int.tdiv_eq_ediv_of_nonneg (by omega), Int.natCast_ediv]
  rw [h4]
  clear h4
  generalize a / b = q at hd ⊢
  exact Int.bmod_eq_of_le (by omega) (by omega)
theorem zn_ctE {N : Nat} {s : Nat → Int32} {S : Nat → Nat} (h : ∀ g, g < N → s g = nI (S g) ∧ S g ≤ 200) {g o i : Nat} (hg : g < N) (ho : o < N) (hp : 0 < S g) (hi : i ≤ 255) : ze_mn (s o) (if o < g then nI i * s o / s g + 1 else (nI i * s o + s g - 1) / s g) = nI (zn_ct S g i o) := by
  obtain ⟨e1, l1⟩ := h g hg
  obtain ⟨e2, l2⟩ := h o ho
  rw [e1, e2, zn_mulN hi (by omega)]
  have hm : i * S o ≤ 255 * 200 := Nat.mul_le_mul hi l2
  unfold zn_ct
  by_cases q : o < g
  · rw [if_pos q, if_pos q, zn_divN (by omega) (by omega) hp]
    have hd : i * S o / S g ≤ i * S o := Nat.div_le_self _ _
    have e3 : nI (i * S o / S g) + 1 = nI (i * S o / S g + 1) := nI_1 _
    rw [e3, zf_mnN (by omega) (by omega)]
  · rw [if_neg q, if_neg q, nI_add]
    have e4 : (1 : Int32) = nI 1 := rfl
    rw [e4, zn_sub (by omega) (by omega), zn_divN (by omega) (by omega) hp]
    have hd : (i * S o + S g - 1) / S g ≤ i * S o + S g - 1 := Nat.div_le_self _ _
    rw [zf_mnN (by omega) (by omega)]
theorem zn_saE {N : Nat} {s : Nat → Int32} {S : Nat → Nat} (hN : N ≤ 6) (h : ∀ g, g < N → s g = nI (S g) ∧ S g ≤ 200) {g i : Nat} (hg : g < N) (hp : 0 < S g) (hi : i ≤ 255) : zf_sa s N g (nI i) = nI (zn_sa S N g i) ∧ zn_sa S N g i ≤ 1200 := by
  have hpos : 0 < s g := by
    obtain ⟨e1, l1⟩ := h g hg
    rw [e1]
    exact (nI_ltI (a := 0) (b := S g) (by omega) (by omega)).mpr hp
  unfold zf_sa zn_sa
  rw [if_neg (fun z => z hpos)]
  have key : ∀ k, k ≤ N → ze_sum 0 (fun o => ze_mn (s o) (if o < g then nI i * s o / s g + 1 else (nI i * s o + s g - 1) / s g)) k = nI (zn_sum (zn_ct S g i) k) ∧ zn_sum (zn_ct S g i) k ≤ 200 * k := by
    intro k
    induction k with
    | zero => exact fun _ => ⟨rfl, Nat.le_refl _⟩
    | succ k ih =>
      intro hk
      obtain ⟨e, l⟩ := ih (by omega)
      have hl : zn_ct S g i k ≤ 200 := Nat.le_trans (Nat.min_le_left _ _) (h k (by omega)).2
      simp only [ze_sum, zn_sum]
      refine ⟨?_, by omega⟩
      rw [e, zn_ctE h hg (by omega) hp hi, nI_add]
  obtain ⟨e, l⟩ := key N (Nat.le_refl _)
  exact ⟨e, by omega⟩
