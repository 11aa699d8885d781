/-! ===== what the reference gives, in the same plain numbers ===== -/
theorem zn_sub {a b : Nat} (h : b ≤ a) (ha : a < 2 ^ 31) : nI a - nI b = nI (a - b) := by
  have e : nI a = nI (a - b) + nI b := by
    rw [nI_add]
    congr 1
    omega
  rw [e, Int32.add_sub_cancel]
def zn_G (N : Nat) (A : Nat → Nat → Int32) (io : Nat → Int32) (m : Int32) (gv : Nat → Int32) (T S : Nat → Nat) : Prop :=
  ∀ g, g < N → T g ≤ S g ∧ S g ≤ 200 ∧ (¬ zf_runs A io g m → S g = 0 ∧ gv g = A 12 g) ∧ (zf_runs A io g m → ∃ le c : Nat, A 7 g = nI le ∧ zf_can A g = nI c ∧ le ≤ 200 ∧ c ≤ 200 ∧ S g = c - le ∧ gv g = nI (le + T g))
theorem zn_Gruns {N : Nat} {A : Nat → Nat → Int32} {io : Nat → Int32} {m : Int32} {gv : Nat → Int32} {T S : Nat → Nat} (h : zn_G N A io m gv T S) {g : Nat} (hg : g < N) (hl : T g < S g) : zf_runs A io g m := by
  refine Classical.byContradiction (fun q => ?_)
  have := ((h g hg).2.2.1 q).1
  omega
theorem zn_pick {N : Nat} {A : Nat → Nat → Int32} {io : Nat → Int32} {m : Int32} {gv : Nat → Int32} {T S : Nat → Nat} (h : zn_G N A io m gv T S) : ∀ i, i ≤ N → zf_pick A io m gv i = zn_nt T S i := by
  intro i
  induction i with
  | zero => exact fun _ => rfl
  | succ i ih =>
    intro hi
    have hh := ih (by omega)
    obtain ⟨l1, l2, hno, hyes⟩ := h i (by omega)
    simp only [zf_pick, zn_nt, hh]
    by_cases q : T i < S i
    · have hr := zn_Gruns h (by omega) q
      obtain ⟨le, c, e7, ec, b1, b2, eS, eg⟩ := hyes hr
      have c1 : ¬ zf_can A i ≤ gv i := by
        rw [ec, eg, nI_leI (by omega) (by omega)]
        omega
      have c2 : zf_lessO A gv i (zn_nt T S i) = zn_O T S i (zn_nt T S i) := by
        cases ho : zn_nt T S i with
        | none => rfl
        | some b =>
          obtain ⟨hb, hlb⟩ := zn_ntlt ho
          obtain ⟨m1, m2, -, myes⟩ := h b (by omega)
          obtain ⟨le2, c2, f7, fc, d1, d2, fS, fg⟩ := myes (zn_Gruns h (by omega) hlb)
          show decide (¬ (gv b - A 7 b) * (zf_can A i - A 7 i) ≤ (gv i - A 7 i) * (zf_can A b - A 7 b)) = decide (T i * S b < T b * S i)
          rw [e7, ec, eg, f7, fc, fg, zn_sub (by omega) (by omega), zn_sub (by omega) (by omega), zn_sub (by omega) (by omega), zn_sub (by omega) (by omega)]
          have x1 : le2 + T b - le2 = T b := by omega
          have x2 : le + T i - le = T i := by omega
          rw [x1, x2, ← eS, ← fS]
          exact decide_eq_decide.mpr (zn_mulI (by omega) (by omega) (by omega) (by omega))
      rw [c2]
      simp only [eq_true q, eq_true hr, eq_true c1, true_and]
    · have hf : ¬ (zf_runs A io i m ∧ ¬ zf_can A i ≤ gv i ∧ zf_lessO A gv i (zn_nt T S i) = true) := by
        rintro ⟨hr, hc, -⟩
        obtain ⟨le, c, e7, ec, b1, b2, eS, eg⟩ := hyes hr
        rw [ec, eg, nI_leI (by omega) (by omega)] at hc
        omega
      rw [if_neg hf, if_neg (fun z => q z.1)]
theorem zn_Gup {N : Nat} {A : Nat → Nat → Int32} {io : Nat → Int32} {m : Int32} {gv : Nat → Int32} {T S : Nat → Nat} {b : Nat} (h : zn_G N A io m gv T S) (hb : b < N) (hl : T b < S b) : zn_G N A io m (upd gv b (gv b + 1)) (zn_up T b (T b + 1)) S := by
  intro g hg
  have hr := zn_Gruns h hb hl
  obtain ⟨l1, l2, hno, hyes⟩ := h g hg
  by_cases e : g = b
  · subst e
    refine ⟨by simp [zn_up]; omega, l2, fun q => absurd hr q, fun _ => ?_⟩
    obtain ⟨le, c, e7, ec, b1, b2, eS, eg⟩ := hyes hr
    exact ⟨le, c, e7, ec, b1, b2, eS, by simp [upd, zn_up, eg, nI_1, Nat.add_assoc]⟩
  · refine ⟨by simp [zn_up, e]; exact l1, l2, fun q => ?_, fun q => ?_⟩
    · have := hno q
      exact ⟨this.1, by simp [upd, e, this.2]⟩
    · obtain ⟨le, c, e7, ec, b1, b2, eS, eg⟩ := hyes q
      exact ⟨le, c, e7, ec, b1, b2, eS, by simp [upd, zn_up, e, eg]⟩
def zn_sum (T : Nat → Nat) : Nat → Nat
  | 0 => 0
  | k + 1 => zn_sum T k + T k
theorem zn_sumup {T : Nat → Nat} {b v : Nat} : ∀ {N : Nat}, b < N → zn_sum (zn_up T b v) N + T b = zn_sum T N + v := by
  intro N
  induction N with
  | zero => exact fun h => absurd h (Nat.not_lt_zero _)
  | succ N ih =>
    intro h
    simp only [zn_sum]
    by_cases e : b = N
    · subst e
      have hs : ∀ k, k ≤ b → zn_sum (zn_up T b v) k = zn_sum T k := by
        intro k
        induction k with
        | zero => exact fun _ => rfl
        | succ k ih2 =>
          intro hk
          have hne : k ≠ b := by omega
          simp only [zn_sum, ih2 (by omega)]
          simp [zn_up, hne]
      rw [hs b (Nat.le_refl _)]
      simp [zn_up]
      omega
    · have h2 := ih (by omega)
      have hne : N ≠ b := fun z => e z.symm
      have e3 : zn_up T b v N = T N := by simp [zn_up, hne]
      rw [e3]
      omega
theorem zn_glE {N : Nat} {A : Nat → Nat → Int32} {io : Nat → Int32} {m : Int32} {S : Nat → Nat} : ∀ (k : Nat) (s : Int32) (gv : Nat → Int32) (T : Nat → Nat), zn_G N A io m gv T S →
    zn_G N A io m (zf_gl A io m N k s gv).2 (zn_tl S N k T) S ∧ (zf_gl A io m N k s gv).1 + nI (zn_sum T N) = s + nI (zn_sum (zn_tl S N k T) N) := by
  intro k
  induction k with
  | zero => exact fun s gv T h => ⟨h, rfl⟩
  | succ k ih =>
    intro s gv T h
    simp only [zf_gl, zn_tl, zn_pick h N (Nat.le_refl _)]
    cases ho : zn_nt T S N with
    | none => exact ⟨h, rfl⟩
    | some b =>
      obtain ⟨h1, h2⟩ := zn_ntlt ho
      obtain ⟨g1, g2⟩ := ih (s + 1) (upd gv b (gv b + 1)) (zn_up T b (T b + 1)) (zn_Gup h h1 h2)
      refine ⟨g1, ?_⟩
      have hs := zn_sumup (T := T) (v := T b + 1) h1
      have hs2 : zn_sum (zn_up T b (T b + 1)) N = zn_sum T N + 1 := by omega
      rw [hs2, ← nI_1] at g2
      show (zf_gl A io m N k (s + 1) (upd gv b (gv b + 1))).1 + _ = _
      have g3 : (zf_gl A io m N k (s + 1) (upd gv b (gv b + 1))).1 + nI (zn_sum T N) + 1 = s + nI (zn_sum (zn_tl S N k (zn_up T b (T b + 1))) N) + 1 := by
        rw [Int32.add_assoc, g2, Int32.add_assoc, Int32.add_comm 1, ← Int32.add_assoc]
      have g4 := congrArg (fun z => z - 1) g3
      simpa [Int32.add_sub_cancel] using g4
