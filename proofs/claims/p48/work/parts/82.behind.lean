/-! ===== how many come behind the barrier and ahead of the asked one ===== -/
theorem zn_sumadd {f g : Nat → Nat} {b d : Nat} : ∀ {N : Nat}, (∀ o, o < N → f o ≤ g o) → b < N → f b + d ≤ g b → zn_sum f N + d ≤ zn_sum g N := by
  intro N
  induction N with
  | zero => exact fun _ h => absurd h (Nat.not_lt_zero _)
  | succ N ih =>
    intro h hb hd
    have h2 := h N (by omega)
    simp only [zn_sum]
    by_cases e : b = N
    · subst e
      have h1 := (zn_sumlt (b := 0) (fun o ho => h o (by omega) : ∀ o, o < b → f o ≤ g o)).1
      omega
    · have := ih (fun o ho => h o (by omega)) (by omega) hd
      omega
/-- the powers, in plain numbers -/
def zg_RL (N : Nat) (A : Nat → Nat → Int32) (P : Nat → Nat) : Prop := ∀ k, k < N → A 20 k = nI (P k) ∧ P k ≤ 200
theorem zn_sumle {f : Nat → Nat} {c : Nat} : ∀ {N : Nat}, (∀ o, o < N → f o ≤ c) → zn_sum f N ≤ c * N := by
  intro N
  induction N with
  | zero => exact fun _ => Nat.le_refl _
  | succ N ih =>
    intro h
    have h1 := ih (fun o ho => h o (by omega))
    have h2 := h N (by omega)
    simp only [zn_sum]
    have h3 : c * (N + 1) = c * N + c := Nat.mul_succ c N
    omega
theorem zg_upN {N : Nat} {A : Nat → Nat → Int32} {io : Nat → Int32} {P : Nat → Nat} (h : zg_RL N A P) {o : Nat} (ho : o < N) : ∀ k, k ≤ N → zf_upTo A io o k = nI (P o + zn_sum (fun j => if zf_ahead A io j o then P j else 0) k) := by
  intro k
  induction k with
  | zero =>
    intro _
    show A 20 o = nI (P o + 0)
    rw [(h o ho).1, Nat.add_zero]
  | succ k ih =>
    intro hk
    have e : zf_upTo A io o (k + 1) = zf_upTo A io o k + (if zf_ahead A io k o then A 20 k else 0) := rfl
    rw [e, ih (by omega)]
    simp only [zn_sum]
    by_cases q : zf_ahead A io k o
    · rw [if_pos q, if_pos q, (h k (by omega)).1, nI_add, Nat.add_assoc]
    · rw [if_neg q, if_neg q, Int32.add_zero, Nat.add_zero]
theorem zg_upmono {N : Nat} {A : Nat → Nat → Int32} {io : Nat → Int32} {P : Nat → Nat} (h : zg_RL N A P) {a b : Nat} (hN : N ≤ 10) (ha : a < N) (hb : b < N) (hab : zf_ahead A io a b) : zf_upTo A io a N ≤ zf_upTo A io b N := by
  rw [zg_upN h ha N (Nat.le_refl _), zg_upN h hb N (Nat.le_refl _)]
  have hP : ∀ c o, o < N → (fun j => if zf_ahead A io j c then P j else 0) o ≤ 200 := by
    intro c o ho
    have := (h o ho).2
    show (if zf_ahead A io o c then P o else 0) ≤ 200
    split <;> omega
  have s1 := zn_sumle (hP a)
  have s2 := zn_sumle (hP b)
  have p1 := (h a ha).2
  have p2 := (h b hb).2
  have m : zn_sum (fun j => if zf_ahead A io j a then P j else 0) N + P a ≤ zn_sum (fun j => if zf_ahead A io j b then P j else 0) N := by
    refine zn_sumadd (b := a) (fun o ho => ?_) ha ?_
    · show (if zf_ahead A io o a then P o else 0) ≤ (if zf_ahead A io o b then P o else 0)
      by_cases q : zf_ahead A io o a
      · have q2 : zf_ahead A io o b := by
          refine ⟨q.1.trans hab.1, ?_⟩
          have c1 : zf_ca A o a := q.2
          have c2 : zf_ca A a b := hab.2
          have c3 : zf_ca A o b := by
            rw [zf_caI] at c1 c2 ⊢
            omega
          exact c3
        rw [if_pos q, if_pos q2]
        exact Nat.le_refl _
      · rw [if_neg q]
        exact Nat.zero_le _
    · show (if zf_ahead A io a a then P a else 0) + P a ≤ (if zf_ahead A io a b then P a else 0)
      have q : ¬ zf_ahead A io a a := by
        intro z
        have c1 : zf_ca A a a := z.2
        rw [zf_caI] at c1
        omega
      rw [if_neg q, if_pos hab]
      omega
  exact (nI_leI (by omega) (by omega)).mpr (by omega)
theorem zg_behind {n : Nat → Nat} {A : Nat → Nat → Int32} {io : Nat → Int32} {P : Nat → Nat} {o : Nat} (hN : zf_N n) (h : zg_RL (n 4) A P) (hl : o < n 4) (ho : ¬ zf_keeps n A io o) : zf_cua n A io o (zf_bOf n A io (io (ze_ix (A 19 o)))) (n 4) = zf_behind n A io o (n 4) := by
  obtain ⟨h1, h2, h3, h4⟩ := zg_off ho (n 4)
  have hlt : zf_off n A io o (n 4) < n 4 := by omega
  have hn4 := hN.2.2.2.2
  have key : ∀ k, k < n 4 → ((io (ze_ix (A 19 k)) = io (ze_ix (A 19 o)) ∧ zf_ca A k o ∧ ¬ zf_keepC n A io k (zf_bOf n A io (io (ze_ix (A 19 o))))) ↔ (zf_ahead A io k o ∧ ¬ zf_ahead A io k (zf_off n A io o (n 4)))) := by
    intro k hk
    generalize zf_off n A io o (n 4) = f at h1 h2 h3 h4 hlt
    constructor
    · rintro ⟨g1, g2, g3⟩
      refine ⟨⟨g1, g2⟩, fun z => ?_⟩
      have hu : zg_un n A io (io (ze_ix (A 19 o))) k := ⟨g1, fun w => g3 ((zf_keepE g1).mpr w)⟩
      have c1 : zf_ca A k f := z.2
      rcases h4 k hk hu with e | c2
      · subst e
        rw [zf_caI] at c1
        omega
      · rw [zf_caI] at c1 c2
        omega
    · rintro ⟨⟨g1, g2⟩, g3⟩
      refine ⟨g1, g2, fun z => ?_⟩
      have hk2 := (zf_keepE g1).mp z
      have hkf : k = f ∨ zf_ahead A io f k := by
        by_cases e : k = f
        · exact Or.inl e
        · right
          refine ⟨h1.1.trans g1.symm, ?_⟩
          have c1 : ¬ zf_ca A k f := fun w => g3 ⟨g1.trans h1.1.symm, w⟩
          have c2 : zf_ca A f k := by
            rw [zf_caI] at c1 ⊢
            omega
          exact c2
      rcases hkf with e | hfk
      · subst e
        exact h1.2 hk2
      · have hm := zg_upmono h hn4 hlt hk hfk
        apply h1.2
        unfold zf_keeps at hk2 ⊢
        rw [h1.1, ← g1]
        rcases hk2 with w | w
        · exact Or.inl w
        · exact Or.inr (fun x => w (Int32.lt_of_lt_of_le x hm))
  unfold zf_cua zf_behind
  have gen : ∀ N, N ≤ n 4 → ze_sum 0 (fun k => if io (ze_ix (A 19 k)) = io (ze_ix (A 19 o)) ∧ zf_ca A k o ∧ ¬ zf_keepC n A io k (zf_bOf n A io (io (ze_ix (A 19 o)))) then 1 else 0) N = ze_sum 0 (fun k => if zf_ahead A io k o ∧ ¬ zf_ahead A io k (zf_off n A io o (n 4)) then 1 else 0) N := by
    intro N
    induction N with
    | zero => exact fun _ => rfl
    | succ N ih =>
      intro hN9
      simp only [ze_sum]
      rw [ih (by omega)]
      have e := key N (by omega)
      by_cases q : zf_ahead A io N o ∧ ¬ zf_ahead A io N (zf_off n A io o (n 4))
      · rw [if_pos q, if_pos (e.mpr q)]
      · rw [if_neg q, if_neg (fun z => q (e.mp z))]
  exact gen (n 4) (Nat.le_refl _)
