/-! ===== the search from site to site finds the islands ===== -/
theorem zf_acrO {A : Nat → Nat → Int32} {x : Int32} {i : Nat} (h : ¬ zf_acr A x i = -1) : ¬ A 4 i = 0 ∧ ((A 2 i = x ∧ zf_acr A x i = A 3 i) ∨ (A 3 i = x ∧ zf_acr A x i = A 2 i)) := by
  unfold zf_acr at h ⊢
  by_cases h1 : A 4 i = 0
  · rw [if_pos h1] at h
    exact absurd rfl h
  · rw [if_neg h1] at h ⊢
    refine ⟨h1, ?_⟩
    by_cases h2 : A 2 i = x
    · rw [if_pos h2]
      exact Or.inl ⟨h2, rfl⟩
    · rw [if_neg h2] at h ⊢
      by_cases h3 : A 3 i = x
      · rw [if_pos h3]
        exact Or.inr ⟨h3, rfl⟩
      · rw [if_neg h3] at h
        exact absurd rfl h
theorem zf_acrC {A : Nat → Nat → Int32} {L : Nat} {x : Int32} {i : Nat} (hi : i < L) (h : ¬ zf_acr A x i = -1) : zg_cn A L (ze_ix x) (ze_ix (zf_acr A x i)) := by
  obtain ⟨h1, h2⟩ := zf_acrO h
  rcases h2 with ⟨h2, h3⟩ | ⟨h2, h3⟩
  · rw [h3, ← h2]
    exact zg_ed hi h1
  · rw [h3, ← h2]
    exact zg_sy (zg_ed hi h1)
theorem zf_nI_m1 {x : Int32} {j : Nat} (h : x = nI j) (hj : j < 2 ^ 31) : ¬ x = -1 := fun e => zf_nIm1 hj (h.symm.trans e)
/-- what the search from f holds when v sites have been looked at -/
def zg_I (n : Nat → Nat) (A : Nat → Nat → Int32) (io0 : Nat → Int32) (f v : Nat) (io tv : Nat → Int32) (kn : Nat) : Prop :=
  zf_gI n f io tv kn ∧ (∀ t, t < n 0 → io t = io0 t ∨ (io0 t = -1 ∧ io t = nI f ∧ ∃ i, i < kn ∧ tv i = nI t)) ∧
  (∀ i, i < v → ∀ l, l < n 1 → ¬ zf_acr A (tv i) l = -1 → ¬ io (ze_ix (zf_acr A (tv i) l)) = -1) ∧ (∀ i, i < kn → zg_cn A (n 1) f (ze_ix (tv i))) ∧ (∀ t, n 0 ≤ t → io t = io0 t) ∧ io f = nI f
/-- one site's lines -/
theorem zg_gi {n : Nat → Nat} {A : Nat → Nat → Int32} {io0 : Nat → Int32} {f v : Nat} {io tv : Nat → Int32} {kn : Nat} (hN : zf_N n) (hS : zf_S n A) (hf : f < n 0) (hv : v < kn) (h : zg_I n A io0 f v io tv kn) : ∀ i, i ≤ n 1 →
    zg_I n A io0 f v (zf_gi A (nI f) (tv v) io tv kn i).1 (zf_gi A (nI f) (tv v) io tv kn i).2.1 (zf_gi A (nI f) (tv v) io tv kn i).2.2 ∧ kn ≤ (zf_gi A (nI f) (tv v) io tv kn i).2.2 ∧ (∀ j, j < kn → (zf_gi A (nI f) (tv v) io tv kn i).2.1 j = tv j) ∧
    ∀ l, l < i → ¬ zf_acr A (tv v) l = -1 → ¬ (zf_gi A (nI f) (tv v) io tv kn i).1 (ze_ix (zf_acr A (tv v) l)) = -1 := by
  have h6 := hN.1
  intro i
  induction i with
  | zero => exact fun _ => ⟨h, Nat.le_refl _, fun _ _ => rfl, fun l hl => absurd hl (Nat.not_lt_zero _)⟩
  | succ i ih =>
    intro hi
    obtain ⟨g1, g2, g3, g4⟩ := ih (by omega)
    have hsite : ¬ zf_acr A (tv v) i = -1 → zf_site n (zf_acr A (tv v) i) := fun q => zf_acrsite hS (by omega) q
    simp only [zf_gi]
    generalize hr : zf_gi A (nI f) (tv v) io tv kn i = r at g1 g2 g3 g4
    by_cases q : ¬ zf_acr A (tv v) i = -1 ∧ r.1 (ze_ix (zf_acr A (tv v) i)) = -1
    · rw [if_pos q]
      obtain ⟨b1, b2, b3, b4, b5, b6⟩ := g1
      have hadd := zf_gIadd hN hf b1 (hsite q.1) q.2
      obtain ⟨t0, ht0, et0⟩ := hsite q.1
      have eix : ze_ix (zf_acr A (tv v) i) = t0 := by
        rw [et0]
        exact zf_ixN (by omega)
      have hnone : r.1 t0 = -1 := by
        rw [← eix]
        exact q.2
      have hcon : zg_cn A (n 1) f t0 := by
        have c1 := zf_acrC (L := n 1) (by omega) q.1
        rw [eix] at c1
        have c2 := b4 v (by omega)
        rw [g3 v hv] at c2
        exact zg_tr c2 c1
      have hkeep : ∀ t, ¬ r.1 t = -1 → upd r.1 (ze_ix (zf_acr A (tv v) i)) (nI f) t = r.1 t := by
        intro t ht
        have hne : t ≠ ze_ix (zf_acr A (tv v) i) := fun e => ht (by rw [e]; exact q.2)
        simp [upd, hne]
      have hnew : upd r.1 (ze_ix (zf_acr A (tv v) i)) (nI f) (ze_ix (zf_acr A (tv v) i)) = nI f := by simp [upd]
      have hnot : ∀ t, ¬ r.1 t = -1 → ¬ upd r.1 (ze_ix (zf_acr A (tv v) i)) (nI f) t = -1 := by
        intro t ht
        rw [hkeep t ht]
        exact ht
      have htv : ∀ j, j < r.2.2 → upd r.2.1 r.2.2 (zf_acr A (tv v) i) j = r.2.1 j := by
        intro j hj
        have hne : j ≠ r.2.2 := by omega
        simp [upd, hne]
      refine ⟨⟨hadd.2, fun t ht => ?_, fun j hj l hl hne => ?_, fun j hj => ?_, fun t ht => ?_, (hkeep f (by rw [b6]; exact fun z => zf_nIm1 (by omega) z)).trans b6⟩, by show kn ≤ r.2.2 + 1; omega, fun j hj => ?_, fun l hl hne => ?_⟩
      · show upd r.1 _ (nI f) t = io0 t ∨ (io0 t = -1 ∧ upd r.1 _ (nI f) t = nI f ∧ ∃ j, j < r.2.2 + 1 ∧ upd r.2.1 r.2.2 (zf_acr A (tv v) i) j = nI t)
        by_cases e : t = t0
        · subst e
          refine Or.inr ⟨?_, by rw [← eix]; exact hnew, r.2.2, by omega, by simp [upd, et0]⟩
          rcases b2 t ht with w | w
          · rw [← w]
            exact hnone
          · exact w.1
        · have hne : t ≠ ze_ix (zf_acr A (tv v) i) := by
            rw [eix]
            exact e
          have hu : upd r.1 (ze_ix (zf_acr A (tv v) i)) (nI f) t = r.1 t := by simp [upd, hne]
          rw [hu]
          rcases b2 t ht with w | ⟨w1, w2, j, hj, ej⟩
          · exact Or.inl w
          · exact Or.inr ⟨w1, w2, j, by omega, by rw [htv j hj]; exact ej⟩
      · have hjv : j < r.2.2 := by omega
        have e1 : upd r.2.1 r.2.2 (zf_acr A (tv v) i) j = r.2.1 j := htv j hjv
        have hne2 : ¬ zf_acr A (r.2.1 j) l = -1 := by
          rw [← e1]
          exact hne
        show ¬ upd r.1 _ (nI f) (ze_ix (zf_acr A (upd r.2.1 r.2.2 (zf_acr A (tv v) i) j) l)) = -1
        rw [e1]
        exact hnot _ (b3 j hj l hl hne2)
      · show zg_cn A (n 1) f (ze_ix (upd r.2.1 r.2.2 (zf_acr A (tv v) i) j))
        by_cases e : j = r.2.2
        · subst e
          have e2 : upd r.2.1 r.2.2 (zf_acr A (tv v) i) r.2.2 = zf_acr A (tv v) i := by simp [upd]
          rw [e2, eix]
          exact hcon
        · have hj2 : j < r.2.2 := by
            have hj3 : j < r.2.2 + 1 := hj
            omega
          rw [htv j hj2]
          exact b4 j hj2
      · show upd r.1 _ (nI f) t = io0 t
        have hne : t ≠ ze_ix (zf_acr A (tv v) i) := by
          rw [eix]
          omega
        have hu : upd r.1 (ze_ix (zf_acr A (tv v) i)) (nI f) t = r.1 t := by simp [upd, hne]
        rw [hu]
        exact b5 t ht
      · show upd r.2.1 r.2.2 (zf_acr A (tv v) i) j = tv j
        rw [htv j (by omega)]
        exact g3 j hj
      · show ¬ upd r.1 _ (nI f) (ze_ix (zf_acr A (tv v) l)) = -1
        by_cases e : l = i
        · subst e
          rw [hnew]
          exact fun z => zf_nIm1 (by omega) z
        · exact hnot _ (g4 l (by omega) hne)
    · rw [if_neg q]
      refine ⟨g1, g2, g3, fun l hl hne => ?_⟩
      by_cases e : l = i
      · subst e
        exact fun z => q ⟨hne, z⟩
      · exact g4 l (by omega) hne
/-- the whole search from f -/
theorem zg_gxI {n : Nat → Nat} {A : Nat → Nat → Int32} {io0 : Nat → Int32} {f : Nat} (hN : zf_N n) (hS : zf_S n A) (hf : f < n 0) : ∀ (k v : Nat) (io tv : Nat → Int32) (kn : Nat), zg_I n A io0 f v io tv kn → v ≤ kn → n 0 ≤ v + k →
    zg_I n A io0 f (zf_gx A (n 1) (nI f) k v io tv kn).2.2 (zf_gx A (n 1) (nI f) k v io tv kn).1 (zf_gx A (n 1) (nI f) k v io tv kn).2.1 (zf_gx A (n 1) (nI f) k v io tv kn).2.2 := by
  intro k
  induction k with
  | zero =>
    intro v io tv kn h hv hk
    have h1 := h.1.1
    have e : v = kn := by omega
    subst e
    exact h
  | succ k ih =>
    intro v io tv kn h hv hk
    simp only [zf_gx]
    by_cases q : v < kn
    · rw [if_pos q]
      obtain ⟨⟨b1, b2, b3, b4, b5, b6⟩, g2, g3, g4⟩ := zg_gi hN hS hf q h (n 1) (Nat.le_refl _)
      refine ih (v + 1) _ _ _ ⟨b1, b2, fun i hi l hl hne => ?_, b4, b5, b6⟩ (by omega) (by omega)
      by_cases e : i = v
      · subst e
        rw [g3 i q] at hne ⊢
        exact g4 l hl hne
      · exact b3 i (by omega) l hl hne
    · rw [if_neg q]
      have e : v = kn := by omega
      subst e
      exact h
/-- what the outer loop holds: labels so far -/
def zg_J (n : Nat → Nat) (A : Nat → Nat → Int32) (s : Nat) (io : Nat → Int32) : Prop :=
  (∀ t, t < n 0 → io t = -1 ∨ ∃ j, j ≤ t ∧ j < s ∧ io t = nI j ∧ zg_cn A (n 1) t j) ∧ (∀ i, i < n 1 → ¬ A 4 i = 0 → io (ze_ix (A 2 i)) = io (ze_ix (A 3 i))) ∧ (∀ t, t < s → ¬ io t = -1) ∧ ∀ t, n 0 ≤ t → io t = 0
theorem zg_goJ {n : Nat → Nat} {A : Nat → Nat → Int32} {io tv : Nat → Int32} {f : Nat} (hN : zf_N n) (hS : zf_S n A) (hf : f < n 0) (hJ : zg_J n A f io) (hn : io f = -1) : zg_J n A (f + 1) (zf_go n A io tv f).1 := by
  have h6 := hN.1
  obtain ⟨j1, j2, j3, j4⟩ := hJ
  have h0 : zg_I n A io f 0 (upd io f (nI f)) (upd tv 0 (nI f)) 1 := by
    refine ⟨zf_gI1 hf io tv, fun t ht => ?_, fun i hi => absurd hi (Nat.not_lt_zero _), fun i hi => ?_, fun t ht => ?_, by simp [upd]⟩
    · by_cases e : t = f
      · subst e
        exact Or.inr ⟨hn, by simp [upd], 0, by omega, by simp [upd]⟩
      · exact Or.inl (by simp [upd, e])
    · have e : i = 0 := by omega
      subst e
      have e2 : upd tv 0 (nI f) 0 = nI f := by simp [upd]
      rw [e2, zf_ixN (by omega)]
      exact zg_rf
    · have hne : t ≠ f := by omega
      simp [upd, hne]
  have hR := zg_gxI hN hS hf (n 0) 0 _ _ 1 h0 (by omega) (by omega)
  have hgo : zf_gx A (n 1) (nI f) (n 0) 0 (upd io f (nI f)) (upd tv 0 (nI f)) 1 = zf_go n A io tv f := rfl
  rw [hgo] at hR
  generalize zf_go n A io tv f = r at hR
  obtain ⟨b1, b2, b3, b4, b5, b6⟩ := hR
  -- a site that is new has all that it is tied to
  have hnb : ∀ x i, x < n 0 → i < n 1 → io x = -1 → r.1 x = nI f → ¬ zf_acr A (nI x) i = -1 → ¬ r.1 (ze_ix (zf_acr A (nI x) i)) = -1 := by
    intro x i hx hi h1 h2 hne
    rcases b2 x hx with w | ⟨-, -, j, hj, ej⟩
    · exact absurd (h2.symm.trans (w.trans h1)) (zf_nIm1 (by omega))
    · have z := b3 j hj i hi
      rw [ej] at z
      exact z hne
  have hedge : ∀ i, i < n 1 → ¬ A 4 i = 0 → r.1 (ze_ix (A 2 i)) = r.1 (ze_ix (A 3 i)) := by
    intro i hi hc
    obtain ⟨⟨x, hx, ex⟩, ⟨y, hy, ey⟩⟩ := hS.1 i hi
    have hj := j2 i hi hc
    rw [ex, ey, zf_ixN (by omega), zf_ixN (by omega)] at hj ⊢
    have ax : zf_acr A (nI x) i = nI y := by
      unfold zf_acr
      rw [if_neg hc, if_pos ex, ey]
    have ay : zf_acr A (nI y) i = nI x := by
      unfold zf_acr
      rw [if_neg hc]
      by_cases q : A 2 i = nI y
      · rw [if_pos q, ey, ← q, ex]
      · rw [if_neg q, if_pos ey, ex]
    rcases b2 x hx with wx | ⟨wx1, wx2, -⟩
    · rcases b2 y hy with wy | ⟨wy1, wy2, -⟩
      · rw [wx, wy, hj]
      · have z := hnb y i hy hi wy1 wy2 (by rw [ay]; exact fun z => zf_nIm1 (by omega) z)
        rw [ay, zf_ixN (by omega)] at z
        rw [wx, hj, wy1] at z
        exact absurd rfl z
    · rcases b2 y hy with wy | ⟨wy1, wy2, -⟩
      · have z := hnb x i hx hi wx1 wx2 (by rw [ax]; exact fun z => zf_nIm1 (by omega) z)
        rw [ax, zf_ixN (by omega)] at z
        rw [wy, ← hj, wx1] at z
        exact absurd rfl z
      · rw [wx2, wy2]
  refine ⟨fun t ht => ?_, hedge, fun t ht => ?_, fun t ht => ?_⟩
  · rcases b2 t ht with w | ⟨w1, w2, j, hj, ej⟩
    · rw [w]
      rcases j1 t ht with q | ⟨j, q1, q2, q3, q4⟩
      · exact Or.inl q
      · exact Or.inr ⟨j, q1, by omega, q3, q4⟩
    · have hft : f ≤ t := Nat.not_lt.mp (fun z => j3 t z w1)
      have c := b4 j hj
      rw [ej, zf_ixN (by omega)] at c
      exact Or.inr ⟨f, hft, by omega, w2, zg_sy c⟩
  · by_cases e : t = f
    · subst e
      rw [b6]
      exact fun z => zf_nIm1 (by omega) z
    · have ht2 : t < f := by omega
      rcases b2 t (by omega) with w | ⟨w1, w2, -⟩
      · rw [w]
        exact j3 t ht2
      · rw [w2]
        exact fun z => zf_nIm1 (by omega) z
  · rw [b5 t ht]
    exact j4 t ht
theorem zf_fmat (io : Nat → Int32) (N s : Nat) : zf_fm io N s = if s < N then -1 else io s := by
  induction N with
  | zero => simp [zf_fm]
  | succ N ih =>
    simp only [zf_fm, upd]
    by_cases h : s = N
    · subst h
      simp
    · rw [if_neg h, ih]
      by_cases h2 : s < N
      · rw [if_pos h2, if_pos (by omega)]
      · rw [if_neg h2, if_neg (by omega)]
theorem zg_fiJ {n : Nat → Nat} {A : Nat → Nat → Int32} {io tv : Nat → Int32} (hN : zf_N n) (hS : zf_S n A) (hz : ∀ t, n 0 ≤ t → io t = 0) : ∀ s, s ≤ n 0 → zg_J n A s (zf_fi n A io tv s).1 := by
  have h6 := hN.1
  intro s
  induction s with
  | zero =>
    intro _
    have hE := zg_hE hN hS
    refine ⟨fun t ht => Or.inl ?_, fun i hi hc => ?_, fun t ht => absurd ht (Nat.not_lt_zero _), fun t ht => ?_⟩
    · show zf_fm io (n 0) t = -1
      rw [zf_fmat, if_pos ht]
    · show zf_fm io (n 0) _ = zf_fm io (n 0) _
      rw [zf_fmat, zf_fmat, if_pos (hE i hi).1, if_pos (hE i hi).2]
    · show zf_fm io (n 0) t = 0
      rw [zf_fmat, if_neg (by omega)]
      exact hz t ht
  | succ s ih =>
    intro hs
    have hJ := ih (by omega)
    simp only [zf_fi]
    by_cases q : (zf_fi n A io tv s).1 s = -1
    · rw [if_pos q]
      exact zg_goJ hN hS (by omega) hJ q
    · rw [if_neg q]
      obtain ⟨j1, j2, j3, j4⟩ := hJ
      refine ⟨fun t ht => ?_, j2, fun t ht => ?_, j4⟩
      · rcases j1 t ht with w | ⟨j, w1, w2, w3, w4⟩
        · exact Or.inl w
        · exact Or.inr ⟨j, w1, by omega, w3, w4⟩
      · by_cases e : t = s
        · subst e
          exact q
        · exact j3 t (by omega)
/-- the class's search gives the reference's islands -/
theorem zf_fiE {n : Nat → Nat} {A : Nat → Nat → Int32} {io tv : Nat → Int32} (hN : zf_N n) (hS : zf_S n A) (hz : ∀ t, n 0 ≤ t → io t = 0) : (zf_fi n A io tv (n 0)).1 = zf_CI n A := by
  obtain ⟨j1, j2, j3, j4⟩ := zg_fiJ (tv := tv) hN hS hz (n 0) (Nat.le_refl _)
  funext s
  by_cases hs : s < n 0
  · refine zf_CIuniq hN hS j2 (fun t ht => ?_) hs
    rcases j1 t ht with w | ⟨j, w1, w2, w3, w4⟩
    · exact absurd w (j3 t ht)
    · exact ⟨j, w1, w3, w4⟩
  · rw [j4 s (by omega), zf_CIz hN hS s (by omega)]
