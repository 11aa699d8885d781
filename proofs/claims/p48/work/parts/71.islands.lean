/-! ===== islands: what is connected, and its lowest number ===== -/
/-- t is reached from s by closed lines -/
def zg_cn (A : Nat → Nat → Int32) (L : Nat) (s t : Nat) : Prop := ∀ P : Nat → Prop, (∀ i, i < L → ¬ A 4 i = 0 → (P (ze_ix (A 2 i)) ↔ P (ze_ix (A 3 i)))) → P s → P t
theorem zg_rf {A : Nat → Nat → Int32} {L s : Nat} : zg_cn A L s s := fun _ _ h => h
theorem zg_tr {A : Nat → Nat → Int32} {L s t u : Nat} (h : zg_cn A L s t) (h2 : zg_cn A L t u) : zg_cn A L s u := fun P hP hs => h2 P hP (h P hP hs)
theorem zg_sy {A : Nat → Nat → Int32} {L s t : Nat} (h : zg_cn A L s t) : zg_cn A L t s := fun P hP ht => Classical.byContradiction (fun hs => h (fun u => ¬ P u) (fun i hi hc => ⟨fun q z => q ((hP i hi hc).mpr z), fun q z => q ((hP i hi hc).mp z)⟩) hs ht)
theorem zg_ed {A : Nat → Nat → Int32} {L i : Nat} (hi : i < L) (hc : ¬ A 4 i = 0) : zg_cn A L (ze_ix (A 2 i)) (ze_ix (A 3 i)) := fun _ hP h => (hP i hi hc).mp h
/-- every site's island has a lowest number -/
theorem zg_min (A : Nat → Nat → Int32) (L s : Nat) : ∃ t, zg_cn A L s t ∧ ∀ u, zg_cn A L s u → t ≤ u := by
  have key : ∀ k t : Nat, t ≤ k → zg_cn A L s t → ∃ t, zg_cn A L s t ∧ ∀ u, zg_cn A L s u → t ≤ u := by
    intro k
    induction k with
    | zero =>
      intro t ht h
      exact ⟨t, h, fun u _ => by omega⟩
    | succ k ih =>
      intro t ht h
      by_cases q : ∃ u, zg_cn A L s u ∧ u < t
      · obtain ⟨u, h1, h2⟩ := q
        exact ih u (by omega) h1
      · exact ⟨t, h, fun u hu => Nat.not_lt.mp (fun z => q ⟨u, hu, z⟩)⟩
  exact key s s (Nat.le_refl s) zg_rf
/-! the marks, as plain numbers -/
def zg_ml (A : Nat → Nat → Int32) (G : Nat → Nat) : Nat → Nat → Nat
  | 0 => G
  | i + 1 => if A 4 i = 0 then zg_ml A G i else fun s => if s = ze_ix (A 3 i) ∨ s = ze_ix (A 2 i) then min (zg_ml A G i (ze_ix (A 2 i))) (zg_ml A G i (ze_ix (A 3 i))) else zg_ml A G i s
def zg_mr (A : Nat → Nat → Int32) (L : Nat) (G : Nat → Nat) : Nat → Nat → Nat
  | 0 => G
  | r + 1 => zg_ml A (zg_mr A L G r) L
theorem zg_ml_s (A : Nat → Nat → Int32) (G : Nat → Nat) (i s : Nat) : zg_ml A G (i + 1) s ≤ zg_ml A G i s := by
  simp only [zg_ml]
  by_cases hc : A 4 i = 0
  · rw [if_pos hc]
    exact Nat.le_refl _
  · rw [if_neg hc]
    by_cases h : s = ze_ix (A 3 i) ∨ s = ze_ix (A 2 i)
    · show (if s = ze_ix (A 3 i) ∨ s = ze_ix (A 2 i) then _ else _) ≤ _
      rw [if_pos h]
      rcases h with rfl | rfl <;> omega
    · show (if s = ze_ix (A 3 i) ∨ s = ze_ix (A 2 i) then _ else _) ≤ _
      rw [if_neg h]
      exact Nat.le_refl _
theorem zg_ml_m (A : Nat → Nat → Int32) (G : Nat → Nat) (s : Nat) {i : Nat} : ∀ {j : Nat}, i ≤ j → zg_ml A G j s ≤ zg_ml A G i s := by
  intro j
  induction j with
  | zero =>
    intro h
    have e : i = 0 := by omega
    subst e
    exact Nat.le_refl _
  | succ j ih =>
    intro h
    by_cases q : i = j + 1
    · subst q
      exact Nat.le_refl _
    · exact Nat.le_trans (zg_ml_s A G j s) (ih (by omega))
theorem zg_ml_x (A : Nat → Nat → Int32) (G : Nat → Nat) {i j : Nat} (h : i < j) (hc : ¬ A 4 i = 0) : zg_ml A G j (ze_ix (A 2 i)) ≤ G (ze_ix (A 3 i)) ∧ zg_ml A G j (ze_ix (A 3 i)) ≤ G (ze_ix (A 2 i)) := by
  have a1 : zg_ml A G (i + 1) (ze_ix (A 2 i)) = min (zg_ml A G i (ze_ix (A 2 i))) (zg_ml A G i (ze_ix (A 3 i))) := by
    simp only [zg_ml]
    rw [if_neg hc]
    show (if _ then _ else _) = _
    rw [if_pos (Or.inr rfl)]
  have a2 : zg_ml A G (i + 1) (ze_ix (A 3 i)) = min (zg_ml A G i (ze_ix (A 2 i))) (zg_ml A G i (ze_ix (A 3 i))) := by
    simp only [zg_ml]
    rw [if_neg hc]
    show (if _ then _ else _) = _
    rw [if_pos (Or.inl rfl)]
  have b1 := zg_ml_m A G (ze_ix (A 2 i)) (i := i + 1) (j := j) h
  have b2 := zg_ml_m A G (ze_ix (A 3 i)) (i := i + 1) (j := j) h
  have c1 := zg_ml_m A G (ze_ix (A 2 i)) (i := 0) (j := i) (Nat.zero_le _)
  have c2 := zg_ml_m A G (ze_ix (A 3 i)) (i := 0) (j := i) (Nat.zero_le _)
  have d1 : zg_ml A G 0 (ze_ix (A 2 i)) = G (ze_ix (A 2 i)) := rfl
  have d2 : zg_ml A G 0 (ze_ix (A 3 i)) = G (ze_ix (A 3 i)) := rfl
  omega
theorem zg_ml_c {A : Nat → Nat → Int32} {L : Nat} {G : Nat → Nat} (h : ∀ s, zg_cn A L s (G s)) : ∀ i, i ≤ L → ∀ s, zg_cn A L s (zg_ml A G i s) := by
  intro i
  induction i with
  | zero => exact fun _ => h
  | succ i ih =>
    intro hi s
    have hh := ih (by omega)
    simp only [zg_ml]
    by_cases hc : A 4 i = 0
    · rw [if_pos hc]
      exact hh s
    · rw [if_neg hc]
      show zg_cn A L s (if s = ze_ix (A 3 i) ∨ s = ze_ix (A 2 i) then _ else _)
      by_cases q : s = ze_ix (A 3 i) ∨ s = ze_ix (A 2 i)
      · rw [if_pos q]
        have hx : zg_cn A L s (ze_ix (A 2 i)) := by
          rcases q with rfl | rfl
          · exact zg_sy (zg_ed (by omega) hc)
          · exact zg_rf
        have hy : zg_cn A L s (ze_ix (A 3 i)) := zg_tr hx (zg_ed (by omega) hc)
        by_cases w : zg_ml A G i (ze_ix (A 2 i)) ≤ zg_ml A G i (ze_ix (A 3 i))
        · rw [Nat.min_eq_left w]
          exact zg_tr hx (hh _)
        · rw [Nat.min_eq_right (by omega)]
          exact zg_tr hy (hh _)
      · rw [if_neg q]
        exact hh s
theorem zg_mr_c {A : Nat → Nat → Int32} {L : Nat} (r : Nat) : ∀ s, zg_cn A L s (zg_mr A L (fun s => s) r s) := by
  induction r with
  | zero => exact fun _ => zg_rf
  | succ r ih => exact zg_ml_c ih L (Nat.le_refl _)
theorem zg_mr_m (A : Nat → Nat → Int32) (L : Nat) (G : Nat → Nat) (s : Nat) {r : Nat} : ∀ {q : Nat}, r ≤ q → zg_mr A L G q s ≤ zg_mr A L G r s := by
  intro q
  induction q with
  | zero =>
    intro h
    have e : r = 0 := by omega
    subst e
    exact Nat.le_refl _
  | succ q ih =>
    intro h
    by_cases w : r = q + 1
    · subst w
      exact Nat.le_refl _
    · exact Nat.le_trans (zg_ml_m A _ s (i := 0) (Nat.zero_le _)) (ih (by omega))
/-- a mark has come down to the lowest -/
def zg_ok (A : Nat → Nat → Int32) (L r s : Nat) : Prop := ∀ u, zg_cn A L s u → zg_mr A L (fun s => s) r s ≤ u
theorem zg_ok_m {A : Nat → Nat → Int32} {L r q s : Nat} (h : zg_ok A L r s) (hq : r ≤ q) : zg_ok A L q s := fun u hu => Nat.le_trans (zg_mr_m A L _ s hq) (h u hu)
theorem zg_new {A : Nat → Nat → Int32} {L N r s : Nat} (hE : ∀ i, i < L → ze_ix (A 2 i) < N ∧ ze_ix (A 3 i) < N) (h : ¬ zg_ok A L r s) : ∃ t, t < N ∧ ¬ zg_ok A L r t ∧ zg_ok A L (r + 1) t := by
  obtain ⟨t, ht, hm⟩ := zg_min A L s
  have hokt : zg_ok A L r t := fun u hu => Nat.le_trans (zg_mr_m A L _ t (r := 0) (Nat.zero_le _)) (hm u (zg_tr ht hu))
  have hex : ¬ ∀ i, i < L → ¬ A 4 i = 0 → (¬ zg_ok A L r (ze_ix (A 2 i)) ↔ ¬ zg_ok A L r (ze_ix (A 3 i))) := fun q => ht (fun u => ¬ zg_ok A L r u) q h hokt
  have hex2 : ∃ i, i < L ∧ ¬ A 4 i = 0 ∧ ¬ (¬ zg_ok A L r (ze_ix (A 2 i)) ↔ ¬ zg_ok A L r (ze_ix (A 3 i))) := Classical.byContradiction (fun q => hex (fun i hi hc => Classical.byContradiction (fun z => q ⟨i, hi, hc, z⟩)))
  obtain ⟨i, hi, hc, hd⟩ := hex2
  have hx := zg_ml_x A (zg_mr A L (fun s => s) r) hi hc
  by_cases p1 : zg_ok A L r (ze_ix (A 2 i))
  · by_cases p2 : zg_ok A L r (ze_ix (A 3 i))
    · exact absurd ⟨fun q => absurd p1 q, fun q => absurd p2 q⟩ hd
    · exact ⟨_, (hE i hi).2, p2, fun u hu => Nat.le_trans hx.2 (p1 u (zg_tr (zg_ed hi hc) hu))⟩
  · by_cases p2 : zg_ok A L r (ze_ix (A 3 i))
    · exact ⟨_, (hE i hi).1, p1, fun u hu => Nat.le_trans hx.1 (p2 u (zg_tr (zg_sy (zg_ed hi hc)) hu))⟩
    · exact absurd ⟨fun _ => p2, fun _ => p1⟩ hd
/-- as many rounds as sites are enough -/
theorem zg_all {A : Nat → Nat → Int32} {L N : Nat} (hE : ∀ i, i < L → ze_ix (A 2 i) < N ∧ ze_ix (A 3 i) < N) (s : Nat) : zg_ok A L N s := by
  refine Classical.byContradiction (fun hs => ?_)
  have hall : ∀ r : Nat, ∃ t : Nat, r ≤ N → t < N ∧ ¬ zg_ok A L r t ∧ zg_ok A L (r + 1) t := by
    intro r
    by_cases hr : r ≤ N
    · obtain ⟨t, ht⟩ := zg_new hE (fun z => hs (zg_ok_m (r := r) z hr))
      exact ⟨t, fun _ => ht⟩
    · exact ⟨0, fun z => absurd z hr⟩
  obtain ⟨f, hf⟩ := Classical.axiomOfChoice hall
  have h := fb_holes N (N + 1) f (fun i hi => (hf i (by omega)).1) (fun i j hij hj e => by
    have a1 := (hf i (by omega)).2.2
    have a2 := (hf j (by omega)).2.1
    rw [← e] at a2
    exact a2 (zg_ok_m a1 hij))
  omega
theorem zg_fix {A : Nat → Nat → Int32} {L N r q : Nat} (hE : ∀ i, i < L → ze_ix (A 2 i) < N ∧ ze_ix (A 3 i) < N) (hr : N ≤ r) (hq : N ≤ q) (s : Nat) : zg_mr A L (fun s => s) r s = zg_mr A L (fun s => s) q s := by
  have a1 := zg_ok_m (zg_all hE s) hr _ (zg_mr_c (A := A) (L := L) q s)
  have a2 := zg_ok_m (zg_all hE s) hq _ (zg_mr_c (A := A) (L := L) r s)
  omega
/-- the marks of the rows are these numbers -/
theorem zg_mlN {n : Nat → Nat} {A : Nat → Nat → Int32} {mk : Nat → Int32} {G : Nat → Nat} (hN : zf_N n) (hS : zf_S n A) (h : ∀ s, s < n 0 → mk s = nI (G s) ∧ G s < 6) : ∀ i, i ≤ n 1 → ∀ s, s < n 0 → zf_ml A mk i s = nI (zg_ml A G i s) ∧ zg_ml A G i s < 6 := by
  intro i
  induction i with
  | zero => exact fun _ => h
  | succ i ih =>
    intro hi s hs
    have h6 := hN.1
    have hh := ih (by omega)
    simp only [zf_ml, zg_ml]
    by_cases hc : A 4 i = 0
    · rw [if_pos hc, if_pos hc]
      exact hh s hs
    · rw [if_neg hc, if_neg hc]
      obtain ⟨⟨x, hx, ex⟩, ⟨y, hy, ey⟩⟩ := hS.1 i (by omega)
      rw [ex, ey, zf_ixN (by omega), zf_ixN (by omega)]
      obtain ⟨e1, l1⟩ := hh x hx
      obtain ⟨e2, l2⟩ := hh y hy
      rw [e1, e2, zf_mnN (by omega) (by omega)]
      show upd (upd _ x _) y _ s = nI (if s = y ∨ s = x then _ else _) ∧ (if s = y ∨ s = x then _ else _) < 6
      by_cases q1 : s = y
      · subst q1
        rw [if_pos (Or.inl rfl)]
        exact ⟨by simp [upd], by omega⟩
      · by_cases q2 : s = x
        · subst q2
          rw [if_pos (Or.inr rfl)]
          exact ⟨by simp [upd, q1], by omega⟩
        · rw [if_neg (by intro z; rcases z with z | z; exact q1 z; exact q2 z)]
          obtain ⟨e, l⟩ := hh s hs
          exact ⟨by simp [upd, q1, q2, e], l⟩
theorem zg_mrN {n : Nat → Nat} {A : Nat → Nat → Int32} {mk : Nat → Int32} (hN : zf_N n) (hS : zf_S n A) (h : ∀ s, s < n 0 → mk s = nI s) : ∀ r s, s < n 0 → zf_mr A (n 1) mk r s = nI (zg_mr A (n 1) (fun s => s) r s) ∧ zg_mr A (n 1) (fun s => s) r s < 6 := by
  intro r
  have h6 := hN.1
  induction r with
  | zero => exact fun s hs => ⟨h s hs, by show s < 6; omega⟩
  | succ r ih => exact zg_mlN hN hS ih (n 1) (Nat.le_refl _)
theorem zg_hE {n : Nat → Nat} {A : Nat → Nat → Int32} (hN : zf_N n) (hS : zf_S n A) : ∀ i, i < n 1 → ze_ix (A 2 i) < n 0 ∧ ze_ix (A 3 i) < n 0 := by
  intro i hi
  have h6 := hN.1
  obtain ⟨⟨x, hx, ex⟩, ⟨y, hy, ey⟩⟩ := hS.1 i hi
  rw [ex, ey, zf_ixN (by omega), zf_ixN (by omega)]
  exact ⟨hx, hy⟩
/-- the class's rounds give the reference's islands -/
theorem zf_roundsE {n : Nat → Nat} {A : Nat → Nat → Int32} (hN : zf_N n) (hS : zf_S n A) (e : Nat → Int32) {s : Nat} (hs : s < n 0) : zf_mr A (n 1) (zf_m1 e (n 0)) (n 0) s = zf_CI n A s := by
  have h6 := hN.1
  have a1 := (zg_mrN hN hS (mk := zf_m1 e (n 0)) (fun s hs => by rw [zf_m1at, if_pos hs]) (n 0) s hs).1
  have a2 := (zg_mrN hN hS (mk := zf_m1 (fun _ => 0) (n 0)) (fun s hs => by rw [zf_m1at, if_pos hs]) 6 s hs).1
  rw [a1]
  unfold zf_CI
  rw [a2, zg_fix (zg_hE hN hS) (Nat.le_refl _) h6 s]
/-- what makes a row of numbers the islands -/
theorem zf_CIuniq {n : Nat → Nat} {A : Nat → Nat → Int32} (hN : zf_N n) (hS : zf_S n A) {f : Nat → Int32} (h1 : ∀ i, i < n 1 → ¬ A 4 i = 0 → f (ze_ix (A 2 i)) = f (ze_ix (A 3 i))) (h2 : ∀ s, s < n 0 → ∃ j, j ≤ s ∧ f s = nI j ∧ zg_cn A (n 1) s j) {s : Nat} (hs : s < n 0) : f s = zf_CI n A s := by
  have h6 := hN.1
  have a2 := (zg_mrN hN hS (mk := zf_m1 (fun _ => 0) (n 0)) (fun s hs => by rw [zf_m1at, if_pos hs]) 6 s hs)
  unfold zf_CI
  rw [a2.1]
  generalize hk : zg_mr A (n 1) (fun s => s) 6 s = k at a2
  obtain ⟨j, hj, ej, cj⟩ := h2 s hs
  have hkj : k ≤ j := by
    rw [← hk]
    exact zg_ok_m (zg_all (zg_hE hN hS) s) h6 j cj
  have hks : k ≤ s := by omega
  have hc : zg_cn A (n 1) s k := by
    rw [← hk]
    exact zg_mr_c 6 s
  have hfk : f k = f s := hc (fun u => f u = f s) (fun i hi q => by rw [h1 i hi q]) rfl
  obtain ⟨j2, hj2, ej2, -⟩ := h2 k (by omega)
  have e3 : j2 = j := (nI_eq (by omega) (by omega)).mp (ej2.symm.trans (hfk.trans ej))
  have e4 : j = k := by omega
  rw [ej, e4]
