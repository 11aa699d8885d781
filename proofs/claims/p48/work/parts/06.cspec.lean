/-! ===== what the class's own methods answer and lay, in their own words ===== -/
theorem ze_sEid (A : Nat → Nat → Int32) (k i : Nat) : ze_sE A k i (A k i) = A := by
  funext r j
  by_cases h : r = k
  · subst h
    by_cases h2 : j = i
    · subst h2
      simp [ze_sE, ze_sA, upd]
    · simp [ze_sE, ze_sA, upd, h2]
  · simp [ze_sE, ze_sA, h]
theorem ze_sE2 (A : Nat → Nat → Int32) (k i : Nat) (v w : Int32) : ze_sE (ze_sE A k i v) k i w = ze_sE A k i w := by
  funext r j
  by_cases h : r = k
  · subst h
    by_cases h2 : j = i <;> simp [ze_sE, ze_sA, upd, h2]
  · simp [ze_sE, ze_sA, h]
theorem ze_sEc {A : Nat → Nat → Int32} {k l i : Nat} {v w : Int32} (h : k ≠ l) : ze_sE (ze_sE A k i v) l i w = ze_sE (ze_sE A l i w) k i v := by
  funext r j
  by_cases h1 : r = k
  · subst h1
    simp [ze_sE, ze_sA, h]
  · by_cases h2 : r = l <;> simp [ze_sE, ze_sA, h1, h2, Ne.symm h]
abbrev zf_short (A : Nat → Nat → Int32) (g : Nat) : Prop := ¬ A 7 g ≤ A 10 g
abbrev zf_better (A : Nat → Nat → Int32) (g b : Nat) : Prop := (¬ A 9 g = A 9 b ∧ ¬ A 9 b ≤ A 9 g) ∨ (A 9 g = A 9 b ∧ ¬ A 8 g ≤ A 8 b)
def zf_bO (A : Nat → Nat → Int32) (g : Nat) (o : Option Nat) : Bool := match o with
  | none => true
  | some b => decide (zf_better A g b)
def zf_nx (A : Nat → Nat → Int32) (io : Nat → Int32) (m : Int32) : Nat → Option Nat
  | 0 => none
  | g + 1 => if A 13 g = 111 ∧ ¬ zf_short A g ∧ io (ze_ix (A 6 g)) = m ∧ zf_bO A g (zf_nx A io m g) = true then some g else zf_nx A io m g
def zf_steps (A : Nat → Nat → Int32) (g : Nat) : Int32 := ze_mx 0 (zf_can A g - A 7 g)
def zf_stp (A : Nat → Nat → Int32) (io : Nat → Int32) (m : Int32) : Nat → Int32 := fun g => if zf_runs A io g m then zf_steps A g else 0
def zf_sa (s : Nat → Int32) (N g : Nat) (x : Int32) : Int32 := if ¬ 0 < s g then 0 else ze_sum 0 (fun o => ze_mn (s o) (if o < g then x * s o / s g + 1 else (x * s o + s g - 1) / s g)) N
def zf_leap : Nat → Int32
  | 0 => 0
  | k + 1 => nI (2 ^ k)
def zf_sw (s : Nat → Int32) (N g : Nat) (first : Int32) : Nat → Int32 → Int32
  | 0, w => w
  | k + 1, w => zf_sw s N g first k (if ¬ s g < w + nI (2 ^ k) ∧ ¬ first ≤ zf_sa s N g (w + nI (2 ^ k) - 1) then w + nI (2 ^ k) else w)
def zf_swr (s : Nat → Int32) (N g : Nat) (first : Int32) : Int32 := zf_sw s N g first 8 0
abbrev zf_ll (tk s : Nat → Int32) (g t : Nat) : Prop := ¬ tk t * s g ≤ tk g * s t
def zf_llO (tk s : Nat → Int32) (g : Nat) (o : Option Nat) : Bool := match o with
  | none => true
  | some b => decide (zf_ll tk s g b)
def zf_nt (tk s : Nat → Int32) : Nat → Option Nat
  | 0 => none
  | g + 1 => if ¬ s g ≤ tk g ∧ zf_llO tk s g (zf_nt tk s g) = true then some g else zf_nt tk s g
def zf_tl (s : Nat → Int32) (N : Nat) : Nat → (Nat → Int32) → Nat → Int32
  | 0, tk => tk
  | k + 1, tk => match zf_nt tk s N with
    | none => tk
    | some g => zf_tl s N k (upd tk g (tk g + 1))
abbrev zf_ca (A : Nat → Nat → Int32) (k o : Nat) : Prop := A 21 k < A 21 o ∨ A 21 k = A 21 o ∧ k < o
abbrev zf_keepC (n : Nat → Nat) (A : Nat → Nat → Int32) (io : Nat → Int32) (k : Nat) (b : Int32) : Prop := b = -1 ∨ ¬ b < zf_upTo A io k (n 4)
def zf_caO (A : Nat → Nat → Int32) (k : Nat) (o : Option Nat) : Bool := match o with
  | none => true
  | some b => decide (zf_ca A k b)
def zf_fuC (n : Nat → Nat) (A : Nat → Nat → Int32) (io : Nat → Int32) (m b : Int32) : Nat → Option Nat
  | 0 => none
  | k + 1 => if io (ze_ix (A 19 k)) = m ∧ ¬ zf_keepC n A io k b ∧ zf_caO A k (zf_fuC n A io m b k) = true then some k else zf_fuC n A io m b k
def zf_cua (n : Nat → Nat) (A : Nat → Nat → Int32) (io : Nat → Int32) (o : Nat) (b : Int32) : Nat → Int32 := ze_sum 0 (fun k => if io (ze_ix (A 19 k)) = io (ze_ix (A 19 o)) ∧ zf_ca A k o ∧ ¬ zf_keepC n A io k b then 1 else 0)
def zf_cD (P : Prop) [Decidable P] (A : Nat → Nat → Int32) (k : Nat) : Int32 := if ¬ P then 1 else if ¬ A 5 k = 0 ∧ A 22 k = 0 then 0 else A 5 k
def zf_cW (P : Prop) [Decidable P] (A : Nat → Nat → Int32) (k : Nat) (dl : Int32) : Int32 := if ¬ P then dl else if ¬ A 5 k = 0 ∧ ¬ A 22 k = 0 then A 22 k - 1 else A 22 k
def zf_shC (n : Nat → Nat) (A : Nat → Nat → Int32) (io : Nat → Int32) (m b : Int32) : Nat → Int32 := fun k => if io (ze_ix (A 19 k)) = m then zf_cD (zf_keepC n A io k b) A k else A 5 k
def zf_shW (n : Nat → Nat) (A : Nat → Nat → Int32) (io : Nat → Int32) (m b dl : Int32) : Nat → Int32 := fun k => if io (ze_ix (A 19 k)) = m then zf_cW (zf_keepC n A io k b) A k dl else A 22 k
def zf_lits (A : Nat → Nat → Int32) : Nat → Int32 := ze_sum 0 (fun k => if A 5 k = 0 then 1 else 0)
def zf_held (A : Nat → Nat → Int32) : Nat → Int32 := ze_sum 0 (fun k => A 17 k)
def zf_dc (A : Nat → Nat → Int32) (io : Nat → Int32) (m x : Int32) : Nat → Int32
  | 0 => x
  | k + 1 => if io (ze_ix (A 14 k)) = m then zf_dc A io m x k - ze_mn (zf_dc A io m x k) (ze_mn (A 16 k) (A 17 k)) else zf_dc A io m x k
def zf_dcF (A : Nat → Nat → Int32) (io : Nat → Int32) (m x : Int32) : Nat → Int32 := fun k => if io (ze_ix (A 14 k)) = m then ze_mn (zf_dc A io m x k) (ze_mn (A 16 k) (A 17 k)) else A 18 k
def zf_dcC (A : Nat → Nat → Int32) (io : Nat → Int32) (m x : Int32) : Nat → Int32 := fun k => if io (ze_ix (A 14 k)) = m then A 17 k - ze_mn (zf_dc A io m x k) (ze_mn (A 16 k) (A 17 k)) else A 17 k
def zf_cc (A : Nat → Nat → Int32) (io : Nat → Int32) (m x : Int32) : Nat → Int32
  | 0 => x
  | k + 1 => if io (ze_ix (A 14 k)) = m then zf_cc A io m x k - ze_mn (zf_cc A io m x k) (ze_mn (A 16 k) (A 15 k - A 17 k)) else zf_cc A io m x k
def zf_ccF (A : Nat → Nat → Int32) (io : Nat → Int32) (m x : Int32) : Nat → Int32 := fun k => if io (ze_ix (A 14 k)) = m then -ze_mn (zf_cc A io m x k) (ze_mn (A 16 k) (A 15 k - A 17 k)) else A 18 k
def zf_ccC (A : Nat → Nat → Int32) (io : Nat → Int32) (m x : Int32) : Nat → Int32 := fun k => if io (ze_ix (A 14 k)) = m then A 17 k - -ze_mn (zf_cc A io m x k) (ze_mn (A 16 k) (A 15 k - A 17 k)) else A 17 k
def zf_bOf (n : Nat → Nat) (A : Nat → Nat → Int32) (io : Nat → Int32) (m : Int32) : Int32 := if zf_tied A m then -1 else ze_mx 0 (zf_supG A io m 0 (n 2) + zf_supT A io m 0 (n 3) - A 28 0)
/-- what the generators of an island give, as the class lays it -/
def zf_gvC (A : Nat → Nat → Int32) (s : Nat → Int32) (N : Nat) (io : Nat → Int32) (m f : Int32) : Nat → Int32 := fun g => if zf_runs A io g m then A 7 g + zf_swr s N g f else A 12 g
def zf_gfC (A : Nat → Nat → Int32) (s : Nat → Int32) (N : Nat) (io : Nat → Int32) (m f : Int32) : Nat → Int32 := fun g => if zf_runs A io g m then A 10 g - (A 7 g + zf_swr s N g f) else A 10 g
def zf_gsC (A : Nat → Nat → Int32) (s : Nat → Int32) (N : Nat) (io : Nat → Int32) (m f : Int32) : Nat → Int32 := ze_sum 0 (fun g => if zf_runs A io g m then A 7 g + zf_swr s N g f else 0)
theorem zf_nxlt {A : Nat → Nat → Int32} {io : Nat → Int32} {m : Int32} {N : Nat} : ∀ {i b : Nat}, i ≤ N → zf_nx A io m i = some b → b < N := by
  intro i
  induction i with
  | zero =>
    intro b _ h
    simp [zf_nx] at h
  | succ i ih =>
    intro b hi h
    simp only [zf_nx] at h
    split at h
    · cases h
      omega
    · exact ih (by omega) h
theorem zf_ntlt {tk s : Nat → Int32} {N : Nat} : ∀ {i b : Nat}, i ≤ N → zf_nt tk s i = some b → b < N := by
  intro i
  induction i with
  | zero =>
    intro b _ h
    simp [zf_nt] at h
  | succ i ih =>
    intro b hi h
    simp only [zf_nt] at h
    split at h
    · cases h
      omega
    · exact ih (by omega) h
theorem zf_fuClt {n : Nat → Nat} {A : Nat → Nat → Int32} {io : Nat → Int32} {m b0 : Int32} {N : Nat} : ∀ {i b : Nat}, i ≤ N → zf_fuC n A io m b0 i = some b → b < N := by
  intro i
  induction i with
  | zero =>
    intro b _ h
    simp [zf_fuC] at h
  | succ i ih =>
    intro b hi h
    simp only [zf_fuC] at h
    split at h
    · cases h
      omega
    · exact ih (by omega) h
theorem ze_sEid2 {A : Nat → Nat → Int32} {k l i : Nat} {v : Int32} (h : l ≠ k) : ze_sE (ze_sE A l i v) k i (A k i) = ze_sE A l i v := by
  have e : ze_sE A l i v k i = A k i := by simp [ze_sE, ze_sA, Ne.symm h]
  rw [← e]
  exact ze_sEid _ k i
theorem ze_sEid3 {A : Nat → Nat → Int32} {k l j i : Nat} {v w : Int32} (h : l ≠ k) (h2 : j ≠ k) : ze_sE (ze_sE (ze_sE A l i v) j i w) k i (A k i) = ze_sE (ze_sE A l i v) j i w := by
  have e : ze_sE (ze_sE A l i v) j i w k i = A k i := by simp [ze_sE, ze_sA, Ne.symm h, Ne.symm h2]
  rw [← e]
  exact ze_sEid _ k i
def zf_gapC (A : Nat → Nat → Int32) (io : Nat → Int32) (i : Nat) : Int32 := ze_mn (ze_ab (zf_ph A io (ze_ix (A 2 i)) - zf_ph A io (ze_ix (A 3 i)))) (360 - ze_ab (zf_ph A io (ze_ix (A 2 i)) - zf_ph A io (ze_ix (A 3 i))))
def zf_acr (A : Nat → Nat → Int32) (x : Int32) (i : Nat) : Int32 := if A 4 i = 0 then -1 else if A 2 i = x then A 3 i else if A 3 i = x then A 2 i else -1
theorem zf_tGup (A : Nat → Nat → Int32) (f : Nat → Int32) (i : Nat) : zf_tG (ze_sA (ze_sA (ze_sA A 12 f) 11 (ze_up (zf_tG A) (A 11) i)) 13 (ze_up (zf_tS A) (A 13) i)) i = zf_tG A i := by
  simp [zf_tG, ze_sA, ze_up]
theorem zf_tSup (A : Nat → Nat → Int32) (f : Nat → Int32) (i : Nat) : zf_tS (ze_sA (ze_sA (ze_sA A 12 f) 11 (ze_up (zf_tG A) (A 11) i)) 13 (ze_up (zf_tS A) (A 13) i)) i = zf_tS A i := by
  simp [zf_tS, zf_tS0, ze_sA, ze_up]
theorem zf_leap2 {k : Nat} (h : k < 8) : nI (2 ^ k) / 2 = zf_leap k := by
  have e : ∀ q : Fin 8, nI (2 ^ q.val) / 2 = zf_leap q.val := by decide
  exact e ⟨k, h⟩
def zf_tlr (n : Nat → Nat) (A : Nat → Nat → Int32) (io s0 tk0 : Nat → Int32) (m t : Int32) : Nat → Int32 := zf_tl (ze_up (zf_stp A io m) s0 (n 2)) (n 2) (zf_fu (zf_gs A io m (n 2)) t) (ze_up (fun _ => 0) tk0 (n 2))
theorem zf_cDup {P : Prop} [Decidable P] (A : Nat → Nat → Int32) (f g : Nat → Int32) (i : Nat) : zf_cD P (ze_sA (ze_sA A 5 (ze_up f (A 5) i)) 22 (ze_up g (A 22) i)) i = zf_cD P A i := by
  simp [zf_cD, ze_sA, ze_up]
theorem zf_cWup {P : Prop} [Decidable P] (A : Nat → Nat → Int32) (f g : Nat → Int32) (i : Nat) (dl : Int32) : zf_cW P (ze_sA (ze_sA A 5 (ze_up f (A 5) i)) 22 (ze_up g (A 22) i)) i dl = zf_cW P A i dl := by
  simp [zf_cW, ze_sA, ze_up]
theorem fb_holes : ∀ (m n : Nat) (f : Nat → Nat), (∀ i, i < n → f i < m) → (∀ i j, i < j → j < n → f i ≠ f j) → n ≤ m := by
  intro m
  induction m with
  | zero =>
    intro n f h1 _
    rcases Nat.eq_zero_or_pos n with h | h
    · omega
    · exact absurd (h1 0 h) (Nat.not_lt_zero _)
  | succ m ih =>
    intro n f h1 h2
    by_cases hx : ∃ i, i < n ∧ f i = m
    · obtain ⟨a, ha, hfa⟩ := hx
      have hg := ih (n - 1) (fun i => if i < a then f i else f (i + 1)) (by
        intro i hi
        by_cases q : i < a
        · simp only [if_pos q]
          have b1 := h1 i (by omega)
          have b2 := h2 i a q ha
          omega
        · simp only [if_neg q]
          have b1 := h1 (i + 1) (by omega)
          have b2 := h2 a (i + 1) (by omega) (by omega)
          omega) (by
        intro i j hij hj
        by_cases q : i < a
        · by_cases r : j < a
          · simp only [if_pos q, if_pos r]
            exact h2 i j hij (by omega)
          · simp only [if_pos q, if_neg r]
            exact h2 i (j + 1) (by omega) (by omega)
        · have r : ¬ j < a := by omega
          simp only [if_neg q, if_neg r]
          exact h2 (i + 1) (j + 1) (by omega) (by omega))
      omega
    · have hg := ih n f (fun i hi => by
        have b1 := h1 i hi
        have b2 : f i ≠ m := fun e => hx ⟨i, hi, e⟩
        omega) h2
      omega
/-! the search from site to site -/
def zf_gi (A : Nat → Nat → Int32) (first here : Int32) (io tv : Nat → Int32) (kn : Nat) : Nat → (Nat → Int32) × (Nat → Int32) × Nat
  | 0 => (io, tv, kn)
  | i + 1 => if ¬ zf_acr A here i = -1 ∧ (zf_gi A first here io tv kn i).1 (ze_ix (zf_acr A here i)) = -1 then (upd (zf_gi A first here io tv kn i).1 (ze_ix (zf_acr A here i)) first, upd (zf_gi A first here io tv kn i).2.1 (zf_gi A first here io tv kn i).2.2 (zf_acr A here i), (zf_gi A first here io tv kn i).2.2 + 1) else zf_gi A first here io tv kn i
def zf_gx (A : Nat → Nat → Int32) (L : Nat) (first : Int32) : Nat → Nat → (Nat → Int32) → (Nat → Int32) → Nat → (Nat → Int32) × (Nat → Int32) × Nat
  | 0, _, io, tv, kn => (io, tv, kn)
  | k + 1, v, io, tv, kn => if v < kn then zf_gx A L first k (v + 1) (zf_gi A first (tv v) io tv kn L).1 (zf_gi A first (tv v) io tv kn L).2.1 (zf_gi A first (tv v) io tv kn L).2.2 else (io, tv, kn)
def zf_go (n : Nat → Nat) (A : Nat → Nat → Int32) (io tv : Nat → Int32) (f : Nat) : (Nat → Int32) × (Nat → Int32) × Nat := zf_gx A (n 1) (nI f) (n 0) 0 (upd io f (nI f)) (upd tv 0 (nI f)) 1
def zf_fm (io : Nat → Int32) : Nat → Nat → Int32
  | 0 => io
  | i + 1 => upd (zf_fm io i) i (-1)
def zf_fi (n : Nat → Nat) (A : Nat → Nat → Int32) (io tv : Nat → Int32) : Nat → (Nat → Int32) × (Nat → Int32)
  | 0 => (zf_fm io (n 0), tv)
  | s + 1 => if (zf_fi n A io tv s).1 s = -1 then ((zf_go n A (zf_fi n A io tv s).1 (zf_fi n A io tv s).2 s).1, (zf_go n A (zf_fi n A io tv s).1 (zf_fi n A io tv s).2 s).2.1) else zf_fi n A io tv s
/-- what the search keeps: the known ones are different sites of the island -/
def zf_gI (n : Nat → Nat) (f : Nat) (io tv : Nat → Int32) (kn : Nat) : Prop := kn ≤ n 0 ∧ (∀ i, i < kn → ∃ j, j < n 0 ∧ tv i = nI j ∧ io j = nI f) ∧ ∀ i k, i < k → k < kn → tv i ≠ tv k
theorem zf_acrsite {n : Nat → Nat} {A : Nat → Nat → Int32} {x : Int32} {i : Nat} (hS : zf_S n A) (hi : i < n 1) (h : ¬ zf_acr A x i = -1) : zf_site n (zf_acr A x i) := by
  unfold zf_acr at h ⊢
  by_cases h1 : A 4 i = 0
  · rw [if_pos h1] at h
    exact absurd rfl h
  · rw [if_neg h1] at h ⊢
    by_cases h2 : A 2 i = x
    · rw [if_pos h2]
      exact (hS.1 i hi).2
    · rw [if_neg h2] at h ⊢
      by_cases h3 : A 3 i = x
      · rw [if_pos h3]
        exact (hS.1 i hi).1
      · rw [if_neg h3] at h
        exact absurd rfl h
theorem zf_nIm1 {f : Nat} (h : f < 2 ^ 31) : nI f ≠ -1 := by
  intro q
  have e := congrArg Int32.toInt q
  rw [nI_toInt h] at e
  have e3 : (-1 : Int32).toInt = -1 := by decide
  omega
theorem zf_gIadd {n : Nat → Nat} {f : Nat} {io tv : Nat → Int32} {kn : Nat} {t : Int32} (hN : zf_N n) (hf : f < n 0) (h : zf_gI n f io tv kn) (ht : zf_site n t) (hio : io (ze_ix t) = -1) : kn < n 0 ∧ zf_gI n f (upd io (ze_ix t) (nI f)) (upd tv kn t) (kn + 1) := by
  obtain ⟨h1, h2, h3⟩ := h
  have hn0 := hN.1
  obtain ⟨j, hj, rfl⟩ := ht
  rw [zf_ixN (by omega)] at hio ⊢
  have hne : ∀ i, i < kn → tv i ≠ nI j := by
    intro i hi he
    obtain ⟨q, hq, e1, e2⟩ := h2 i hi
    have e3 : q = j := (nI_eq (by omega) (by omega)).mp (e1.symm.trans he)
    subst e3
    rw [hio] at e2
    exact zf_nIm1 (by omega) e2.symm
  have hlt : kn < n 0 := by
    have key : kn + 1 ≤ n 0 := fb_holes (n 0) (kn + 1) (fun i => if i < kn then ze_ix (tv i) else j) (fun i hi => by
      by_cases q : i < kn
      · obtain ⟨z, hz, e1, -⟩ := h2 i q
        simp only [if_pos q, e1]
        rw [zf_ixN (by omega)]
        exact hz
      · simp only [if_neg q]
        exact hj) (fun i k hik hk => by
      have hi : i < kn := by omega
      obtain ⟨z, hz, e1, -⟩ := h2 i hi
      by_cases q : k < kn
      · obtain ⟨y, hy, e2, -⟩ := h2 k q
        simp only [if_pos hi, if_pos q, e1, e2]
        rw [zf_ixN (by omega), zf_ixN (by omega)]
        intro e
        exact h3 i k hik q (by rw [e1, e2, e])
      · simp only [if_pos hi, if_neg q, e1]
        rw [zf_ixN (by omega)]
        intro e
        exact hne i hi (by rw [e1, e]))
    omega
  refine ⟨hlt, by omega, fun i hi => ?_, fun i k hik hk => ?_⟩
  · by_cases q : i = kn
    · subst q
      exact ⟨j, hj, by simp [upd], by simp [upd]⟩
    · obtain ⟨z, hz, e1, e2⟩ := h2 i (by omega)
      refine ⟨z, hz, by simp [upd, q, e1], ?_⟩
      by_cases r : z = j
      · subst r
        simp [upd]
      · simp [upd, r, e2]
  · have qi : i ≠ kn := by omega
    by_cases q : k = kn
    · subst q
      simp only [upd, if_neg qi, if_true]
      exact hne i (by omega)
    · simp only [upd, if_neg qi, if_neg q]
      exact h3 i k hik (by omega)
theorem zf_giI {n : Nat → Nat} {A : Nat → Nat → Int32} {f : Nat} {here : Int32} {io tv : Nat → Int32} {kn : Nat} (hN : zf_N n) (hS : zf_S n A) (hf : f < n 0) (h : zf_gI n f io tv kn) : ∀ {i : Nat}, i ≤ n 1 → zf_gI n f (zf_gi A (nI f) here io tv kn i).1 (zf_gi A (nI f) here io tv kn i).2.1 (zf_gi A (nI f) here io tv kn i).2.2 := by
  intro i
  induction i with
  | zero => exact fun _ => h
  | succ i ih =>
    intro hi
    have hh := ih (by omega)
    simp only [zf_gi]
    by_cases q : ¬ zf_acr A here i = -1 ∧ (zf_gi A (nI f) here io tv kn i).1 (ze_ix (zf_acr A here i)) = -1
    · rw [if_pos q]
      exact (zf_gIadd hN hf hh (zf_acrsite hS (by omega) q.1) q.2).2
    · rw [if_neg q]
      exact hh
theorem zf_gI1 {n : Nat → Nat} {f : Nat} (hf : f < n 0) (io tv : Nat → Int32) : zf_gI n f (upd io f (nI f)) (upd tv 0 (nI f)) 1 := by
  refine ⟨by omega, fun i hi => ⟨f, hf, ?_, by simp [upd]⟩, fun i k h1 h2 => absurd h2 (by omega)⟩
  have e : i = 0 := by omega
  subst e
  simp [upd]
theorem ze_e3b (A : Nat → Nat → Int32) {k l : Nat} (i j : Nat) (v w : Int32) (h : k ≠ l) : ze_sE (ze_sE A k i v) l j w = ze_sA (ze_sA A k (upd (A k) i v)) l (upd (A l) j w) := by
  funext r
  by_cases h1 : r = l
  · subst h1
    simp [ze_sE, ze_sA, Ne.symm h]
  · simp [ze_sE, ze_sA, h1]
theorem ze_a1 (A : Nat → Nat → Int32) (k : Nat) (f g : Nat → Int32) : ze_sA (ze_sA A k f) k g = ze_sA A k g := by
  funext r
  by_cases h : r = k <;> simp [ze_sA, h]
theorem ze_a2 {A : Nat → Nat → Int32} {j k : Nat} {f g : Nat → Int32} (h : k < j) : ze_sA (ze_sA A j f) k g = ze_sA (ze_sA A k g) j f := by
  funext r
  by_cases h1 : r = k
  · subst h1
    have h2 : r ≠ j := by omega
    simp [ze_sA, h2]
  · by_cases h2 : r = j
    · have h3 : j ≠ k := by omega
      simp [ze_sA, h2, h3]
    · simp [ze_sA, h1, h2]
theorem zf_N1 {n : Nat → Nat} (hN : zf_N n) (h : n 0 < 6) : zf_N (ze_sn n 0 (n 0 + 1)) := ⟨by show n 0 + 1 ≤ 6; omega, hN.2⟩
theorem zf_site1 {n : Nat → Nat} {x : Int32} (h : zf_site n x) : zf_site (ze_sn n 0 (n 0 + 1)) x := by
  obtain ⟨j, hj, e⟩ := h
  exact ⟨j, by show j < n 0 + 1; omega, e⟩
theorem zf_S1 {n : Nat → Nat} {A : Nat → Nat → Int32} (h : zf_S n A) : zf_S (ze_sn n 0 (n 0 + 1)) A := ⟨fun i hi => ⟨zf_site1 (h.1 i hi).1, zf_site1 (h.1 i hi).2⟩, fun i hi => zf_site1 (h.2.1 i hi), fun i hi => zf_site1 (h.2.2.1 i hi), fun i hi => zf_site1 (h.2.2.2 i hi)⟩
theorem zf_narz {x : Int32} (h : x = 0 ∨ x = 1) : vp_nar .boolean x = x := by
  rcases h with rfl | rfl <;> rfl
