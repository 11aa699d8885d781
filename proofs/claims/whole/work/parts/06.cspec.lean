/-! ===== what the class's own methods answer and lay, in their own words ===== -/
theorem ze_sEid (A : Nat → Nat → Int32) (k i : Nat) : ze_sE A k i (A k i) = A := by
  funext r j
  by_cases h : r = k
  · subst h
    by_cases h2 : j = i
    · subst h2
      simp [ze_sE, ze_sA, upd]
    · simp [ze_sE, ze_sA, upd, h2]
  · simp [ze_sE, ze_sA, h]
theorem ze_sE2 (A : Nat → Nat → Int32) (k i : Nat) (v w : Int32) : ze_sE (ze_sE A k i v) k i w = ze_sE A k i w := by
  funext r j
  by_cases h : r = k
  · subst h
    by_cases h2 : j = i <;> simp [ze_sE, ze_sA, upd, h2]
  · simp [ze_sE, ze_sA, h]
theorem ze_sEc {A : Nat → Nat → Int32} {k l i : Nat} {v w : Int32} (h : k ≠ l) : ze_sE (ze_sE A k i v) l i w = ze_sE (ze_sE A l i w) k i v := by
  funext r j
  by_cases h1 : r = k
  · subst h1
    simp [ze_sE, ze_sA, h]
  · by_cases h2 : r = l <;> simp [ze_sE, ze_sA, h1, h2, Ne.symm h]
abbrev zf_short (A : Nat → Nat → Int32) (g : Nat) : Prop := ¬ A 7 g ≤ A 10 g
abbrev zf_better (A : Nat → Nat → Int32) (g b : Nat) : Prop := (¬ A 9 g = A 9 b ∧ ¬ A 9 b ≤ A 9 g) ∨ (A 9 g = A 9 b ∧ ¬ A 8 g ≤ A 8 b)
def zf_bO (A : Nat → Nat → Int32) (g : Nat) (o : Option Nat) : Bool := match o with
  | none => true
  | some b => decide (zf_better A g b)
def zf_nx (A : Nat → Nat → Int32) (io : Nat → Int32) (m : Int32) : Nat → Option Nat
  | 0 => none
  | g + 1 => if A 13 g = 111 ∧ ¬ zf_short A g ∧ io (ze_ix (A 6 g)) = m ∧ zf_bO A g (zf_nx A io m g) = true then some g else zf_nx A io m g
def zf_steps (A : Nat → Nat → Int32) (g : Nat) : Int32 := ze_mx 0 (zf_can A g - A 7 g)
def zf_stp (A : Nat → Nat → Int32) (io : Nat → Int32) (m : Int32) : Nat → Int32 := fun g => if zf_runs A io g m then zf_steps A g else 0
def zf_sa (s : Nat → Int32) (N g : Nat) (x : Int32) : Int32 := if ¬ 0 < s g then 0 else ze_sum 0 (fun o => ze_mn (s o) (if o < g then x * s o / s g + 1 else (x * s o + s g - 1) / s g)) N
def zf_leap : Nat → Int32
  | 0 => 0
  | k + 1 => nI (2 ^ k)
def zf_sw (s : Nat → Int32) (N g : Nat) (first : Int32) : Nat → Int32 → Int32
  | 0, w => w
  | k + 1, w => zf_sw s N g first k (if ¬ s g < w + nI (2 ^ k) ∧ ¬ first ≤ zf_sa s N g (w + nI (2 ^ k) - 1) then w + nI (2 ^ k) else w)
def zf_swr (s : Nat → Int32) (N g : Nat) (first : Int32) : Int32 := zf_sw s N g first 8 0
abbrev zf_ll (tk s : Nat → Int32) (g t : Nat) : Prop := tk g * s t < tk t * s g
def zf_llO (tk s : Nat → Int32) (g : Nat) (o : Option Nat) : Bool := match o with
  | none => true
  | some b => decide (zf_ll tk s g b)
def zf_nt (tk s : Nat → Int32) : Nat → Option Nat
  | 0 => none
  | g + 1 => if ¬ s g ≤ tk g ∧ zf_llO tk s g (zf_nt tk s g) = true then some g else zf_nt tk s g
def zf_tl (s : Nat → Int32) (N : Nat) : Nat → (Nat → Int32) → Nat → Int32
  | 0, tk => tk
  | k + 1, tk => match zf_nt tk s N with
    | none => tk
    | some g => zf_tl s N k (upd tk g (tk g + 1))
abbrev zf_ca (A : Nat → Nat → Int32) (k o : Nat) : Prop := A 21 k < A 21 o ∨ A 21 k = A 21 o ∧ k < o
abbrev zf_keepC (n : Nat → Nat) (A : Nat → Nat → Int32) (io : Nat → Int32) (k : Nat) (b : Int32) : Prop := b = -1 ∨ zf_upTo A io k (n 4) ≤ b
def zf_caO (A : Nat → Nat → Int32) (k : Nat) (o : Option Nat) : Bool := match o with
  | none => true
  | some b => decide (zf_ca A k b)
def zf_fuC (n : Nat → Nat) (A : Nat → Nat → Int32) (io : Nat → Int32) (m b : Int32) : Nat → Option Nat
  | 0 => none
  | k + 1 => if io (ze_ix (A 19 k)) = m ∧ ¬ zf_keepC n A io k b ∧ zf_caO A k (zf_fuC n A io m b k) = true then some k else zf_fuC n A io m b k
def zf_cua (n : Nat → Nat) (A : Nat → Nat → Int32) (io : Nat → Int32) (o : Nat) (b : Int32) : Nat → Int32 := ze_sum 0 (fun k => if io (ze_ix (A 19 k)) = io (ze_ix (A 19 o)) ∧ zf_ca A k o ∧ ¬ zf_keepC n A io k b then 1 else 0)
def zf_cD (P : Prop) [Decidable P] (A : Nat → Nat → Int32) (k : Nat) : Int32 := if ¬ P then 1 else if ¬ A 5 k = 0 ∧ A 22 k = 0 then 0 else A 5 k
def zf_cW (P : Prop) [Decidable P] (A : Nat → Nat → Int32) (k : Nat) (dl : Int32) : Int32 := if ¬ P then dl else if ¬ A 5 k = 0 ∧ ¬ A 22 k = 0 then A 22 k - 1 else A 22 k
def zf_shC (n : Nat → Nat) (A : Nat → Nat → Int32) (io : Nat → Int32) (m b : Int32) : Nat → Int32 := fun k => if io (ze_ix (A 19 k)) = m then zf_cD (zf_keepC n A io k b) A k else A 5 k
def zf_shW (n : Nat → Nat) (A : Nat → Nat → Int32) (io : Nat → Int32) (m b dl : Int32) : Nat → Int32 := fun k => if io (ze_ix (A 19 k)) = m then zf_cW (zf_keepC n A io k b) A k dl else A 22 k
def zf_lits (A : Nat → Nat → Int32) : Nat → Int32 := ze_sum 0 (fun k => if A 5 k = 0 then 1 else 0)
def zf_held (A : Nat → Nat → Int32) : Nat → Int32 := ze_sum 0 (fun k => A 17 k)
def zf_dc (A : Nat → Nat → Int32) (io : Nat → Int32) (m x : Int32) : Nat → Int32
  | 0 => x
  | k + 1 => if io (ze_ix (A 14 k)) = m then zf_dc A io m x k - ze_mn (zf_dc A io m x k) (ze_mn (A 16 k) (A 17 k)) else zf_dc A io m x k
def zf_dcF (A : Nat → Nat → Int32) (io : Nat → Int32) (m x : Int32) : Nat → Int32 := fun k => if io (ze_ix (A 14 k)) = m then ze_mn (zf_dc A io m x k) (ze_mn (A 16 k) (A 17 k)) else A 18 k
def zf_dcC (A : Nat → Nat → Int32) (io : Nat → Int32) (m x : Int32) : Nat → Int32 := fun k => if io (ze_ix (A 14 k)) = m then A 17 k - ze_mn (zf_dc A io m x k) (ze_mn (A 16 k) (A 17 k)) else A 17 k
def zf_cc (A : Nat → Nat → Int32) (io : Nat → Int32) (m x : Int32) : Nat → Int32
  | 0 => x
  | k + 1 => if io (ze_ix (A 14 k)) = m then zf_cc A io m x k - ze_mn (zf_cc A io m x k) (ze_mn (A 16 k) (A 15 k - A 17 k)) else zf_cc A io m x k
def zf_ccF (A : Nat → Nat → Int32) (io : Nat → Int32) (m x : Int32) : Nat → Int32 := fun k => if io (ze_ix (A 14 k)) = m then -ze_mn (zf_cc A io m x k) (ze_mn (A 16 k) (A 15 k - A 17 k)) else A 18 k
def zf_ccC (A : Nat → Nat → Int32) (io : Nat → Int32) (m x : Int32) : Nat → Int32 := fun k => if io (ze_ix (A 14 k)) = m then A 17 k - -ze_mn (zf_cc A io m x k) (ze_mn (A 16 k) (A 15 k - A 17 k)) else A 17 k
def zf_bOf (n : Nat → Nat) (A : Nat → Nat → Int32) (io : Nat → Int32) (m : Int32) : Int32 := if zf_tied A m then -1 else ze_mx 0 (zf_supG A io m 0 (n 2) + zf_supT A io m 0 (n 3) - A 28 0)
/-- what the generators of an island give, as the class lays it -/
def zf_gvC (A : Nat → Nat → Int32) (s : Nat → Int32) (N : Nat) (io : Nat → Int32) (m f : Int32) : Nat → Int32 := fun g => if zf_runs A io g m then A 7 g + zf_swr s N g f else A 12 g
def zf_gfC (A : Nat → Nat → Int32) (s : Nat → Int32) (N : Nat) (io : Nat → Int32) (m f : Int32) : Nat → Int32 := fun g => if zf_runs A io g m then A 10 g - (A 7 g + zf_swr s N g f) else A 10 g
def zf_gsC (A : Nat → Nat → Int32) (s : Nat → Int32) (N : Nat) (io : Nat → Int32) (m f : Int32) : Nat → Int32 := ze_sum 0 (fun g => if zf_runs A io g m then A 7 g + zf_swr s N g f else 0)
theorem zf_nxlt {A : Nat → Nat → Int32} {io : Nat → Int32} {m : Int32} {N : Nat} : ∀ {i b : Nat}, i ≤ N → zf_nx A io m i = some b → b < N := by
  intro i
  induction i with
  | zero =>
    intro b _ h
    simp [zf_nx] at h
  | succ i ih =>
    intro b hi h
    simp only [zf_nx] at h
    split at h
    · cases h
      omega
    · exact ih (by omega) h
theorem zf_ntlt {tk s : Nat → Int32} {N : Nat} : ∀ {i b : Nat}, i ≤ N → zf_nt tk s i = some b → b < N := by
  intro i
  induction i with
  | zero =>
    intro b _ h
    simp [zf_nt] at h
  | succ i ih =>
    intro b hi h
    simp only [zf_nt] at h
    split at h
    · cases h
      omega
    · exact ih (by omega) h
theorem zf_fuClt {n : Nat → Nat} {A : Nat → Nat → Int32} {io : Nat → Int32} {m b0 : Int32} {N : Nat} : ∀ {i b : Nat}, i ≤ N → zf_fuC n A io m b0 i = some b → b < N := by
  intro i
  induction i with
  | zero =>
    intro b _ h
    simp [zf_fuC] at h
  | succ i ih =>
    intro b hi h
    simp only [zf_fuC] at h
    split at h
    · cases h
      omega
    · exact ih (by omega) h
theorem ze_sEid2 {A : Nat → Nat → Int32} {k l i : Nat} {v : Int32} (h : l ≠ k) : ze_sE (ze_sE A l i v) k i (A k i) = ze_sE A l i v := by
  have e : ze_sE A l i v k i = A k i := by simp [ze_sE, ze_sA, Ne.symm h]
  rw [← e]
  exact ze_sEid _ k i
theorem ze_sEid3 {A : Nat → Nat → Int32} {k l j i : Nat} {v w : Int32} (h : l ≠ k) (h2 : j ≠ k) : ze_sE (ze_sE (ze_sE A l i v) j i w) k i (A k i) = ze_sE (ze_sE A l i v) j i w := by
  have e : ze_sE (ze_sE A l i v) j i w k i = A k i := by simp [ze_sE, ze_sA, Ne.symm h, Ne.symm h2]
  rw [← e]
  exact ze_sEid _ k i
def zf_gapC (A : Nat → Nat → Int32) (io : Nat → Int32) (i : Nat) : Int32 := ze_mn (ze_ab (zf_ph A io (ze_ix (A 2 i)) - zf_ph A io (ze_ix (A 3 i)))) (360 - ze_ab (zf_ph A io (ze_ix (A 2 i)) - zf_ph A io (ze_ix (A 3 i))))
def zf_acr (A : Nat → Nat → Int32) (x : Int32) (i : Nat) : Int32 := if A 4 i = 0 then -1 else if A 2 i = x then A 3 i else if A 3 i = x then A 2 i else -1
theorem zf_tGup (A : Nat → Nat → Int32) (f : Nat → Int32) (i : Nat) : zf_tG (ze_sA (ze_sA (ze_sA A 12 f) 11 (ze_up (zf_tG A) (A 11) i)) 13 (ze_up (zf_tS A) (A 13) i)) i = zf_tG A i := by
  simp [zf_tG, ze_sA, ze_up]
theorem zf_tSup (A : Nat → Nat → Int32) (f : Nat → Int32) (i : Nat) : zf_tS (ze_sA (ze_sA (ze_sA A 12 f) 11 (ze_up (zf_tG A) (A 11) i)) 13 (ze_up (zf_tS A) (A 13) i)) i = zf_tS A i := by
  simp [zf_tS, zf_tS0, ze_sA, ze_up]
