/-! ===== what the calls mean: functions of the counts n, the rows A, the sums B, the islands io ===== -/
def zf_N (n : Nat → Nat) : Prop := n 0 ≤ 6 ∧ n 1 ≤ 8 ∧ n 2 ≤ 6 ∧ n 3 ≤ 4 ∧ n 4 ≤ 10
def zf_site (n : Nat → Nat) (x : Int32) : Prop := ∃ j : Nat, j < n 0 ∧ x = nI j
def zf_S (n : Nat → Nat) (A : Nat → Nat → Int32) : Prop := (∀ i, i < n 1 → zf_site n (A 2 i) ∧ zf_site n (A 3 i)) ∧ (∀ i, i < n 2 → zf_site n (A 6 i)) ∧ (∀ i, i < n 3 → zf_site n (A 14 i)) ∧ (∀ i, i < n 4 → zf_site n (A 19 i))
theorem zf_in {n : Nat → Nat} {x : Int32} (hN : zf_N n) (h : zf_site n x) : vp_in x 6 := by
  obtain ⟨j, hj, rfl⟩ := h
  have h0 := hN.1
  exact vp_in_nI (by omega) (by decide)
theorem zf_ixN {j : Nat} (h : j < 2 ^ 31) : ze_ix (nI j) = j := nI_clamp h
def zf_m1 (mk : Nat → Int32) : Nat → Nat → Int32
  | 0 => mk
  | i + 1 => upd (zf_m1 mk i) i (nI i)
def zf_ml (A : Nat → Nat → Int32) (mk : Nat → Int32) : Nat → Nat → Int32
  | 0 => mk
  | i + 1 => if A 4 i = 0 then zf_ml A mk i else upd (upd (zf_ml A mk i) (ze_ix (A 2 i)) (ze_mn (zf_ml A mk i (ze_ix (A 2 i))) (zf_ml A mk i (ze_ix (A 3 i))))) (ze_ix (A 3 i)) (ze_mn (zf_ml A mk i (ze_ix (A 2 i))) (zf_ml A mk i (ze_ix (A 3 i))))
def zf_mr (A : Nat → Nat → Int32) (L : Nat) (mk : Nat → Int32) : Nat → Nat → Int32
  | 0 => mk
  | r + 1 => zf_ml A (zf_mr A L mk r) L
/-- the islands: the lowest number of each site's -/
def zf_CI (n : Nat → Nat) (A : Nat → Nat → Int32) : Nat → Int32 := zf_mr A (n 1) (zf_m1 (fun _ => 0) (n 0)) 6
theorem zf_m1at (mk : Nat → Int32) (i s : Nat) : zf_m1 mk i s = if s < i then nI s else mk s := by
  induction i with
  | zero => simp [zf_m1]
  | succ i ih =>
    simp only [zf_m1, upd]
    by_cases h : s = i
    · subst h
      simp
    · rw [if_neg h, ih]
      by_cases h2 : s < i
      · rw [if_pos h2, if_pos (by omega)]
      · rw [if_neg h2, if_neg (by omega)]
theorem zf_m1z {mk : Nat → Int32} {N : Nat} (hz : ∀ s, N ≤ s → mk s = 0) : zf_m1 mk N = zf_m1 (fun _ => 0) N := by
  funext s
  rw [zf_m1at, zf_m1at]
  by_cases h : s < N
  · rw [if_pos h, if_pos h]
  · rw [if_neg h, if_neg h, hz s (by omega)]
abbrev zf_runs (A : Nat → Nat → Int32) (io : Nat → Int32) (g : Nat) (m : Int32) : Prop := A 13 g = 114 ∧ io (ze_ix (A 6 g)) = m
abbrev zf_isIn (x lo hi : Int32) : Prop := ¬ x < lo ∧ ¬ hi < x
def zf_many (io : Nat → Int32) : Nat → Int32 := ze_sum 0 (fun s => if io s = nI s then 1 else 0)
def zf_first (io : Nat → Int32) : Nat → Int32 := ze_sum 0 (fun s => if io s = 0 then 1 else 0)
abbrev zf_tied (A : Nat → Nat → Int32) (m : Int32) : Prop := ¬ A 38 0 = 0 ∧ m = 0
def zf_ph (A : Nat → Nat → Int32) (io : Nat → Int32) (s : Nat) : Int32 := if ¬ A 38 0 = 0 ∧ io s = 0 then 0 else A 0 (ze_ix (io s))
def zf_supG (A : Nat → Nat → Int32) (io : Nat → Int32) (m x : Int32) : Nat → Int32 := ze_sum x (fun g => if zf_runs A io g m then ze_mn (A 8 g) (A 10 g) else 0)
def zf_supT (A : Nat → Nat → Int32) (io : Nat → Int32) (m x : Int32) : Nat → Int32 := ze_sum x (fun k => if io (ze_ix (A 14 k)) = m then ze_mn (A 16 k) (A 17 k) else 0)
def zf_bounded (n : Nat → Nat) (A : Nat → Nat → Int32) (io : Nat → Int32) (m : Int32) : Int32 := ze_mx 0 (zf_supT A io m (zf_supG A io m 0 (n 2)) (n 3) - A 28 0)
def zf_demanded (A : Nat → Nat → Int32) (io : Nat → Int32) (m : Int32) : Nat → Int32 := ze_sum 0 (fun k => if io (ze_ix (A 19 k)) = m ∧ A 5 k = 0 then A 20 k else 0)
/-- f below i, g from i on -/
def ze_up (f g : Nat → Int32) (i : Nat) : Nat → Int32 := fun k => if k < i then f k else g k
theorem ze_up_0 (f g : Nat → Int32) : ze_up f g 0 = g := by
  funext k
  simp [ze_up]
theorem ze_up_at (f g : Nat → Int32) (i : Nat) : ze_up f g i i = g i := by simp [ze_up]
theorem ze_up_s {f g : Nat → Int32} {i : Nat} {v : Int32} (h : v = f i) : upd (ze_up f g i) i v = ze_up f g (i + 1) := by
  funext k
  by_cases hk : k = i
  · subst hk
    simp [upd, ze_up, h]
  · by_cases h2 : k < i
    · have h3 : k < i + 1 := by omega
      simp [upd, ze_up, hk, h2, h3]
    · have h3 : ¬ k < i + 1 := by omega
      simp [upd, ze_up, hk, h2, h3]
theorem ze_up_k {f g : Nat → Int32} {i : Nat} (h : f i = g i) : ze_up f g i = ze_up f g (i + 1) := by
  funext k
  by_cases hk : k = i
  · subst hk
    simp [ze_up, h]
  · by_cases h2 : k < i
    · have h3 : k < i + 1 := by omega
      simp [ze_up, h2, h3]
    · have h3 : ¬ k < i + 1 := by omega
      simp [ze_up, h2, h3]
theorem ze_upd2 (f : Nat → Int32) (i : Nat) (v w : Int32) : upd (upd f i v) i w = upd f i w := by
  funext k
  by_cases hk : k = i <;> simp [upd, hk]
theorem ze_updat (f : Nat → Int32) (i : Nat) (v : Int32) : upd f i v i = v := by simp [upd]
abbrev zf_ahead (A : Nat → Nat → Int32) (io : Nat → Int32) (k o : Nat) : Prop := io (ze_ix (A 19 k)) = io (ze_ix (A 19 o)) ∧ (A 21 k < A 21 o ∨ A 21 k = A 21 o ∧ k < o)
def zf_upTo (A : Nat → Nat → Int32) (io : Nat → Int32) (o : Nat) : Nat → Int32 := ze_sum (A 20 o) (fun k => if zf_ahead A io k o then A 20 k else 0)
abbrev zf_keeps (n : Nat → Nat) (A : Nat → Nat → Int32) (io : Nat → Int32) (o : Nat) : Prop := zf_tied A (io (ze_ix (A 19 o))) ∨ ¬ zf_bounded n A io (io (ze_ix (A 19 o))) < zf_upTo A io o (n 4)
def zf_off (n : Nat → Nat) (A : Nat → Nat → Int32) (io : Nat → Int32) (o : Nat) : Nat → Nat
  | 0 => o
  | k + 1 => if io (ze_ix (A 19 k)) = io (ze_ix (A 19 o)) ∧ ¬ zf_keeps n A io k ∧ zf_ahead A io k (zf_off n A io o k) then k else zf_off n A io o k
def zf_behind (n : Nat → Nat) (A : Nat → Nat → Int32) (io : Nat → Int32) (o : Nat) : Nat → Int32 := ze_sum 0 (fun k => if zf_ahead A io k o ∧ ¬ zf_ahead A io k (zf_off n A io o (n 4)) then 1 else 0)
def zf_can (A : Nat → Nat → Int32) (g : Nat) : Int32 := ze_mn (A 8 g) (A 10 g)
abbrev zf_less (A : Nat → Nat → Int32) (gv : Nat → Int32) (g t : Nat) : Prop := ¬ (gv t - A 7 t) * (zf_can A g - A 7 g) ≤ (gv g - A 7 g) * (zf_can A t - A 7 t)
def zf_on (o : Option Nat) : Int32 := match o with
  | none => -1
  | some g => nI g
def zf_g1 (A : Nat → Nat → Int32) (io : Nat → Int32) (m : Int32) : Nat → Int32 := fun g => if zf_runs A io g m then A 7 g else A 12 g
def zf_gs (A : Nat → Nat → Int32) (io : Nat → Int32) (m : Int32) : Nat → Int32 := ze_sum 0 (fun g => if zf_runs A io g m then A 7 g else 0)
def zf_lessO (A : Nat → Nat → Int32) (gv : Nat → Int32) (g : Nat) (o : Option Nat) : Bool := match o with
  | none => true
  | some b => decide (zf_less A gv g b)
/-- the next step's generator -/
def zf_pick (A : Nat → Nat → Int32) (io : Nat → Int32) (m : Int32) (gv : Nat → Int32) : Nat → Option Nat
  | 0 => none
  | g + 1 => if zf_runs A io g m ∧ ¬ zf_can A g ≤ gv g ∧ zf_lessO A gv g (zf_pick A io m gv g) = true then some g else zf_pick A io m gv g
def zf_gl (A : Nat → Nat → Int32) (io : Nat → Int32) (m : Int32) (N : Nat) : Nat → Int32 → (Nat → Int32) → Int32 × (Nat → Int32)
  | 0, s, gv => (s, gv)
  | k + 1, s, gv => match zf_pick A io m gv N with
    | none => (s, gv)
    | some g => zf_gl A io m N k (s + 1) (upd gv g (gv g + 1))
def zf_fu (s t : Int32) : Nat := (t.toInt - s.toInt).toNat
/-- what the generators of an island give for a demand: the sum, and each one's -/
def zf_gives (n : Nat → Nat) (A : Nat → Nat → Int32) (io : Nat → Int32) (m t : Int32) : Int32 × (Nat → Int32) := zf_gl A io m (n 2) (zf_fu (zf_gs A io m (n 2)) t) (zf_gs A io m (n 2)) (ze_up (zf_g1 A io m) (A 12) (n 2))
abbrev zf_dk (n : Nat → Nat) (A : Nat → Nat → Int32) (io : Nat → Int32) (m : Int32) (k : Nat) : Prop := io (ze_ix (A 19 k)) = m
/-- dark and wait behind the shedding -/
def zf_sD (n : Nat → Nat) (A : Nat → Nat → Int32) (io : Nat → Int32) (m : Int32) : Nat → Int32 := fun k => if io (ze_ix (A 19 k)) = m then (if ¬ zf_keeps n A io k then 1 else if ¬ A 5 k = 0 ∧ A 22 k = 0 then 0 else A 5 k) else A 5 k
def zf_sW (n : Nat → Nat) (A : Nat → Nat → Int32) (io : Nat → Int32) (m : Int32) : Nat → Int32 := fun k => if io (ze_ix (A 19 k)) = m then (if ¬ zf_keeps n A io k then A 29 0 else if ¬ A 5 k = 0 ∧ ¬ A 22 k = 0 then A 22 k - 1 else A 22 k) else A 22 k
def zf_shed (n : Nat → Nat) (A : Nat → Nat → Int32) (io : Nat → Int32) (m : Int32) (i : Nat) : Nat → Nat → Int32 := ze_sA (ze_sA A 5 (ze_up (zf_sD n A io m) (A 5) i)) 22 (ze_up (zf_sW n A io m) (A 22) i)
/-- what a tick's balance of one island lays: the rows, the sums -/
def zf_bl (A : Nat → Nat → Int32) (io : Nat → Int32) (m lk ov : Int32) : Nat → Int32 × Int32
  | 0 => (lk, ov)
  | k + 1 => if io (ze_ix (A 14 k)) = m then ((zf_bl A io m lk ov k).1 - ze_mn (zf_bl A io m lk ov k).1 (ze_mn (A 16 k) (A 17 k)), (zf_bl A io m lk ov k).2 - ze_mn (zf_bl A io m lk ov k).2 (ze_mn (A 16 k) (A 15 k - A 17 k))) else zf_bl A io m lk ov k
def zf_out (A : Nat → Nat → Int32) (io : Nat → Int32) (m lk ov : Int32) (k : Nat) : Int32 := ze_mn (zf_bl A io m lk ov k).1 (ze_mn (A 16 k) (A 17 k))
def zf_inn (A : Nat → Nat → Int32) (io : Nat → Int32) (m lk ov : Int32) (k : Nat) : Int32 := ze_mn (zf_bl A io m lk ov k).2 (ze_mn (A 16 k) (A 15 k - A 17 k))
def zf_flow (A : Nat → Nat → Int32) (io : Nat → Int32) (m lk ov : Int32) : Nat → Int32 := fun k => if io (ze_ix (A 14 k)) = m then zf_out A io m lk ov k - zf_inn A io m lk ov k else A 18 k
def zf_chg (A : Nat → Nat → Int32) (io : Nat → Int32) (m lk ov : Int32) : Nat → Int32 := fun k => if io (ze_ix (A 14 k)) = m then A 17 k + (zf_inn A io m lk ov k - zf_out A io m lk ov k) else A 17 k
def zf_fuel (A : Nat → Nat → Int32) (gv : Nat → Int32) (io : Nat → Int32) (m : Int32) : Nat → Int32 := fun g => A 10 g - (if zf_runs A io g m then gv g else 0)
/-- one generator at a tick's start -/
def zf_tG (A : Nat → Nat → Int32) : Nat → Int32 := fun g => if A 13 g = 119 then A 11 g - 1 else A 11 g
def zf_tS0 (A : Nat → Nat → Int32) (g : Nat) : Int32 := if A 13 g = 119 then (if A 11 g - 1 = 0 then 114 else 119) else A 13 g
def zf_tS (A : Nat → Nat → Int32) : Nat → Int32 := fun g => if zf_tS0 A g = 114 ∧ ¬ A 7 g ≤ A 10 g then 111 else zf_tS0 A g
def zf_gap (A : Nat → Nat → Int32) (io : Nat → Int32) (i : Nat) : Int32 := if io (ze_ix (A 2 i)) = io (ze_ix (A 3 i)) then 0 else ze_mn (ze_ab (zf_ph A io (ze_ix (A 2 i)) - zf_ph A io (ze_ix (A 3 i)))) (360 - ze_ab (zf_ph A io (ze_ix (A 2 i)) - zf_ph A io (ze_ix (A 3 i))))
def zf_start (A : Nat → Nat → Int32) (g : Nat) : Nat → Nat → Int32 := ze_sE (ze_sE A 11 g (A 9 g)) 13 g (if A 9 g = 0 then 114 else 119)
/-- marks stay sites, none above its own number; none beyond the sites -/
def zf_mok (N : Nat) (mk : Nat → Int32) : Prop := (∀ s, s < N → ∃ j, j ≤ s ∧ mk s = nI j) ∧ ∀ s, N ≤ s → mk s = 0
theorem zf_mnN {a b : Nat} (ha : a < 2 ^ 31) (hb : b < 2 ^ 31) : ze_mn (nI a) (nI b) = nI (min a b) := by
  unfold ze_mn
  by_cases h : b < a
  · rw [if_pos ((nI_ltI hb ha).mpr h), Nat.min_eq_right (by omega)]
  · rw [if_neg (fun q => h ((nI_ltI hb ha).mp q)), Nat.min_eq_left (by omega)]
theorem zf_mok1 (N : Nat) : zf_mok N (zf_m1 (fun _ => 0) N) := by
  refine ⟨fun s hs => ⟨s, Nat.le_refl s, by rw [zf_m1at, if_pos hs]⟩, fun s hs => by rw [zf_m1at, if_neg (by omega)]⟩
theorem zf_mokl {n : Nat → Nat} {A : Nat → Nat → Int32} {mk : Nat → Int32} (hN : zf_N n) (hS : zf_S n A) (h : zf_mok (n 0) mk) : ∀ i, i ≤ n 1 → zf_mok (n 0) (zf_ml A mk i) := by
  intro i
  induction i with
  | zero => exact fun _ => h
  | succ i ih =>
    intro hi
    have hm := ih (by omega)
    have h6 := hN.1
    simp only [zf_ml]
    by_cases hc : A 4 i = 0
    · rw [if_pos hc]
      exact hm
    · rw [if_neg hc]
      obtain ⟨⟨x, hx, ex⟩, ⟨y, hy, ey⟩⟩ := hS.1 i (by omega)
      rw [ex, ey, zf_ixN (by omega), zf_ixN (by omega)]
      obtain ⟨jx, hjx, ejx⟩ := hm.1 x hx
      obtain ⟨jy, hjy, ejy⟩ := hm.1 y hy
      rw [ejx, ejy, zf_mnN (by omega) (by omega)]
      refine ⟨fun s hs => ?_, fun s hs => ?_⟩
      · by_cases h1 : s = y
        · subst h1
          exact ⟨min jx jy, by omega, by simp [upd]⟩
        · by_cases h2 : s = x
          · subst h2
            exact ⟨min jx jy, by omega, by simp [upd, h1]⟩
          · obtain ⟨j, hj, e⟩ := hm.1 s hs
            exact ⟨j, hj, by simp [upd, h1, h2, e]⟩
      · have h1 : s ≠ y := by omega
        have h2 : s ≠ x := by omega
        simp [upd, h1, h2, hm.2 s hs]
theorem zf_mokr {n : Nat → Nat} {A : Nat → Nat → Int32} {mk : Nat → Int32} (hN : zf_N n) (hS : zf_S n A) (h : zf_mok (n 0) mk) : ∀ r, zf_mok (n 0) (zf_mr A (n 1) mk r) := by
  intro r
  induction r with
  | zero => exact h
  | succ r ih => exact zf_mokl hN hS ih (n 1) (Nat.le_refl _)
theorem zf_CIok {n : Nat → Nat} {A : Nat → Nat → Int32} (hN : zf_N n) (hS : zf_S n A) : zf_mok (n 0) (zf_CI n A) := zf_mokr hN hS (zf_mok1 (n 0)) 6
theorem zf_CIz {n : Nat → Nat} {A : Nat → Nat → Int32} (hN : zf_N n) (hS : zf_S n A) : ∀ s, n 0 ≤ s → zf_CI n A s = 0 := (zf_CIok hN hS).2
theorem zf_CIsite {n : Nat → Nat} {A : Nat → Nat → Int32} (hN : zf_N n) (hS : zf_S n A) {x : Int32} (hx : zf_site n x) : zf_site n (zf_CI n A (ze_ix x)) := by
  obtain ⟨j, hj, rfl⟩ := hx
  have h6 := hN.1
  rw [zf_ixN (by omega)]
  obtain ⟨i, hi, e⟩ := (zf_CIok hN hS).1 j hj
  exact ⟨i, by omega, e⟩
theorem zf_isInN {j N : Nat} (h : j < N) (hN : N < 2 ^ 31) : zf_isIn (nI j) 0 (nI N - 1) := by
  obtain ⟨M, rfl⟩ : ∃ M, N = M + 1 := ⟨N - 1, by omega⟩
  rw [nI_pred]
  exact ⟨fun q => by
    rw [← nI_0] at q
    exact Nat.not_lt_zero _ ((nI_ltI (by omega) (by decide)).mp q), fun q => by
    have := (nI_ltI (by omega) (by omega)).mp q
    omega⟩
theorem zf_isInO {x : Int32} {N : Nat} (hN : N < 2 ^ 31) (h : zf_isIn x 0 (nI N - 1)) : ∃ j, j < N ∧ x = nI j := by
  obtain ⟨h1, h2⟩ := h
  obtain ⟨j, hj, rfl⟩ := nI_of (x := x) h1
  rcases Nat.lt_or_ge j N with q | q
  · exact ⟨j, q, rfl⟩
  · exfalso
    cases N with
    | zero =>
      have e : nI 0 - 1 = -1 := by decide
      rw [e] at h2
      apply h2
      rw [Int32.lt_iff_toInt_lt, nI_toInt hj]
      have e3 : (-1 : Int32).toInt = -1 := by decide
      omega
    | succ M =>
      rw [nI_pred] at h2
      exact h2 ((nI_ltI (by omega) hj).mpr (by omega))
theorem zf_offlt (n : Nat → Nat) (A : Nat → Nat → Int32) (io : Nat → Int32) {o : Nat} (ho : o < n 4) {k : Nat} (hk : k ≤ n 4) : zf_off n A io o k < n 4 := by
  induction k with
  | zero => exact ho
  | succ k ih =>
    simp only [zf_off]
    split
    · omega
    · exact ih (by omega)
theorem zf_picklt {A : Nat → Nat → Int32} {io : Nat → Int32} {m : Int32} {gv : Nat → Int32} {N : Nat} : ∀ {i b : Nat}, i ≤ N → zf_pick A io m gv i = some b → b < N := by
  intro i
  induction i with
  | zero =>
    intro b _ h
    simp [zf_pick] at h
  | succ i ih =>
    intro b hi h
    simp only [zf_pick] at h
    split at h
    · cases h
      omega
    · exact ih (by omega) h
theorem zf_fu0 {s t : Int32} (h : t ≤ s) : zf_fu s t = 0 := by
  have e := Int32.le_iff_toInt_le.mp h
  unfold zf_fu
  omega
theorem zf_fu1 {s t : Int32} (h : ¬ t ≤ s) : zf_fu s t = zf_fu (s + 1) t + 1 := by
  have e : s.toInt < t.toInt := by
    rcases Int.lt_or_le s.toInt t.toInt with q | q
    · exact q
    · exact absurd (Int32.le_iff_toInt_le.mpr q) h
  have b := Int32.toInt_lt t
  have e1 : (s + 1).toInt = s.toInt + 1 := by
    rw [Int32.toInt_add]
    have b2 := Int32.le_toInt s
    have e3 : (1 : Int32).toInt = 1 := by decide
    rw [e3]
    apply Int.bmod_eq_of_le <;> omega
  unfold zf_fu
  rw [e1]
  omega
def zf_dm (n : Nat → Nat) (A : Nat → Nat → Int32) (io : Nat → Int32) (m : Int32) : Int32 := zf_demanded A io m (n 4)
def zf_gr (n : Nat → Nat) (A : Nat → Nat → Int32) (io : Nat → Int32) (m : Int32) : Int32 × (Nat → Int32) := zf_gives n A io m (zf_dm n A io m)
def zf_lk (n : Nat → Nat) (A : Nat → Nat → Int32) (io : Nat → Int32) (m : Int32) : Int32 := ze_mx 0 (zf_dm n A io m - (zf_gr n A io m).1)
def zf_ov (n : Nat → Nat) (A : Nat → Nat → Int32) (io : Nat → Int32) (m : Int32) : Int32 := ze_mx 0 ((zf_gr n A io m).1 - zf_dm n A io m)
def zf_z (n : Nat → Nat) (A : Nat → Nat → Int32) (io : Nat → Int32) (m : Int32) : Nat → Int32 × Int32 := zf_bl A io m (zf_lk n A io m) (zf_ov n A io m)
def zf_bA (n : Nat → Nat) (A : Nat → Nat → Int32) (io : Nat → Int32) (m : Int32) : Nat → Nat → Int32 := ze_sC (ze_sC (ze_sA (ze_sA (ze_sA (ze_sA A 12 (zf_gr n A io m).2) 10 (ze_up (zf_fuel A (zf_gr n A io m).2 io m) (A 10) (n 2))) 18 (ze_up (zf_flow A io m (zf_lk n A io m) (zf_ov n A io m)) (A 18) (n 3))) 17 (ze_up (zf_chg A io m (zf_lk n A io m) (zf_ov n A io m)) (A 17) (n 3))) 31 (A 31 0 + (zf_z n A io m (n 3)).1)) 31 (A 31 0 + (zf_z n A io m (n 3)).1 - (if zf_tied A m then (zf_z n A io m (n 3)).2 else 0))
def zf_bB (n : Nat → Nat) (A : Nat → Nat → Int32) (B : Nat → Int64) (io : Nat → Int32) (m : Int32) : Nat → Int64 := ze_sB (ze_sB (ze_sB (ze_sB (ze_sB B 34 (B 34 + (zf_dm n A io m).toInt64)) 33 (B 33 + (zf_gr n A io m).1.toInt64)) 36 (B 36 + (zf_z n A io m (n 3)).1.toInt64)) 37 (B 37 + (if zf_tied A m then (zf_z n A io m (n 3)).2.toInt64 else 0))) 35 (B 35 + (if zf_tied A m then 0 else (zf_z n A io m (n 3)).2.toInt64))
def zf_balA (n : Nat → Nat) (A : Nat → Nat → Int32) (io : Nat → Int32) (m : Int32) : Nat → Nat → Int32 := zf_bA n (zf_shed n A io m (n 4)) io m
def zf_balB (n : Nat → Nat) (A : Nat → Nat → Int32) (B : Nat → Int64) (io : Nat → Int32) (m : Int32) : Nat → Int64 := zf_bB n (zf_shed n A io m (n 4)) B io m
/-- the islands, balanced by rising numbers -/
def zf_il (n : Nat → Nat) (io : Nat → Int32) (A : Nat → Nat → Int32) (B : Nat → Int64) : Nat → (Nat → Nat → Int32) × (Nat → Int64)
  | 0 => (A, B)
  | s + 1 => if io s = nI s then (zf_balA n (zf_il n io A B s).1 io (nI s), zf_balB n (zf_il n io A B s).1 (zf_il n io A B s).2 io (nI s)) else zf_il n io A B s
/-- the generators at a tick's start -/
def zf_t0 (n : Nat → Nat) (A : Nat → Nat → Int32) : Nat → Nat → Int32 := ze_sA (ze_sA (ze_sA (ze_sC (ze_sC A 30 (A 30 0 + 1)) 31 0) 12 (ze_up (fun _ => 0) (A 12) (n 2))) 11 (ze_up (zf_tG A) (A 11) (n 2))) 13 (ze_up (zf_tS A) (A 13) (n 2))
def zf_tk (n : Nat → Nat) (A : Nat → Nat → Int32) (B : Nat → Int64) : (Nat → Nat → Int32) × (Nat → Int64) := zf_il n (zf_CI n A) (zf_t0 n A) B (n 0)
def zf_tks (n : Nat → Nat) (A : Nat → Nat → Int32) (B : Nat → Int64) : Nat → (Nat → Nat → Int32) × (Nat → Int64)
  | 0 => (A, B)
  | k + 1 => zf_tk n (zf_tks n A B k).1 (zf_tks n A B k).2
abbrev zf_chr (x : Int32) : Prop := x = 111 ∨ x = 119 ∨ x = 114
theorem zf_nar {x : Int32} (h : zf_chr x) : vp_nar .char x = x := by
  rcases h with rfl | rfl | rfl <;> rfl
theorem zf_mlcong {A A2 : Nat → Nat → Int32} (h2 : A 2 = A2 2) (h3 : A 3 = A2 3) (h4 : A 4 = A2 4) (mk : Nat → Int32) (i : Nat) : zf_ml A mk i = zf_ml A2 mk i := by
  induction i with
  | zero => rfl
  | succ i ih => simp only [zf_ml, ih, h2, h3, h4]
theorem zf_CIcong {n : Nat → Nat} {A A2 : Nat → Nat → Int32} (h2 : A 2 = A2 2) (h3 : A 3 = A2 3) (h4 : A 4 = A2 4) : zf_CI n A = zf_CI n A2 := by
  have e : ∀ r mk, zf_mr A (n 1) mk r = zf_mr A2 (n 1) mk r := by
    intro r mk
    induction r with
    | zero => rfl
    | succ r ih => simp only [zf_mr, ih, zf_mlcong h2 h3 h4]
  exact e 6 _
theorem zf_Scong {n : Nat → Nat} {A A2 : Nat → Nat → Int32} (h2 : A2 2 = A 2) (h3 : A2 3 = A 3) (h6 : A2 6 = A 6) (h14 : A2 14 = A 14) (h19 : A2 19 = A 19) (h : zf_S n A) : zf_S n A2 := by
  unfold zf_S
  rw [h2, h3, h6, h14, h19]
  exact h
/-- the rows that a tick leaves as they are -/
abbrev zf_fix (k : Nat) : Prop := k = 0 ∨ k = 2 ∨ k = 3 ∨ k = 4 ∨ k = 6 ∨ k = 7 ∨ k = 8 ∨ k = 9 ∨ k = 14 ∨ k = 15 ∨ k = 16 ∨ k = 19 ∨ k = 20 ∨ k = 21 ∨ k = 28 ∨ k = 29 ∨ k = 38
theorem zf_balfix (n : Nat → Nat) (A : Nat → Nat → Int32) (io : Nat → Int32) (m : Int32) {k : Nat} (h : zf_fix k ∨ k = 13 ∨ k = 11 ∨ k = 30) : zf_balA n A io m k = A k := by
  have h5 : k ≠ 5 := by unfold zf_fix at h; omega
  have h22 : k ≠ 22 := by unfold zf_fix at h; omega
  have h12 : k ≠ 12 := by unfold zf_fix at h; omega
  have h10 : k ≠ 10 := by unfold zf_fix at h; omega
  have h18 : k ≠ 18 := by unfold zf_fix at h; omega
  have h17 : k ≠ 17 := by unfold zf_fix at h; omega
  have h31 : k ≠ 31 := by unfold zf_fix at h; omega
  simp only [zf_balA, zf_bA, zf_shed, ze_sC, ze_sA, if_neg h5, if_neg h22, if_neg h12, if_neg h10, if_neg h18, if_neg h17, if_neg h31]
theorem zf_ilfix (n : Nat → Nat) (io : Nat → Int32) (A : Nat → Nat → Int32) (B : Nat → Int64) (s : Nat) {k : Nat} (h : zf_fix k ∨ k = 13 ∨ k = 11 ∨ k = 30) : (zf_il n io A B s).1 k = A k := by
  induction s with
  | zero => rfl
  | succ s ih =>
    simp only [zf_il]
    split
    · show zf_balA n (zf_il n io A B s).1 io (nI s) k = A k
      rw [zf_balfix n _ io _ h, ih]
    · exact ih
theorem zf_t0fix (n : Nat → Nat) (A : Nat → Nat → Int32) {k : Nat} (h : zf_fix k) : zf_t0 n A k = A k := by
  have h12 : k ≠ 12 := by unfold zf_fix at h; omega
  have h11 : k ≠ 11 := by unfold zf_fix at h; omega
  have h13 : k ≠ 13 := by unfold zf_fix at h; omega
  have h30 : k ≠ 30 := by unfold zf_fix at h; omega
  have h31 : k ≠ 31 := by unfold zf_fix at h; omega
  simp only [zf_t0, ze_sC, ze_sA, if_neg h12, if_neg h11, if_neg h13, if_neg h30, if_neg h31]
theorem zf_tkfix (n : Nat → Nat) (A : Nat → Nat → Int32) (B : Nat → Int64) {k : Nat} (h : zf_fix k) : (zf_tk n A B).1 k = A k := by
  unfold zf_tk
  rw [zf_ilfix n _ _ _ _ (Or.inl h), zf_t0fix n A h]
theorem zf_tksfix (n : Nat → Nat) (A : Nat → Nat → Int32) (B : Nat → Int64) (i : Nat) {k : Nat} (h : zf_fix k) : (zf_tks n A B i).1 k = A k := by
  induction i with
  | zero => rfl
  | succ i ih => rw [zf_tks, zf_tkfix n _ _ h, ih]
theorem zf_tSchr {A : Nat → Nat → Int32} {g : Nat} (h : zf_chr (A 13 g)) : zf_chr (zf_tS A g) := by
  have h0 : zf_chr (zf_tS0 A g) := by
    unfold zf_tS0
    by_cases h1 : A 13 g = 119
    · rw [if_pos h1]
      by_cases h2 : A 11 g - 1 = 0
      · rw [if_pos h2]
        exact Or.inr (Or.inr rfl)
      · rw [if_neg h2]
        exact Or.inr (Or.inl rfl)
    · rw [if_neg h1]
      exact h
  unfold zf_tS
  by_cases h3 : zf_tS0 A g = 114 ∧ ¬ A 7 g ≤ A 10 g
  · rw [if_pos h3]
    exact Or.inl rfl
  · rw [if_neg h3]
    exact h0
theorem zf_tkchr {n : Nat → Nat} {A : Nat → Nat → Int32} {B : Nat → Int64} (h : ∀ g, g < n 2 → zf_chr (A 13 g)) : ∀ g, g < n 2 → zf_chr ((zf_tk n A B).1 13 g) := by
  intro g hg
  unfold zf_tk
  rw [zf_ilfix n _ _ _ _ (Or.inr (Or.inl rfl))]
  show zf_chr (ze_up (zf_tS A) (A 13) (n 2) g)
  unfold ze_up
  rw [if_pos hg]
  exact zf_tSchr (h g hg)
theorem zf_tkschr {n : Nat → Nat} {A : Nat → Nat → Int32} {B : Nat → Int64} (h : ∀ g, g < n 2 → zf_chr (A 13 g)) (i : Nat) : ∀ g, g < n 2 → zf_chr ((zf_tks n A B i).1 13 g) := by
  induction i with
  | zero => exact h
  | succ i ih => exact zf_tkchr ih
def zf_st64 (A : Nat → Nat → Int32) : Nat → Int64
  | 0 => 0
  | k + 1 => zf_st64 A k + (A 17 k).toInt64
theorem zf_narc {x : Int32} (h : zf_chr x) : narrow .char (.int x) = .int x := by
  rcases h with rfl | rfl | rfl <;> rfl
theorem zf_narb {x : Int32} (h : x = 0 ∨ x = 1) : narrow .boolean (.int x) = .int x := by
  rcases h with rfl | rfl <;> rfl
