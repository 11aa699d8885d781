/-! ===== stores: what is lacked, what is left over ===== -/
theorem zn_mxs {a b : Nat} (ha : a < 2 ^ 30) (hb : b < 2 ^ 30) : ze_mx 0 (nI a - nI b) = nI (a - b) := by
  unfold ze_mx
  have e0 : (0 : Int32) = nI 0 := rfl
  by_cases w : b ≤ a
  · rw [zn_sub w (by omega), e0]
    by_cases z : a - b = 0
    · rw [z, if_neg (by rw [nI_ltI (by omega) (by omega)]; omega)]
    · rw [if_pos (by rw [nI_ltI (by omega) (by omega)]; omega)]
  · have z : a - b = 0 := by omega
    rw [z]
    have hneg : ¬ (0 : Int32) < nI a - nI b := by
      rw [Int32.lt_iff_toInt_lt, Int32.toInt_sub, nI_toInt (by omega), nI_toInt (by omega)]
      rw [Int.bmod_eq_of_le (by omega) (by omega)]
      have : (0 : Int32).toInt = 0 := by decide
      omega
    rw [if_neg hneg]
    rfl
/-- the ranges of the stores' numbers -/
def zg_RT (N : Nat) (A : Nat → Nat → Int32) : Prop := ∀ k, k < N → ∃ ca ra he : Nat, A 15 k = nI ca ∧ A 16 k = nI ra ∧ A 17 k = nI he ∧ ca ≤ 999 ∧ ra ≤ 99 ∧ he ≤ ca
theorem zg_RTs {N : Nat} {A : Nat → Nat → Int32} (h : zg_RT N A) {k : Nat} (hk : k < N) : ∃ x y : Nat, ze_mn (A 16 k) (A 17 k) = nI x ∧ ze_mn (A 16 k) (A 15 k - A 17 k) = nI y ∧ x ≤ 99 ∧ y ≤ 99 := by
  obtain ⟨ca, ra, he, e1, e2, e3, l1, l2, l3⟩ := h k hk
  rw [e1, e2, e3, zn_sub l3 (by omega), zf_mnN (by omega) (by omega), zf_mnN (by omega) (by omega)]
  exact ⟨min ra he, min ra (ca - he), rfl, rfl, by omega, by omega⟩
theorem zn_mn0 (x : Nat) (hx : x < 2 ^ 31) : ze_mn 0 (nI x) = 0 := by
  have e0 : (0 : Int32) = nI 0 := rfl
  rw [e0, zf_mnN (by omega) hx, Nat.zero_min]
theorem zg_bl0 {N : Nat} {A : Nat → Nat → Int32} {io : Nat → Int32} {m ov : Int32} (h : zg_RT N A) : ∀ k, k ≤ N → zf_bl A io m 0 ov k = (0, zf_cc A io m ov k) := by
  intro k
  induction k with
  | zero => exact fun _ => rfl
  | succ k ih =>
    intro hk
    obtain ⟨x, y, e1, e2, l1, l2⟩ := zg_RTs h (by omega : k < N)
    simp only [zf_bl, zf_cc, ih (by omega)]
    by_cases q : io (ze_ix (A 14 k)) = m
    · rw [if_pos q, if_pos q, e1, zn_mn0 x (by omega), Int32.sub_zero]
    · rw [if_neg q, if_neg q]
theorem zg_bl1 {N : Nat} {A : Nat → Nat → Int32} {io : Nat → Int32} {m lk : Int32} (h : zg_RT N A) : ∀ k, k ≤ N → zf_bl A io m lk 0 k = (zf_dc A io m lk k, 0) := by
  intro k
  induction k with
  | zero => exact fun _ => rfl
  | succ k ih =>
    intro hk
    obtain ⟨x, y, e1, e2, l1, l2⟩ := zg_RTs h (by omega : k < N)
    simp only [zf_bl, zf_dc, ih (by omega)]
    by_cases q : io (ze_ix (A 14 k)) = m
    · rw [if_pos q, if_pos q, e2, zn_mn0 y (by omega), Int32.sub_zero]
    · rw [if_neg q, if_neg q]
/-- the rows of the stores when power is left over -/
theorem zg_over {N : Nat} {A : Nat → Nat → Int32} {io : Nat → Int32} {m ov : Int32} (h : zg_RT N A) : ze_up (zf_flow A io m 0 ov) (A 18) N = ze_up (zf_ccF A io m ov) (A 18) N ∧ ze_up (zf_chg A io m 0 ov) (A 17) N = ze_up (zf_ccC A io m ov) (A 17) N := by
  constructor
  · funext k
    by_cases hk : k < N
    · have e : ∀ f : Nat → Int32, ze_up f (A 18) N k = f k := by
        intro f
        simp [ze_up, hk]
      obtain ⟨x, y, e1, e2, l1, l2⟩ := zg_RTs h hk
      rw [e, e]
      unfold zf_flow zf_ccF zf_out zf_inn
      rw [zg_bl0 h k (by omega)]
      by_cases q : io (ze_ix (A 14 k)) = m
      · rw [if_pos q, if_pos q]
        show ze_mn 0 _ - ze_mn (zf_cc A io m ov k) _ = _
        rw [e1, zn_mn0 x (by omega), Int32.zero_sub]
      · rw [if_neg q, if_neg q]
    · simp [ze_up, hk]
  · funext k
    by_cases hk : k < N
    · have e : ∀ f : Nat → Int32, ze_up f (A 17) N k = f k := by
        intro f
        simp [ze_up, hk]
      obtain ⟨x, y, e1, e2, l1, l2⟩ := zg_RTs h hk
      rw [e, e]
      unfold zf_chg zf_ccC zf_out zf_inn
      rw [zg_bl0 h k (by omega)]
      by_cases q : io (ze_ix (A 14 k)) = m
      · rw [if_pos q, if_pos q]
        show A 17 k + (ze_mn (zf_cc A io m ov k) _ - ze_mn 0 _) = _
        rw [e1, zn_mn0 x (by omega), Int32.sub_zero]
        generalize ze_mn (zf_cc A io m ov k) (ze_mn (A 16 k) (A 15 k - A 17 k)) = z
        rw [Int32.sub_eq_add_neg, Int32.neg_neg]
      · rw [if_neg q, if_neg q]
    · simp [ze_up, hk]
/-- .. when power is lacked -/
theorem zg_lack {N : Nat} {A : Nat → Nat → Int32} {io : Nat → Int32} {m lk : Int32} (h : zg_RT N A) : ze_up (zf_flow A io m lk 0) (A 18) N = ze_up (zf_dcF A io m lk) (A 18) N ∧ ze_up (zf_chg A io m lk 0) (A 17) N = ze_up (zf_dcC A io m lk) (A 17) N := by
  constructor
  · funext k
    by_cases hk : k < N
    · have e : ∀ f : Nat → Int32, ze_up f (A 18) N k = f k := by
        intro f
        simp [ze_up, hk]
      obtain ⟨x, y, e1, e2, l1, l2⟩ := zg_RTs h hk
      rw [e, e]
      unfold zf_flow zf_dcF zf_out zf_inn
      rw [zg_bl1 h k (by omega)]
      by_cases q : io (ze_ix (A 14 k)) = m
      · rw [if_pos q, if_pos q]
        show ze_mn (zf_dc A io m lk k) _ - ze_mn 0 _ = _
        rw [e2, zn_mn0 y (by omega), Int32.sub_zero]
      · rw [if_neg q, if_neg q]
    · simp [ze_up, hk]
  · funext k
    by_cases hk : k < N
    · have e : ∀ f : Nat → Int32, ze_up f (A 17) N k = f k := by
        intro f
        simp [ze_up, hk]
      obtain ⟨x, y, e1, e2, l1, l2⟩ := zg_RTs h hk
      rw [e, e]
      unfold zf_chg zf_dcC zf_out zf_inn
      rw [zg_bl1 h k (by omega)]
      by_cases q : io (ze_ix (A 14 k)) = m
      · rw [if_pos q, if_pos q]
        show A 17 k + (ze_mn 0 _ - ze_mn (zf_dc A io m lk k) _) = _
        rw [e2, zn_mn0 y (by omega), Int32.zero_sub, Int32.sub_eq_add_neg]
      · rw [if_neg q, if_neg q]
    · simp [ze_up, hk]
theorem zf_dcc {A A2 : Nat → Nat → Int32} (io : Nat → Int32) (m x : Int32) (h1 : A2 14 = A 14) (h2 : A2 15 = A 15) (h3 : A2 16 = A 16) (h4 : A2 17 = A 17) (k : Nat) : zf_dc A2 io m x k = zf_dc A io m x k ∧ zf_cc A2 io m x k = zf_cc A io m x k := by
  induction k with
  | zero => exact ⟨rfl, rfl⟩
  | succ k ih =>
    simp only [zf_dc, zf_cc, ih.1, ih.2, h1, h2, h3, h4]
    refine ⟨?_, ?_⟩ <;> first | trivial | rfl
