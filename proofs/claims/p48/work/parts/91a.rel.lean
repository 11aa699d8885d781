/-! ===== the net and the class's rows: what the net says of the islands ===== -/
def xc_st (x : Int32) : Int32 := if x = 111 then 0 else if x = 119 then 1 else 2
def xc_c (n : Nat → Nat) (N : Nat → Int32) : Prop := N 0 = nI (n 0) ∧ N 1 = nI (n 1) ∧ N 2 = nI (n 2) ∧ N 3 = nI (n 3) ∧ N 4 = nI (n 4)
def xc_p (A : Nat → Nat → Int32) (N : Nat → Int32) : Prop := (N 5 = A 28 0 ∧ N 6 = A 29 0 ∧ N 7 = A 30 0 ∧ N 8 = A 38 0 ∧ N 9 = A 31 0) ∧ ∀ i, i < 6 → N (i + 10) = A 0 i
def xc_l (n : Nat → Nat) (A : Nat → Nat → Int32) (N : Nat → Int32) : Prop := (∀ i, i < n 1 → N (3 * i + 20) = A 2 i ∧ N (3 * i + 21) = A 3 i) ∧ ∀ i, i < 8 → N (3 * i + 22) = A 4 i
def xc_g (n : Nat → Nat) (A : Nat → Nat → Int32) (N : Nat → Int32) : Prop := (∀ g, g < n 2 → N (9 * g + 50) = A 6 g ∧ N (9 * g + 51) = A 7 g ∧ N (9 * g + 52) = A 8 g ∧ N (9 * g + 53) = A 9 g ∧ N (9 * g + 54) = A 10 g ∧ N (9 * g + 55) = xc_st (A 13 g)) ∧ (∀ g, g < 6 → N (9 * g + 56) = A 11 g ∧ N (9 * g + 57) = A 12 g) ∧ ∀ g, g < 6 → n 2 ≤ g → N (9 * g + 55) = 0
def xc_t (n : Nat → Nat) (A : Nat → Nat → Int32) (N : Nat → Int32) : Prop := (∀ k, k < n 3 → N (6 * k + 110) = A 14 k ∧ N (6 * k + 111) = A 15 k ∧ N (6 * k + 112) = A 16 k) ∧ ∀ k, k < 4 → N (6 * k + 113) = A 17 k ∧ N (6 * k + 114) = A 18 k
def xc_d (n : Nat → Nat) (A : Nat → Nat → Int32) (N : Nat → Int32) : Prop := (∀ k, k < n 4 → N (5 * k + 140) = A 19 k ∧ N (5 * k + 141) = A 20 k ∧ N (5 * k + 142) = A 21 k) ∧ ∀ k, k < 10 → N (5 * k + 143) = A 5 k ∧ N (5 * k + 144) = A 22 k
def xc_b (B : Nat → Int64) (N : Nat → Int32) : Prop := B 33 = (N 200).toInt64 ∧ B 34 = (N 201).toInt64 ∧ B 35 = (N 202).toInt64
/-- the net says what the rows say -/
def xc_R (n : Nat → Nat) (A : Nat → Nat → Int32) (B : Nat → Int64) (N : Nat → Int32) : Prop := xc_c n N ∧ xc_p A N ∧ xc_l n A N ∧ xc_g n A N ∧ xc_t n A N ∧ xc_d n A N ∧ xc_b B N
theorem xc_sv {n : Nat → Nat} {N : Nat → Int32} {k : Nat} {x : Int32} (hN : zf_N n) (e : N k = x) (h : zf_site n x) : xa_sv n N k := by
  obtain ⟨j, hj, rfl⟩ := h
  have h0 := hN.1
  unfold xa_sv
  rw [e, zf_ixN (by omega)]
  exact ⟨rfl, hj⟩
section XC
variable {n : Nat → Nat} {A : Nat → Nat → Int32} {B : Nat → Int64} {N : Nat → Int32}
theorem xc_H (hN : zf_N n) (hS : zf_S n A) (h : xc_R n A B N) : xa_H n N := by
  obtain ⟨hc, hp, hl, hg, ht, hd, hb⟩ := h
  exact ⟨hN, hc, fun i hi => ⟨xc_sv hN (hl.1 i hi).1 (hS.1 i hi).1, xc_sv hN (hl.1 i hi).2 (hS.1 i hi).2⟩, fun g q => xc_sv hN (hg.1 g q).1 (hS.2.1 g q), fun k q => xc_sv hN (ht.1 k q).1 (hS.2.2.1 k q), fun k q => xc_sv hN (hd.1 k q).1 (hS.2.2.2 k q)⟩
/-- the bits are joined sites -/
theorem xc_bit (t a b u : Nat) : (t ||| (2 ^ a ||| 2 ^ b)).testBit u = true ↔ t.testBit u = true ∨ a = u ∨ b = u := by
  rw [Nat.testBit_or, Nat.testBit_or, Nat.testBit_two_pow, Nat.testBit_two_pow]
  simp
theorem xc_in1 (hl : xc_l n A N) {L s t : Nat} (hL : L ≤ n 1) (hL8 : n 1 ≤ 8) (h : ∀ u, t.testBit u = true → zg_cn A L s u) : ∀ i, i ≤ L → ∀ u, (xa_in N t i).testBit u = true → zg_cn A L s u := by
  intro i
  induction i with
  | zero => exact fun _ => h
  | succ i ih =>
    intro hi u
    have hh := ih (by omega)
    simp only [xa_in]
    split
    · rename_i c
      obtain ⟨e2, e3⟩ := hl.1 i (by omega)
      have e4 := hl.2 i (by omega)
      rw [e2, e3] at c ⊢
      obtain ⟨c1, c2⟩ := c
      have hc : ¬ A 4 i = 0 := by
        rw [← e4, c1]
        decide
      have g1 : zg_cn A L (ze_ix (A 2 i)) (ze_ix (A 3 i)) := zg_ed (by omega) hc
      have g2 : zg_cn A L s (ze_ix (A 2 i)) := by
        rcases Bool.or_eq_true _ _ ▸ c2 with q | q
        · exact hh _ q
        · exact zg_tr (hh _ q) (zg_sy g1)
      intro hu
      rcases (xc_bit _ _ _ _).mp hu with q | q | q
      · exact hh u q
      · exact q ▸ g2
      · exact q ▸ zg_tr g2 g1
    · exact hh u
theorem xc_rs1 (hN : zf_N n) (hl : xc_l n A N) {s : Nat} (r : Nat) : ∀ u, (xa_rs N (n 1) (2 ^ s) r).testBit u = true → zg_cn A (n 1) s u := by
  induction r with
  | zero =>
    intro u hu
    have hu : (2 ^ s).testBit u = true := hu
    rw [Nat.testBit_two_pow] at hu
    have e : s = u := by simpa using hu
    exact e ▸ zg_rf
  | succ r ih => exact xc_in1 hl (Nat.le_refl _) hN.2.1 ih (n 1) (Nat.le_refl _)
/-- what a round adds -/
theorem xc_inM (t : Nat) (hE : ∀ i, i < n 1 → ze_ix (N (3 * i + 20)) < 6 ∧ ze_ix (N (3 * i + 21)) < 6) : ∀ i, i ≤ n 1 → ∃ M, M < 64 ∧ xa_in N t i = t ||| M := by
  intro i
  induction i with
  | zero => exact fun _ => ⟨0, by decide, by simp [xa_in]⟩
  | succ i ih =>
    intro hi
    obtain ⟨M, hM, e⟩ := ih (by omega)
    obtain ⟨a1, a2⟩ := hE i (by omega)
    simp only [xa_in]
    split
    · exact ⟨M ||| (2 ^ ze_ix (N (3 * i + 20)) ||| 2 ^ ze_ix (N (3 * i + 21))), xa_o0 hM a1 a2, by rw [e, Nat.or_assoc]⟩
    · exact ⟨M, hM, e⟩
def xc_pc (t : Nat) : Nat := (if t.testBit 0 then 1 else 0) + (if t.testBit 1 then 1 else 0) + (if t.testBit 2 then 1 else 0) + (if t.testBit 3 then 1 else 0) + (if t.testBit 4 then 1 else 0) + (if t.testBit 5 then 1 else 0)
theorem xc_pc1 {t M : Nat} (ht : t < 64) (hM : M < 64) : (t ||| M = t ∨ xc_pc t + 1 ≤ xc_pc (t ||| M)) ∧ xc_pc t ≤ 6 := by
  have key : ∀ t M : Fin 64, (t.val ||| M.val = t.val ∨ xc_pc t.val + 1 ≤ xc_pc (t.val ||| M.val)) ∧ xc_pc t.val ≤ 6 := by decide +kernel
  exact key ⟨t, ht⟩ ⟨M, hM⟩
theorem xc_pc0 {s : Nat} (hs : s < 6) : 1 ≤ xc_pc (2 ^ s) := by
  have key : ∀ s : Fin 6, 1 ≤ xc_pc (2 ^ s.val) := by decide +kernel
  exact key ⟨s, hs⟩
theorem xc_full (h : xa_H n N) {s : Nat} (hs : s < n 0) : xa_in N (xa_rs N (n 1) (2 ^ s) 6) (n 1) = xa_rs N (n 1) (2 ^ s) 6 := by
  have h0 := h.1.1
  have hE : ∀ i, i < n 1 → ze_ix (N (3 * i + 20)) < 6 ∧ ze_ix (N (3 * i + 21)) < 6 := fun i hi => xa_ends h hi
  have key : ∀ r, (∃ q, q < r ∧ xa_rs N (n 1) (2 ^ s) (q + 1) = xa_rs N (n 1) (2 ^ s) q) ∨ r + 1 ≤ xc_pc (xa_rs N (n 1) (2 ^ s) r) := by
    intro r
    induction r with
    | zero => exact Or.inr (xc_pc0 (by omega))
    | succ r ih =>
      rcases ih with ⟨q, hq, e⟩ | ih
      · exact Or.inl ⟨q, by omega, e⟩
      · obtain ⟨M, hM, e⟩ := xc_inM (xa_rs N (n 1) (2 ^ s) r) hE (n 1) (Nat.le_refl _)
        have e2 : xa_rs N (n 1) (2 ^ s) (r + 1) = xa_rs N (n 1) (2 ^ s) r ||| M := e
        rcases (xc_pc1 (xa_rsI h hs r).1 hM).1 with q | q
        · exact Or.inl ⟨r, by omega, by rw [e2, q]⟩
        · exact Or.inr (by rw [e2]; omega)
  have fix : ∀ q, xa_rs N (n 1) (2 ^ s) (q + 1) = xa_rs N (n 1) (2 ^ s) q → ∀ k, xa_rs N (n 1) (2 ^ s) (q + k) = xa_rs N (n 1) (2 ^ s) q := by
    intro q e k
    induction k with
    | zero => rfl
    | succ k ih =>
      show xa_in N (xa_rs N (n 1) (2 ^ s) (q + k)) (n 1) = _
      rw [ih]
      exact e
  rcases key 6 with ⟨q, hq, e⟩ | z
  · have e1 := fix q e (6 - q)
    have e2 := fix q e (7 - q)
    have a1 : q + (6 - q) = 6 := by omega
    have a2 : q + (7 - q) = 7 := by omega
    rw [a1] at e1
    rw [a2] at e2
    show xa_rs N (n 1) (2 ^ s) 7 = _
    rw [e2, e1]
  · have := (xc_pc1 (xa_rsI h hs 6).1 (xa_rsI h hs 6).1).2
    omega
theorem xc_or {t M : Nat} {u : Nat} (h : t.testBit u = true) : (t ||| M).testBit u = true := by
  rw [Nat.testBit_or, h]
  rfl
theorem xc_mono {t i u : Nat} (h : (xa_in N t i).testBit u = true) : ∀ j, (xa_in N t (i + j)).testBit u = true := by
  intro j
  induction j with
  | zero => exact h
  | succ j ih =>
    show (xa_in N t (i + j + 1)).testBit u = true
    simp only [xa_in]
    split
    · exact xc_or ih
    · exact ih
theorem xc_clo {t L : Nat} (h : xa_in N t L = t) {i : Nat} (hi : i < L) (hc : N (3 * i + 22) = 1) (hb : t.testBit (ze_ix (N (3 * i + 20))) = true ∨ t.testBit (ze_ix (N (3 * i + 21))) = true) : t.testBit (ze_ix (N (3 * i + 20))) = true ∧ t.testBit (ze_ix (N (3 * i + 21))) = true := by
  have h0 : ∀ u, t.testBit u = true → (xa_in N t i).testBit u = true := fun u hu => by
    have := xc_mono (N := N) (t := t) (i := 0) (u := u) hu i
    rw [Nat.zero_add] at this
    exact this
  have h1 : ∀ u, (xa_in N t (i + 1)).testBit u = true → t.testBit u = true := fun u hu => by
    have := xc_mono hu (L - (i + 1))
    have e : i + 1 + (L - (i + 1)) = L := by omega
    rw [e, h] at this
    exact this
  have hcond : N (3 * i + 22) = 1 ∧ ((xa_in N t i).testBit (ze_ix (N (3 * i + 20))) || (xa_in N t i).testBit (ze_ix (N (3 * i + 21)))) = true := by
    refine ⟨hc, ?_⟩
    rcases hb with q | q
    · rw [h0 _ q]
      rfl
    · rw [h0 _ q, Bool.or_true]
  have e : xa_in N t (i + 1) = xa_in N t i ||| (2 ^ ze_ix (N (3 * i + 20)) ||| 2 ^ ze_ix (N (3 * i + 21))) := by
    simp only [xa_in]
    rw [if_pos hcond]
  refine ⟨h1 _ ?_, h1 _ ?_⟩
  · rw [e]
    exact (xc_bit _ _ _ _).mpr (Or.inr (Or.inl rfl))
  · rw [e]
    exact (xc_bit _ _ _ _).mpr (Or.inr (Or.inr rfl))
/-- the set is the island -/
theorem xc_set (hN : zf_N n) (hS : zf_S n A) (h4 : ∀ i, A 4 i = 0 ∨ A 4 i = 1) (h : xc_R n A B N) {s : Nat} (hs : s < n 0) (u : Nat) : (xa_rs N (n 1) (2 ^ s) 6).testBit u = true ↔ zg_cn A (n 1) s u := by
  have hH := xc_H hN hS h
  have hl := h.2.2.1
  have h8 := hN.2.1
  refine ⟨xc_rs1 hN hl 6 u, fun hc => ?_⟩
  refine hc (fun v => (xa_rs N (n 1) (2 ^ s) 6).testBit v = true) (fun i hi hcl => ?_) (xa_rsI hH hs 6).2
  have e := hl.1 i hi
  have e4 : N (3 * i + 22) = 1 := by
    rw [hl.2 i (by omega)]
    exact (h4 i).resolve_left hcl
  have g := fun z => xc_clo (xc_full hH hs) hi e4 z
  rw [e.1, e.2] at g
  exact ⟨fun z => (g (Or.inl z)).2, fun z => (g (Or.inr z)).1⟩
theorem xc_CI (hN : zf_N n) (hS : zf_S n A) (h4 : ∀ i, A 4 i = 0 ∨ A 4 i = 1) (h : xc_R n A B N) {s : Nat} (hs : s < n 0) : zf_CI n A s = nI (xa_isl N (n 1) s) := by
  have hH := xc_H hN hS h
  have h0 := hN.1
  refine (zf_CIuniq hN hS (f := fun s => nI (xa_isl N (n 1) s)) (fun i hi hc => ?_) (fun s hs => ?_) hs).symm
  · have hE := zg_hE hN hS i hi
    have e : xa_rs N (n 1) (2 ^ ze_ix (A 2 i)) 6 = xa_rs N (n 1) (2 ^ ze_ix (A 3 i)) 6 := by
      apply Nat.eq_of_testBit_eq
      intro u
      have z1 := xc_set hN hS h4 h hE.1 u
      have z2 := xc_set hN hS h4 h hE.2 u
      have z3 : zg_cn A (n 1) (ze_ix (A 2 i)) u ↔ zg_cn A (n 1) (ze_ix (A 3 i)) u := ⟨fun q => zg_tr (zg_sy (zg_ed hi hc)) q, fun q => zg_tr (zg_ed hi hc) q⟩
      exact Bool.eq_iff_iff.mpr (z1.trans (z3.trans z2.symm))
    show nI (xa_lb (xa_rs N (n 1) (2 ^ ze_ix (A 2 i)) 6)) = nI (xa_lb (xa_rs N (n 1) (2 ^ ze_ix (A 3 i)) 6))
    rw [e]
  · have z := xa_rsI hH hs 6
    exact ⟨xa_isl N (n 1) s, xa_isle hH hs, rfl, (xc_set hN hS h4 h hs _).mp (xa_o7 z.1 (by omega) z.2)⟩
end XC
