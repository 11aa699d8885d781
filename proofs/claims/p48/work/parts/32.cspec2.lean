/-! ===== what the class's own calls answer ===== -/
theorem zf_hE0 {n : Nat → Nat} {io : Nat → Int32} {j : Nat} (hN : zf_N n) (hE : ∀ x, zf_site n x → zf_site n (io (ze_ix x))) (hj : j < n 0) : zf_site n (io j) := by
  have h := hE (nI j) ⟨j, hj, rfl⟩
  have h0 := hN.1
  rw [zf_ixN (by omega)] at h
  exact h
theorem ze_narnt {x : Int32} : narrow .boolean (.int (ze_nt x)) = .int (ze_nt x) := by
  unfold ze_nt
  split <;> rfl
def zf_cf (n : Nat → Nat) (A : Nat → Nat → Int32) (io : Nat → Int32) (m t : Int32) : Int32 := t - zf_gs A io m (n 2)
def zf_cs (n : Nat → Nat) (A : Nat → Nat → Int32) (io s0 : Nat → Int32) (m : Int32) : Nat → Int32 := ze_up (zf_stp A io m) s0 (n 2)
/-- a tick of one island: what it wants, what its generators give -/
def zf_cg (n : Nat → Nat) (A : Nat → Nat → Int32) (io s0 : Nat → Int32) (m t : Int32) : Int32 := zf_gsC A (zf_cs n A io s0 m) (n 2) io m (zf_cf n A io m t) (n 2)
def zf_cA2 (n : Nat → Nat) (A : Nat → Nat → Int32) (io s0 : Nat → Int32) (m t : Int32) : Nat → Nat → Int32 := ze_sA (ze_sA A 12 (ze_up (zf_gvC A (zf_cs n A io s0 m) (n 2) io m (zf_cf n A io m t)) (A 12) (n 2))) 10 (ze_up (zf_gfC A (zf_cs n A io s0 m) (n 2) io m (zf_cf n A io m t)) (A 10) (n 2))
def zf_cdA (n : Nat → Nat) (A : Nat → Nat → Int32) (io : Nat → Int32) (m x : Int32) : Nat → Nat → Int32 := ze_sA (ze_sA A 18 (ze_up (zf_dcF A io m x) (A 18) (n 3))) 17 (ze_up (zf_dcC A io m x) (A 17) (n 3))
def zf_ccA (n : Nat → Nat) (A : Nat → Nat → Int32) (io : Nat → Int32) (m x : Int32) : Nat → Nat → Int32 := ze_sA (ze_sA A 18 (ze_up (zf_ccF A io m x) (A 18) (n 3))) 17 (ze_up (zf_ccC A io m x) (A 17) (n 3))
def zf_cA1 (n : Nat → Nat) (A : Nat → Nat → Int32) (io : Nat → Int32) (m : Int32) : Nat → Nat → Int32 := ze_sA (ze_sA A 5 (ze_up (zf_shC n A io m (zf_bOf n A io m)) (A 5) (n 4))) 22 (ze_up (zf_shW n A io m (zf_bOf n A io m) (A 29 0)) (A 22) (n 4))
/-- from the shed loads on: t is wanted, g is given -/
def zf_cfA (n : Nat → Nat) (A : Nat → Nat → Int32) (io : Nat → Int32) (m t g : Int32) : Nat → Nat → Int32 :=
  if t ≤ g then (if zf_tied A m then ze_sC (zf_ccA n A io m (g - t)) 31 (A 31 0 - zf_cc A io m (g - t) (n 3)) else zf_ccA n A io m (g - t))
  else ze_sC (zf_cdA n A io m (t - g)) 31 (A 31 0 + zf_dc A io m (t - g) (n 3))
def zf_cfB (n : Nat → Nat) (A : Nat → Nat → Int32) (B : Nat → Int64) (io : Nat → Int32) (m t g : Int32) : Nat → Int64 :=
  if t ≤ g then (if zf_tied A m then ze_sB (ze_sB (ze_sB B 34 (B 34 + t.toInt64)) 33 (B 33 + g.toInt64)) 37 (B 37 + (zf_cc A io m (g - t) (n 3)).toInt64) else ze_sB (ze_sB (ze_sB B 34 (B 34 + t.toInt64)) 33 (B 33 + g.toInt64)) 35 (B 35 + (zf_cc A io m (g - t) (n 3)).toInt64))
  else ze_sB (ze_sB (ze_sB B 34 (B 34 + t.toInt64)) 33 (B 33 + g.toInt64)) 36 (B 36 + (zf_dc A io m (t - g) (n 3)).toInt64)
def zf_cbA (n : Nat → Nat) (A : Nat → Nat → Int32) (io s0 : Nat → Int32) (m : Int32) : Nat → Nat → Int32 :=
  zf_cfA n (zf_cA2 n (zf_cA1 n A io m) io s0 m (zf_dm n (zf_cA1 n A io m) io m)) io m (zf_dm n (zf_cA1 n A io m) io m) (zf_cg n (zf_cA1 n A io m) io s0 m (zf_dm n (zf_cA1 n A io m) io m))
def zf_cbB (n : Nat → Nat) (A : Nat → Nat → Int32) (B : Nat → Int64) (io s0 : Nat → Int32) (m : Int32) : Nat → Int64 :=
  zf_cfB n (zf_cA2 n (zf_cA1 n A io m) io s0 m (zf_dm n (zf_cA1 n A io m) io m)) B io m (zf_dm n (zf_cA1 n A io m) io m) (zf_cg n (zf_cA1 n A io m) io s0 m (zf_dm n (zf_cA1 n A io m) io m))
def zf_cbE (n : Nat → Nat) (A E : Nat → Nat → Int32) (m : Int32) : Nat → Nat → Int32 := ze_sA E 3 (zf_cs n (zf_cA1 n A (E 0) m) (E 0) (E 3) m)
def zf_cil (n : Nat → Nat) (A : Nat → Nat → Int32) (B : Nat → Int64) (E : Nat → Nat → Int32) : Nat → (Nat → Nat → Int32) × (Nat → Int64) × (Nat → Nat → Int32)
  | 0 => (A, B, E)
  | s + 1 => if (zf_cil n A B E s).2.2 0 s = nI s then (zf_cbA n (zf_cil n A B E s).1 ((zf_cil n A B E s).2.2 0) ((zf_cil n A B E s).2.2 3) (nI s), zf_cbB n (zf_cil n A B E s).1 (zf_cil n A B E s).2.1 ((zf_cil n A B E s).2.2 0) ((zf_cil n A B E s).2.2 3) (nI s), zf_cbE n (zf_cil n A B E s).1 (zf_cil n A B E s).2.2 (nI s)) else zf_cil n A B E s
def zf_ct0 (n : Nat → Nat) (A : Nat → Nat → Int32) : Nat → Nat → Int32 := ze_sC (ze_sA (ze_sA (ze_sA (ze_sC A 30 (A 30 0 + 1)) 12 (ze_up (fun _ => 0) (A 12) (n 2))) 11 (ze_up (zf_tG (ze_sC A 30 (A 30 0 + 1))) (A 11) (n 2))) 13 (ze_up (zf_tS (ze_sC A 30 (A 30 0 + 1))) (A 13) (n 2))) 31 0
def zf_ctk (n : Nat → Nat) (A : Nat → Nat → Int32) (B : Nat → Int64) (E : Nat → Nat → Int32) : (Nat → Nat → Int32) × (Nat → Int64) × (Nat → Nat → Int32) := zf_cil n (zf_ct0 n A) B E (n 0)
def zf_ctks (n : Nat → Nat) (A : Nat → Nat → Int32) (B : Nat → Int64) (E : Nat → Nat → Int32) : Nat → (Nat → Nat → Int32) × (Nat → Int64) × (Nat → Nat → Int32)
  | 0 => (A, B, E)
  | k + 1 => zf_ctk n (zf_ctks n A B E k).1 (zf_ctks n A B E k).2.1 (zf_ctks n A B E k).2.2
theorem zf_cfAfix (n : Nat → Nat) (A : Nat → Nat → Int32) (io : Nat → Int32) (m t g : Int32) {k : Nat} (h : k ≠ 18 ∧ k ≠ 17 ∧ k ≠ 31) : zf_cfA n A io m t g k = A k := by
  obtain ⟨h1, h2, h3⟩ := h
  unfold zf_cfA
  split
  · split <;> simp [zf_ccA, ze_sA, ze_sC, h1, h2, h3]
  · simp [zf_cdA, ze_sA, ze_sC, h1, h2, h3]
theorem zf_cbAfix (n : Nat → Nat) (A : Nat → Nat → Int32) (io s0 : Nat → Int32) (m : Int32) {k : Nat} (h : zf_fix k ∨ k = 13 ∨ k = 11 ∨ k = 30) : zf_cbA n A io s0 m k = A k := by
  have h0 : k ≠ 18 ∧ k ≠ 17 ∧ k ≠ 31 ∧ k ≠ 12 ∧ k ≠ 10 ∧ k ≠ 5 ∧ k ≠ 22 := by
    unfold zf_fix at h
    omega
  obtain ⟨h1, h2, h3, h4, h5, h6, h7⟩ := h0
  unfold zf_cbA
  rw [zf_cfAfix n _ _ _ _ _ ⟨h1, h2, h3⟩]
  simp [zf_cA2, zf_cA1, ze_sA, h4, h5, h6, h7]
theorem zf_cilfix (n : Nat → Nat) (A : Nat → Nat → Int32) (B : Nat → Int64) (E : Nat → Nat → Int32) (s : Nat) {k : Nat} (h : zf_fix k ∨ k = 13 ∨ k = 11 ∨ k = 30) : (zf_cil n A B E s).1 k = A k := by
  induction s with
  | zero => rfl
  | succ s ih =>
    simp only [zf_cil]
    split
    · exact (zf_cbAfix n _ _ _ _ h).trans ih
    · exact ih
theorem zf_cilS {n : Nat → Nat} {A : Nat → Nat → Int32} {B : Nat → Int64} {E : Nat → Nat → Int32} (hS : zf_S n A) (i : Nat) : zf_S n (zf_cil n A B E i).1 := zf_Scong (zf_cilfix n _ _ _ _ (by decide)) (zf_cilfix n _ _ _ _ (by decide)) (zf_cilfix n _ _ _ _ (by decide)) (zf_cilfix n _ _ _ _ (by decide)) (zf_cilfix n _ _ _ _ (by decide)) hS
theorem zf_ct0fix (n : Nat → Nat) (A : Nat → Nat → Int32) {k : Nat} (h : zf_fix k) : zf_ct0 n A k = A k := by
  have h0 : k ≠ 30 ∧ k ≠ 31 ∧ k ≠ 12 ∧ k ≠ 11 ∧ k ≠ 13 := by
    unfold zf_fix at h
    omega
  obtain ⟨h1, h2, h3, h4, h5⟩ := h0
  simp [zf_ct0, ze_sA, ze_sC, h1, h2, h3, h4, h5]
theorem zf_ctksfix (n : Nat → Nat) (A : Nat → Nat → Int32) (B : Nat → Int64) (E : Nat → Nat → Int32) (i : Nat) {k : Nat} (h : zf_fix k) : (zf_ctks n A B E i).1 k = A k := by
  induction i with
  | zero => rfl
  | succ i ih => exact ((zf_cilfix n _ _ _ _ (Or.inl h)).trans (zf_ct0fix n _ h)).trans ih
theorem zf_ct0S {n : Nat → Nat} {A : Nat → Nat → Int32} (hS : zf_S n A) : zf_S n (zf_ct0 n A) := zf_Scong (zf_ct0fix n _ (by decide)) (zf_ct0fix n _ (by decide)) (zf_ct0fix n _ (by decide)) (zf_ct0fix n _ (by decide)) (zf_ct0fix n _ (by decide)) hS
theorem zf_ctksS {n : Nat → Nat} {A : Nat → Nat → Int32} {B : Nat → Int64} {E : Nat → Nat → Int32} (hS : zf_S n A) (i : Nat) : zf_S n (zf_ctks n A B E i).1 := zf_Scong (zf_ctksfix n _ _ _ _ (by decide)) (zf_ctksfix n _ _ _ _ (by decide)) (zf_ctksfix n _ _ _ _ (by decide)) (zf_ctksfix n _ _ _ _ (by decide)) (zf_ctksfix n _ _ _ _ (by decide)) hS
