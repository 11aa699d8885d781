/-! ===== one island's balance: class and reference agree ===== -/
theorem ze_sC2 (X : Nat → Nat → Int32) (k : Nat) (a b : Int32) : ze_sC (ze_sC X k a) k b = ze_sC X k b := ze_a1 X k _ _
theorem ze_sCid {X : Nat → Nat → Int32} {k : Nat} {v : Int32} (h : X k = fun _ => v) : ze_sC X k v = X := by
  unfold ze_sC
  rw [← h]
  exact ze_sAid X k
theorem ze_sBid {B : Nat → Int64} {k : Nat} {v : Int64} (h : v = B k) : ze_sB B k v = B := by
  funext j
  by_cases e : j = k
  · subst e
    simp [ze_sB, h]
  · simp [ze_sB, e]
theorem zf_ccFc {A A2 : Nat → Nat → Int32} (io : Nat → Int32) (m x : Int32) (h1 : A2 14 = A 14) (h2 : A2 15 = A 15) (h3 : A2 16 = A 16) (h4 : A2 17 = A 17) (h5 : A2 18 = A 18) : zf_ccF A2 io m x = zf_ccF A io m x ∧ zf_ccC A2 io m x = zf_ccC A io m x ∧ zf_dcF A2 io m x = zf_dcF A io m x ∧ zf_dcC A2 io m x = zf_dcC A io m x := by
  refine ⟨?_, ?_, ?_, ?_⟩
  · funext k
    simp only [zf_ccF, (zf_dcc io m x h1 h2 h3 h4 k).2, h1, h2, h3, h4, h5]
  · funext k
    simp only [zf_ccC, (zf_dcc io m x h1 h2 h3 h4 k).2, h1, h2, h3, h4, h5]
  · funext k
    simp only [zf_dcF, (zf_dcc io m x h1 h2 h3 h4 k).1, h1, h2, h3, h4, h5]
  · funext k
    simp only [zf_dcC, (zf_dcc io m x h1 h2 h3 h4 k).1, h1, h2, h3, h4, h5]
/-- what a balance needs: ranges, small sums, the grid's number alone in its row -/
def zg_Bal (n : Nat → Nat) (A1 : Nat → Nat → Int32) (io : Nat → Int32) (m : Int32) : Prop :=
  zg_R (n 2) A1 ∧ zg_RT (n 3) A1 ∧ zg_fit n A1 io m (zf_dm n A1 io m) ∧ (∃ d q : Nat, zf_dm n A1 io m = nI d ∧ (zf_gr n A1 io m).1 = nI q ∧ d < 2 ^ 30 ∧ q < 2 ^ 30) ∧ A1 31 = fun _ => A1 31 0
theorem zg_fin {n : Nat → Nat} {A1 : Nat → Nat → Int32} {B : Nat → Int64} {io s0 : Nat → Int32} {m : Int32} (hN : zf_N n) (h : zg_Bal n A1 io m) :
    zf_cfA n (zf_cA2 n A1 io s0 m (zf_dm n A1 io m)) io m (zf_dm n A1 io m) (zf_cg n A1 io s0 m (zf_dm n A1 io m)) = zf_bA n A1 io m ∧
    zf_cfB n (zf_cA2 n A1 io s0 m (zf_dm n A1 io m)) B io m (zf_dm n A1 io m) (zf_cg n A1 io s0 m (zf_dm n A1 io m)) = zf_bB n A1 B io m := by
  obtain ⟨hR, hT, hf, ⟨d, q, ed, eq, ld, lq⟩, h31⟩ := h
  have hg : zf_cg n A1 io s0 m (zf_dm n A1 io m) = (zf_gr n A1 io m).1 := zg_sum hN hR hf
  have h2 : zf_cA2 n A1 io s0 m (zf_dm n A1 io m) = ze_sA (ze_sA A1 12 (zf_gr n A1 io m).2) 10 (ze_up (zf_fuel A1 (zf_gr n A1 io m).2 io m) (A1 10) (n 2)) := by
    unfold zf_cA2
    rw [zg_row12 hN hR hf, zg_row10 hN hR hf]
    rfl
  rw [hg, h2]
  generalize hA2 : ze_sA (ze_sA A1 12 (zf_gr n A1 io m).2) 10 (ze_up (zf_fuel A1 (zf_gr n A1 io m).2 io m) (A1 10) (n 2)) = A2
  have r14 : A2 14 = A1 14 := by rw [← hA2]; rfl
  have r15 : A2 15 = A1 15 := by rw [← hA2]; rfl
  have r16 : A2 16 = A1 16 := by rw [← hA2]; rfl
  have r17 : A2 17 = A1 17 := by rw [← hA2]; rfl
  have r18 : A2 18 = A1 18 := by rw [← hA2]; rfl
  have r31 : A2 31 = A1 31 := by rw [← hA2]; rfl
  have r38 : A2 38 = A1 38 := by rw [← hA2]; rfl
  have ht : zf_tied A2 m ↔ zf_tied A1 m := by
    unfold zf_tied
    rw [r38]
  have elk : zf_lk n A1 io m = nI (d - q) := by
    unfold zf_lk
    rw [ed, eq, zn_mxs ld lq]
  have eov : zf_ov n A1 io m = nI (q - d) := by
    unfold zf_ov
    rw [ed, eq, zn_mxs lq ld]
  have e0 : nI 0 = (0 : Int32) := rfl
  by_cases c : d ≤ q
  · have c1 : zf_dm n A1 io m ≤ (zf_gr n A1 io m).1 := by
      rw [ed, eq]
      exact (nI_leI (by omega) (by omega)).mpr c
    have z0 : d - q = 0 := by omega
    rw [z0, e0] at elk
    have eov2 : zf_ov n A1 io m = (zf_gr n A1 io m).1 - zf_dm n A1 io m := by
      rw [eov, ed, eq, zn_sub c (by omega)]
    generalize hx : (zf_gr n A1 io m).1 - zf_dm n A1 io m = x at eov2
    have ez : zf_z n A1 io m (n 3) = (0, zf_cc A1 io m x (n 3)) := by
      unfold zf_z
      rw [elk, eov2]
      exact zg_bl0 hT (n 3) (Nat.le_refl _)
    obtain ⟨o1, o2⟩ := zg_over (io := io) (m := m) (ov := x) hT
    obtain ⟨f1, f2, -, -⟩ := zf_ccFc io m x r14 r15 r16 r17 r18
    have ec := (zf_dcc io m x r14 r15 r16 r17 (n 3)).2
    have eX : zf_ccA n A2 io m x = ze_sA (ze_sA A2 18 (ze_up (zf_flow A1 io m 0 x) (A1 18) (n 3))) 17 (ze_up (zf_chg A1 io m 0 x) (A1 17) (n 3)) := by
      unfold zf_ccA
      rw [f1, f2, o1, o2, r18, r17]
    constructor
    · unfold zf_cfA zf_bA
      rw [if_pos c1, hx, eX, ec, ez, elk, eov2, hA2, ze_sC2]
      generalize hXX : ze_sA (ze_sA A2 18 (ze_up (zf_flow A1 io m 0 x) (A1 18) (n 3))) 17 (ze_up (zf_chg A1 io m 0 x) (A1 17) (n 3)) = X
      have x31 : X 31 = fun _ => A1 31 0 := by
        rw [← hXX, ← h31, ← r31]
        rfl
      by_cases t : zf_tied A1 m
      · rw [if_pos (ht.mpr t), if_pos t, r31]
        show _ = ze_sC X 31 (A1 31 0 + 0 - _)
        rw [Int32.add_zero]
      · rw [if_neg (fun z => t (ht.mp z)), if_neg t]
        show X = ze_sC X 31 (A1 31 0 + 0 - 0)
        rw [Int32.add_zero, Int32.sub_zero, ze_sCid x31]
    · unfold zf_cfB zf_bB
      rw [if_pos c1, hx, ec, ez]
      have z64 : (0 : Int32).toInt64 = 0 := by decide
      funext j
      by_cases t : zf_tied A1 m
      · rw [if_pos (ht.mpr t), if_pos t, if_pos t]
        show _ = ze_sB (ze_sB (ze_sB _ 36 (B 36 + (0 : Int32).toInt64)) 37 (B 37 + (zf_cc A1 io m x (n 3)).toInt64)) 35 (B 35 + 0) j
        rw [z64, Int64.add_zero, Int64.add_zero]
        by_cases j1 : j = 35
        · subst j1
          simp [ze_sB]
        · by_cases j2 : j = 36
          · subst j2
            simp [ze_sB]
          · simp [ze_sB, j1, j2]
      · rw [if_neg (fun z => t (ht.mp z)), if_neg t, if_neg t]
        show _ = ze_sB (ze_sB (ze_sB _ 36 (B 36 + (0 : Int32).toInt64)) 37 (B 37 + 0)) 35 (B 35 + (zf_cc A1 io m x (n 3)).toInt64) j
        rw [z64, Int64.add_zero, Int64.add_zero]
        by_cases j1 : j = 37
        · subst j1
          simp [ze_sB]
        · by_cases j2 : j = 36
          · subst j2
            simp [ze_sB]
          · simp [ze_sB, j1, j2]
  · have c1 : ¬ zf_dm n A1 io m ≤ (zf_gr n A1 io m).1 := by
      rw [ed, eq]
      exact fun z => c ((nI_leI (by omega) (by omega)).mp z)
    have z0 : q - d = 0 := by omega
    rw [z0, e0] at eov
    have elk2 : zf_lk n A1 io m = zf_dm n A1 io m - (zf_gr n A1 io m).1 := by
      rw [elk, ed, eq, zn_sub (by omega) (by omega)]
    generalize hx : zf_dm n A1 io m - (zf_gr n A1 io m).1 = x at elk2
    have ez : zf_z n A1 io m (n 3) = (zf_dc A1 io m x (n 3), 0) := by
      unfold zf_z
      rw [eov, elk2]
      exact zg_bl1 hT (n 3) (Nat.le_refl _)
    obtain ⟨o1, o2⟩ := zg_lack (io := io) (m := m) (lk := x) hT
    obtain ⟨-, -, f1, f2⟩ := zf_ccFc io m x r14 r15 r16 r17 r18
    have ec := (zf_dcc io m x r14 r15 r16 r17 (n 3)).1
    have eX : zf_cdA n A2 io m x = ze_sA (ze_sA A2 18 (ze_up (zf_flow A1 io m x 0) (A1 18) (n 3))) 17 (ze_up (zf_chg A1 io m x 0) (A1 17) (n 3)) := by
      unfold zf_cdA
      rw [f1, f2, o1, o2, r18, r17]
    have i0 : (if zf_tied A1 m then (0 : Int32) else 0) = 0 := by split <;> rfl
    constructor
    · unfold zf_cfA zf_bA
      rw [if_neg c1, hx, eX, ec, ez, elk2, eov, hA2, ze_sC2, r31]
      show _ = ze_sC _ 31 (A1 31 0 + zf_dc A1 io m x (n 3) - (if zf_tied A1 m then (0 : Int32) else 0))
      rw [i0, Int32.sub_zero]
    · unfold zf_cfB zf_bB
      rw [if_neg c1, hx, ec, ez]
      have z64 : (0 : Int32).toInt64 = 0 := by decide
      have i1 : (if zf_tied A1 m then (0 : Int32).toInt64 else 0) = 0 := by
        rw [z64]
        split <;> rfl
      have i2 : (if zf_tied A1 m then (0 : Int64) else (0 : Int32).toInt64) = 0 := by
        rw [z64]
        split <;> rfl
      funext j
      show _ = ze_sB (ze_sB (ze_sB _ 36 (B 36 + (zf_dc A1 io m x (n 3)).toInt64)) 37 (B 37 + (if zf_tied A1 m then (0 : Int32).toInt64 else 0))) 35 (B 35 + (if zf_tied A1 m then (0 : Int64) else (0 : Int32).toInt64)) j
      rw [i1, i2, Int64.add_zero, Int64.add_zero]
      by_cases j1 : j = 35
      · subst j1
        simp [ze_sB]
      · by_cases j2 : j = 37
        · subst j2
          simp [ze_sB]
        · simp [ze_sB, j1, j2]
/-- the whole balance of one island -/
theorem zg_bal {n : Nat → Nat} {A : Nat → Nat → Int32} {B : Nat → Int64} {io s0 : Nat → Int32} {m : Int32} (hN : zf_N n) (h : zg_Bal n (zf_shed n A io m (n 4)) io m) : zf_cbA n A io s0 m = zf_balA n A io m ∧ zf_cbB n A B io s0 m = zf_balB n A B io m := by
  unfold zf_cbA zf_cbB zf_balA zf_balB
  rw [zf_shedE]
  exact zg_fin hN h
