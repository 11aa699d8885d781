/-! ===== shares: class and reference agree ===== -/
/-- the steps that each one makes for a demand t -/
def zg_T (n : Nat → Nat) (A : Nat → Nat → Int32) (io : Nat → Int32) (m t : Int32) : Nat → Nat := zn_tl (zg_S A io m) (n 2) (zf_fu (zf_gs A io m (n 2)) t) (fun _ => 0)
theorem zg_Tle {n : Nat → Nat} {A : Nat → Nat → Int32} {io : Nat → Int32} {m t : Int32} {g : Nat} (hg : g < n 2) : zg_T n A io m t g ≤ zg_S A io m g := (zn_tlD _ _ (zn_D0 (zg_S A io m) (n 2))).1.1 g hg
theorem zg_givesE {n : Nat → Nat} {A : Nat → Nat → Int32} {io : Nat → Int32} {m t : Int32} (h : zg_R (n 2) A) : zn_G (n 2) A io m (zf_gives n A io m t).2 (zg_T n A io m t) (zg_S A io m) ∧ (zf_gives n A io m t).1 = zf_gs A io m (n 2) + nI (zn_sum (zg_T n A io m t) (n 2)) := by
  obtain ⟨g1, g2⟩ := zn_glE (zf_fu (zf_gs A io m (n 2)) t) (zf_gs A io m (n 2)) _ _ (zg_G0 (io := io) (m := m) h)
  refine ⟨g1, ?_⟩
  rw [zn_sum0] at g2
  have e0 : nI 0 = (0 : Int32) := rfl
  rw [e0, Int32.add_zero] at g2
  exact g2
theorem zg_gv {n : Nat → Nat} {A : Nat → Nat → Int32} {io : Nat → Int32} {m t : Int32} (h : zg_R (n 2) A) {g : Nat} (hg : g < n 2) : (zf_gives n A io m t).2 g = if zf_runs A io g m then A 7 g + nI (zg_T n A io m t g) else A 12 g := by
  obtain ⟨l1, l2, hno, hyes⟩ := (zg_givesE (io := io) (m := m) (t := t) h).1 g hg
  by_cases q : zf_runs A io g m
  · rw [if_pos q]
    obtain ⟨le, c, e7, ec, b1, b2, eS, eg⟩ := hyes q
    rw [eg, e7, nI_add]
  · rw [if_neg q]
    exact (hno q).2
/-- the demand fits: no overflow -/
def zg_fit (n : Nat → Nat) (A : Nat → Nat → Int32) (io : Nat → Int32) (m t : Int32) : Prop := (t - zf_gs A io m (n 2)).toInt.toNat = zf_fu (zf_gs A io m (n 2)) t
theorem zg_swr {n : Nat → Nat} {A : Nat → Nat → Int32} {io s0 : Nat → Int32} {m t : Int32} (hN : zf_N n) (h : zg_R (n 2) A) (hf : zg_fit n A io m t) {g : Nat} (hg : g < n 2) : zf_swr (ze_up (zf_stp A io m) s0 (n 2)) (n 2) g (t - zf_gs A io m (n 2)) = nI (zg_T n A io m t g) := by
  rw [zf_swrE hN.2.2.1 (S := zg_S A io m) (fun j hj => ?_) hg, hf]
  · rfl
  · have e : ze_up (zf_stp A io m) s0 (n 2) j = zf_stp A io m j := by simp [ze_up, hj]
    rw [e]
    exact zg_SE h hj
theorem zg_tlr {n : Nat → Nat} {A : Nat → Nat → Int32} {io s0 tk0 : Nat → Int32} {m t : Int32} (h : zg_R (n 2) A) {g : Nat} (hg : g < n 2) : zf_tlr n A io s0 tk0 m t g = nI (zg_T n A io m t g) := by
  have hR : zn_R (n 2) (ze_up (fun _ => 0) tk0 (n 2)) (ze_up (zf_stp A io m) s0 (n 2)) (fun _ => 0) (zg_S A io m) := by
    intro j hj
    have e : ze_up (zf_stp A io m) s0 (n 2) j = zf_stp A io m j := by simp [ze_up, hj]
    have e2 : ze_up (fun _ => (0 : Int32)) tk0 (n 2) j = 0 := by simp [ze_up, hj]
    rw [e, e2]
    exact ⟨rfl, (zg_SE h hj).1, Nat.zero_le _, (zg_SE h hj).2⟩
  exact (zn_tlE _ _ _ hR g hg).1
/-- share, both of the class's ways -/
theorem zg_share {n : Nat → Nat} {A : Nat → Nat → Int32} {io s0 : Nat → Int32} {m t : Int32} (hN : zf_N n) (h : zg_R (n 2) A) (hf : zg_fit n A io m t) {g : Nat} (hg : g < n 2) (hr : zf_runs A io g m) : A 7 g + zf_swr (ze_up (zf_stp A io m) s0 (n 2)) (n 2) g (t - zf_gs A io m (n 2)) = (zf_gives n A io m t).2 g := by
  rw [zg_swr hN h hf hg, zg_gv h hg, if_pos hr]
theorem zg_shareS {n : Nat → Nat} {A : Nat → Nat → Int32} {io s0 tk0 : Nat → Int32} {m t : Int32} (h : zg_R (n 2) A) {g : Nat} (hg : g < n 2) (hr : zf_runs A io g m) : A 7 g + zf_tlr n A io s0 tk0 m t g = (zf_gives n A io m t).2 g := by
  rw [zg_tlr h hg, zg_gv h hg, if_pos hr]
/-- what the generators give in a tick -/
theorem zg_row12 {n : Nat → Nat} {A : Nat → Nat → Int32} {io s0 : Nat → Int32} {m t : Int32} (hN : zf_N n) (h : zg_R (n 2) A) (hf : zg_fit n A io m t) : ze_up (zf_gvC A (zf_cs n A io s0 m) (n 2) io m (zf_cf n A io m t)) (A 12) (n 2) = (zf_gives n A io m t).2 := by
  funext g
  by_cases hg : g < n 2
  · have e : ze_up (zf_gvC A (zf_cs n A io s0 m) (n 2) io m (zf_cf n A io m t)) (A 12) (n 2) g = zf_gvC A (zf_cs n A io s0 m) (n 2) io m (zf_cf n A io m t) g := by simp [ze_up, hg]
    rw [e, zg_gv h hg]
    unfold zf_gvC zf_cs zf_cf
    rw [zg_swr hN h hf hg]
  · have e : ze_up (zf_gvC A (zf_cs n A io s0 m) (n 2) io m (zf_cf n A io m t)) (A 12) (n 2) g = A 12 g := by simp [ze_up, hg]
    rw [e, zf_giveshi n A io m t g (by omega)]
theorem zg_row10 {n : Nat → Nat} {A : Nat → Nat → Int32} {io s0 : Nat → Int32} {m t : Int32} (hN : zf_N n) (h : zg_R (n 2) A) (hf : zg_fit n A io m t) : ze_up (zf_gfC A (zf_cs n A io s0 m) (n 2) io m (zf_cf n A io m t)) (A 10) (n 2) = ze_up (zf_fuel A (zf_gives n A io m t).2 io m) (A 10) (n 2) := by
  funext g
  by_cases hg : g < n 2
  · have e : ∀ f : Nat → Int32, ze_up f (A 10) (n 2) g = f g := by
      intro f
      simp [ze_up, hg]
    rw [e, e]
    unfold zf_gfC zf_fuel zf_cs zf_cf
    by_cases q : zf_runs A io g m
    · rw [if_pos q, if_pos q, zg_swr hN h hf hg, zg_gv h hg, if_pos q]
    · rw [if_neg q, if_neg q, Int32.sub_zero]
  · have e : ∀ f : Nat → Int32, ze_up f (A 10) (n 2) g = A 10 g := by
      intro f
      simp [ze_up, hg]
    rw [e, e]
theorem zg_sum {n : Nat → Nat} {A : Nat → Nat → Int32} {io s0 : Nat → Int32} {m t : Int32} (hN : zf_N n) (h : zg_R (n 2) A) (hf : zg_fit n A io m t) : zf_cg n A io s0 m t = (zf_gives n A io m t).1 := by
  rw [(zg_givesE h).2]
  unfold zf_cg zf_gsC
  have key : ∀ k, k ≤ n 2 → ze_sum 0 (fun g => if zf_runs A io g m then A 7 g + zf_swr (zf_cs n A io s0 m) (n 2) g (zf_cf n A io m t) else 0) k = zf_gs A io m k + nI (zn_sum (zg_T n A io m t) k) := by
    intro k
    induction k with
    | zero => exact fun _ => rfl
    | succ k ih =>
      intro hk
      have e1 : zf_gs A io m (k + 1) = zf_gs A io m k + (if zf_runs A io k m then A 7 k else 0) := rfl
      rw [e1]
      simp only [ze_sum, zn_sum]
      rw [ih (by omega), ← nI_add]
      by_cases q : zf_runs A io k m
      · rw [if_pos q, if_pos q]
        unfold zf_cs zf_cf
        rw [zg_swr hN h hf (by omega : k < n 2)]
        rw [Int32.add_assoc, Int32.add_assoc]
        congr 1
        rw [← Int32.add_assoc, Int32.add_comm (nI _) (A 7 k), Int32.add_assoc]
      · have hT : zg_T n A io m t k = 0 := by
          have h1 := zg_Tle (io := io) (m := m) (t := t) (A := A) (n := n) (g := k) (by omega)
          have h2 : zg_S A io m k = 0 := by
            unfold zg_S
            rw [if_neg q]
          omega
        have e0 : nI 0 = (0 : Int32) := rfl
        rw [if_neg q, if_neg q, hT, e0, Int32.add_zero, Int32.add_zero, Int32.add_zero]
  exact key (n 2) (Nat.le_refl _)
