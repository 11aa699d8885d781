/-! ===== a balance, a tick: the net goes with the rows ===== -/
theorem xc_nsub (a b : Int32) : -(a - b) = -a - -b := by rw [Int32.sub_eq_add_neg a b, Int32.neg_add]
theorem xc_negle {y : Nat} (hy : y < 2 ^ 30) : -nI y ≤ 0 := by
  rw [Int32.le_iff_toInt_le, Int32.toInt_neg, nI_toInt (by omega)]
  have e0 : (0 : Int32).toInt = 0 := by decide
  rw [e0, Int.bmod_eq_of_le (by omega) (by omega)]
  omega
theorem xc_add64 {a b : Nat} (h : a + b < 2 ^ 31) : (nI a + nI b).toInt64 = (nI a).toInt64 + (nI b).toInt64 := by
  rw [nI_add, nI_l h, nI_l (by omega), nI_l (by omega), lN_add]
theorem xc_islc {N N2 : Nat → Int32} {L : Nat} (hL : L ≤ 8) (e : ∀ k, 20 ≤ k → k < 44 → N2 k = N k) (s : Nat) : xa_isl N2 L s = xa_isl N L s := by
  have h1 : ∀ t i, i ≤ L → xa_in N2 t i = xa_in N t i := by
    intro t i
    induction i with
    | zero => exact fun _ => rfl
    | succ i ih =>
      intro hi
      simp only [xa_in, ih (by omega), e _ (show 20 ≤ 3 * i + 22 by omega) (show 3 * i + 22 < 44 by omega), e _ (show 20 ≤ 3 * i + 20 by omega) (show 3 * i + 20 < 44 by omega), e _ (show 20 ≤ 3 * i + 21 by omega) (show 3 * i + 21 < 44 by omega)]
  have h2 : ∀ t r, xa_rs N2 L t r = xa_rs N L t r := by
    intro t r
    induction r with
    | zero => rfl
    | succ r ih =>
      show xa_in N2 (xa_rs N2 L t r) L = xa_in N (xa_rs N L t r) L
      rw [ih, h1 _ L (Nat.le_refl _)]
  unfold xa_isl
  rw [h2]
section XC6
variable {n : Nat → Nat} {A : Nat → Nat → Int32} {B : Nat → Int64} {N : Nat → Int32}
/-- behind i generators -/
theorem xc_gN (h : xc_K n A B N) {m : Nat} (hm : m < 6) (sh : Nat → Int32) : ∀ i, i ≤ n 2 →
    (∀ k, k ≠ 200 → (∀ g, g < i → k ≠ 9 * g + 57 ∧ k ≠ 9 * g + 54) → xa_gN (n 1) m sh N i k = N k) ∧
    (∀ g, g < i → xa_gN (n 1) m sh N i (9 * g + 57) = (if zf_runs A (zf_CI n A) g (nI m) then sh g else N (9 * g + 57)) ∧ xa_gN (n 1) m sh N i (9 * g + 54) = N (9 * g + 54) - (if zf_runs A (zf_CI n A) g (nI m) then sh g else 0)) ∧
    xa_gN (n 1) m sh N i 200 = N 200 + ze_sum 0 (fun g => if zf_runs A (zf_CI n A) g (nI m) then sh g else 0) i ∧
    ∀ d, xa_gL (n 1) m sh N d i = d - ze_sum 0 (fun g => if zf_runs A (zf_CI n A) g (nI m) then sh g else 0) i := by
  obtain ⟨hn0, hn1, hn2, hn3, hn4⟩ := id h.1
  intro i
  induction i with
  | zero =>
    intro _
    refine ⟨fun _ _ _ => rfl, fun g hg => absurd hg (Nat.not_lt_zero _), ?_, fun d => ?_⟩
    · show N 200 = N 200 + 0
      rw [Int32.add_zero]
    · show d = d - 0
      rw [Int32.sub_zero]
  | succ i ih =>
    intro hi
    obtain ⟨i1, i2, i3, i4⟩ := ih (by omega)
    have hrn : xa_rn (xa_gN (n 1) m sh N i) (n 1) m i ↔ zf_runs A (zf_CI n A) i (nI m) := by
      rw [← xc_rn h (by omega) hm]
      unfold xa_rn
      rw [xc_islc hn1 (fun k _ _ => i1 k (by omega) (fun g _ => by omega)), i1 (9 * i + 55) (by omega) (fun g _ => by omega), i1 (9 * i + 50) (by omega) (fun g _ => by omega)]
    have e57 := i1 (9 * i + 57) (by omega) (fun g _ => by omega)
    have e54 := i1 (9 * i + 54) (by omega) (fun g _ => by omega)
    have eM : xa_gN (n 1) m sh N (i + 1) = upd (upd (upd (xa_gN (n 1) m sh N i) (9 * i + 57) (if zf_runs A (zf_CI n A) i (nI m) then sh i else N (9 * i + 57))) (9 * i + 54) (N (9 * i + 54) - (if zf_runs A (zf_CI n A) i (nI m) then sh i else 0))) 200 (xa_gN (n 1) m sh N i 200 + (if zf_runs A (zf_CI n A) i (nI m) then sh i else 0)) := by
      simp only [xa_gN, xa_gv]
      by_cases c : zf_runs A (zf_CI n A) i (nI m)
      · rw [if_pos (hrn.mpr c), if_pos c, if_pos c, e54]
      · rw [if_neg (fun z => c (hrn.mp z)), if_neg c, if_neg c, e54, e57]
    refine ⟨fun k hk hg => ?_, fun g hg => ?_, ?_, fun d => ?_⟩
    · have z := hg i (by omega)
      rw [eM, xb_un hk, xb_un z.2, xb_un z.1]
      exact i1 k hk (fun g hgi => hg g (by omega))
    · by_cases e : g = i
      · subst e
        refine ⟨?_, ?_⟩
        · rw [eM, xb_un (by omega), xb_un (by omega), pk_us]
        · rw [eM, xb_un (by omega), pk_us]
      · obtain ⟨z1, z2⟩ := i2 g (by omega)
        refine ⟨?_, ?_⟩
        · rw [eM, xb_un (by omega), xb_un (by omega), xb_un (by omega)]
          exact z1
        · rw [eM, xb_un (by omega), xb_un (by omega), xb_un (by omega)]
          exact z2
    · rw [eM, pk_us, i3, Int32.add_assoc]
      rfl
    · show xa_gL (n 1) m sh N d i - (if xa_rn (xa_gN (n 1) m sh N i) (n 1) m i then sh i else 0) = d - (ze_sum 0 _ i + (if zf_runs A (zf_CI n A) i (nI m) then sh i else 0))
      rw [i4 d, xc_sub3]
      congr 2
      exact xc_ifc hrn rfl rfl
/-- behind i stores: lf is what is left, o what each one moves -/
theorem xc_tS (h : xc_K n A B N) {m : Nat} (hm : m < 6) {N2 : Nat → Int32} (hN2 : ∀ k, (20 ≤ k ∧ k < 44) ∨ (110 ≤ k ∧ k < 134) → N2 k = N k) {lf o : Nat → Int32}
    (h1 : ∀ j, j < n 3 → zf_CI n A (ze_ix (A 14 j)) = nI m → (if lf j ≤ 0 then -ze_mn (-lf j) (ze_mn (A 16 j) (A 15 j - A 17 j)) else ze_mn (lf j) (ze_mn (A 16 j) (A 17 j))) = o j ∧ lf (j + 1) = lf j - o j)
    (h2 : ∀ j, j < n 3 → ¬ zf_CI n A (ze_ix (A 14 j)) = nI m → lf (j + 1) = lf j) : ∀ i, i ≤ n 3 →
    (∀ k, (∀ j, j < i → k ≠ 6 * j + 113 ∧ k ≠ 6 * j + 114) → (xa_tS (n 1) m N2 (lf 0) i).1 k = N2 k) ∧
    (∀ j, j < i → (xa_tS (n 1) m N2 (lf 0) i).1 (6 * j + 113) = (if zf_CI n A (ze_ix (A 14 j)) = nI m then A 17 j - o j else A 17 j) ∧ (xa_tS (n 1) m N2 (lf 0) i).1 (6 * j + 114) = (if zf_CI n A (ze_ix (A 14 j)) = nI m then o j else A 18 j)) ∧
    (xa_tS (n 1) m N2 (lf 0) i).2 = lf i := by
  obtain ⟨hn0, hn1, hn2, hn3, hn4⟩ := id h.1
  intro i
  induction i with
  | zero => exact fun _ => ⟨fun _ _ => rfl, fun j hj => absurd hj (Nat.not_lt_zero _), rfl⟩
  | succ i ih =>
    intro hi
    obtain ⟨i1, i2, i3⟩ := ih (by omega)
    obtain ⟨t1, t2, t3⟩ := h.2.2.2.2.2.2.2.2.2.2.1.1 i (by omega)
    obtain ⟨t4, t5⟩ := h.2.2.2.2.2.2.2.2.2.2.1.2 i (by omega)
    have f0 : (xa_tS (n 1) m N2 (lf 0) i).1 (6 * i + 110) = A 14 i := by rw [i1 _ (fun j _ => by omega), hN2 _ (by omega), t1]
    have f1 : (xa_tS (n 1) m N2 (lf 0) i).1 (6 * i + 111) = A 15 i := by rw [i1 _ (fun j _ => by omega), hN2 _ (by omega), t2]
    have f2 : (xa_tS (n 1) m N2 (lf 0) i).1 (6 * i + 112) = A 16 i := by rw [i1 _ (fun j _ => by omega), hN2 _ (by omega), t3]
    have f3 : (xa_tS (n 1) m N2 (lf 0) i).1 (6 * i + 113) = A 17 i := by rw [i1 _ (fun j _ => by omega), hN2 _ (by omega), t4]
    have f4 : (xa_tS (n 1) m N2 (lf 0) i).1 (6 * i + 114) = A 18 i := by rw [i1 _ (fun j _ => by omega), hN2 _ (by omega), t5]
    have fi : xa_isl (xa_tS (n 1) m N2 (lf 0) i).1 (n 1) (ze_ix (A 14 i)) = m ↔ zf_CI n A (ze_ix (A 14 i)) = nI m := by
      rw [xc_islc hn1 (fun k k1 k2 => by rw [i1 k (fun j _ => by omega), hN2 k (by omega)]), xc_is h (xc_ix h (h.2.1.2.2.1 i (by omega))) hm]
    by_cases c : zf_CI n A (ze_ix (A 14 i)) = nI m
    · obtain ⟨g1, g2⟩ := h1 i (by omega) c
      have eO : xa_out (xa_tS (n 1) m N2 (lf 0) i).1 (xa_tS (n 1) m N2 (lf 0) i).2 i = o i := by
        unfold xa_out
        rw [i3, f1, f2, f3]
        exact g1
      have eT : xa_tS (n 1) m N2 (lf 0) (i + 1) = (upd (upd (xa_tS (n 1) m N2 (lf 0) i).1 (6 * i + 113) (A 17 i - o i)) (6 * i + 114) (o i), lf (i + 1)) := by
        simp only [xa_tS]
        rw [f0, if_pos (fi.mpr c), eO, f3, i3, g2]
      refine ⟨fun k hk => ?_, fun j hj => ?_, by rw [eT]⟩
      · have z := hk i (by omega)
        rw [eT]
        show upd (upd _ _ _) _ _ k = _
        rw [xb_un z.2, xb_un z.1]
        exact i1 k (fun j hj => hk j (by omega))
      · rw [eT]
        show upd (upd _ _ _) _ _ (6 * j + 113) = _ ∧ upd (upd _ _ _) _ _ (6 * j + 114) = _
        by_cases e : j = i
        · subst e
          rw [xb_un (by omega), pk_us, pk_us, if_pos c, if_pos c]
          exact ⟨rfl, rfl⟩
        · rw [xb_un (by omega), xb_un (by omega), xb_un (by omega), xb_un (by omega)]
          exact i2 j (by omega)
    · have eT : xa_tS (n 1) m N2 (lf 0) (i + 1) = xa_tS (n 1) m N2 (lf 0) i := by
        simp only [xa_tS]
        rw [f0, if_neg (fun z => c (fi.mp z))]
      refine ⟨fun k hk => ?_, fun j hj => ?_, ?_⟩
      · rw [eT]
        exact i1 k (fun j hj => hk j (by omega))
      · rw [eT]
        by_cases e : j = i
        · subst e
          rw [f3, f4, if_neg c, if_neg c]
          exact ⟨rfl, rfl⟩
        · exact i2 j (by omega)
      · rw [eT, i3, h2 i (by omega) c]
end XC6
/-- the net behind a balance, place by place -/
def xc_V (n : Nat → Nat) (A : Nat → Nat → Int32) (m : Int32) (d : Int32) : Nat → Int32 := fun g => if zf_runs A (zf_CI n A) g m then (zf_gives n A (zf_CI n A) m d).2 g else 0
section XC7
variable {n : Nat → Nat} {A : Nat → Nat → Int32} {B : Nat → Int64} {N : Nat → Int32}
/-- one island: from the shed loads on (A, N: behind the shedding) -/
theorem xc_fin (h : xc_K n A B N) {m f c : Nat} (hm : m < 6) (hF : ∀ g, g < n 2 → zf_runs A (zf_CI n A) g (nI m) → A 7 g ≤ A 10 g)
    (hlit : ∀ k, k < n 4 → zf_CI n A (ze_ix (A 19 k)) = nI m → A 5 k = 0 → zf_keeps n A (zf_CI n A) k) (hY : xc_Y n A N f c) (hf : f < 2 ^ 30) (hc : c < 2 ^ 30) :
    xc_R n (zf_bA n A (zf_CI n A) (nI m)) (zf_bB n A B (zf_CI n A) (nI m)) (xa_fin m (xa_tS (n 1) m (upd (xa_gN (n 1) m (xa_sh n N m (xa_dm N (n 1) m (n 4))) N (n 2)) 201 (xa_gN (n 1) m (xa_sh n N m (xa_dm N (n 1) m (n 4))) N (n 2) 201 + xa_dm N (n 1) m (n 4))) (xa_gL (n 1) m (xa_sh n N m (xa_dm N (n 1) m (n 4))) N (xa_dm N (n 1) m (n 4)) (n 2)) (n 3))) ∧
    xc_Y n (zf_bA n A (zf_CI n A) (nI m)) (xa_fin m (xa_tS (n 1) m (upd (xa_gN (n 1) m (xa_sh n N m (xa_dm N (n 1) m (n 4))) N (n 2)) 201 (xa_gN (n 1) m (xa_sh n N m (xa_dm N (n 1) m (n 4))) N (n 2) 201 + xa_dm N (n 1) m (n 4))) (xa_gL (n 1) m (xa_sh n N m (xa_dm N (n 1) m (n 4))) N (xa_dm N (n 1) m (n 4)) (n 2)) (n 3))) f (c + 2000) := by
  obtain ⟨hn0, hn1, hn2, hn3, hn4⟩ := id h.1
  obtain ⟨P, hK⟩ := h.2.2.2.2.2.1
  obtain ⟨q1, q2, q3, q4, q5, q6, q7⟩ := h.2.2.2.2.2.2
  obtain ⟨d, ed, ld⟩ := zh_dm (io := zf_CI n A) (m := nI m) h.1 hK.2.2.1
  have eD : xa_dm N (n 1) m (n 4) = nI d := (xc_dm h hm).trans ed
  have eDm : zf_dm n A (zf_CI n A) (nI m) = nI d := ed
  obtain ⟨q, eq, lq⟩ := zh_gr (io := zf_CI n A) (m := nI m) (t := nI d) h.1 hK.1
  have eGr : zf_gr n A (zf_CI n A) (nI m) = zf_gives n A (zf_CI n A) (nI m) (nI d) := by
    unfold zf_gr
    rw [eDm]
  rw [eD]
  -- the generators
  obtain ⟨g1, g2, g3, g4⟩ := xc_gN h hm (xa_sh n N m (nI d)) (n 2) (Nat.le_refl _)
  have hsh : ∀ g, g < n 2 → xa_sh n N m (nI d) g = if zf_runs A (zf_CI n A) g (nI m) then (zf_gives n A (zf_CI n A) (nI m) (nI d)).2 g else 0 := fun g hg => xc_sh h hm (by omega) hg
  have esum : ze_sum 0 (fun g => if zf_runs A (zf_CI n A) g (nI m) then xa_sh n N m (nI d) g else 0) (n 2) = nI q := by
    rw [← eq, xc_made hK.1 (nI d)]
    refine xc_sum (n 2) (fun g hg => ?_)
    show (if zf_runs A (zf_CI n A) g (nI m) then xa_sh n N m (nI d) g else 0) = _
    rw [hsh g hg]
    split <;> rfl
  rw [esum] at g3
  have g4 : xa_gL (n 1) m (xa_sh n N m (nI d)) N (nI d) (n 2) = nI d - nI q := by rw [g4, esum]
  rw [g4]
  generalize hG : xa_gN (n 1) m (xa_sh n N m (nI d)) N (n 2) = NG at g1 g2 g3 ⊢
  have u201 : NG 201 = N 201 := g1 201 (by omega) (fun g _ => by omega)
  rw [u201]
  generalize hN2 : upd NG 201 (N 201 + nI d) = N2
  have w0 : ∀ k, k ≠ 201 → N2 k = NG k := fun k hk => by rw [← hN2, xb_un hk]
  have w1 : ∀ k, (20 ≤ k ∧ k < 44) ∨ (110 ≤ k ∧ k < 134) → N2 k = N k := fun k hk => by
    rw [w0 k (by omega)]
    exact g1 k (by omega) (fun g _ => by omega)
  have w201 : N2 201 = N 201 + nI d := by rw [← hN2, pk_us]
  have w200 : N2 200 = N 200 + nI q := by rw [w0 200 (by omega), g3]
  -- what is left, and the stores
  obtain ⟨hyd, hd9, ⟨r, lr, er⟩, hfu, ⟨x0, lx0, ex0⟩, ⟨x1, lx1, ex1⟩, ⟨x2, lx2, ex2⟩⟩ := hY
  have key : ∃ (NF : Nat → Int32) (lf : Int32), xa_tS (n 1) m N2 (nI d - nI q) (n 3) = (NF, lf) ∧
      (∀ k, (∀ j, j < n 3 → k ≠ 6 * j + 113 ∧ k ≠ 6 * j + 114) → NF k = N2 k) ∧
      (∀ j, j < n 3 → NF (6 * j + 113) = zf_bA n A (zf_CI n A) (nI m) 17 j ∧ NF (6 * j + 114) = zf_bA n A (zf_CI n A) (nI m) 18 j) ∧
      zf_bA n A (zf_CI n A) (nI m) 31 0 = A 31 0 + (if zf_tied A (nI m) then lf else 0) ∧
      ∃ e : Nat, e ≤ 1800 ∧ (¬ zf_tied A (nI m) → -lf = nI e) ∧ zf_bB n A B (zf_CI n A) (nI m) 35 = B 35 + (if zf_tied A (nI m) then 0 else (nI e).toInt64) := by
    have b17 : ∀ j, zf_bA n A (zf_CI n A) (nI m) 17 j = ze_up (zf_chg A (zf_CI n A) (nI m) (zf_lk n A (zf_CI n A) (nI m)) (zf_ov n A (zf_CI n A) (nI m))) (A 17) (n 3) j := fun _ => rfl
    have b18 : ∀ j, zf_bA n A (zf_CI n A) (nI m) 18 j = ze_up (zf_flow A (zf_CI n A) (nI m) (zf_lk n A (zf_CI n A) (nI m)) (zf_ov n A (zf_CI n A) (nI m))) (A 18) (n 3) j := fun _ => rfl
    have b31 : zf_bA n A (zf_CI n A) (nI m) 31 0 = A 31 0 + (zf_z n A (zf_CI n A) (nI m) (n 3)).1 - (if zf_tied A (nI m) then (zf_z n A (zf_CI n A) (nI m) (n 3)).2 else 0) := rfl
    have b35 : zf_bB n A B (zf_CI n A) (nI m) 35 = B 35 + (if zf_tied A (nI m) then 0 else (zf_z n A (zf_CI n A) (nI m) (n 3)).2.toInt64) := rfl
    have elk : zf_lk n A (zf_CI n A) (nI m) = nI (d - q) := by
      unfold zf_lk
      rw [eDm, eGr, eq, zn_mxs (by omega) (by omega)]
    have eov : zf_ov n A (zf_CI n A) (nI m) = nI (q - d) := by
      unfold zf_ov
      rw [eDm, eGr, eq, zn_mxs (by omega) (by omega)]
    rcases Nat.lt_or_ge q d with hlt | hge
    · -- they lack something
      have e0 : nI (q - d) = 0 := by
        rw [show q - d = 0 by omega]
        rfl
      rw [e0] at eov
      rw [elk, eov] at b17 b18
      obtain ⟨zl1, zl2⟩ := zg_lack (io := zf_CI n A) (m := nI m) (lk := nI (d - q)) hK.2.1
      have hz : zf_z n A (zf_CI n A) (nI m) (n 3) = (zf_dc A (zf_CI n A) (nI m) (nI (d - q)) (n 3), 0) := by
        unfold zf_z
        rw [elk, eov, zg_bl1 hK.2.1 (n 3) (Nat.le_refl _)]
      rw [hz] at b31 b35
      obtain ⟨t1, t2, t3⟩ := xc_tS h hm w1 (lf := zf_dc A (zf_CI n A) (nI m) (nI (d - q))) (o := fun j => ze_mn (zf_dc A (zf_CI n A) (nI m) (nI (d - q)) j) (ze_mn (A 16 j) (A 17 j))) (fun j hj cj => by
          refine ⟨?_, by simp only [zf_dc]; rw [if_pos cj]⟩
          obtain ⟨y, z, ey, -, ly0, -⟩ := xc_dcN (io := zf_CI n A) (m := nI m) hK.2.1 (x := d - q) (by omega) j (by omega)
          obtain ⟨u, v, e3, e4, c1, c2⟩ := zg_RTs hK.2.1 hj
          have ly : y < 2 ^ 30 := by omega
          rw [e3, e4, ey]
          by_cases hy : nI y ≤ 0
          · rw [if_pos hy]
            have ly2 : ¬ 0 < y := fun z => nI_nle z (by omega) hy
            have y0 : y = 0 := by omega
            subst y0
            have n0 : -nI 0 = nI 0 := by decide
            rw [n0, zf_mnN (by omega) (by omega), zf_mnN (by omega) (by omega), Nat.zero_min, Nat.zero_min]
            exact n0
          · rw [if_neg hy]) (fun j hj cj => by simp only [zf_dc]; rw [if_neg cj]) (n 3) (Nat.le_refl _)
      have el0 : zf_dc A (zf_CI n A) (nI m) (nI (d - q)) 0 = nI d - nI q := (zn_sub (by omega) (by omega)).symm
      rw [el0] at t1 t2 t3
      obtain ⟨y, z, ey, ez, ly1, ly2, ly3, ly4, ly5⟩ := xc_dcN (io := zf_CI n A) (m := nI m) hK.2.1 (x := d - q) (by omega) (n 3) (Nat.le_refl _)
      have hnone : ¬ zf_tied A (nI m) → zf_dc A (zf_CI n A) (nI m) (nI (d - q)) (n 3) = 0 := fun ct => by
        obtain ⟨sg, esg, lsg⟩ : ∃ sG : Nat, zf_supG A (zf_CI n A) (nI m) 0 (n 2) = nI sG ∧ sG ≤ 200 * n 2 := zh_sum0 (f := fun g => if zf_runs A (zf_CI n A) g (nI m) then ze_mn (A 8 g) (A 10 g) else 0) (n 2) (fun g hg => by
          obtain ⟨le, cc, e7, ec, -, l2⟩ := zg_can hK.1 hg
          show ∃ j, (if zf_runs A (zf_CI n A) g (nI m) then zf_can A g else 0) = nI j ∧ j ≤ 200
          split
          · exact ⟨cc, ec, l2⟩
          · exact ⟨0, rfl, by omega⟩)
        have hb : zf_bounded n A (zf_CI n A) (nI m) = nI (sg + z - r) := by
          rw [zf_bounded_eq, esg, ez, er, nI_add, zn_mxs (by omega) (by omega)]
        have hdb := xc_lit hK.2.2.1 A hlit ct hb (by omega) rfl rfl ed (by omega) hn4
        have hfull := xc_full2 h.1 hK.1 (by omega) eq lq hlt esg (by omega)
        rw [ey, ly5 (by omega)]
        rfl
      refine ⟨_, _, rfl, t1, fun j hj => ?_, ?_, 0, by omega, fun hnt => ?_, ?_⟩
      · obtain ⟨s1, s2⟩ := t2 j hj
        rw [b17 j, b18 j, zl1, zl2, s1, s2]
        unfold ze_up
        rw [if_pos hj, if_pos hj]
        exact ⟨rfl, rfl⟩
      · rw [b31, t3]
        by_cases ct : zf_tied A (nI m)
        · rw [if_pos ct, if_pos ct, Int32.sub_zero]
        · rw [if_neg ct, if_neg ct, Int32.sub_zero]
          show A 31 0 + zf_dc A (zf_CI n A) (nI m) (nI (d - q)) (n 3) = A 31 0 + 0
          rw [hnone ct]
      · rw [t3, hnone hnt]
        decide
      · rw [b35]
        rfl
    · -- they give enough
      have e0 : nI (d - q) = 0 := by
        rw [show d - q = 0 by omega]
        rfl
      rw [e0] at elk
      rw [elk, eov] at b17 b18
      obtain ⟨zl1, zl2⟩ := zg_over (io := zf_CI n A) (m := nI m) (ov := nI (q - d)) hK.2.1
      have hz : zf_z n A (zf_CI n A) (nI m) (n 3) = (0, zf_cc A (zf_CI n A) (nI m) (nI (q - d)) (n 3)) := by
        unfold zf_z
        rw [elk, eov, zg_bl0 hK.2.1 (n 3) (Nat.le_refl _)]
      rw [hz] at b31 b35
      obtain ⟨t1, t2, t3⟩ := xc_tS h hm w1 (lf := fun j => -zf_cc A (zf_CI n A) (nI m) (nI (q - d)) j) (o := fun j => -ze_mn (zf_cc A (zf_CI n A) (nI m) (nI (q - d)) j) (ze_mn (A 16 j) (A 15 j - A 17 j))) (fun j hj cj => by
          refine ⟨?_, ?_⟩
          · obtain ⟨y, ey, ly⟩ := xc_ccN (io := zf_CI n A) (m := nI m) hK.2.1 (x := q - d) (by omega) j (by omega)
            show (if -zf_cc A (zf_CI n A) (nI m) (nI (q - d)) j ≤ 0 then _ else _) = _
            rw [if_pos (by rw [ey]; exact xc_negle (by omega)), Int32.neg_neg]
          · show -zf_cc A (zf_CI n A) (nI m) (nI (q - d)) (j + 1) = _
            simp only [zf_cc]
            rw [if_pos cj, xc_nsub]) (fun j hj cj => by
          show -zf_cc A (zf_CI n A) (nI m) (nI (q - d)) (j + 1) = _
          simp only [zf_cc]
          rw [if_neg cj]) (n 3) (Nat.le_refl _)
      have el0 : -zf_cc A (zf_CI n A) (nI m) (nI (q - d)) 0 = nI d - nI q := by
        show -nI (q - d) = nI d - nI q
        rw [← zn_sub hge (by omega), Int32.neg_sub]
      rw [el0] at t1 t2 t3
      obtain ⟨y, ey, ly⟩ := xc_ccN (io := zf_CI n A) (m := nI m) hK.2.1 (x := q - d) (by omega) (n 3) (Nat.le_refl _)
      refine ⟨_, _, rfl, t1, fun j hj => ?_, ?_, y, by omega, fun hnt => ?_, ?_⟩
      · obtain ⟨s1, s2⟩ := t2 j hj
        rw [b17 j, b18 j, zl1, zl2, s1, s2]
        unfold ze_up
        rw [if_pos hj, if_pos hj]
        exact ⟨rfl, rfl⟩
      · rw [b31, t3]
        by_cases ct : zf_tied A (nI m)
        · rw [if_pos ct, if_pos ct, Int32.sub_eq_add_neg, Int32.add_zero]
        · rw [if_neg ct, if_neg ct, Int32.sub_zero]
      · rw [t3]
        show - -zf_cc A (zf_CI n A) (nI m) (nI (q - d)) (n 3) = nI y
        rw [Int32.neg_neg, ey]
      · rw [b35, ey]
  obtain ⟨NF, lf, eTS, k1, k2, k31, e, le, hlf, k35⟩ := key
  rw [eTS]
  have nf : ∀ k, k ≠ 200 → k ≠ 201 → (∀ g, g < n 2 → k ≠ 9 * g + 57 ∧ k ≠ 9 * g + 54) → (∀ j, j < n 3 → k ≠ 6 * j + 113 ∧ k ≠ 6 * j + 114) → NF k = N k := fun k z1 z2 z3 z4 => by
    rw [k1 k z4, w0 k z2]
    exact g1 k z1 z3
  have e8 : (m = 0 ∧ NF 8 = 1) ↔ zf_tied A (nI m) := by
    have e0 : nI m = 0 ↔ m = 0 := nI_eq (b := 0) (by omega) (by decide)
    rw [nf 8 (by omega) (by omega) (fun g _ => by omega) (fun j _ => by omega), xc_td h]
    unfold zf_tied
    rw [e0]
    exact And.comm
  have eF : xa_fin m (NF, lf) = upd (upd NF 9 (N 9 + (if zf_tied A (nI m) then lf else 0))) 202 (N 202 + (if zf_tied A (nI m) then 0 else -lf)) := by
    unfold xa_fin
    have n9 : NF 9 = N 9 := nf 9 (by omega) (by omega) (fun g _ => by omega) (fun j _ => by omega)
    have n202 : NF 202 = N 202 := nf 202 (by omega) (by omega) (fun g _ => by omega) (fun j _ => by omega)
    show (if m = 0 ∧ NF 8 = 1 then upd (upd NF 9 (NF 9 + lf)) 202 (NF 202 + 0) else upd (upd NF 9 (NF 9 + 0)) 202 (NF 202 + -lf)) = _
    rw [n9, n202]
    by_cases ct : zf_tied A (nI m)
    · rw [if_pos (e8.mpr ct), if_pos ct, if_pos ct]
    · rw [if_neg (fun z => ct (e8.mp z)), if_neg ct, if_neg ct]
  rw [eF]
  generalize hFF : upd (upd NF 9 (N 9 + (if zf_tied A (nI m) then lf else 0))) 202 (N 202 + (if zf_tied A (nI m) then 0 else -lf)) = FF
  have ff : ∀ k, k ≠ 9 → k ≠ 202 → FF k = NF k := fun k z1 z2 => by rw [← hFF, xb_un z2, xb_un z1]
  have ff9 : FF 9 = N 9 + (if zf_tied A (nI m) then lf else 0) := by rw [← hFF, xb_un (by omega), pk_us]
  have ff202 : FF 202 = N 202 + (if zf_tied A (nI m) then 0 else -lf) := by rw [← hFF, pk_us]
  have same : ∀ k, k ≠ 9 → k < 200 → (∀ g, g < n 2 → k ≠ 9 * g + 57 ∧ k ≠ 9 * g + 54) → (∀ j, j < n 3 → k ≠ 6 * j + 113 ∧ k ≠ 6 * j + 114) → FF k = N k := fun k z1 z2 z3 z4 => by
    rw [ff k z1 (by omega)]
    exact nf k (by omega) (by omega) z3 z4
  have n200 : FF 200 = N 200 + nI q := by rw [ff 200 (by omega) (by omega), k1 200 (fun j _ => by omega), w200]
  have n201 : FF 201 = N 201 + nI d := by rw [ff 201 (by omega) (by omega), k1 201 (fun j _ => by omega), w201]
  have f54 : ∀ g, g < n 2 → FF (9 * g + 54) = zf_bA n A (zf_CI n A) (nI m) 10 g := fun g hg => by
    rw [ff _ (by omega) (by omega), k1 _ (fun j _ => by omega), w0 _ (by omega), (g2 g hg).2, zh_f10 hg, eGr, (q4.1 g hg).2.2.2.2.1, hsh g hg]
    congr 1
    split <;> rfl
  have f57 : ∀ g, g < 6 → FF (9 * g + 57) = zf_bA n A (zf_CI n A) (nI m) 12 g := fun g hg => by
    have b12 : zf_bA n A (zf_CI n A) (nI m) 12 g = (zf_gr n A (zf_CI n A) (nI m)).2 g := rfl
    rw [ff _ (by omega) (by omega), k1 _ (fun j _ => by omega), w0 _ (by omega), b12, eGr]
    rcases Nat.lt_or_ge g (n 2) with hg2 | hg2
    · rw [(g2 g hg2).1, zg_gv hK.1 hg2, hsh g hg2, zg_gv hK.1 hg2, (q4.2.1 g hg).2]
      split <;> rfl
    · rw [zf_giveshi n A (zf_CI n A) (nI m) (nI d) g hg2, g1 _ (by omega) (fun g' _ => by omega)]
      exact (q4.2.1 g hg).2
  have e202 : FF 202 = N 202 + (if zf_tied A (nI m) then 0 else nI e) := by
    rw [ff202]
    congr 1
    by_cases ct : zf_tied A (nI m)
    · rw [if_pos ct, if_pos ct]
    · rw [if_neg ct, if_neg ct, hlf ct]
  refine ⟨⟨xc_cC q1 (fun k hk => same k (by omega) (by omega) (fun g _ => by omega) (fun j _ => by omega)), ⟨⟨?_, ?_, ?_, ?_, ?_⟩, fun i hi => ?_⟩, xc_lC hn1 q3 ⟨rfl, rfl, rfl⟩ (fun k z1 z2 => same k (by omega) (by omega) (fun g _ => by omega) (fun j _ => by omega)), ⟨fun g hg => ?_, fun g hg => ?_, fun g hg z => ?_⟩, ⟨fun k hk => ?_, fun k hk => ?_⟩, xc_dC hn4 q6 ⟨rfl, rfl, rfl, rfl, rfl⟩ (fun k z1 z2 => same k (by omega) (by omega) (fun g _ => by omega) (fun j _ => by omega)), ⟨?_, ?_, ?_⟩⟩, ⟨hyd, hd9, ⟨r, lr, er⟩, fun g hg => ?_, ⟨x0 + q, by omega, by rw [n200, ex0, nI_add]⟩, ⟨x1 + d, by omega, by rw [n201, ex1, nI_add]⟩, ?_⟩⟩
  · exact (same 5 (by omega) (by omega) (fun g _ => by omega) (fun j _ => by omega)).trans q2.1.1
  · exact (same 6 (by omega) (by omega) (fun g _ => by omega) (fun j _ => by omega)).trans q2.1.2.1
  · exact (same 7 (by omega) (by omega) (fun g _ => by omega) (fun j _ => by omega)).trans q2.1.2.2.1
  · exact (same 8 (by omega) (by omega) (fun g _ => by omega) (fun j _ => by omega)).trans q2.1.2.2.2.1
  · rw [ff9, k31, q2.1.2.2.2.2]
  · exact (same (i + 10) (by omega) (by omega) (fun g _ => by omega) (fun j _ => by omega)).trans (q2.2 i hi)
  · obtain ⟨s0, s1, s2, s3, s4, s5⟩ := q4.1 g hg
    exact ⟨(same _ (by omega) (by omega) (fun g _ => by omega) (fun j _ => by omega)).trans s0, (same _ (by omega) (by omega) (fun g _ => by omega) (fun j _ => by omega)).trans s1, (same _ (by omega) (by omega) (fun g _ => by omega) (fun j _ => by omega)).trans s2, (same _ (by omega) (by omega) (fun g _ => by omega) (fun j _ => by omega)).trans s3, f54 g hg, (same _ (by omega) (by omega) (fun g _ => by omega) (fun j _ => by omega)).trans s5⟩
  · exact ⟨(same _ (by omega) (by omega) (fun g _ => by omega) (fun j _ => by omega)).trans (q4.2.1 g hg).1, f57 g hg⟩
  · exact (same _ (by omega) (by omega) (fun g _ => by omega) (fun j _ => by omega)).trans (q4.2.2 g hg z)
  · obtain ⟨s0, s1, s2⟩ := q5.1 k hk
    exact ⟨(same _ (by omega) (by omega) (fun g _ => by omega) (fun j _ => by omega)).trans s0, (same _ (by omega) (by omega) (fun g _ => by omega) (fun j _ => by omega)).trans s1, (same _ (by omega) (by omega) (fun g _ => by omega) (fun j _ => by omega)).trans s2⟩
  · rcases Nat.lt_or_ge k (n 3) with hk3 | hk3
    · obtain ⟨s0, s1⟩ := k2 k hk3
      rw [ff _ (by omega) (by omega), ff _ (by omega) (by omega)]
      exact ⟨s0, s1⟩
    · obtain ⟨s0, s1⟩ := q5.2 k hk
      refine ⟨((same _ (by omega) (by omega) (fun g _ => by omega) (fun j _ => by omega)).trans s0).trans ?_, ((same _ (by omega) (by omega) (fun g _ => by omega) (fun j _ => by omega)).trans s1).trans ?_⟩
      · exact (zh_upz (f := zf_chg A (zf_CI n A) (nI m) (zf_lk n A (zf_CI n A) (nI m)) (zf_ov n A (zf_CI n A) (nI m))) (g := A 17) hk3).symm
      · exact (zh_upz (f := zf_flow A (zf_CI n A) (nI m) (zf_lk n A (zf_CI n A) (nI m)) (zf_ov n A (zf_CI n A) (nI m))) (g := A 18) hk3).symm
  · have b33 : zf_bB n A B (zf_CI n A) (nI m) 33 = B 33 + (zf_gr n A (zf_CI n A) (nI m)).1.toInt64 := rfl
    rw [b33, eGr, eq, n200, q7.1, ex0, xc_add64 (by omega)]
  · have b34 : zf_bB n A B (zf_CI n A) (nI m) 34 = B 34 + (zf_dm n A (zf_CI n A) (nI m)).toInt64 := rfl
    rw [b34, eDm, n201, q7.2.1, ex1, xc_add64 (by omega)]
  · rw [k35, e202, q7.2.2, ex2]
    by_cases ct : zf_tied A (nI m)
    · rw [if_pos ct, if_pos ct, Int32.add_zero, Int64.add_zero]
    · rw [if_neg ct, if_neg ct, xc_add64 (by omega)]
  · obtain ⟨x, lx, ex⟩ := hfu g hg
    rw [zh_f10 hg, eGr]
    by_cases cr : zf_runs A (zf_CI n A) g (nI m)
    · rw [if_pos cr, zg_gv hK.1 hg, if_pos cr]
      obtain ⟨le', gr, fu, e7, e8', e10, l1, l2, l3, l4⟩ := hK.1 g hg
      have hle := hF g hg cr
      rw [e7, e10, nI_leI (by omega) (by omega)] at hle
      have hT := zg_Tle (n := n) (A := A) (io := zf_CI n A) (m := nI m) (t := nI d) hg
      have hS : zg_S A (zf_CI n A) (nI m) g = min gr fu - le' := by
        unfold zg_S zf_can
        rw [if_pos cr, e7, e8', e10, zf_mnN (by omega) (by omega), nI_clamp (by omega), nI_clamp (by omega)]
      have exf : nI x = nI fu := ex.symm.trans e10
      rw [nI_eq (by omega) (by omega)] at exf
      rw [e7, e10, nI_add, zn_sub (by omega) (by omega)]
      exact ⟨_, by omega, rfl⟩
    · rw [if_neg cr, Int32.sub_zero]
      exact ⟨x, lx, ex⟩
  · by_cases ct : zf_tied A (nI m)
    · exact ⟨x2, by omega, by rw [e202, if_pos ct, Int32.add_zero, ex2]⟩
    · exact ⟨x2 + e, by omega, by rw [e202, if_neg ct, ex2, nI_add]⟩
end XC7
