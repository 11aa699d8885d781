/-! ===== rows for the law's longer methods ===== -/
theorem xd_st1 {x : Int32} (h : zf_chr x) : xc_st x = 1 ↔ x = 119 := by
  rcases h with rfl | rfl | rfl <;> decide
theorem xd_st2 {x : Int32} (h : zf_chr x) (h0 : ¬ xc_st x = 0) (h1 : ¬ xc_st x = 1) : x = 114 := by
  rcases h with rfl | rfl | rfl
  all_goals first | rfl | exact absurd (by decide) h0 | exact absurd (by decide) h1
theorem xd_fc {A : Nat → Nat → Int32} {N : Nat} (h0 : ¬ N = 0) (h : N ≤ 10) : Op.cmpValue (FP.fcmp (FP.fdiv (FP.i2f (zf_lits A N)) (FP.i2f (nI N))) (FP.fdiv (FP.i2f (zf_lits A N)) (FP.i2f (nI N)))) .l = 0 := by
  obtain ⟨j, hj, e⟩ := zf_litsN A N
  rw [e]
  have key : ∀ a b : Fin 11, ¬ b.val = 0 → a.val ≤ b.val → Op.cmpValue (FP.fcmp (FP.fdiv (FP.i2f (nI a.val)) (FP.i2f (nI b.val))) (FP.fdiv (FP.i2f (nI a.val)) (FP.i2f (nI b.val)))) .l = 0 := by decide +kernel
  exact key ⟨j, by omega⟩ ⟨N, by omega⟩ h0 hj
theorem xd_shrt {A : Nat → Nat → Int32} {g : Nat} : A 10 g < A 7 g ↔ zf_short A g := by
  show _ ↔ ¬ A 7 g ≤ A 10 g
  rw [Int32.lt_iff_toInt_lt, Int32.le_iff_toInt_le]
  omega
theorem xd_pr (k : Nat) (h : k < 2 ^ 30) : nI (k + 1) + (-1) = nI k := by
  rw [← Int32.sub_eq_add_neg]
  exact zn_sub (b := 1) (by omega) (by omega)
theorem xd_pr0 : nI 0 + (-1) = -1 := by decide
section XL
variable {n : Nat → Nat} {A : Nat → Nat → Int32} {B : Nat → Int64} {E : Nat → Nat → Int32} {N : Nat → Int32} {t : Nat}
theorem xd_h8 (h : xd_I n A B E N t) : ∀ g, g < n 2 → ∃ r : Nat, r ≤ 200 ∧ A 8 g = nI r := by
  obtain ⟨hN, hS, h4, hT, hC, ⟨P, hK⟩, hR⟩ := xd_K h
  intro g hg
  obtain ⟨le, gr, fu, e1, e2, e3, l1, l2, l3, l4⟩ := hK.1 g hg
  exact ⟨gr, by omega, e2⟩
theorem xd_isE (h : xd_I n A B E N t) {k i : Nat} (hk : k < n 2) (hi : i < n 0) : xa_isl N (n 1) (ze_ix (N (9 * k + 50))) = xa_isl N (n 1) i ↔ E 0 (ze_ix (A 6 k)) = E 0 i := by
  have hK := xd_K h
  have hH := xc_KH hK
  have hE := h.1.2.2.1
  have e6 : N (9 * k + 50) = A 6 k := (hK.2.2.2.2.2.2.2.2.2.1.1 k hk).1
  have hs := (hH.2.2.2.1 k hk).2
  obtain ⟨a1, l1⟩ := xc_io hK hs
  obtain ⟨a2, l2⟩ := xc_io hK hi
  rw [hE, ← e6, a1, a2, nI_eq (by omega) (by omega)]
theorem xd_bo (h : xd_I n A B E N t) {u : Nat} (hu : u < n 0) : zf_bOf n A (E 0) (E 0 u) = if xa_bnd n N (xa_isl N (n 1) u) = 1000000 then -1 else xa_bnd n N (xa_isl N (n 1) u) := by
  have hK := xd_K h
  have hE := h.1.2.2.1
  obtain ⟨ei, li⟩ := xc_io hK hu
  have hb := xc_bnd hK li
  rw [hE, ei, hb]
  generalize xa_isl N (n 1) u = m at *
  by_cases ct : zf_tied A (nI m)
  · rw [zf_bOf_t ct, if_pos ct, if_pos rfl]
  · rw [zf_bOf_f ct, if_neg ct, if_neg]
    obtain ⟨hV, hR, hPh, hY, hWu⟩ := h
    obtain ⟨hyd, hd9, ⟨r, lr, er⟩, -⟩ := hY
    obtain ⟨hN, hS, h4, hT, hC, ⟨P, hKz⟩, hRz⟩ := id hK
    obtain ⟨hn0, hn1, hn2, hn3, hn4⟩ := id hN
    obtain ⟨sg, esg, lsg⟩ : ∃ sG : Nat, zf_supG A (zf_CI n A) (nI m) 0 (n 2) = nI sG ∧ sG ≤ 200 * n 2 := zh_sum0 (f := fun g => if zf_runs A (zf_CI n A) g (nI m) then ze_mn (A 8 g) (A 10 g) else 0) (n 2) (fun g hg => by
      obtain ⟨le, cc, e7, ec, -, l2⟩ := zg_can hKz.1 hg
      show ∃ j, (if zf_runs A (zf_CI n A) g (nI m) then zf_can A g else 0) = nI j ∧ j ≤ 200
      split
      · exact ⟨cc, ec, l2⟩
      · exact ⟨0, rfl, by omega⟩)
    obtain ⟨y, z, ey, ez, ly1, ly2, -⟩ := xc_dcN (io := zf_CI n A) (m := nI m) hKz.2.1 (x := 0) (by omega) (n 3) (Nat.le_refl _)
    have hb2 : zf_bounded n A (zf_CI n A) (nI m) = nI (sg + z - r) := by
      rw [zf_bounded_eq, esg, ez, er, nI_add, zn_mxs (by omega) (by omega)]
    rw [hb2]
    intro e
    have e9 : nI (sg + z - r) = nI 1000000 := e.trans (by decide)
    have := (nI_eq (a := sg + z - r) (b := 1000000) (by omega) (by omega)).mp e9
    omega
theorem xd_dmE (h : xd_I n A B E N t) {u : Nat} (hu : u < n 0) : xa_dm N (n 1) (xa_isl N (n 1) u) (n 4) = zf_demanded A (E 0) (E 0 u) (n 4) := by
  have hK := xd_K h
  have hE := h.1.2.2.1
  obtain ⟨ei, li⟩ := xc_io hK hu
  rw [xc_dm hK li, hE, ei]
theorem xd_l01 (h : xd_I n A B E N t) {k : Nat} (hk : k < n 4) : A 5 k = 0 ∨ A 5 k = 1 := (h.2.2.2.1.1 k hk).1
theorem xd_lit1 (h : xd_I n A B E N t) {k : Nat} (hk : k < n 4) : 1 - A 5 k = if A 5 k = 0 then 1 else 0 := by
  rcases xd_l01 h hk with q | q <;> rw [q] <;> decide
end XL
