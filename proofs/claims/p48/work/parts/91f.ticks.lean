/-! ===== a balance whole, a tick, ticks ===== -/
theorem xa_sdo {n : Nat → Nat} {N : Nat → Int32} (m i : Nat) (hi : i ≤ 10) {k : Nat} (hk : k < 140 ∨ 190 ≤ k) : xa_sd n N m i k = N k := by
  induction i with
  | zero => rfl
  | succ i ih =>
    simp only [xa_sd]
    split
    · rw [xb_un (by omega), xb_un (by omega)]
      exact ih (by omega)
    · exact ih (by omega)
section XC8
variable {n : Nat → Nat} {A : Nat → Nat → Int32} {B : Nat → Int64} {N : Nat → Int32}
theorem xc_bal (h : xc_K n A B N) {m f c : Nat} (hm : m < 6) (hF : ∀ g, g < n 2 → zf_runs A (zf_CI n A) g (nI m) → A 7 g ≤ A 10 g) (hY : xc_Y n A N f c) (hf : f < 2 ^ 30) (hc : c < 2 ^ 30) :
    xc_K n (zf_balA n A (zf_CI n A) (nI m)) (zf_balB n A B (zf_CI n A) (nI m)) (xa_bal n N m) ∧ xc_Y n (zf_balA n A (zf_CI n A) (nI m)) (xa_bal n N m) f (c + 2000) := by
  obtain ⟨hN, hS, h4, hT, hC, ⟨P, hK⟩, hR⟩ := id h
  obtain ⟨hn0, hn1, hn2, hn3, hn4⟩ := id hN
  obtain ⟨y1, y2, y3, y4, ⟨x0, lx0, ex0⟩, ⟨x1, lx1, ex1⟩, ⟨x2, lx2, ex2⟩⟩ := id hY
  have K1 := xc_sd h hm y1 (n 4) (Nat.le_refl _)
  have eCI := xc_sCI n A (nI m) (n 4)
  have Y1 : xc_Y n (zf_shed n A (zf_CI n A) (nI m) (n 4)) (xa_sd n N m (n 4)) f c := ⟨xc_sY ⟨y1, y2⟩ _ _, y2, y3, y4, ⟨x0, lx0, by rw [xa_sdo m (n 4) hn4 (by omega)]; exact ex0⟩, ⟨x1, lx1, by rw [xa_sdo m (n 4) hn4 (by omega)]; exact ex1⟩, ⟨x2, lx2, by rw [xa_sdo m (n 4) hn4 (by omega)]; exact ex2⟩⟩
  have F1 : ∀ g, g < n 2 → zf_runs (zf_shed n A (zf_CI n A) (nI m) (n 4)) (zf_CI n A) g (nI m) → zf_shed n A (zf_CI n A) (nI m) (n 4) 7 g ≤ zf_shed n A (zf_CI n A) (nI m) (n 4) 10 g := hF
  have L1 : ∀ k, k < n 4 → zf_CI n A (ze_ix (zf_shed n A (zf_CI n A) (nI m) (n 4) 19 k)) = nI m → zf_shed n A (zf_CI n A) (nI m) (n 4) 5 k = 0 → zf_keeps n (zf_shed n A (zf_CI n A) (nI m) (n 4)) (zf_CI n A) k := by
    intro k hk e1 e2
    have e1 : zf_CI n A (ze_ix (A 19 k)) = nI m := e1
    have e5 : zf_shed n A (zf_CI n A) (nI m) (n 4) 5 k = zf_sD n A (zf_CI n A) (nI m) k := by
      show ze_up (zf_sD n A (zf_CI n A) (nI m)) (A 5) (n 4) k = _
      unfold ze_up
      rw [if_pos hk]
    rw [e5] at e2
    unfold zf_sD at e2
    rw [if_pos e1] at e2
    refine Classical.byContradiction (fun q => ?_)
    have q : ¬ zf_keeps n A (zf_CI n A) k := q
    rw [if_pos q] at e2
    exact absurd e2 (by decide)
  have Z := xc_fin K1 hm (by rw [eCI]; exact F1) (by rw [eCI]; exact L1) Y1 hf hc
  rw [eCI] at Z
  obtain ⟨Z1, Z2⟩ := Z
  have hK1 := zh_Ks (zf_CI n A) (nI m) (n 4) hK
  have b4 : zf_balA n A (zf_CI n A) (nI m) 4 = A 4 := zf_balfix n A _ _ (by decide)
  have b38 : zf_balA n A (zf_CI n A) (nI m) 38 = A 38 := zf_balfix n A _ _ (by decide)
  have b13 : zf_balA n A (zf_CI n A) (nI m) 13 = A 13 := zf_balfix n A _ _ (by decide)
  refine ⟨⟨hN, zf_Scong (zf_balfix n A _ _ (by decide)) (zf_balfix n A _ _ (by decide)) (zf_balfix n A _ _ (by decide)) (zf_balfix n A _ _ (by decide)) (zf_balfix n A _ _ (by decide)) hS, by rw [b4]; exact h4, by rw [b38]; exact hT, by rw [b13]; exact hC, ⟨P, zh_R hK1.1 F1, zh_RT hN hK1, zh_Lc rfl hK1.2.2.1, rfl⟩, Z1⟩, Z2⟩
/-- the generators at a tick's start, i of them done -/
def xc_z0 (A : Nat → Nat → Int32) (i : Nat) : Nat → Nat → Int32 := ze_sA (ze_sA (ze_sA (ze_sC (ze_sC A 30 (A 30 0 + 1)) 31 0) 12 (ze_up (fun _ => 0) (A 12) i)) 11 (ze_up (zf_tG A) (A 11) i)) 13 (ze_up (zf_tS A) (A 13) i)
theorem xc_upg (f g : Nat → Int32) {i j : Nat} (h : j ≠ i) : ze_up f g i j = ze_up f g (i + 1) j := by
  unfold ze_up
  exact xc_ifc (by omega) rfl rfl
theorem xc_upi (f g : Nat → Int32) (i : Nat) : ze_up f g (i + 1) i = f i := by
  simp [ze_up]
theorem xc_tg1 {a x l t : Int32} (h : zf_chr a) : l - ze_b (xc_st a = 1) = (if a = 119 then l - 1 else l) ∧
    (if xc_st a = 1 ∧ l - ze_b (xc_st a = 1) = 0 then 2 else xc_st a) = xc_st (if a = 119 then (if l - 1 = 0 then 114 else 119) else a) ∧
    (if xc_st (if a = 119 then (if l - 1 = 0 then 114 else 119) else a) = 2 ∧ ¬ x ≤ t then 0 else xc_st (if a = 119 then (if l - 1 = 0 then 114 else 119) else a)) = xc_st (if (if a = 119 then (if l - 1 = 0 then 114 else 119) else a) = 114 ∧ ¬ x ≤ t then 111 else (if a = 119 then (if l - 1 = 0 then 114 else 119) else a)) := by
  have s1 : xc_st 111 = 0 := by decide
  have s2 : xc_st 119 = 1 := by decide
  have s3 : xc_st 114 = 2 := by decide
  have d1 : ¬ (0 : Int32) = 1 := by decide
  have d2 : ¬ (2 : Int32) = 1 := by decide
  have d3 : ¬ (111 : Int32) = 119 := by decide
  have d4 : ¬ (114 : Int32) = 119 := by decide
  have d5 : ¬ (0 : Int32) = 2 := by decide
  have d6 : ¬ (1 : Int32) = 2 := by decide
  have d7 : ¬ (111 : Int32) = 114 := by decide
  have d8 : ¬ (119 : Int32) = 114 := by decide
  rcases h with rfl | rfl | rfl
  · simp only [s1, ze_b, eq_false d1, eq_false d3, eq_false d5, eq_false d7, if_false, false_and, Int32.sub_zero, and_self]
  · simp only [s2, ze_b, if_true, true_and]
    by_cases c : l - 1 = 0
    · simp only [eq_true c, if_true, s3, true_and]
      by_cases c2 : x ≤ t
      · simp only [eq_true c2, not_true_eq_false, if_false, s3]
      · simp only [eq_false c2, not_false_eq_true, if_true, s1]
    · simp only [eq_false c, if_false, s2, eq_false d6, eq_false d8, false_and, and_self]
  · simp only [s3, ze_b, eq_false d2, eq_false d4, if_false, false_and, Int32.sub_zero, true_and]
    by_cases c2 : x ≤ t
    · simp only [eq_true c2, not_true_eq_false, if_false, s3]
    · simp only [eq_false c2, not_false_eq_true, if_true, s1]
theorem xc_z0R (h : xc_K n A B N) : ∀ i, i ≤ n 2 → xc_R n (xc_z0 A i) B (xa_tN N i) := by
  obtain ⟨hN, hS, h4, hT, hC, ⟨P, hK⟩, q1, q2, q3, q4, q5, q6, q7⟩ := id h
  obtain ⟨hn0, hn1, hn2, hn3, hn4⟩ := id hN
  intro i
  induction i with
  | zero =>
    intro _
    have e7 : xa_tN N 0 7 = N 7 + 1 := by
      show upd (upd N 7 (N 7 + 1)) 9 0 7 = _
      rw [xb_un (by omega), pk_us]
    have e9 : xa_tN N 0 9 = 0 := pk_us
    have key : ∀ k, k ≠ 7 → k ≠ 9 → xa_tN N 0 k = N k := fun k z1 z2 => by
      show upd (upd N 7 (N 7 + 1)) 9 0 k = N k
      rw [xb_un z2, xb_un z1]
    refine ⟨xc_cC q1 (fun k hk => key k (by omega) (by omega)), ⟨⟨?_, ?_, ?_, ?_, ?_⟩, fun j hj => ?_⟩, xc_lC hn1 q3 ⟨rfl, rfl, rfl⟩ (fun k z1 z2 => key k (by omega) (by omega)), xc_gC hn2 q4 ⟨rfl, rfl, rfl, rfl, rfl, ?_, ?_, ?_⟩ (fun k z1 z2 => key k (by omega) (by omega)), xc_tC hn3 q5 ⟨rfl, rfl, rfl, rfl, rfl⟩ (fun k z1 z2 => key k (by omega) (by omega)), xc_dC hn4 q6 ⟨rfl, rfl, rfl, rfl, rfl⟩ (fun k z1 z2 => key k (by omega) (by omega)), xc_bC q7 ⟨rfl, rfl, rfl⟩ (fun k z1 z2 => key k (by omega) (by omega))⟩
    · exact (key 5 (by omega) (by omega)).trans q2.1.1
    · exact (key 6 (by omega) (by omega)).trans q2.1.2.1
    · rw [e7, q2.1.2.2.1]
      rfl
    · exact (key 8 (by omega) (by omega)).trans q2.1.2.2.2.1
    · rw [e9]
      rfl
    · exact (key _ (by omega) (by omega)).trans (q2.2 j hj)
    · exact ze_up_0 (zf_tS A) (A 13)
    · exact ze_up_0 (zf_tG A) (A 11)
    · exact ze_up_0 (fun _ => 0) (A 12)
  | succ i ih =>
    intro hi
    obtain ⟨r1, r2, r3, r4, r5, r6, r7⟩ := ih (by omega)
    obtain ⟨s0, s1, s2, s3, s4, s5⟩ := r4.1 i (by omega)
    obtain ⟨s6, s7⟩ := r4.2.1 i (by omega)
    have s1 : xa_tN N i (9 * i + 51) = A 7 i := s1
    have s4 : xa_tN N i (9 * i + 54) = A 10 i := s4
    have s5 : xa_tN N i (9 * i + 55) = xc_st (A 13 i) := s5.trans (congrArg xc_st (ze_up_at _ _ _))
    have s6 : xa_tN N i (9 * i + 56) = A 11 i := s6.trans (ze_up_at _ _ _)
    obtain ⟨t1, t2, t3⟩ := xc_tg1 (x := A 7 i) (l := A 11 i) (t := A 10 i) (hC i (by omega))
    have eg : xa_tg (xa_tN N i) i = zf_tG A i := by
      unfold xa_tg
      rw [s5, s6]
      exact t1
    have es : xa_ts (xa_tN N i) i = xc_st (zf_tS0 A i) := by
      unfold xa_ts xa_tg
      rw [s5, s6]
      exact t2
    have eu : xa_tu (xa_tN N i) i = xc_st (zf_tS A i) := by
      unfold xa_tu
      rw [es, s1, s4]
      exact t3
    have eN : xa_tN N (i + 1) = upd (upd (upd (upd (xa_tN N i) (9 * i + 57) 0) (9 * i + 56) (zf_tG A i)) (9 * i + 55) (xc_st (zf_tS0 A i))) (9 * i + 55) (xc_st (zf_tS A i)) := by
      simp only [xa_tN]
      rw [eg, es, eu]
    have key : ∀ k, k ≠ 9 * i + 57 → k ≠ 9 * i + 56 → k ≠ 9 * i + 55 → xa_tN N (i + 1) k = xa_tN N i k := fun k z1 z2 z3 => by rw [eN, xb_un z3, xb_un z3, xb_un z2, xb_un z1]
    have e55 : xa_tN N (i + 1) (9 * i + 55) = xc_st (zf_tS A i) := by rw [eN, pk_us]
    have e56 : xa_tN N (i + 1) (9 * i + 56) = zf_tG A i := by rw [eN, xb_un (by omega), xb_un (by omega), pk_us]
    have e57 : xa_tN N (i + 1) (9 * i + 57) = 0 := by rw [eN, xb_un (by omega), xb_un (by omega), xb_un (by omega), pk_us]
    refine ⟨xc_cC r1 (fun k hk => key k (by omega) (by omega) (by omega)), xc_pC r2 ⟨rfl, rfl, rfl, rfl, rfl, rfl⟩ (fun k z1 z2 => key k (by omega) (by omega) (by omega)), xc_lC hn1 r3 ⟨rfl, rfl, rfl⟩ (fun k z1 z2 => key k (by omega) (by omega) (by omega)), ⟨fun g hg => ?_, fun g hg => ?_, fun g hg z => ?_⟩, xc_tC hn3 r5 ⟨rfl, rfl, rfl, rfl, rfl⟩ (fun k z1 z2 => key k (by omega) (by omega) (by omega)), xc_dC hn4 r6 ⟨rfl, rfl, rfl, rfl, rfl⟩ (fun k z1 z2 => key k (by omega) (by omega) (by omega)), xc_bC r7 ⟨rfl, rfl, rfl⟩ (fun k z1 z2 => key k (by omega) (by omega) (by omega))⟩
    · obtain ⟨u0, u1, u2, u3, u4, u5⟩ := r4.1 g hg
      refine ⟨(key _ (by omega) (by omega) (by omega)).trans u0, (key _ (by omega) (by omega) (by omega)).trans u1, (key _ (by omega) (by omega) (by omega)).trans u2, (key _ (by omega) (by omega) (by omega)).trans u3, (key _ (by omega) (by omega) (by omega)).trans u4, ?_⟩
      by_cases e : g = i
      · subst e
        rw [e55]
        exact congrArg xc_st (xc_upi (zf_tS A) (A 13) g).symm
      · rw [key _ (by omega) (by omega) (by omega), u5]
        exact congrArg xc_st (xc_upg (zf_tS A) (A 13) e)
    · obtain ⟨u6, u7⟩ := r4.2.1 g hg
      by_cases e : g = i
      · subst e
        rw [e56, e57]
        exact ⟨(xc_upi (zf_tG A) (A 11) g).symm, (xc_upi (fun _ => 0) (A 12) g).symm⟩
      · rw [key _ (by omega) (by omega) (by omega), key _ (by omega) (by omega) (by omega), u6, u7]
        exact ⟨xc_upg (zf_tG A) (A 11) e, xc_upg (fun _ => 0) (A 12) e⟩
    · rw [key _ (by omega) (by omega) (by omega)]
      exact r4.2.2 g hg z
theorem xa_tNo (i : Nat) (hi : i ≤ 6) {k : Nat} (hk : 104 ≤ k) : xa_tN N i k = N k := by
  induction i with
  | zero =>
    show upd (upd N 7 _) 9 _ k = N k
    rw [xb_un (by omega), xb_un (by omega)]
  | succ i ih =>
    simp only [xa_tN]
    rw [xb_un (by omega), xb_un (by omega), xb_un (by omega), xb_un (by omega)]
    exact ih (by omega)
theorem xc_tick (h : xc_K n A B N) {f c : Nat} (hY : xc_Y n A N f c) (hf : f < 2 ^ 30) (hc : c < 2 ^ 29) : xc_K n (zf_tk n A B).1 (zf_tk n A B).2 (xa_tick n N) ∧ xc_Y n (zf_tk n A B).1 (xa_tick n N) f (c + 12000) := by
  obtain ⟨hN, hS, h4, hT, hC, ⟨P, hK⟩, hR⟩ := id h
  obtain ⟨hn0, hn1, hn2, hn3, hn4⟩ := id hN
  obtain ⟨y1, y2, y3, y4, ⟨x0, lx0, ex0⟩, ⟨x1, lx1, ex1⟩, ⟨x2, lx2, ex2⟩⟩ := id hY
  have K0 : xc_K n (zf_t0 n A) B (xa_tN N (n 2)) := by
    refine ⟨hN, zf_Scong rfl rfl rfl rfl rfl hS, h4, hT, fun g hg => ?_, ⟨P, zh_K0 hK⟩, xc_z0R h (n 2) (Nat.le_refl _)⟩
    show zf_chr (ze_up (zf_tS A) (A 13) (n 2) g)
    unfold ze_up
    rw [if_pos hg]
    exact zf_tSchr (hC g hg)
  have Y0 : xc_Y n (zf_t0 n A) (xa_tN N (n 2)) f c := ⟨y1, y2, y3, y4, ⟨x0, lx0, by rw [xa_tNo (n 2) hn2 (by omega)]; exact ex0⟩, ⟨x1, lx1, by rw [xa_tNo (n 2) hn2 (by omega)]; exact ex1⟩, ⟨x2, lx2, by rw [xa_tNo (n 2) hn2 (by omega)]; exact ex2⟩⟩
  have hil := zh_il (B := B) (io := zf_CI n A) hN (zh_K0 hK) (zh_F0 (A := A) (zf_CI n A))
  have key : ∀ s, s ≤ n 0 → xc_K n (zf_il n (zf_CI n A) (zf_t0 n A) B s).1 (zf_il n (zf_CI n A) (zf_t0 n A) B s).2 (xa_tI n N s) ∧ xc_Y n (zf_il n (zf_CI n A) (zf_t0 n A) B s).1 (xa_tI n N s) f (c + 2000 * s) := by
    intro s
    induction s with
    | zero => exact fun _ => ⟨K0, Y0⟩
    | succ s ih =>
      intro hs
      obtain ⟨Ks, Ys⟩ := ih (by omega)
      have eCI : zf_CI n (zf_il n (zf_CI n A) (zf_t0 n A) B s).1 = zf_CI n A := (zf_CIcong (zf_ilfix n _ _ _ _ (by decide)) (zf_ilfix n _ _ _ _ (by decide)) (zf_ilfix n _ _ _ _ (by decide))).trans (zf_CIcong rfl rfl rfl)
      have hc1 := xc_is Ks (s := s) (m := s) (by omega) (by omega)
      rw [eCI] at hc1
      by_cases q : zf_CI n A s = nI s
      · have Z := xc_bal Ks (m := s) (by omega) (f := f) (c := c + 2000 * s) (by
          rw [eCI]
          exact fun g hg qr => (hil s (by omega)).2 g hg qr.1 ⟨s, Nat.le_refl s, by omega, qr.2⟩) Ys hf (by omega)
        rw [eCI] at Z
        have e1 : xa_tI n N (s + 1) = xa_bal n (xa_tI n N s) s := by
          simp only [xa_tI]
          rw [if_pos (hc1.mpr q)]
        have e2 : zf_il n (zf_CI n A) (zf_t0 n A) B (s + 1) = (zf_balA n (zf_il n (zf_CI n A) (zf_t0 n A) B s).1 (zf_CI n A) (nI s), zf_balB n (zf_il n (zf_CI n A) (zf_t0 n A) B s).1 (zf_il n (zf_CI n A) (zf_t0 n A) B s).2 (zf_CI n A) (nI s)) := by
          simp only [zf_il]
          rw [if_pos q]
        have e3 : c + 2000 * (s + 1) = c + 2000 * s + 2000 := by omega
        rw [e1, e2, e3]
        exact Z
      · have e1 : xa_tI n N (s + 1) = xa_tI n N s := by
          simp only [xa_tI]
          rw [if_neg (fun z => q (hc1.mp z))]
        have e2 : zf_il n (zf_CI n A) (zf_t0 n A) B (s + 1) = zf_il n (zf_CI n A) (zf_t0 n A) B s := by
          simp only [zf_il]
          rw [if_neg q]
        rw [e1, e2]
        refine ⟨Ks, ?_⟩
        obtain ⟨v1, v2, v3, v4, ⟨z0, l0, f0⟩, ⟨z1, l1, f1⟩, ⟨z2, l2, f2⟩⟩ := Ys
        exact ⟨v1, v2, v3, v4, ⟨z0, by omega, f0⟩, ⟨z1, by omega, f1⟩, ⟨z2, by omega, f2⟩⟩
  obtain ⟨Z1, Z2⟩ := key (n 0) (Nat.le_refl _)
  refine ⟨Z1, ?_⟩
  obtain ⟨v1, v2, v3, v4, ⟨z0, l0, f0⟩, ⟨z1, l1, f1⟩, ⟨z2, l2, f2⟩⟩ := Z2
  exact ⟨v1, v2, v3, v4, ⟨z0, by omega, f0⟩, ⟨z1, by omega, f1⟩, ⟨z2, by omega, f2⟩⟩
end XC8
/-- t ticks -/
def xa_tks (n : Nat → Nat) (N : Nat → Int32) : Nat → Nat → Int32
  | 0 => N
  | t + 1 => xa_tick n (xa_tks n N t)
theorem xa_tksH {n : Nat → Nat} {N : Nat → Int32} (h : xa_H n N) (t : Nat) : xa_H n (xa_tks n N t) := by
  induction t with
  | zero => exact h
  | succ t ih => exact xa_tIH ih (n 0)
theorem xc_tks {n : Nat → Nat} {A : Nat → Nat → Int32} {B : Nat → Int64} {N : Nat → Int32} (h : xc_K n A B N) {f c : Nat} (hY : xc_Y n A N f c) (hf : f < 2 ^ 30) (hc : c < 2 ^ 28) : ∀ t, t ≤ 12 → xc_K n (zf_tks n A B t).1 (zf_tks n A B t).2 (xa_tks n N t) ∧ xc_Y n (zf_tks n A B t).1 (xa_tks n N t) f (c + 12000 * t) := by
  intro t
  induction t with
  | zero => exact fun _ => ⟨h, hY⟩
  | succ t ih =>
    intro ht
    obtain ⟨h1, h2⟩ := ih (by omega)
    have Z := xc_tick h1 h2 hf (by omega)
    have e3 : c + 12000 * (t + 1) = c + 12000 * t + 12000 := by omega
    rw [e3]
    exact Z
