/-! ===== the net's own words and the class's rows: one by one ===== -/
/-- what stands of the rows and of the net beside them -/
def xc_K (n : Nat → Nat) (A : Nat → Nat → Int32) (B : Nat → Int64) (N : Nat → Int32) : Prop := zf_N n ∧ zf_S n A ∧ (∀ i, A 4 i = 0 ∨ A 4 i = 1) ∧ (A 38 0 = 0 ∨ A 38 0 = 1) ∧ (∀ g, g < n 2 → zf_chr (A 13 g)) ∧ (∃ P, zh_K n A P) ∧ xc_R n A B N
theorem xc_ifc {α : Type} {b c : Prop} [Decidable b] [Decidable c] {x y u v : α} (h : b ↔ c) (h1 : x = u) (h2 : y = v) : (if b then x else y) = (if c then u else v) := by
  subst h1 h2
  by_cases q : c
  · rw [if_pos q, if_pos (h.mpr q)]
  · rw [if_neg q, if_neg (fun z => q (h.mp z))]
theorem xc_sum {x : Int32} {f g : Nat → Int32} : ∀ N : Nat, (∀ k, k < N → f k = g k) → ze_sum x f N = ze_sum x g N := by
  intro N
  induction N with
  | zero => exact fun _ => rfl
  | succ N ih =>
    intro h
    show ze_sum x f N + f N = ze_sum x g N + g N
    rw [ih (fun k hk => h k (by omega)), h N (by omega)]
theorem xc_sub3 (a b c : Int32) : a - b - c = a - (b + c) := by
  rw [Int32.sub_eq_add_neg a (b + c), Int32.neg_add, Int32.sub_eq_add_neg (-b) c, ← Int32.add_assoc, ← Int32.sub_eq_add_neg a b, ← Int32.sub_eq_add_neg]
theorem xc_ang {a b : Nat} (ha : a < 360) (hb : b < 360) : (if nI a - nI b + 360 - (nI a - nI b + 360) / 360 * 360 ≤ 180 then nI a - nI b + 360 - (nI a - nI b + 360) / 360 * 360 else 360 - (nI a - nI b + 360 - (nI a - nI b + 360) / 360 * 360)) = ze_mn (ze_ab (nI a - nI b)) (360 - ze_ab (nI a - nI b)) := by
  have key : ∀ d : Fin 720, (if nI d.val - 360 + 360 - (nI d.val - 360 + 360) / 360 * 360 ≤ 180 then nI d.val - 360 + 360 - (nI d.val - 360 + 360) / 360 * 360 else 360 - (nI d.val - 360 + 360 - (nI d.val - 360 + 360) / 360 * 360)) = ze_mn (ze_ab (nI d.val - 360)) (360 - ze_ab (nI d.val - 360)) := by decide +kernel
  have e : nI a - nI b = nI (a + 360 - b) - 360 := by
    have e3 : (360 : Int32).toInt = 360 := by decide
    apply Int32.toInt_inj.mp
    rw [Int32.toInt_sub, Int32.toInt_sub, nI_toInt (by omega), nI_toInt (by omega), nI_toInt (by omega), e3, Int.bmod_eq_of_le (by omega) (by omega), Int.bmod_eq_of_le (by omega) (by omega)]
    omega
  rw [e]
  exact key ⟨a + 360 - b, by omega⟩
section XC2
variable {n : Nat → Nat} {A : Nat → Nat → Int32} {B : Nat → Int64} {N : Nat → Int32}
theorem xc_KH (h : xc_K n A B N) : xa_H n N := xc_H h.1 h.2.1 h.2.2.2.2.2.2
theorem xc_io (h : xc_K n A B N) {s : Nat} (hs : s < n 0) : zf_CI n A s = nI (xa_isl N (n 1) s) ∧ xa_isl N (n 1) s < 6 := by
  have h0 := h.1.1
  have := xa_islt (xc_KH h) hs
  exact ⟨xc_CI h.1 h.2.1 h.2.2.1 h.2.2.2.2.2.2 hs, by omega⟩
theorem xc_ix {x : Int32} (h : xc_K n A B N) (hx : zf_site n x) : ze_ix x < n 0 := by
  obtain ⟨j, hj, rfl⟩ := hx
  have h0 := h.1.1
  rw [zf_ixN (by omega)]
  exact hj
theorem xc_is (h : xc_K n A B N) {s m : Nat} (hs : s < n 0) (hm : m < 6) : xa_isl N (n 1) s = m ↔ zf_CI n A s = nI m := by
  obtain ⟨e, l⟩ := xc_io h hs
  rw [e, nI_eq (by omega) (by omega)]
theorem xc_many (h : xc_K n A B N) : xa_many N (n 1) (n 0) = zf_many (zf_CI n A) (n 0) := xc_sum (n 0) (fun k hk => xc_ifc (xc_is h hk (by have := h.1.1; omega)) rfl rfl)
theorem xc_size (h : xc_K n A B N) : xa_size N (n 1) (n 0) = zf_first (zf_CI n A) (n 0) := xc_sum (n 0) (fun k hk => xc_ifc (xc_is (m := 0) h hk (by omega)) rfl rfl)
theorem xc_td (h : xc_K n A B N) : N 8 = 1 ↔ ¬ A 38 0 = 0 := by
  rw [h.2.2.2.2.2.2.2.1.1.2.2.2.1]
  rcases h.2.2.2.1 with q | q <;> rw [q] <;> decide
theorem xc_ph (h : xc_K n A B N) {s : Nat} (hs : s < n 0) : xa_ph N (n 1) s = zf_ph A (zf_CI n A) s := by
  obtain ⟨e, l⟩ := xc_io h hs
  have hp := h.2.2.2.2.2.2.2.1.2 _ l
  unfold xa_ph zf_ph
  rw [e, zf_ixN (by omega), hp]
  have z : (xa_isl N (n 1) s = 0 ∧ N 8 = 1) ↔ (¬ A 38 0 = 0 ∧ nI (xa_isl N (n 1) s) = 0) := by
    rw [xc_td h]
    have z0 : nI (xa_isl N (n 1) s) = 0 ↔ xa_isl N (n 1) s = 0 := nI_eq (b := 0) (by omega) (by decide)
    rw [z0]
    exact And.comm
  exact xc_ifc z rfl rfl
theorem xc_phr (hp : ∀ i, i < 6 → ∃ p : Nat, p < 360 ∧ A 0 i = nI p) (h : xc_K n A B N) {s : Nat} (hs : s < n 0) : ∃ p : Nat, p < 360 ∧ zf_ph A (zf_CI n A) s = nI p := by
  obtain ⟨e, l⟩ := xc_io h hs
  unfold zf_ph
  rw [e, zf_ixN (by omega)]
  split
  · exact ⟨0, by decide, rfl⟩
  · exact hp _ l
theorem xc_gap (hp : ∀ i, i < 6 → ∃ p : Nat, p < 360 ∧ A 0 i = nI p) (h : xc_K n A B N) {i : Nat} (hi : i < n 1) : xa_gap N (n 1) i = zf_gapC A (zf_CI n A) i := by
  have hl := h.2.2.2.2.2.2.2.2.1.1 i hi
  have h2 := xc_ix h (h.2.1.1 i hi).1
  have h3 := xc_ix h (h.2.1.1 i hi).2
  unfold xa_gap zf_gapC xa_off
  rw [hl.1, hl.2, xc_ph h h2, xc_ph h h3]
  obtain ⟨a, ha, ea⟩ := xc_phr hp h h2
  obtain ⟨b, hb, eb⟩ := xc_phr hp h h3
  by_cases q : xa_isl N (n 1) (ze_ix (A 2 i)) = xa_isl N (n 1) (ze_ix (A 3 i))
  · rw [if_pos q]
    have e1 := (xc_io h h2).1
    have e2 := (xc_io h h3).1
    have e3 : zf_ph A (zf_CI n A) (ze_ix (A 2 i)) = zf_ph A (zf_CI n A) (ze_ix (A 3 i)) := by
      unfold zf_ph
      rw [e1, e2, q]
    rw [e3, Int32.sub_self]
    decide
  · rw [if_neg q, ea, eb]
    exact xc_ang ha hb
theorem xc_st2 {x : Int32} (h : zf_chr x) : xc_st x = 2 ↔ x = 114 := by
  rcases h with rfl | rfl | rfl <;> decide
theorem xc_st1 {x : Int32} (h : zf_chr x) : xc_st x = 1 ↔ x = 119 := by
  rcases h with rfl | rfl | rfl <;> decide
theorem xc_st0 {x : Int32} (h : zf_chr x) : xc_st x = 0 ↔ x = 111 := by
  rcases h with rfl | rfl | rfl <;> decide
theorem xc_rn (h : xc_K n A B N) {g m : Nat} (hg : g < n 2) (hm : m < 6) : xa_rn N (n 1) m g ↔ zf_runs A (zf_CI n A) g (nI m) := by
  obtain ⟨e6, -, -, -, -, e5⟩ := h.2.2.2.2.2.2.2.2.2.1.1 g hg
  unfold xa_rn zf_runs
  rw [e6, e5, xc_is h (xc_ix h (h.2.1.2.1 g hg)) hm, xc_st2 (h.2.2.2.2.1 g hg)]
theorem xc_can (h : xc_K n A B N) {g m : Nat} (hg : g < n 2) (hm : m < 6) : xa_can N (n 1) m g = if zf_runs A (zf_CI n A) g (nI m) then zf_can A g else 0 := by
  obtain ⟨-, -, e8, -, e10, -⟩ := h.2.2.2.2.2.2.2.2.2.1.1 g hg
  unfold xa_can zf_can
  rw [e8, e10]
  exact xc_ifc (xc_rn h hg hm) rfl rfl
theorem xc_bnd (h : xc_K n A B N) {m : Nat} (hm : m < 6) : xa_bnd n N m = if zf_tied A (nI m) then 1000000 else zf_bounded n A (zf_CI n A) (nI m) := by
  have e0 : nI m = 0 ↔ m = 0 := nI_eq (b := 0) (by omega) (by decide)
  have z : (m = 0 ∧ N 8 = 1) ↔ zf_tied A (nI m) := by
    unfold zf_tied
    rw [xc_td h, e0]
    exact And.comm
  unfold xa_bnd
  refine xc_ifc z rfl ?_
  rw [zf_bounded_eq]
  have e5 : N 5 = A 28 0 := h.2.2.2.2.2.2.2.1.1.1
  have eG : xa_bg N (n 1) m (n 2) = -A 28 0 + zf_supG A (zf_CI n A) (nI m) 0 (n 2) := by
    unfold xa_bg zf_supG
    rw [e5, ze_sumx]
    congr 1
    exact xc_sum (n 2) (fun g hg => xc_can h hg hm)
  have eT : xa_bt N (n 1) m (xa_bg N (n 1) m (n 2)) (n 3) = xa_bg N (n 1) m (n 2) + zf_supT A (zf_CI n A) (nI m) 0 (n 3) := by
    unfold xa_bt zf_supT
    rw [ze_sumx]
    congr 1
    refine xc_sum (n 3) (fun k hk => ?_)
    obtain ⟨q1, q2, q3⟩ := h.2.2.2.2.2.2.2.2.2.2.1.1 k hk
    have q4 := (h.2.2.2.2.2.2.2.2.2.2.1.2 k (by have := h.1.2.2.2.1; omega)).1
    rw [q1, q3, q4]
    exact xc_ifc (xc_is h (xc_ix h (h.2.1.2.2.1 k hk)) hm) rfl rfl
  rw [eT, eG, Int32.sub_eq_add_neg, Int32.add_assoc, Int32.add_comm]
theorem xc_ah (h : xc_K n A B N) {k o : Nat} (hk : k < n 4) (ho : o < n 4) : xa_ah N (n 1) k o ↔ zf_ahead A (zf_CI n A) k o := by
  obtain ⟨k1, -, k3⟩ := h.2.2.2.2.2.2.2.2.2.2.2.1.1 k hk
  obtain ⟨o1, -, o3⟩ := h.2.2.2.2.2.2.2.2.2.2.2.1.1 o ho
  unfold xa_ah zf_ahead
  rw [k1, k3, o1, o3]
  obtain ⟨ek, lk⟩ := xc_io h (xc_ix h (h.2.1.2.2.2 k hk))
  obtain ⟨eo, lo⟩ := xc_io h (xc_ix h (h.2.1.2.2.2 o ho))
  rw [ek, eo, nI_eq (by omega) (by omega)]
theorem xc_up (h : xc_K n A B N) {o : Nat} (ho : o < n 4) : xa_up N (n 1) o (n 4) = zf_upTo A (zf_CI n A) o (n 4) := by
  obtain ⟨-, o2, -⟩ := h.2.2.2.2.2.2.2.2.2.2.2.1.1 o ho
  unfold xa_up zf_upTo
  rw [o2]
  refine xc_sum (n 4) (fun k hk => ?_)
  obtain ⟨-, k2, -⟩ := h.2.2.2.2.2.2.2.2.2.2.2.1.1 k hk
  rw [k2]
  exact xc_ifc (xc_ah h hk ho) rfl rfl
theorem xc_upr {P : Nat → Nat} (hN : zf_N n) (hP : zg_RL (n 4) A P) (io : Nat → Int32) {o : Nat} (ho : o < n 4) : ∃ q : Nat, zf_upTo A io o (n 4) = nI q ∧ q ≤ 2200 := by
  obtain ⟨q, e, l⟩ := zh_sum0 (f := fun k => if zf_ahead A io k o then A 20 k else 0) (c := 200) (n 4) (fun k hk => by
    by_cases c : zf_ahead A io k o
    · refine ⟨P k, ?_, (hP k hk).2⟩
      simp only [if_pos c]
      exact (hP k hk).1
    · refine ⟨0, ?_, by omega⟩
      simp only [if_neg c]
      rfl)
  have h4 := hN.2.2.2.2
  obtain ⟨e2, l2⟩ := hP o ho
  refine ⟨P o + q, ?_, by omega⟩
  unfold zf_upTo
  rw [ze_sumx, e, e2, nI_add]
theorem xc_kp (h : xc_K n A B N) {o : Nat} (ho : o < n 4) : xa_kp n N o ↔ zf_keeps n A (zf_CI n A) o := by
  obtain ⟨o1, -, -⟩ := h.2.2.2.2.2.2.2.2.2.2.2.1.1 o ho
  obtain ⟨e, l⟩ := xc_io h (xc_ix h (h.2.1.2.2.2 o ho))
  unfold xa_kp zf_keeps
  rw [xc_up h ho, o1, xc_bnd h l, e]
  obtain ⟨P, hK⟩ := h.2.2.2.2.2.1
  obtain ⟨q, eq, lq⟩ := xc_upr h.1 hK.2.2.1 (zf_CI n A) ho
  by_cases c : zf_tied A (nI (xa_isl N (n 1) (ze_ix (A 19 o))))
  · rw [if_pos c, eq]
    have z : ¬ (1000000 : Int32) < nI q := by
      have e6 : (1000000 : Int32) = nI 1000000 := by decide
      rw [e6, nI_ltI (by decide) (by omega)]
      omega
    exact ⟨fun _ => Or.inl c, fun _ => z⟩
  · rw [if_neg c]
    exact ⟨fun q => Or.inr q, fun q => q.resolve_left c⟩
theorem xc_dm (h : xc_K n A B N) {m : Nat} (hm : m < 6) : xa_dm N (n 1) m (n 4) = zf_demanded A (zf_CI n A) (nI m) (n 4) := by
  refine xc_sum (n 4) (fun k hk => ?_)
  obtain ⟨k1, k2, -⟩ := h.2.2.2.2.2.2.2.2.2.2.2.1.1 k hk
  have k3 := (h.2.2.2.2.2.2.2.2.2.2.2.1.2 k (by have := h.1.2.2.2.2; omega)).1
  show (if N (5 * k + 143) = 0 ∧ xa_isl N (n 1) (ze_ix (N (5 * k + 140))) = m then N (5 * k + 141) else 0) = if zf_CI n A (ze_ix (A 19 k)) = nI m ∧ A 5 k = 0 then A 20 k else 0
  rw [k1, k2, k3]
  exact xc_ifc ((and_congr Iff.rfl (xc_is h (xc_ix h (h.2.1.2.2.2 k hk)) hm)).trans And.comm) rfl rfl
/-! the shares -/
def xc_G (n : Nat → Nat) (A : Nat → Nat → Int32) (m : Int32) (sh : Nat → Int32) (T S : Nat → Nat) : Prop :=
  ∀ g, g < n 2 → T g ≤ S g ∧ S g ≤ 200 ∧ (¬ zf_runs A (zf_CI n A) g m → S g = 0 ∧ sh g = 0) ∧ (zf_runs A (zf_CI n A) g m → ∃ le c : Nat, A 7 g = nI le ∧ zf_can A g = nI c ∧ le ≤ 200 ∧ c ≤ 200 ∧ S g = c - le ∧ sh g = nI (le + T g))
theorem xc_Gr {m : Int32} {sh : Nat → Int32} {T S : Nat → Nat} (h : xc_G n A m sh T S) {g : Nat} (hg : g < n 2) (hl : T g < S g) : zf_runs A (zf_CI n A) g m := by
  refine Classical.byContradiction (fun q => ?_)
  have := ((h g hg).2.2.1 q).1
  omega
theorem xc_pk (h0 : xc_K n A B N) {m : Nat} (hm : m < 6) {sh : Nat → Int32} {T S : Nat → Nat} (h : xc_G n A (nI m) sh T S) : ∀ i, i ≤ n 2 → xa_pk N (n 1) m sh i = zn_nt T S i := by
  intro i
  induction i with
  | zero => exact fun _ => rfl
  | succ i ih =>
    intro hi
    have hh := ih (by omega)
    obtain ⟨l1, l2, hno, hyes⟩ := h i (by omega)
    obtain ⟨-, n7, -⟩ := h0.2.2.2.2.2.2.2.2.2.1.1 i (by omega)
    simp only [xa_pk, zn_nt, hh]
    rw [xc_can h0 (by omega) hm, n7]
    by_cases q : T i < S i
    · have hr := xc_Gr h (by omega) q
      obtain ⟨le, c, e7, ec, b1, b2, eS, eg⟩ := hyes hr
      rw [if_pos hr]
      have c0 : ¬ zf_can A i - A 7 i ≤ 0 := by
        rw [ec, e7, zn_sub (by omega) (by omega)]
        exact nI_nle (by omega) (by omega)
      have c1 : ¬ zf_can A i - A 7 i ≤ sh i - A 7 i := by
        rw [ec, e7, eg, zn_sub (by omega) (by omega), zn_sub (by omega) (by omega), nI_leI (by omega) (by omega)]
        omega
      have c2 : xa_bt1 N (n 1) m sh i (zn_nt T S i) = zn_O T S i (zn_nt T S i) := by
        cases ho : zn_nt T S i with
        | none => rfl
        | some b =>
          obtain ⟨hb, hlb⟩ := zn_ntlt ho
          obtain ⟨m1, m2, -, myes⟩ := h b (by omega)
          have hrb := xc_Gr h (by omega) hlb
          obtain ⟨le2, c2, f7, fc, d1, d2, fS, fg⟩ := myes hrb
          obtain ⟨-, nb, -⟩ := h0.2.2.2.2.2.2.2.2.2.1.1 b (by omega)
          show decide (¬ (sh b - N (9 * b + 51)) * (xa_can N (n 1) m i - N (9 * i + 51)) ≤ (sh i - N (9 * i + 51)) * (xa_can N (n 1) m b - N (9 * b + 51))) = decide (T i * S b < T b * S i)
          rw [nb, n7, xc_can h0 (by omega) hm, xc_can h0 (by omega) hm, if_pos hr, if_pos hrb, e7, ec, eg, f7, fc, fg, zn_sub (by omega) (by omega), zn_sub (by omega) (by omega), zn_sub (by omega) (by omega), zn_sub (by omega) (by omega)]
          have x1 : le2 + T b - le2 = T b := by omega
          have x2 : le + T i - le = T i := by omega
          rw [x1, x2, ← eS, ← fS]
          exact decide_eq_decide.mpr (zn_mulI (by omega) (by omega) (by omega) (by omega))
      rw [c2]
      simp only [eq_true q, eq_true c0, eq_true c1, true_and]
    · have hf : ¬ (¬ (if zf_runs A (zf_CI n A) i (nI m) then zf_can A i else 0) - A 7 i ≤ 0 ∧ ¬ (if zf_runs A (zf_CI n A) i (nI m) then zf_can A i else 0) - A 7 i ≤ sh i - A 7 i ∧ xa_bt1 N (n 1) m sh i (zn_nt T S i) = true) := by
        rintro ⟨hc0, hc, -⟩
        by_cases hr : zf_runs A (zf_CI n A) i (nI m)
        · obtain ⟨le, c, e7, ec, b1, b2, eS, eg⟩ := hyes hr
          rw [if_pos hr, ec, e7] at hc0
          rw [if_pos hr, ec, e7, eg] at hc
          rcases Nat.lt_or_ge c le with z | z
          · apply hc0
            rw [Int32.le_iff_toInt_le, Int32.toInt_sub, nI_toInt (by omega), nI_toInt (by omega), Int.bmod_eq_of_le (by omega) (by omega)]
            have e0 : (0 : Int32).toInt = 0 := by decide
            omega
          · rw [zn_sub z (by omega), zn_sub (by omega) (by omega), nI_leI (by omega) (by omega)] at hc
            omega
        · rw [if_neg hr] at hc0
          obtain ⟨P, hK⟩ := h0.2.2.2.2.2.1
          obtain ⟨le, gr, fu, e7, -, -, b1, -⟩ := hK.1 i (by omega)
          apply hc0
          rw [e7, Int32.le_iff_toInt_le, Int32.toInt_sub, nI_toInt (by omega)]
          have e0 : (0 : Int32).toInt = 0 := by decide
          rw [e0, Int.bmod_eq_of_le (by omega) (by omega)]
          omega
      rw [if_neg hf, if_neg (fun z => q z.1)]
theorem xc_Gup {m : Int32} {sh : Nat → Int32} {T S : Nat → Nat} {b : Nat} (h : xc_G n A m sh T S) (hb : b < n 2) (hl : T b < S b) : xc_G n A m (upd sh b (sh b + 1)) (zn_up T b (T b + 1)) S := by
  intro g hg
  have hr := xc_Gr h hb hl
  obtain ⟨l1, l2, hno, hyes⟩ := h g hg
  by_cases e : g = b
  · subst e
    refine ⟨by simp [zn_up]; omega, l2, fun q => absurd hr q, fun _ => ?_⟩
    obtain ⟨le, c, e7, ec, b1, b2, eS, eg⟩ := hyes hr
    exact ⟨le, c, e7, ec, b1, b2, eS, by simp [upd, zn_up, eg, nI_1, Nat.add_assoc]⟩
  · refine ⟨by simp [zn_up, e]; exact l1, l2, fun q => ?_, fun q => ?_⟩
    · have := hno q
      exact ⟨this.1, by simp [upd, e, this.2]⟩
    · obtain ⟨le, c, e7, ec, b1, b2, eS, eg⟩ := hyes q
      exact ⟨le, c, e7, ec, b1, b2, eS, by simp [upd, zn_up, e, eg]⟩
theorem xc_sl (h0 : xc_K n A B N) {m : Nat} (hm : m < 6) {S : Nat → Nat} : ∀ (k : Nat) (sh : Nat → Int32) (T : Nat → Nat), xc_G n A (nI m) sh T S → xc_G n A (nI m) (xa_sl N (n 1) m (n 2) k sh) (zn_tl S (n 2) k T) S := by
  intro k
  induction k with
  | zero => exact fun sh T h => h
  | succ k ih =>
    intro sh T h
    simp only [xa_sl, zn_tl, xc_pk h0 hm h (n 2) (Nat.le_refl _)]
    cases ho : zn_nt T S (n 2) with
    | none => exact h
    | some b =>
      obtain ⟨h1, h2⟩ := zn_ntlt ho
      exact ih _ _ (xc_Gup h h1 h2)
theorem xc_s0 (h0 : xc_K n A B N) {m : Nat} (hm : m < 6) {g : Nat} (hg : g < n 2) : xa_s0 N (n 1) m g = if zf_runs A (zf_CI n A) g (nI m) then A 7 g else 0 := by
  obtain ⟨-, n7, -⟩ := h0.2.2.2.2.2.2.2.2.2.1.1 g hg
  unfold xa_s0
  rw [n7]
  exact xc_ifc (xc_rn h0 hg hm) rfl rfl
theorem xc_lf (h0 : xc_K n A B N) {m : Nat} (hm : m < 6) (d : Int32) : ∀ i, i ≤ n 2 → xa_lf N (n 1) m d i = d - zf_gs A (zf_CI n A) (nI m) i := by
  intro i
  induction i with
  | zero => exact fun _ => (Int32.sub_zero d).symm
  | succ i ih =>
    intro hi
    show xa_lf N (n 1) m d i - xa_s0 N (n 1) m i = d - (zf_gs A (zf_CI n A) (nI m) i + (if zf_runs A (zf_CI n A) i (nI m) then A 7 i else 0))
    rw [ih (by omega), xc_s0 h0 hm (by omega), xc_sub3]
theorem xc_sh (h0 : xc_K n A B N) {m : Nat} (hm : m < 6) {d : Nat} (hd : d < 2 ^ 30) {g : Nat} (hg : g < n 2) : xa_sh n N m (nI d) g = if zf_runs A (zf_CI n A) g (nI m) then (zf_gives n A (zf_CI n A) (nI m) (nI d)).2 g else 0 := by
  obtain ⟨P, hK⟩ := h0.2.2.2.2.2.1
  have hG : xc_G n A (nI m) (ze_up (xa_s0 N (n 1) m) (fun _ => 0) (n 2)) (fun _ => 0) (zg_S A (zf_CI n A) (nI m)) := by
    intro g hg
    have hu : ze_up (xa_s0 N (n 1) m) (fun _ => 0) (n 2) g = xa_s0 N (n 1) m g := by simp [ze_up, hg]
    refine ⟨Nat.zero_le _, (zg_SE hK.1 hg).2, fun q => ?_, fun q => ?_⟩
    · refine ⟨by unfold zg_S; rw [if_neg q], ?_⟩
      rw [hu, xc_s0 h0 hm hg, if_neg q]
    · obtain ⟨le, c, e1, e2, l1, l2⟩ := zg_can hK.1 hg
      refine ⟨le, c, e1, e2, by omega, l2, ?_, ?_⟩
      · unfold zg_S
        rw [if_pos q, e1, e2, nI_clamp (by omega), nI_clamp (by omega)]
      · rw [hu, xc_s0 h0 hm hg, if_pos q, e1, Nat.add_zero]
  have hfit : zg_fit n A (zf_CI n A) (nI m) (nI d) := zh_fit h0.1 hK.1 rfl hd
  have hz := xc_sl h0 hm (xa_lf N (n 1) m (nI d) (n 2)).toInt.toNat _ _ hG g hg
  have hT : zn_tl (zg_S A (zf_CI n A) (nI m)) (n 2) (xa_lf N (n 1) m (nI d) (n 2)).toInt.toNat (fun _ => 0) = zg_T n A (zf_CI n A) (nI m) (nI d) := by
    unfold zg_T
    rw [xc_lf h0 hm (nI d) (n 2) (Nat.le_refl _), hfit]
  rw [hT] at hz
  obtain ⟨l1, l2, hno, hyes⟩ := hz
  show xa_sl N (n 1) m (n 2) (xa_lf N (n 1) m (nI d) (n 2)).toInt.toNat (ze_up (xa_s0 N (n 1) m) (fun _ => 0) (n 2)) g = _
  by_cases q : zf_runs A (zf_CI n A) g (nI m)
  · rw [if_pos q, zg_gv hK.1 hg, if_pos q]
    obtain ⟨le, c, e7, ec, b1, b2, eS, eg⟩ := hyes q
    rw [eg, e7, nI_add]
  · rw [if_neg q]
    exact (hno q).2
end XC2
