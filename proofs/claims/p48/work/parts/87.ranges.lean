/-! ===== a tick keeps the ranges ===== -/
theorem zh_sum0 {f : Nat → Int32} {c : Nat} : ∀ N : Nat, (∀ k, k < N → ∃ j : Nat, f k = nI j ∧ j ≤ c) → ∃ q : Nat, ze_sum 0 f N = nI q ∧ q ≤ c * N := by
  intro N
  induction N with
  | zero => exact fun _ => ⟨0, rfl, Nat.zero_le _⟩
  | succ N ih =>
    intro h
    obtain ⟨q, e, l⟩ := ih (fun k hk => h k (by omega))
    obtain ⟨j, e2, l2⟩ := h N (by omega)
    refine ⟨q + j, ?_, ?_⟩
    · show ze_sum 0 f N + f N = _
      rw [e, e2, nI_add]
    · rw [Nat.mul_succ]
      omega
theorem zh_dm {n : Nat → Nat} {A : Nat → Nat → Int32} {io : Nat → Int32} {m : Int32} {P : Nat → Nat} (hN : zf_N n) (h : zg_RL (n 4) A P) : ∃ d : Nat, zf_demanded A io m (n 4) = nI d ∧ d ≤ 2000 := by
  obtain ⟨q, e, l⟩ := zh_sum0 (f := fun k => if io (ze_ix (A 19 k)) = m ∧ A 5 k = 0 then A 20 k else 0) (c := 200) (n 4) (fun k hk => by
    by_cases c : io (ze_ix (A 19 k)) = m ∧ A 5 k = 0
    · refine ⟨P k, ?_, (h k hk).2⟩
      simp only [if_pos c]
      exact (h k hk).1
    · refine ⟨0, ?_, by omega⟩
      simp only [if_neg c]
      rfl)
  have h4 := hN.2.2.2.2
  exact ⟨q, e, by omega⟩
theorem zh_gs {n : Nat → Nat} {A : Nat → Nat → Int32} {io : Nat → Int32} {m : Int32} (hN : zf_N n) (h : zg_R (n 2) A) : ∃ q : Nat, zf_gs A io m (n 2) = nI q ∧ q ≤ 600 := by
  obtain ⟨q, e, l⟩ := zh_sum0 (f := fun g => if zf_runs A io g m then A 7 g else 0) (c := 100) (n 2) (fun k hk => by
    obtain ⟨le, gr, fu, e1, e2, e3, l1, l2, l3, l4⟩ := h k hk
    by_cases c : zf_runs A io k m
    · refine ⟨le, ?_, l1⟩
      simp only [if_pos c]
      exact e1
    · refine ⟨0, ?_, by omega⟩
      simp only [if_neg c]
      rfl)
  have h4 := hN.2.2.1
  exact ⟨q, e, by omega⟩
theorem zh_fit {n : Nat → Nat} {A : Nat → Nat → Int32} {io : Nat → Int32} {m t : Int32} {d : Nat} (hN : zf_N n) (h : zg_R (n 2) A) (e : t = nI d) (hd : d < 2 ^ 30) : zg_fit n A io m t := by
  obtain ⟨q, eq, lq⟩ := zh_gs (io := io) (m := m) hN h
  unfold zg_fit zf_fu
  rw [eq, e, Int32.toInt_sub, nI_toInt (by omega), nI_toInt (by omega)]
  rw [Int.bmod_eq_of_le (by omega) (by omega)]
theorem zh_gr {n : Nat → Nat} {A : Nat → Nat → Int32} {io : Nat → Int32} {m t : Int32} (hN : zf_N n) (h : zg_R (n 2) A) : ∃ q : Nat, (zf_gives n A io m t).1 = nI q ∧ q ≤ 1800 := by
  obtain ⟨q, e, l⟩ := zh_gs (io := io) (m := m) hN h
  have hs : zn_sum (zg_T n A io m t) (n 2) ≤ 200 * n 2 := zn_sumle (fun o ho => Nat.le_trans (zg_Tle ho) (zg_SE h ho).2)
  have h2 := hN.2.2.1
  refine ⟨q + zn_sum (zg_T n A io m t) (n 2), ?_, by omega⟩
  rw [(zg_givesE h).2, e, nI_add]
theorem zh_shk (n : Nat → Nat) (A : Nat → Nat → Int32) (io : Nat → Int32) (m : Int32) (i : Nat) {k : Nat} (h1 : k ≠ 5) (h2 : k ≠ 22) : zf_shed n A io m i k = A k := by simp [zf_shed, ze_sA, h1, h2]
theorem zh_Rc {N : Nat} {A A2 : Nat → Nat → Int32} (h7 : A2 7 = A 7) (h8 : A2 8 = A 8) (h10 : A2 10 = A 10) (h : zg_R N A) : zg_R N A2 := by
  unfold zg_R
  rw [h7, h8, h10]
  exact h
theorem zh_Tc {N : Nat} {A A2 : Nat → Nat → Int32} (h15 : A2 15 = A 15) (h16 : A2 16 = A 16) (h17 : A2 17 = A 17) (h : zg_RT N A) : zg_RT N A2 := by
  unfold zg_RT
  rw [h15, h16, h17]
  exact h
theorem zh_Lc {N : Nat} {A A2 : Nat → Nat → Int32} {P : Nat → Nat} (h20 : A2 20 = A 20) (h : zg_RL N A P) : zg_RL N A2 P := by
  unfold zg_RL
  rw [h20]
  exact h
/-- the ranges that a balance needs, and keeps -/
def zh_K (n : Nat → Nat) (A : Nat → Nat → Int32) (P : Nat → Nat) : Prop := zg_R (n 2) A ∧ zg_RT (n 3) A ∧ zg_RL (n 4) A P ∧ A 31 = fun _ => A 31 0
/-- whoever runs on an island from s on has its least power -/
def zh_F (n : Nat → Nat) (A : Nat → Nat → Int32) (io : Nat → Int32) (s : Nat) : Prop := ∀ g, g < n 2 → A 13 g = 114 → (∃ j, s ≤ j ∧ j < 6 ∧ io (ze_ix (A 6 g)) = nI j) → A 7 g ≤ A 10 g
theorem zh_Ks {n : Nat → Nat} {A : Nat → Nat → Int32} {P : Nat → Nat} (io : Nat → Int32) (m : Int32) (i : Nat) (h : zh_K n A P) : zh_K n (zf_shed n A io m i) P :=
  ⟨zh_Rc (zh_shk n A io m i (by decide) (by decide)) (zh_shk n A io m i (by decide) (by decide)) (zh_shk n A io m i (by decide) (by decide)) h.1, zh_Tc (zh_shk n A io m i (by decide) (by decide)) (zh_shk n A io m i (by decide) (by decide)) (zh_shk n A io m i (by decide) (by decide)) h.2.1, zh_Lc (zh_shk n A io m i (by decide) (by decide)) h.2.2.1, by rw [zh_shk n A io m i (by decide : 31 ≠ 5) (by decide)]; exact h.2.2.2⟩
theorem zh_bal {n : Nat → Nat} {A : Nat → Nat → Int32} {io : Nat → Int32} {m : Int32} {P : Nat → Nat} (hN : zf_N n) (h : zh_K n A P) : zg_Bal n A io m := by
  obtain ⟨hR, hT, hL, h31⟩ := h
  obtain ⟨d, ed, ld⟩ := zh_dm (io := io) (m := m) hN hL
  obtain ⟨q, eq, lq⟩ := zh_gr (io := io) (m := m) (t := zf_dm n A io m) hN hR
  exact ⟨hR, hT, zh_fit hN hR ed (by omega), ⟨d, q, ed, eq, by omega, by omega⟩, h31⟩
theorem zh_bl {N : Nat} {A : Nat → Nat → Int32} {io : Nat → Int32} {m : Int32} {a b : Nat} (h : zg_RT N A) (ha : a < 2 ^ 30) (hb : b < 2 ^ 30) : ∀ k, k ≤ N → ∃ x y : Nat, zf_bl A io m (nI a) (nI b) k = (nI x, nI y) ∧ x ≤ a ∧ y ≤ b := by
  intro k
  induction k with
  | zero => exact fun _ => ⟨a, b, rfl, Nat.le_refl _, Nat.le_refl _⟩
  | succ k ih =>
    intro hk
    obtain ⟨x, y, e, lx, ly⟩ := ih (by omega)
    obtain ⟨u, v, e1, e2, l1, l2⟩ := zg_RTs h (by omega : k < N)
    simp only [zf_bl, e]
    by_cases q : io (ze_ix (A 14 k)) = m
    · rw [if_pos q, e1, e2, zf_mnN (by omega) (by omega), zf_mnN (by omega) (by omega), zn_sub (by omega) (by omega), zn_sub (by omega) (by omega)]
      exact ⟨x - min x u, y - min y v, rfl, by omega, by omega⟩
    · rw [if_neg q]
      exact ⟨x, y, rfl, lx, ly⟩
theorem zh_asb {a b c : Nat} (h : c ≤ a) (l : a + b < 2 ^ 31) : nI a + (nI b - nI c) = nI (a + b - c) := by
  rw [Int32.sub_eq_add_neg, ← Int32.add_assoc, nI_add, ← Int32.sub_eq_add_neg, zn_sub (by omega) (by omega)]
theorem zh_RT {n : Nat → Nat} {A : Nat → Nat → Int32} {io : Nat → Int32} {m : Int32} {P : Nat → Nat} (hN : zf_N n) (h : zh_K n A P) : zg_RT (n 3) (zf_bA n A io m) := by
  obtain ⟨hR, hT, hL, h31⟩ := h
  obtain ⟨d, ed, ld⟩ := zh_dm (io := io) (m := m) hN hL
  obtain ⟨q, eq, lq⟩ := zh_gr (io := io) (m := m) (t := zf_dm n A io m) hN hR
  have ed : zf_dm n A io m = nI d := ed
  have eq : (zf_gr n A io m).1 = nI q := eq
  have elk : zf_lk n A io m = nI (d - q) := by
    unfold zf_lk
    rw [ed, eq, zn_mxs (by omega) (by omega)]
  have eov : zf_ov n A io m = nI (q - d) := by
    unfold zf_ov
    rw [ed, eq, zn_mxs (by omega) (by omega)]
  intro k hk
  obtain ⟨ca, ra, he, e1, e2, e3, l1, l2, l3⟩ := hT k hk
  have r15 : zf_bA n A io m 15 = A 15 := rfl
  have r16 : zf_bA n A io m 16 = A 16 := rfl
  have r17 : zf_bA n A io m 17 k = zf_chg A io m (zf_lk n A io m) (zf_ov n A io m) k := by
    show ze_up _ (A 17) (n 3) k = _
    unfold ze_up
    rw [if_pos hk]
  rw [r15, r16, r17, elk, eov]
  obtain ⟨x, y, eb, lx, ly⟩ := zh_bl (io := io) (m := m) (a := d - q) (b := q - d) hT (by omega) (by omega) k (by omega)
  unfold zf_chg
  by_cases c : io (ze_ix (A 14 k)) = m
  · rw [if_pos c]
    unfold zf_inn zf_out
    rw [eb]
    simp only
    rw [e1, e2, e3, zn_sub l3 (by omega), zf_mnN (by omega) (by omega), zf_mnN (by omega) (by omega), zf_mnN (by omega) (by omega), zf_mnN (by omega) (by omega), zh_asb (by omega) (by omega)]
    exact ⟨ca, ra, _, rfl, rfl, rfl, l1, l2, by omega⟩
  · rw [if_neg c]
    exact ⟨ca, ra, he, e1, e2, e3, l1, l2, l3⟩
theorem zh_f10 {n : Nat → Nat} {A : Nat → Nat → Int32} {io : Nat → Int32} {m : Int32} {g : Nat} (hg : g < n 2) : zf_bA n A io m 10 g = A 10 g - (if zf_runs A io g m then (zf_gr n A io m).2 g else 0) := by
  show ze_up (zf_fuel A (zf_gr n A io m).2 io m) (A 10) (n 2) g = _
  unfold ze_up
  rw [if_pos hg]
  rfl
theorem zh_R {n : Nat → Nat} {A : Nat → Nat → Int32} {io : Nat → Int32} {m : Int32} (hR : zg_R (n 2) A) (hF : ∀ g, g < n 2 → zf_runs A io g m → A 7 g ≤ A 10 g) : zg_R (n 2) (zf_bA n A io m) := by
  intro g hg
  have r7 : zf_bA n A io m 7 = A 7 := rfl
  have r8 : zf_bA n A io m 8 = A 8 := rfl
  obtain ⟨le, gr, fu, e1, e2, e3, l1, l2, l3, l4⟩ := hR g hg
  rw [r7, r8, zh_f10 hg]
  by_cases q : zf_runs A io g m
  · rw [if_pos q]
    have hle := hF g hg q
    rw [e1, e3, nI_leI (by omega) (by omega)] at hle
    have hT := zg_Tle (n := n) (A := A) (io := io) (m := m) (t := zf_dm n A io m) hg
    have hS : zg_S A io m g = min gr fu - le := by
      unfold zg_S zf_can
      rw [if_pos q, e1, e2, e3, zf_mnN (by omega) (by omega), nI_clamp (by omega), nI_clamp (by omega)]
    have eg : (zf_gr n A io m).2 g = nI (le + zg_T n A io m (zf_dm n A io m) g) := by
      have h := zg_gv (io := io) (m := m) (t := zf_dm n A io m) hR hg
      rw [if_pos q, e1, nI_add] at h
      exact h
    rw [eg, e1, e2, e3, zn_sub (by omega) (by omega)]
    exact ⟨le, gr, _, rfl, rfl, rfl, l1, l2, by omega, l4⟩
  · rw [if_neg q, Int32.sub_zero]
    exact ⟨le, gr, fu, e1, e2, e3, l1, l2, l3, l4⟩
theorem zh_step {n : Nat → Nat} {A : Nat → Nat → Int32} {io : Nat → Int32} {s : Nat} {P : Nat → Nat} (hN : zf_N n) (hs : s < 6) (h : zh_K n A P) (hF : zh_F n A io s) : zh_K n (zf_balA n A io (nI s)) P ∧ zh_F n (zf_balA n A io (nI s)) io (s + 1) := by
  have h1 := zh_Ks io (nI s) (n 4) h
  unfold zf_balA
  generalize hA1 : zf_shed n A io (nI s) (n 4) = A1 at h1 ⊢
  have r6 : A1 6 = A 6 := by rw [← hA1]; exact zh_shk n A io (nI s) (n 4) (by decide) (by decide)
  have r7 : A1 7 = A 7 := by rw [← hA1]; exact zh_shk n A io (nI s) (n 4) (by decide) (by decide)
  have r10 : A1 10 = A 10 := by rw [← hA1]; exact zh_shk n A io (nI s) (n 4) (by decide) (by decide)
  have r13 : A1 13 = A 13 := by rw [← hA1]; exact zh_shk n A io (nI s) (n 4) (by decide) (by decide)
  have hF1 : zh_F n A1 io s := by
    unfold zh_F
    rw [r6, r7, r10, r13]
    exact hF
  clear hA1
  refine ⟨⟨zh_R h1.1 (fun g hg q => hF1 g hg q.1 ⟨s, Nat.le_refl s, hs, q.2⟩), zh_RT hN h1, zh_Lc rfl h1.2.2.1, rfl⟩, ?_⟩
  intro g hg hr hj
  have b13 : zf_bA n A1 io (nI s) 13 = A1 13 := rfl
  have b6 : zf_bA n A1 io (nI s) 6 = A1 6 := rfl
  have b7 : zf_bA n A1 io (nI s) 7 = A1 7 := rfl
  rw [b13] at hr
  rw [b6] at hj
  obtain ⟨j, lj, l6, ej⟩ := hj
  rw [b7, zh_f10 hg, if_neg (fun q => by
    have e := (nI_eq (by omega) (by omega)).mp (ej.symm.trans q.2)
    omega), Int32.sub_zero]
  exact hF1 g hg hr ⟨j, by omega, l6, ej⟩
theorem zh_K0 {n : Nat → Nat} {A : Nat → Nat → Int32} {P : Nat → Nat} (h : zh_K n A P) : zh_K n (zf_t0 n A) P := ⟨zh_Rc rfl rfl rfl h.1, zh_Tc rfl rfl rfl h.2.1, zh_Lc rfl h.2.2.1, rfl⟩
theorem zh_F0 {n : Nat → Nat} {A : Nat → Nat → Int32} (io : Nat → Int32) : zh_F n (zf_t0 n A) io 0 := by
  intro g hg hr _
  have e13 : zf_t0 n A 13 g = zf_tS A g := by
    show ze_up (zf_tS A) (A 13) (n 2) g = _
    unfold ze_up
    rw [if_pos hg]
  have e7 : zf_t0 n A 7 = A 7 := rfl
  have e10 : zf_t0 n A 10 = A 10 := rfl
  rw [e13] at hr
  rw [e7, e10]
  unfold zf_tS at hr
  by_cases c : zf_tS0 A g = 114 ∧ ¬ A 7 g ≤ A 10 g
  · rw [if_pos c] at hr
    exact absurd hr (by decide)
  · rw [if_neg c] at hr
    exact Classical.byContradiction (fun z => c ⟨hr, z⟩)
theorem zh_il {n : Nat → Nat} {X : Nat → Nat → Int32} {B : Nat → Int64} {io : Nat → Int32} {P : Nat → Nat} (hN : zf_N n) (h : zh_K n X P) (hF : zh_F n X io 0) : ∀ s, s ≤ n 0 → zh_K n (zf_il n io X B s).1 P ∧ zh_F n (zf_il n io X B s).1 io s := by
  intro s
  induction s with
  | zero => exact fun _ => ⟨h, hF⟩
  | succ s ih =>
    intro hs
    have h6 := hN.1
    obtain ⟨i1, i2⟩ := ih (by omega)
    simp only [zf_il]
    by_cases q : io s = nI s
    · rw [if_pos q]
      exact zh_step hN (by omega) i1 i2
    · rw [if_neg q]
      exact ⟨i1, fun g hg hr ⟨j, lj, l6, ej⟩ => i2 g hg hr ⟨j, by omega, l6, ej⟩⟩
theorem zh_tk {n : Nat → Nat} {A : Nat → Nat → Int32} {B : Nat → Int64} {E : Nat → Nat → Int32} {P : Nat → Nat} (hN : zf_N n) (hE : E 0 = zf_CI n A) (h : zh_K n A P) :
    ((zf_ctk n A B E).1 = (zf_tk n A B).1 ∧ (zf_ctk n A B E).2.1 = (zf_tk n A B).2 ∧ ∀ k, k ≠ 3 → (zf_ctk n A B E).2.2 k = E k) ∧ zh_K n (zf_tk n A B).1 P := by
  have hi := zh_il (B := B) (io := zf_CI n A) hN (zh_K0 h) (zh_F0 (A := A) (zf_CI n A))
  exact ⟨zg_tk hN hE (fun j hj _ => zh_bal hN (zh_Ks _ _ _ (hi j (by omega)).1)), (hi (n 0) (Nat.le_refl _)).1⟩
theorem zh_tks {n : Nat → Nat} {A : Nat → Nat → Int32} {B : Nat → Int64} {E : Nat → Nat → Int32} {P : Nat → Nat} (hN : zf_N n) (hE : E 0 = zf_CI n A) (h : zh_K n A P) : ∀ t : Nat,
    ((zf_ctks n A B E t).1 = (zf_tks n A B t).1 ∧ (zf_ctks n A B E t).2.1 = (zf_tks n A B t).2 ∧ ∀ k, k ≠ 3 → (zf_ctks n A B E t).2.2 k = E k) ∧ zh_K n (zf_tks n A B t).1 P := by
  intro t
  induction t with
  | zero => exact ⟨⟨rfl, rfl, fun _ _ => rfl⟩, h⟩
  | succ t ih =>
    obtain ⟨⟨i1, i2, i3⟩, iK⟩ := ih
    have hE2 : (zf_ctks n A B E t).2.2 0 = zf_CI n (zf_tks n A B t).1 := by rw [i3 0 (by decide), hE, zf_tksCI]
    obtain ⟨⟨j1, j2, j3⟩, jK⟩ := zh_tk (B := (zf_tks n A B t).2) hN hE2 iK
    simp only [zf_ctks, zf_tks, i1, i2]
    exact ⟨⟨j1, j2, fun k hk => (j3 k hk).trans (i3 k hk)⟩, jK⟩
/-- rows that are zero beyond the counts -/
def zh_Z (n : Nat → Nat) (A : Nat → Nat → Int32) : Prop := (∀ g, n 2 ≤ g → A 11 g = 0 ∧ A 12 g = 0) ∧ (∀ k, n 3 ≤ k → A 17 k = 0 ∧ A 18 k = 0) ∧ ∀ k, n 4 ≤ k → A 5 k = 0 ∧ A 22 k = 0
theorem zh_upz {f g : Nat → Int32} {N k : Nat} (h : N ≤ k) : ze_up f g N k = g k := by
  have q : ¬ k < N := by omega
  simp [ze_up, q]
theorem zh_Zb {n : Nat → Nat} {A : Nat → Nat → Int32} (io : Nat → Int32) (m : Int32) (h : zh_Z n A) : zh_Z n (zf_balA n A io m) := by
  obtain ⟨h1, h2, h3⟩ := h
  refine ⟨fun g hg => ⟨(h1 g hg).1, ?_⟩, fun k hk => ⟨?_, ?_⟩, fun k hk => ⟨?_, ?_⟩⟩
  · exact (zf_giveshi n (zf_shed n A io m (n 4)) io m _ g hg).trans (h1 g hg).2
  · exact (zh_upz (f := zf_chg (zf_shed n A io m (n 4)) io m (zf_lk n (zf_shed n A io m (n 4)) io m) (zf_ov n (zf_shed n A io m (n 4)) io m)) (g := A 17) hk).trans (h2 k hk).1
  · exact (zh_upz (f := zf_flow (zf_shed n A io m (n 4)) io m (zf_lk n (zf_shed n A io m (n 4)) io m) (zf_ov n (zf_shed n A io m (n 4)) io m)) (g := A 18) hk).trans (h2 k hk).2
  · exact (zh_upz (f := zf_sD n A io m) (g := A 5) hk).trans (h3 k hk).1
  · exact (zh_upz (f := zf_sW n A io m) (g := A 22) hk).trans (h3 k hk).2
theorem zh_Zt {n : Nat → Nat} {A : Nat → Nat → Int32} (h : zh_Z n A) : zh_Z n (zf_t0 n A) := by
  obtain ⟨h1, h2, h3⟩ := h
  exact ⟨fun g hg => ⟨(zh_upz (f := zf_tG A) (g := A 11) hg).trans (h1 g hg).1, (zh_upz (f := fun _ => 0) (g := A 12) hg).trans (h1 g hg).2⟩, h2, h3⟩
theorem zh_Zil {n : Nat → Nat} {X : Nat → Nat → Int32} {B : Nat → Int64} {io : Nat → Int32} (h : zh_Z n X) : ∀ s, zh_Z n (zf_il n io X B s).1 := by
  intro s
  induction s with
  | zero => exact h
  | succ s ih =>
    simp only [zf_il]
    by_cases q : io s = nI s
    · rw [if_pos q]
      exact zh_Zb io (nI s) ih
    · rw [if_neg q]
      exact ih
theorem zh_Ztks {n : Nat → Nat} {A : Nat → Nat → Int32} {B : Nat → Int64} (h : zh_Z n A) : ∀ t, zh_Z n (zf_tks n A B t).1 := by
  intro t
  induction t with
  | zero => exact h
  | succ t ih => exact zh_Zil (zh_Zt ih) (n 0)
