/-! ===== what always holds between the law's calls ===== -/
def zv_I (n : Nat → Nat) (A E : Nat → Nat → Int32) (mk : Nat → Int32) : Prop := zf_N n ∧ zf_S n A ∧ E 0 = zf_CI n A ∧ (∀ s, n 0 ≤ s → mk s = 0) ∧ (∀ i, A 4 i = 0 ∨ A 4 i = 1) ∧ (∀ i, n 1 ≤ i → A 4 i = 0) ∧ (A 38 0 = 0 ∨ A 38 0 = 1) ∧ (∀ g, g < n 2 → zf_chr (A 13 g)) ∧ (∃ P, zh_K n A P) ∧ zh_Z n A ∧ ∃ p : Nat, A 0 0 = nI p ∧ p < 360
theorem zv_mk {n : Nat → Nat} {A E : Nat → Nat → Int32} {mk mk2 : Nat → Int32} (h : zv_I n A E mk) (h2 : ∀ s, n 0 ≤ s → mk2 s = 0) : zv_I n A E mk2 := ⟨h.1, h.2.1, h.2.2.1, h2, h.2.2.2.2⟩
theorem zv_ci {n : Nat → Nat} {A E : Nat → Nat → Int32} {mk : Nat → Int32} (h : zv_I n A E mk) : ∀ s, n 0 ≤ s → zf_CI n A s = 0 := zf_CIz h.1 h.2.1
theorem zv_E {n : Nat → Nat} {A E E2 : Nat → Nat → Int32} {mk : Nat → Int32} (h : zv_I n A E mk) (h2 : E2 0 = E 0) : zv_I n A E2 mk := ⟨h.1, h.2.1, h2.trans h.2.2.1, h.2.2.2⟩
theorem zv_hE {n : Nat → Nat} {A E : Nat → Nat → Int32} {mk : Nat → Int32} (h : zv_I n A E mk) : ∀ x, zf_site n x → zf_site n (E 0 (ze_ix x)) := by
  rw [h.2.2.1]
  exact fun x hx => zf_CIsite h.1 h.2.1 hx
theorem zv_rng {y : Int32} {a b : Nat} (h : zf_isIn y (nI a) (nI b)) (ha : a < 2 ^ 31) (hb : b < 2 ^ 31) : ∃ q : Nat, y = nI q ∧ a ≤ q ∧ q ≤ b := by
  obtain ⟨h1, h2⟩ := h
  rw [Int32.lt_iff_toInt_lt, nI_toInt ha] at h1
  rw [Int32.lt_iff_toInt_lt, nI_toInt hb] at h2
  refine ⟨y.toInt.toNat, ?_, by omega, by omega⟩
  apply Int32.toInt_inj.mp
  rw [nI_toInt (by omega)]
  omega
theorem zv_QE {l : Launch} {y : MethodName} {w : List Cond} {fr lo mc ms : Nat} {D : va_G} {c : Nat → ClassId} {ws : va_W} {av : List Value} {v : Int32} {ws2 : va_W} (h : ze_Q l y w fr lo mc ms D c ws av v ws2) : ze_QE l y w fr lo mc ms D c ws av v (fun _ => ws2) := fun sz =>
  MetFree.mono (h sz) (fun _ _ z => z) (fun _ _ _ _ _ z => z) (fun _ _ _ _ _ z => by
    obtain ⟨⟨⟨r, u, e1, e2, e3⟩, e4⟩, e5⟩ := z
    exact ⟨⟨⟨r, 0, e1, e2, e3⟩, e4⟩, e5⟩)
/-- one call: class and reference answer alike, and what always holds holds again -/
def zv_O (l : Launch) (D : va_G) (c : Nat → ClassId) (a d n : Nat → Nat) (A : Nat → Nat → Int32) (B : Nat → Int64) (E : Nat → Nat → Int32) (mk : Nat → Int32) (th : Int32) (o : Nat) (f : Nat → Int64) (yc : MethodName) (wc : List Cond) (yr : MethodName) (wr : List Cond) (As : List Value) (G : Int32 → Prop) : Prop :=
  ∃ (k v : Int32) (fr lo mc ms fr2 lo2 mc2 ms2 : Nat) (a2 : Nat → Nat → Nat) (n2 : Nat → Nat) (A2 : Nat → Nat → Int32) (B2 : Nat → Int64) (E2 : Nat → Nat → Int32) (mk2 : Nat → Int32) (f2 : Nat → Int64),
    (fr ≤ 10 ∧ lo ≤ 400 ∧ mc ≤ 1 ∧ ms ≤ 8 ∧ fr2 ≤ 10 ∧ lo2 ≤ 400 ∧ mc2 ≤ 1 ∧ ms2 ≤ 6) ∧
    ze_QE l yc wc fr lo mc ms D c (ze_wC c a n A B E ++ [(o, .inl (c 6, 1, .inr (.inl f)))]) (.ref (a 0) :: (As ++ [.ref o])) k (fun q => ze_wC c (a2 q) n2 A2 B2 E2 ++ [(o, .inl (c 6, 1, .inr (.inl f2)))]) ∧
    ze_I l yr wr fr2 lo2 mc2 ms2 D c (ze_wR c d n A B mk th) (.ref (d 0) :: As) v (ze_wR c d n2 A2 B2 mk2 k) ∧
    (k = 0 → f2 0 = v.toInt64) ∧ (∀ q, a2 q 0 = a 0) ∧ G v ∧ zv_I n2 A2 E2 mk2
section ZV
variable {l : Launch} {D : va_G} {c : Nat → ClassId} {a d n : Nat → Nat} {A : Nat → Nat → Int32} {B : Nat → Int64} {E : Nat → Nat → Int32} {mk : Nat → Int32} {th : Int32} {o : Nat} {f : Nat → Int64}
theorem zv_thr {yc : MethodName} {wc : List Cond} {yr : MethodName} {wr : List Cond} {As : List Value} {G : Int32 → Prop} {k v : Int32} {fr lo mc ms fr2 lo2 mc2 ms2 : Nat} {mk2 : Nat → Int32} (hI : zv_I n A E mk) (hz : ∀ s, n 0 ≤ s → mk2 s = 0)
    (hc : ze_Q l yc wc fr lo mc ms D c (ze_wC c a n A B E ++ [(o, .inl (c 6, 1, .inr (.inl f)))]) (.ref (a 0) :: (As ++ [.ref o])) k (ze_wC c a n A B E ++ [(o, .inl (c 6, 1, .inr (.inl f)))]))
    (hr : ze_I l yr wr fr2 lo2 mc2 ms2 D c (ze_wR c d n A B mk th) (.ref (d 0) :: As) v (ze_wR c d n A B mk2 k))
    (hk : ¬ k = 0) (hG : G v) (hb : fr ≤ 10 ∧ lo ≤ 400 ∧ mc ≤ 1 ∧ ms ≤ 8 ∧ fr2 ≤ 10 ∧ lo2 ≤ 400 ∧ mc2 ≤ 1 ∧ ms2 ≤ 6) : zv_O l D c a d n A B E mk th o f yc wc yr wr As G :=
  ⟨k, v, fr, lo, mc, ms, fr2, lo2, mc2, ms2, fun _ => a, n, A, B, E, mk2, f, hb, zv_QE hc, hr, fun h => absurd h hk, fun _ => rfl, hG, zv_mk hI hz⟩
theorem zv_ok {yc : MethodName} {wc : List Cond} {yr : MethodName} {wr : List Cond} {As : List Value} {G : Int32 → Prop} {v : Int32} {fr lo mc ms fr2 lo2 mc2 ms2 : Nat} {n2 : Nat → Nat} {A2 : Nat → Nat → Int32} {B2 : Nat → Int64} {E2 : Nat → Nat → Int32} {mk2 : Nat → Int32} {x : Int64} (hI : zv_I n2 A2 E2 mk2)
    (hc : ze_Q l yc wc fr lo mc ms D c (ze_wC c a n A B E ++ [(o, .inl (c 6, 1, .inr (.inl f)))]) (.ref (a 0) :: (As ++ [.ref o])) 0 (ze_wC c a n2 A2 B2 E2 ++ [(o, .inl (c 6, 1, .inr (.inl (vp_updL f 0 x))))]))
    (hr : ze_I l yr wr fr2 lo2 mc2 ms2 D c (ze_wR c d n A B mk th) (.ref (d 0) :: As) v (ze_wR c d n2 A2 B2 mk2 0))
    (he : x = v.toInt64) (hG : G v) (hb : fr ≤ 10 ∧ lo ≤ 400 ∧ mc ≤ 1 ∧ ms ≤ 8 ∧ fr2 ≤ 10 ∧ lo2 ≤ 400 ∧ mc2 ≤ 1 ∧ ms2 ≤ 6) : zv_O l D c a d n A B E mk th o f yc wc yr wr As G :=
  ⟨0, v, fr, lo, mc, ms, fr2, lo2, mc2, ms2, fun _ => a, n2, A2, B2, E2, mk2, vp_updL f 0 x, hb, zv_QE hc, hr, fun _ => by rw [← he]; rfl, fun _ => rfl, hG, hI⟩
theorem zv_okE {yc : MethodName} {wc : List Cond} {yr : MethodName} {wr : List Cond} {As : List Value} {G : Int32 → Prop} {v : Int32} {fr lo mc ms fr2 lo2 mc2 ms2 : Nat} {a2 : Nat → Nat → Nat} {n2 : Nat → Nat} {A2 : Nat → Nat → Int32} {B2 : Nat → Int64} {E2 : Nat → Nat → Int32} {mk2 : Nat → Int32} {x : Int64} (hI : zv_I n2 A2 E2 mk2)
    (hc : ze_QE l yc wc fr lo mc ms D c (ze_wC c a n A B E ++ [(o, .inl (c 6, 1, .inr (.inl f)))]) (.ref (a 0) :: (As ++ [.ref o])) 0 (fun q => ze_wC c (a2 q) n2 A2 B2 E2 ++ [(o, .inl (c 6, 1, .inr (.inl (vp_updL f 0 x))))]))
    (hr : ze_I l yr wr fr2 lo2 mc2 ms2 D c (ze_wR c d n A B mk th) (.ref (d 0) :: As) v (ze_wR c d n2 A2 B2 mk2 0))
    (ha : ∀ q, a2 q 0 = a 0) (he : x = v.toInt64) (hG : G v) (hb : fr ≤ 10 ∧ lo ≤ 400 ∧ mc ≤ 1 ∧ ms ≤ 8 ∧ fr2 ≤ 10 ∧ lo2 ≤ 400 ∧ mc2 ≤ 1 ∧ ms2 ≤ 6) : zv_O l D c a d n A B E mk th o f yc wc yr wr As G :=
  ⟨0, v, fr, lo, mc, ms, fr2, lo2, mc2, ms2, a2, n2, A2, B2, E2, mk2, vp_updL f 0 x, hb, hc, hr, fun _ => by rw [← he]; rfl, ha, hG, hI⟩
end ZV
/-! ===== each change of the state keeps what always holds ===== -/
section ZI
variable {n : Nat → Nat} {A E : Nat → Nat → Int32} {mk : Nat → Int32}
theorem zv_addSite (h : zv_I n A E mk) (h6 : n 0 < 6) {E2 : Nat → Nat → Int32} (hE2 : E2 0 = zf_CI (ze_sn n 0 (n 0 + 1)) A) : zv_I (ze_sn n 0 (n 0 + 1)) A E2 mk := by
  obtain ⟨hN, hS, hE, hz, h4, h4z, hT, hC, ⟨P, hK⟩, hZ, hp⟩ := h
  exact ⟨zf_N1 hN h6, zf_S1 hS, hE2, fun s hs => hz s (by have e : ze_sn n 0 (n 0 + 1) 0 = n 0 + 1 := rfl; omega), h4, h4z, hT, hC, ⟨P, hK⟩, hZ, hp⟩
theorem zv_setPhase (h : zv_I n A E mk) {j : Nat} {y : Int32} (hy : zf_isIn y 0 359) : zv_I n (ze_sE A 0 j y) E mk := by
  obtain ⟨hN, hS, hE, hz, h4, h4z, hT, hC, ⟨P, hK⟩, hZ, p, ep, lp⟩ := h
  refine ⟨hN, zf_Scong rfl rfl rfl rfl rfl hS, hE.trans (zf_CIcong rfl rfl rfl), hz, h4, h4z, hT, hC, ⟨P, hK⟩, hZ, ?_⟩
  by_cases c : 0 = j
  · subst c
    obtain ⟨q, e, -, l⟩ := zv_rng (a := 0) (b := 359) hy (by decide) (by decide)
    exact ⟨q, e, by omega⟩
  · refine ⟨p, ?_, lp⟩
    rw [ze_sE_ne c]
    exact ep
theorem zv_mlc {A A2 : Nat → Nat → Int32} {L : Nat} (h2 : ∀ i, i < L → A2 2 i = A 2 i) (h3 : ∀ i, i < L → A2 3 i = A 3 i) (h4 : ∀ i, i < L → A2 4 i = A 4 i) (mk : Nat → Int32) : ∀ i, i ≤ L → zf_ml A2 mk i = zf_ml A mk i := by
  intro i
  induction i with
  | zero => exact fun _ => rfl
  | succ i ih =>
    intro hi
    simp only [zf_ml, ih (by omega), h2 i (by omega), h3 i (by omega), h4 i (by omega)]
theorem zv_addLine (h : zv_I n A E mk) (h8 : n 1 < 8) {j k : Nat} (hj : j < n 0) (hk : k < n 0) : zv_I (ze_sn n 1 (n 1 + 1)) (ze_sE (ze_sE A 2 (n 1) (nI j)) 3 (n 1) (nI k)) E mk := by
  obtain ⟨hN, hS, hE, hz, h4, h4z, hT, hC, ⟨P, hK⟩, hZ, hp⟩ := h
  have r2 : ∀ i, i < n 1 → (ze_sE (ze_sE A 2 (n 1) (nI j)) 3 (n 1) (nI k)) 2 i = A 2 i := by
    intro i hi
    rw [ze_sE_ne (by omega), ze_sE_ne (by omega)]
  have r3 : ∀ i, i < n 1 → (ze_sE (ze_sE A 2 (n 1) (nI j)) 3 (n 1) (nI k)) 3 i = A 3 i := by
    intro i hi
    rw [ze_sE_ne (by omega), ze_sE_ne (by omega)]
  have r2n : (ze_sE (ze_sE A 2 (n 1) (nI j)) 3 (n 1) (nI k)) 2 (n 1) = nI j := by simp [ze_sE, ze_sA, upd]
  have r3n : (ze_sE (ze_sE A 2 (n 1) (nI j)) 3 (n 1) (nI k)) 3 (n 1) = nI k := by simp [ze_sE, ze_sA, upd]
  refine ⟨⟨hN.1, (by show n 1 + 1 ≤ 8; omega), hN.2.2⟩, ⟨fun i hi => ?_, hS.2.1, hS.2.2.1, hS.2.2.2⟩, ?_, hz, h4, fun i hi => h4z i (by have e : ze_sn n 1 (n 1 + 1) 1 = n 1 + 1 := rfl; omega), hT, hC, ⟨P, hK⟩, hZ, hp⟩
  · have hi : i < n 1 + 1 := hi
    by_cases q : i = n 1
    · rw [q, r2n, r3n]
      exact ⟨⟨j, hj, rfl⟩, ⟨k, hk, rfl⟩⟩
    · rw [r2 i (by omega), r3 i (by omega)]
      exact hS.1 i (by omega)
  · rw [hE]
    generalize hA2 : ze_sE (ze_sE A 2 (n 1) (nI j)) 3 (n 1) (nI k) = A2 at r2 r3 ⊢
    have r4 : A2 4 = A 4 := by rw [← hA2]; rfl
    have e1 : ∀ m, zf_ml A2 m (n 1 + 1) = zf_ml A m (n 1) := by
      intro m
      have e2 := zv_mlc r2 r3 (fun i _ => by rw [r4]) m (n 1) (Nat.le_refl _)
      have e3 : A2 4 (n 1) = 0 := by rw [r4]; exact h4z _ (Nat.le_refl _)
      simp only [zf_ml]
      rw [if_pos e3, e2]
    have e4 : ∀ r m, zf_mr A2 (n 1 + 1) m r = zf_mr A (n 1) m r := by
      intro r m
      induction r with
      | zero => rfl
      | succ r ih => simp only [zf_mr, ih, e1]
    exact (e4 6 _).symm
theorem zv_line (h : zv_I n A E mk) {j : Nat} (hj : j < n 1) {y : Int32} (hy : y = 0 ∨ y = 1) {E2 : Nat → Nat → Int32} (hE2 : E2 0 = zf_CI n (ze_sE A 4 j y)) {mk2 : Nat → Int32} (h2 : ∀ s, n 0 ≤ s → mk2 s = 0) : zv_I n (ze_sE A 4 j y) E2 mk2 := by
  obtain ⟨hN, hS, hE, hz, h4, h4z, hT, hC, ⟨P, hK⟩, hZ, hp⟩ := h
  refine ⟨hN, zf_Scong rfl rfl rfl rfl rfl hS, hE2, h2, fun i => ?_, fun i hi => ?_, hT, hC, ⟨P, hK⟩, hZ, hp⟩
  · by_cases q : i = j
    · subst q
      have e : ze_sE A 4 i y 4 i = y := by simp [ze_sE, ze_sA, upd]
      rw [e]
      exact hy
    · rw [ze_sE_ne q]
      exact h4 i
  · rw [ze_sE_ne (by omega)]
    exact h4z i hi
theorem zv_tie (h : zv_I n A E mk) {y : Int32} (hy : y = 0 ∨ y = 1) {mk2 : Nat → Int32} (h2 : ∀ s, n 0 ≤ s → mk2 s = 0) : zv_I n (ze_sC A 38 y) E mk2 := by
  obtain ⟨hN, hS, hE, hz, h4, h4z, hT, hC, ⟨P, hK⟩, hZ, hp⟩ := h
  exact ⟨hN, zf_Scong rfl rfl rfl rfl rfl hS, hE.trans (zf_CIcong rfl rfl rfl), h2, h4, h4z, hy, hC, ⟨P, hK⟩, hZ, hp⟩
theorem zv_char (h : zv_I n A E mk) {j : Nat} {y : Int32} (hy : zf_chr y) : zv_I n (ze_sE A 13 j y) E mk := by
  obtain ⟨hN, hS, hE, hz, h4, h4z, hT, hC, ⟨P, hK⟩, hZ, hp⟩ := h
  refine ⟨hN, zf_Scong rfl rfl rfl rfl rfl hS, hE.trans (zf_CIcong rfl rfl rfl), hz, h4, h4z, hT, fun g hg => ?_, ⟨P, hK⟩, hZ, hp⟩
  by_cases q : g = j
  · subst q
    have e : ze_sE A 13 g y 13 g = y := by simp [ze_sE, ze_sA, upd]
    rw [e]
    exact hy
  · rw [ze_sE_ne q]
    exact hC g hg
theorem zv_toGo (h : zv_I n A E mk) {j : Nat} (hj : j < n 2) {y : Int32} : zv_I n (ze_sE A 11 j y) E mk := by
  obtain ⟨hN, hS, hE, hz, h4, h4z, hT, hC, ⟨P, hK⟩, hZ, hp⟩ := h
  refine ⟨hN, zf_Scong rfl rfl rfl rfl rfl hS, hE.trans (zf_CIcong rfl rfl rfl), hz, h4, h4z, hT, hC, ⟨P, hK⟩, ⟨fun g hg => ⟨?_, (hZ.1 g hg).2⟩, hZ.2⟩, hp⟩
  rw [ze_sE_ne (by omega)]
  exact (hZ.1 g hg).1
theorem zv_start (h : zv_I n A E mk) {j : Nat} (hj : j < n 2) : zv_I n (zf_start A j) E mk := by
  unfold zf_start
  refine zv_char (zv_toGo h hj) ?_
  by_cases q : A 9 j = 0
  · rw [if_pos q]
    exact Or.inr (Or.inr rfl)
  · rw [if_neg q]
    exact Or.inr (Or.inl rfl)
theorem zv_refuel (h : zv_I n A E mk) {j : Nat} {y : Int32} (hy : zf_isIn y 1 9999) (h2 : A 10 j + y ≤ 99999) : zv_I n (ze_sE A 10 j (A 10 j + y)) E mk := by
  obtain ⟨hN, hS, hE, hz, h4, h4z, hT, hC, ⟨P, hK⟩, hZ, hp⟩ := h
  refine ⟨hN, zf_Scong rfl rfl rfl rfl rfl hS, hE.trans (zf_CIcong rfl rfl rfl), hz, h4, h4z, hT, hC, ⟨P, ⟨fun g hg => ?_, hK.2⟩⟩, hZ, hp⟩
  obtain ⟨le, gr, fu, e1, e2, e3, l1, l2, l3, l4⟩ := hK.1 g hg
  by_cases q : g = j
  · subst q
    obtain ⟨z, ez, lz1, lz2⟩ := zv_rng (a := 1) (b := 9999) hy (by decide) (by decide)
    have e : ze_sE A 10 g (A 10 g + y) 10 g = nI (fu + z) := by
      rw [e3, ez, nI_add]
      simp [ze_sE, ze_sA, upd]
    rw [e3, ez, nI_add] at h2
    have h3 : nI (fu + z) ≤ nI 99999 := h2
    rw [nI_leI (by omega) (by decide)] at h3
    exact ⟨le, gr, fu + z, e1, e2, e, l1, l2, h3, l4⟩
  · refine ⟨le, gr, fu, e1, e2, ?_, l1, l2, l3, l4⟩
    rw [ze_sE_ne q]
    exact e3
theorem zv_setRank (h : zv_I n A E mk) {j : Nat} {y : Int32} : zv_I n (ze_sE A 21 j y) E mk := by
  obtain ⟨hN, hS, hE, hz, h4, h4z, hT, hC, ⟨P, hK⟩, hZ, hp⟩ := h
  exact ⟨hN, zf_Scong rfl rfl rfl rfl rfl hS, hE.trans (zf_CIcong rfl rfl rfl), hz, h4, h4z, hT, hC, ⟨P, hK⟩, hZ, hp⟩
theorem zv_setReserve (h : zv_I n A E mk) {y : Int32} : zv_I n (ze_sC A 28 y) E mk := by
  obtain ⟨hN, hS, hE, hz, h4, h4z, hT, hC, ⟨P, hK⟩, hZ, hp⟩ := h
  exact ⟨hN, zf_Scong rfl rfl rfl rfl rfl hS, hE.trans (zf_CIcong rfl rfl rfl), hz, h4, h4z, hT, hC, ⟨P, hK⟩, hZ, hp⟩
theorem zv_setDelay (h : zv_I n A E mk) {y : Int32} : zv_I n (ze_sC A 29 y) E mk := by
  obtain ⟨hN, hS, hE, hz, h4, h4z, hT, hC, ⟨P, hK⟩, hZ, hp⟩ := h
  exact ⟨hN, zf_Scong rfl rfl rfl rfl rfl hS, hE.trans (zf_CIcong rfl rfl rfl), hz, h4, h4z, hT, hC, ⟨P, hK⟩, hZ, hp⟩
theorem zv_addGenerator (h : zv_I n A E mk) (h6 : n 2 < 6) {j : Nat} (hj : j < n 0) {le gr wu fu : Int32} (h1 : zf_isIn le 0 100) (h2 : zf_isIn gr 1 200) (h3 : ¬ gr < le) (h5 : zf_isIn fu 0 9999) : zv_I (ze_sn n 2 (n 2 + 1)) (ze_sE (ze_sE (ze_sE (ze_sE (ze_sE (ze_sE A 6 (n 2) (nI j)) 7 (n 2) le) 8 (n 2) gr) 9 (n 2) wu) 10 (n 2) fu) 13 (n 2) 111) E mk := by
  obtain ⟨hN, hS, hE, hz, h4, h4z, hT, hC, ⟨P, hK⟩, hZ, hp⟩ := h
  have hne : ∀ r i, i < n 2 → (ze_sE (ze_sE (ze_sE (ze_sE (ze_sE (ze_sE A 6 (n 2) (nI j)) 7 (n 2) le) 8 (n 2) gr) 9 (n 2) wu) 10 (n 2) fu) 13 (n 2) 111) r i = A r i := by
    intro r i hi
    rw [ze_sE_ne (by omega), ze_sE_ne (by omega), ze_sE_ne (by omega), ze_sE_ne (by omega), ze_sE_ne (by omega), ze_sE_ne (by omega)]
  have r6 : (ze_sE (ze_sE (ze_sE (ze_sE (ze_sE (ze_sE A 6 (n 2) (nI j)) 7 (n 2) le) 8 (n 2) gr) 9 (n 2) wu) 10 (n 2) fu) 13 (n 2) 111) 6 (n 2) = nI j := by simp [ze_sE, ze_sA, upd]
  have r7 : (ze_sE (ze_sE (ze_sE (ze_sE (ze_sE (ze_sE A 6 (n 2) (nI j)) 7 (n 2) le) 8 (n 2) gr) 9 (n 2) wu) 10 (n 2) fu) 13 (n 2) 111) 7 (n 2) = le := by simp [ze_sE, ze_sA, upd]
  have r8 : (ze_sE (ze_sE (ze_sE (ze_sE (ze_sE (ze_sE A 6 (n 2) (nI j)) 7 (n 2) le) 8 (n 2) gr) 9 (n 2) wu) 10 (n 2) fu) 13 (n 2) 111) 8 (n 2) = gr := by simp [ze_sE, ze_sA, upd]
  have r10 : (ze_sE (ze_sE (ze_sE (ze_sE (ze_sE (ze_sE A 6 (n 2) (nI j)) 7 (n 2) le) 8 (n 2) gr) 9 (n 2) wu) 10 (n 2) fu) 13 (n 2) 111) 10 (n 2) = fu := by simp [ze_sE, ze_sA, upd]
  have r13 : (ze_sE (ze_sE (ze_sE (ze_sE (ze_sE (ze_sE A 6 (n 2) (nI j)) 7 (n 2) le) 8 (n 2) gr) 9 (n 2) wu) 10 (n 2) fu) 13 (n 2) 111) 13 (n 2) = 111 := by simp [ze_sE, ze_sA, upd]
  have r15 : (ze_sE (ze_sE (ze_sE (ze_sE (ze_sE (ze_sE A 6 (n 2) (nI j)) 7 (n 2) le) 8 (n 2) gr) 9 (n 2) wu) 10 (n 2) fu) 13 (n 2) 111) 15 = A 15 := rfl
  have hE3 : zf_CI n A = zf_CI (ze_sn n 2 (n 2 + 1)) (ze_sE (ze_sE (ze_sE (ze_sE (ze_sE (ze_sE A 6 (n 2) (nI j)) 7 (n 2) le) 8 (n 2) gr) 9 (n 2) wu) 10 (n 2) fu) 13 (n 2) 111) := zf_CIcong (n := n) rfl rfl rfl
  have hL : zg_RL (n 4) (ze_sE (ze_sE (ze_sE (ze_sE (ze_sE (ze_sE A 6 (n 2) (nI j)) 7 (n 2) le) 8 (n 2) gr) 9 (n 2) wu) 10 (n 2) fu) 13 (n 2) 111) P := hK.2.2.1
  have hRT : zg_RT (n 3) (ze_sE (ze_sE (ze_sE (ze_sE (ze_sE (ze_sE A 6 (n 2) (nI j)) 7 (n 2) le) 8 (n 2) gr) 9 (n 2) wu) 10 (n 2) fu) 13 (n 2) 111) := hK.2.1
  have h31 : (ze_sE (ze_sE (ze_sE (ze_sE (ze_sE (ze_sE A 6 (n 2) (nI j)) 7 (n 2) le) 8 (n 2) gr) 9 (n 2) wu) 10 (n 2) fu) 13 (n 2) 111) 31 = fun _ => A 31 0 := hK.2.2.2
  have hS1 : ∀ i, i < n 1 → zf_site n ((ze_sE (ze_sE (ze_sE (ze_sE (ze_sE (ze_sE A 6 (n 2) (nI j)) 7 (n 2) le) 8 (n 2) gr) 9 (n 2) wu) 10 (n 2) fu) 13 (n 2) 111) 2 i) ∧ zf_site n ((ze_sE (ze_sE (ze_sE (ze_sE (ze_sE (ze_sE A 6 (n 2) (nI j)) 7 (n 2) le) 8 (n 2) gr) 9 (n 2) wu) 10 (n 2) fu) 13 (n 2) 111) 3 i) := hS.1
  have hS3 : ∀ i, i < n 3 → zf_site n ((ze_sE (ze_sE (ze_sE (ze_sE (ze_sE (ze_sE A 6 (n 2) (nI j)) 7 (n 2) le) 8 (n 2) gr) 9 (n 2) wu) 10 (n 2) fu) 13 (n 2) 111) 14 i) := hS.2.2.1
  have hS4 : ∀ i, i < n 4 → zf_site n ((ze_sE (ze_sE (ze_sE (ze_sE (ze_sE (ze_sE A 6 (n 2) (nI j)) 7 (n 2) le) 8 (n 2) gr) 9 (n 2) wu) 10 (n 2) fu) 13 (n 2) 111) 19 i) := hS.2.2.2
  have hZ1 : ∀ g, n 2 ≤ g → (ze_sE (ze_sE (ze_sE (ze_sE (ze_sE (ze_sE A 6 (n 2) (nI j)) 7 (n 2) le) 8 (n 2) gr) 9 (n 2) wu) 10 (n 2) fu) 13 (n 2) 111) 11 g = 0 ∧ (ze_sE (ze_sE (ze_sE (ze_sE (ze_sE (ze_sE A 6 (n 2) (nI j)) 7 (n 2) le) 8 (n 2) gr) 9 (n 2) wu) 10 (n 2) fu) 13 (n 2) 111) 12 g = 0 := hZ.1
  have hZ2 : (∀ k, n 3 ≤ k → (ze_sE (ze_sE (ze_sE (ze_sE (ze_sE (ze_sE A 6 (n 2) (nI j)) 7 (n 2) le) 8 (n 2) gr) 9 (n 2) wu) 10 (n 2) fu) 13 (n 2) 111) 17 k = 0 ∧ (ze_sE (ze_sE (ze_sE (ze_sE (ze_sE (ze_sE A 6 (n 2) (nI j)) 7 (n 2) le) 8 (n 2) gr) 9 (n 2) wu) 10 (n 2) fu) 13 (n 2) 111) 18 k = 0) ∧ ∀ k, n 4 ≤ k → (ze_sE (ze_sE (ze_sE (ze_sE (ze_sE (ze_sE A 6 (n 2) (nI j)) 7 (n 2) le) 8 (n 2) gr) 9 (n 2) wu) 10 (n 2) fu) 13 (n 2) 111) 5 k = 0 ∧ (ze_sE (ze_sE (ze_sE (ze_sE (ze_sE (ze_sE A 6 (n 2) (nI j)) 7 (n 2) le) 8 (n 2) gr) 9 (n 2) wu) 10 (n 2) fu) 13 (n 2) 111) 22 k = 0 := hZ.2
  have h4' : (ze_sE (ze_sE (ze_sE (ze_sE (ze_sE (ze_sE A 6 (n 2) (nI j)) 7 (n 2) le) 8 (n 2) gr) 9 (n 2) wu) 10 (n 2) fu) 13 (n 2) 111) 4 = A 4 := rfl
  have h38' : (ze_sE (ze_sE (ze_sE (ze_sE (ze_sE (ze_sE A 6 (n 2) (nI j)) 7 (n 2) le) 8 (n 2) gr) 9 (n 2) wu) 10 (n 2) fu) 13 (n 2) 111) 38 = A 38 := rfl
  have h0' : (ze_sE (ze_sE (ze_sE (ze_sE (ze_sE (ze_sE A 6 (n 2) (nI j)) 7 (n 2) le) 8 (n 2) gr) 9 (n 2) wu) 10 (n 2) fu) 13 (n 2) 111) 0 = A 0 := rfl
  generalize ze_sE (ze_sE (ze_sE (ze_sE (ze_sE (ze_sE A 6 (n 2) (nI j)) 7 (n 2) le) 8 (n 2) gr) 9 (n 2) wu) 10 (n 2) fu) 13 (n 2) 111 = A2 at *
  have e2 : ze_sn n 2 (n 2 + 1) 2 = n 2 + 1 := rfl
  refine ⟨⟨hN.1, hN.2.1, (by rw [e2]; omega), hN.2.2.2⟩, ⟨hS1, fun i hi => ?_, hS3, hS4⟩, hE.trans hE3, hz, by rw [h4']; exact h4, by rw [h4']; exact h4z, by rw [h38']; exact hT, fun g hg => ?_, ⟨P, ⟨fun g hg => ?_, hRT, hL, ?_⟩⟩, ⟨fun g hg => hZ1 g (by omega), hZ2⟩, by rw [h0']; exact hp⟩
  · rw [e2] at hi
    by_cases q : i = n 2
    · rw [q, r6]
      exact ⟨j, hj, rfl⟩
    · rw [hne 6 i (by omega)]
      exact hS.2.1 i (by omega)
  · rw [e2] at hg
    by_cases q : g = n 2
    · rw [q, r13]
      exact Or.inl rfl
    · rw [hne 13 g (by omega)]
      exact hC g (by omega)
  · rw [e2] at hg
    by_cases q : g = n 2
    · rw [q, r7, r8, r10]
      obtain ⟨z1, q1, -, m1⟩ := zv_rng (a := 0) (b := 100) h1 (by decide) (by decide)
      obtain ⟨z2, q2, -, m2⟩ := zv_rng (a := 1) (b := 200) h2 (by decide) (by decide)
      obtain ⟨z3, q3, -, m3⟩ := zv_rng (a := 0) (b := 9999) h5 (by decide) (by decide)
      rw [q1, q2, nI_ltI (by omega) (by omega)] at h3
      exact ⟨z1, z2, z3, q1, q2, q3, m1, m2, by omega, by omega⟩
    · rw [hne 7 g (by omega), hne 8 g (by omega), hne 10 g (by omega)]
      exact hK.1 g (by omega)
  · rw [h31]
theorem zv_addStore (h : zv_I n A E mk) (h6 : n 3 < 4) {j : Nat} (hj : j < n 0) {y z : Int32} (h1 : zf_isIn y 1 999) (h2 : zf_isIn z 1 99) : zv_I (ze_sn n 3 (n 3 + 1)) (ze_sE (ze_sE (ze_sE A 14 (n 3) (nI j)) 15 (n 3) y) 16 (n 3) z) E mk := by
  obtain ⟨hN, hS, hE, hz, h4, h4z, hT, hC, ⟨P, hK⟩, hZ, hp⟩ := h
  have hne : ∀ r i, i < n 3 → (ze_sE (ze_sE (ze_sE A 14 (n 3) (nI j)) 15 (n 3) y) 16 (n 3) z) r i = A r i := by
    intro r i hi
    rw [ze_sE_ne (by omega), ze_sE_ne (by omega), ze_sE_ne (by omega)]
  have r14 : (ze_sE (ze_sE (ze_sE A 14 (n 3) (nI j)) 15 (n 3) y) 16 (n 3) z) 14 (n 3) = nI j := by simp [ze_sE, ze_sA, upd]
  have r15 : (ze_sE (ze_sE (ze_sE A 14 (n 3) (nI j)) 15 (n 3) y) 16 (n 3) z) 15 (n 3) = y := by simp [ze_sE, ze_sA, upd]
  have r16 : (ze_sE (ze_sE (ze_sE A 14 (n 3) (nI j)) 15 (n 3) y) 16 (n 3) z) 16 (n 3) = z := by simp [ze_sE, ze_sA, upd]
  have r17 : (ze_sE (ze_sE (ze_sE A 14 (n 3) (nI j)) 15 (n 3) y) 16 (n 3) z) 17 = A 17 := rfl
  have hE3 : zf_CI n A = zf_CI (ze_sn n 3 (n 3 + 1)) (ze_sE (ze_sE (ze_sE A 14 (n 3) (nI j)) 15 (n 3) y) 16 (n 3) z) := zf_CIcong (n := n) rfl rfl rfl
  refine ⟨⟨hN.1, hN.2.1, hN.2.2.1, (by show n 3 + 1 ≤ 4; omega), hN.2.2.2.2⟩, ⟨hS.1, hS.2.1, fun i hi => ?_, hS.2.2.2⟩, hE.trans hE3, hz, h4, h4z, hT, hC, ⟨P, ⟨hK.1, fun g hg => ?_, hK.2.2.1, hK.2.2.2⟩⟩, ⟨hZ.1, fun g hg => hZ.2.1 g (by have e : ze_sn n 3 (n 3 + 1) 3 = n 3 + 1 := rfl; omega), hZ.2.2⟩, hp⟩
  · have hi : i < n 3 + 1 := hi
    by_cases q : i = n 3
    · rw [q, r14]
      exact ⟨j, hj, rfl⟩
    · rw [hne 14 i (by omega)]
      exact hS.2.2.1 i (by omega)
  · have hg : g < n 3 + 1 := hg
    by_cases q : g = n 3
    · rw [q, r15, r16, r17]
      obtain ⟨z1, q1, -, m1⟩ := zv_rng (a := 1) (b := 999) h1 (by decide) (by decide)
      obtain ⟨z2, q2, -, m2⟩ := zv_rng (a := 1) (b := 99) h2 (by decide) (by decide)
      exact ⟨z1, z2, 0, q1, q2, (hZ.2.1 _ (Nat.le_refl _)).1, m1, m2, Nat.zero_le _⟩
    · rw [hne 15 g (by omega), hne 16 g (by omega), hne 17 g (by omega)]
      exact hK.2.1 g (by omega)
theorem zv_addLoad (h : zv_I n A E mk) (h6 : n 4 < 10) {j : Nat} (hj : j < n 0) {y z : Int32} (h1 : zf_isIn y 1 200) : zv_I (ze_sn n 4 (n 4 + 1)) (ze_sE (ze_sE (ze_sE A 19 (n 4) (nI j)) 20 (n 4) y) 21 (n 4) z) E mk := by
  obtain ⟨hN, hS, hE, hz, h4, h4z, hT, hC, ⟨P, hK⟩, hZ, hp⟩ := h
  have hne : ∀ r i, i < n 4 → (ze_sE (ze_sE (ze_sE A 19 (n 4) (nI j)) 20 (n 4) y) 21 (n 4) z) r i = A r i := by
    intro r i hi
    rw [ze_sE_ne (by omega), ze_sE_ne (by omega), ze_sE_ne (by omega)]
  have r19 : (ze_sE (ze_sE (ze_sE A 19 (n 4) (nI j)) 20 (n 4) y) 21 (n 4) z) 19 (n 4) = nI j := by simp [ze_sE, ze_sA, upd]
  have r20 : (ze_sE (ze_sE (ze_sE A 19 (n 4) (nI j)) 20 (n 4) y) 21 (n 4) z) 20 (n 4) = y := by simp [ze_sE, ze_sA, upd]
  have hE3 : zf_CI n A = zf_CI (ze_sn n 4 (n 4 + 1)) (ze_sE (ze_sE (ze_sE A 19 (n 4) (nI j)) 20 (n 4) y) 21 (n 4) z) := zf_CIcong (n := n) rfl rfl rfl
  obtain ⟨z1, q1, -, m1⟩ := zv_rng (a := 1) (b := 200) h1 (by decide) (by decide)
  refine ⟨⟨hN.1, hN.2.1, hN.2.2.1, hN.2.2.2.1, (by show n 4 + 1 ≤ 10; omega)⟩, ⟨hS.1, hS.2.1, hS.2.2.1, fun i hi => ?_⟩, hE.trans hE3, hz, h4, h4z, hT, hC, ⟨fun k => if k = n 4 then z1 else P k, ⟨hK.1, hK.2.1, fun g hg => ?_, hK.2.2.2⟩⟩, ⟨hZ.1, hZ.2.1, fun g hg => hZ.2.2 g (by have e : ze_sn n 4 (n 4 + 1) 4 = n 4 + 1 := rfl; omega)⟩, hp⟩
  · have hi : i < n 4 + 1 := hi
    by_cases q : i = n 4
    · rw [q, r19]
      exact ⟨j, hj, rfl⟩
    · rw [hne 19 i (by omega)]
      exact hS.2.2.2 i (by omega)
  · have hg : g < n 4 + 1 := hg
    by_cases q : g = n 4
    · rw [q, r20]
      show y = nI (if n 4 = n 4 then z1 else P (n 4)) ∧ (if n 4 = n 4 then z1 else P (n 4)) ≤ 200
      rw [if_pos rfl]
      exact ⟨q1, m1⟩
    · rw [hne 20 g (by omega)]
      show A 20 g = nI (if g = n 4 then z1 else P g) ∧ (if g = n 4 then z1 else P g) ≤ 200
      rw [if_neg q]
      exact hK.2.2.1 g (by omega)
theorem zv_pass {B : Nat → Int64} (h : zv_I n A E mk) (t : Nat) {E2 : Nat → Nat → Int32} (hE2 : E2 0 = E 0) {mk2 : Nat → Int32} (h2 : ∀ s, n 0 ≤ s → mk2 s = 0) : zv_I n (zf_tks n A B t).1 E2 mk2 := by
  obtain ⟨hN, hS, hE, hz, h4, h4z, hT, hC, ⟨P, hK⟩, hZ, hp⟩ := h
  have e4 : (zf_tks n A B t).1 4 = A 4 := zf_tksfix n _ _ _ (by decide)
  have e38 : (zf_tks n A B t).1 38 = A 38 := zf_tksfix n _ _ _ (by decide)
  have e0 : (zf_tks n A B t).1 0 = A 0 := zf_tksfix n _ _ _ (by decide)
  refine ⟨hN, zf_tksS hS t, by rw [hE2, hE, zf_tksCI], h2, by rw [e4]; exact h4, by rw [e4]; exact h4z, by rw [e38]; exact hT, zf_tkschr hC t, ⟨P, (zh_tks hN hE hK t).2⟩, zh_Ztks hZ t, by rw [e0]; exact hp⟩
end ZI
