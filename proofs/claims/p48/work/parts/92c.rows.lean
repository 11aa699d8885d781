/-! ===== rows for the law's methods ===== -/
def xb_X (l : Launch) (y : MethodName) (w : List Cond) (fr lo mc ms : Nat) (D : va_G) (c : Nat → ClassId) (o : Option (Nat × Nat × (Nat → Int32))) (ws : va_W) (av : List Value) (v : Int32) (ws2 : va_W) : Prop := ∀ sz : Nat, Met l y w { frames := fr, cells := mc, slots := ms, locals := lo } (xb_P D c o ws sz av) (ze_Qi D c ws sz v ws2) mc ms (va_A ws sz)
theorem xb_FSx {p : Program} {l : Launch} {e : Env} {R : Room} {s : State} {m : MethodId} {args : Array Value} {below : List Frame} {meth : Method} {cd : Code} {H : Heap} {locs : List Loc} {cells slots : Nat} {Q : State → Prop} {cc : ByteArray} {pc : Nat} {ls : Array Slot} {rest : List Value} {D : va_G} {c : Nat → ClassId} {ws wt : va_W} {F : Nat → Prop} {o : Option (Nat × Nat × (Nat → Int32))}
    {y : MethodName} {bytes : ByteArray} {maxL nL mc ms n index fr lo : Nat} {ret : Option FieldType} {w Ts : List Cond} {own : String} {As : List Value} {o2 : Option (Nat × Nat × (Nat → Int32))} {v : Int32} {ws2 : va_W} {st0 : List Value} (S : CallFix p m cd cc nL s args Ts own) (hM : xb_X l y w fr lo mc ms D c o2 ws As v ws2) (cw : CallB R s args own index y bytes maxL ret w { frames := fr, cells := mc, slots := ms, locals := lo } mc ms n ∧ (Cond.static y).before args s = true) (ho : o2 = none ∨ o2 = o) (hG : xb_G o F s) (hK : va_K D vwCl (ze_ty c) s) (hW : ze_W D (ws ++ wt) F s.heap H locs) (hA : ∀ q : Nat, s.heap.size ≤ q → F q) (hn : As.length = n) (hsize : ls.size = nL) (hst : st0 = As.reverse ++ rest) (hrm : 2 * (F0 m pc ls rest).monitorRoom + (rest.map fun v => v.category).sum ≤ 8) (hdg : decode cc pc = .ok (.invokestatic index, 3)) (hf : cells + mc ≤ R.cells ∧ slots + ms ≤ R.slots)
    (kk : ∀ (H1 : Heap) (locs1 : List Loc), ze_W D (ws2 ++ wt) F s.heap H1 locs1 → W p l e R s m args below meth cd H1 locs1 (cells + mc) (slots + ms) Q (F0 m (pc + 3) ls (.int v :: rest))) : W p l e R s m args below meth cd H locs cells slots Q (F0 m pc ls st0) :=
  ze_calliF (va_runS (As := As) (rest := rest) S (hM H.size) cw (xb_pre ho hK hW hG hA) rfl hn hsize hst hrm hdg hf) hW hA kk
/-- what a method of the law's keeps: the object, what always holds, the sites; no generator and no load goes -/
def xd_P (a0 : Nat) (n : Nat → Nat) (t : Nat) (u : xd_T) : Prop := u.1 0 = a0 ∧ xd_I u.2.1 u.2.2.1 u.2.2.2.1 u.2.2.2.2.1 u.2.2.2.2.2 t ∧ u.2.1 0 = n 0 ∧ n 2 ≤ u.2.1 2 ∧ n 4 ≤ u.2.1 4
theorem xd_rg {x lo hi : Nat} (h1 : lo ≤ x) (h2 : x ≤ hi) (h3 : hi < 2 ^ 30) : zf_isIn (nI x) (nI lo) (nI hi) := ⟨by rw [nI_ltI (by omega) (by omega)]; omega, by rw [nI_ltI (by omega) (by omega)]; omega⟩
theorem xd_rg2 {x lo hi : Nat} {l h : Int32} (e1 : l = nI lo) (e2 : h = nI hi) (h1 : lo ≤ x) (h2 : x ≤ hi) (h3 : hi < 2 ^ 30) : zf_isIn (nI x) l h := by
  rw [e1, e2]
  exact xd_rg h1 h2 h3
theorem xd_mx1 (x : Nat) (h : x < 2 ^ 30) : ze_mx 1 (nI x) = nI (max 1 x) := by
  have i1 : (1 : Int32) = nI 1 := by decide
  unfold ze_mx
  rw [i1]
  have hh : nI 1 < nI x ↔ 1 < x := by rw [nI_ltI (by omega) (by omega)]
  by_cases q : 1 < x
  · rw [if_pos (hh.mpr q), Nat.max_eq_right (by omega)]
  · rw [if_neg (fun z => q (hh.mp z)), Nat.max_eq_left (by omega)]
theorem xd_rgm {le gr : Nat} (h1 : max 1 le ≤ gr) (h2 : gr ≤ 200) (h3 : le ≤ 200) : zf_isIn (nI gr) (ze_mx 1 (nI le)) 200 := by
  rw [xd_mx1 le (by omega)]
  exact xd_rg (hi := 200) h1 h2 (by omega)
theorem xd_rgn {le gr : Nat} (h0 : 1 ≤ gr) (h1 : le ≤ gr) (h2 : gr ≤ 200) (h3 : le ≤ 200) : zf_isIn (nI gr) (ze_mx 1 (nI le)) 200 := xd_rgm (by omega) h2 h3
theorem xd_gr {le v : Nat} (h1 : le ≤ v) (h2 : v ≤ 200) : ∃ gr : Nat, ze_mx 1 (nI v) = nI gr ∧ 1 ≤ gr ∧ le ≤ gr ∧ gr ≤ 200 := ⟨max 1 v, xd_mx1 v (by omega), by omega, by omega, by omega⟩
theorem xd_self {N : Nat → Int32} {k : Nat} {v : Int32} (h : v = N k) : upd N k v = N := by
  funext j
  unfold upd
  split
  · rename_i e
    rw [e, h]
  · rfl
theorem xd_st11 (A : Nat → Nat → Int32) (g : Nat) : zf_start A g 11 g = A 9 g := xd_sEs A 11 g (A 9 g)
theorem xd_ap {p : Nat} (hp : p < 360) : ze_mn (ze_ab (nI p - 0)) (360 - ze_ab (nI p - 0)) ≤ 10 ↔ nI p ≤ 10 ∨ 350 ≤ nI p := by
  have key : ∀ p : Fin 360, ze_mn (ze_ab (nI p.val - 0)) (360 - ze_ab (nI p.val - 0)) ≤ 10 ↔ nI p.val ≤ 10 ∨ 350 ≤ nI p.val := by decide +kernel
  exact key ⟨p, hp⟩
theorem xd_ap0 {A : Nat → Nat → Int32} (h : A 38 0 = 0) : (if zf_tied A 0 then 0 else A 0 (ze_ix 0)) = A 0 0 := by
  have e : ze_ix 0 = 0 := by decide
  rw [if_neg (fun z => z.1 h), e]
theorem xd_apY {A : Nat → Nat → Int32} (h : A 38 0 = 0) {p : Nat} (hp : p < 360) (e : A 0 0 = nI p) (hh : A 0 0 ≤ 10 ∨ 350 ≤ A 0 0) : ze_mn (ze_ab ((if zf_tied A 0 then 0 else A 0 (ze_ix 0)) - 0)) (360 - ze_ab ((if zf_tied A 0 then 0 else A 0 (ze_ix 0)) - 0)) ≤ 10 := by
  rw [xd_ap0 h, e]
  rw [e] at hh
  exact (xd_ap hp).mpr hh
theorem xd_apN {A : Nat → Nat → Int32} (h : A 38 0 = 0) {p : Nat} (hp : p < 360) (e : A 0 0 = nI p) (h1 : ¬ A 0 0 ≤ 10) (h2 : ¬ 350 ≤ A 0 0) : ¬ ze_mn (ze_ab ((if zf_tied A 0 then 0 else A 0 (ze_ix 0)) - 0)) (360 - ze_ab ((if zf_tied A 0 then 0 else A 0 (ze_ix 0)) - 0)) ≤ 10 := by
  rw [xd_ap0 h, e]
  rw [e] at h1 h2
  exact fun z => ((xd_ap hp).mp z).elim h1 h2
theorem xd_cmp (x : Int64) : lg_cmp x x = 0 := by
  have h : ¬ x > x := fun h => by
    have h2 := Int64.lt_iff_toInt_lt.mp h
    omega
  unfold lg_cmp
  rw [if_neg h, if_pos rfl]
/-! the generator that is started next -/
def xd_fit (A : Nat → Nat → Int32) (io : Nat → Int32) (m : Int32) (g : Nat) : Prop := A 13 g = 111 ∧ ¬ zf_short A g ∧ io (ze_ix (A 6 g)) = m
/-- the first of the fitting ones with the least key, from lo on -/
def xd_min (A : Nat → Nat → Int32) (io : Nat → Int32) (m : Int32) (lo hi : Nat) (o : Option Nat) : Prop := match o with
  | none => ∀ g, lo ≤ g → g < hi → ¬ xd_fit A io m g
  | some b => lo ≤ b ∧ b < hi ∧ xd_fit A io m b ∧ ∀ g, lo ≤ g → g < hi → xd_fit A io m g → 1000 * A 9 b - A 8 b < 1000 * A 9 g - A 8 g ∨ (1000 * A 9 b - A 8 b = 1000 * A 9 g - A 8 g ∧ b ≤ g)
section XM
variable {A : Nat → Nat → Int32} {io : Nat → Int32} {m : Int32} {hi : Nat}
theorem xd_le {x y : Int32} (h : ¬ y < x) : x < y ∨ x = y := by
  rw [Int32.lt_iff_toInt_lt] at h ⊢
  rw [← Int32.toInt_inj]
  omega
theorem xd_ltr {x y z : Int32} (h : x < y ∨ x = y) (h2 : y < z ∨ y = z) : x < z ∨ x = z := by
  rw [Int32.lt_iff_toInt_lt, ← Int32.toInt_inj] at *
  omega
theorem xd_minN {k : Nat} {o : Option Nat} (h : xd_min A io m (k + 1) hi o) (hf : ¬ xd_fit A io m k) : xd_min A io m k hi o := by
  cases o with
  | none =>
    intro g h1 h2
    by_cases e : g = k
    · exact e ▸ hf
    · exact h g (by omega) h2
  | some b =>
    obtain ⟨h1, h2, h3, h4⟩ := h
    refine ⟨by omega, h2, h3, fun g g1 g2 g3 => ?_⟩
    by_cases e : g = k
    · exact absurd (e ▸ g3) hf
    · exact h4 g (by omega) g2 g3
theorem xd_min0 {k : Nat} (hk : k < hi) (h : xd_min A io m (k + 1) hi none) (hf : xd_fit A io m k) : xd_min A io m k hi (some k) := by
  refine ⟨Nat.le_refl _, hk, hf, fun g g1 g2 g3 => ?_⟩
  by_cases e : g = k
  · subst e
    exact Or.inr ⟨rfl, Nat.le_refl _⟩
  · exact absurd g3 (h g (by omega) g2)
theorem xd_min1 {k b : Nat} (hk : k < hi) (h : xd_min A io m (k + 1) hi (some b)) (hf : xd_fit A io m k) (hle : ¬ 1000 * A 9 b - A 8 b < 1000 * A 9 k - A 8 k) : xd_min A io m k hi (some k) := by
  obtain ⟨h1, h2, h3, h4⟩ := h
  refine ⟨Nat.le_refl _, hk, hf, fun g g1 g2 g3 => ?_⟩
  by_cases e : g = k
  · subst e
    exact Or.inr ⟨rfl, Nat.le_refl _⟩
  · rcases xd_ltr (xd_le hle) ((h4 g (by omega) g2 g3).imp id (fun z => z.1)) with q | q
    · exact Or.inl q
    · exact Or.inr ⟨q, g1⟩
theorem xd_min2 {k b : Nat} (h : xd_min A io m (k + 1) hi (some b)) (hlt : 1000 * A 9 b - A 8 b < 1000 * A 9 k - A 8 k) : xd_min A io m k hi (some b) := by
  obtain ⟨h1, h2, h3, h4⟩ := h
  refine ⟨by omega, h2, h3, fun g g1 g2 g3 => ?_⟩
  by_cases e : g = k
  · subst e
    exact Or.inl hlt
  · exact h4 g (by omega) g2 g3
/-- the class takes the same one -/
theorem xd_bet {g b : Nat} {wg wb rg rb : Nat} (e1 : A 9 g = nI wg) (e2 : A 9 b = nI wb) (e3 : A 8 g = nI rg) (e4 : A 8 b = nI rb) (l1 : wg ≤ 9) (l2 : wb ≤ 9) (l3 : rg ≤ 200) (l4 : rb ≤ 200) : zf_better A g b ↔ 1000 * A 9 g - A 8 g < 1000 * A 9 b - A 8 b := by
  have i : (1000 : Int32) = nI 1000 := by decide
  have f1 : (1000 * A 9 g - A 8 g).toInt = 1000 * wg - rg := by
    rw [e1, e3, i, nI_mulN, Int32.toInt_sub, nI_toInt (by omega), nI_toInt (by omega), Int.bmod_eq_of_le (by omega) (by omega)]
    omega
  have f2 : (1000 * A 9 b - A 8 b).toInt = 1000 * wb - rb := by
    rw [e2, e4, i, nI_mulN, Int32.toInt_sub, nI_toInt (by omega), nI_toInt (by omega), Int.bmod_eq_of_le (by omega) (by omega)]
    omega
  unfold zf_better
  rw [Int32.lt_iff_toInt_lt, f1, f2, e1, e2, e3, e4, nI_eq (by omega) (by omega), nI_leI (by omega) (by omega), nI_leI (by omega) (by omega)]
  omega
theorem xd_nx {n2 : Nat} (h9 : ∀ g, g < n2 → ∃ w : Nat, w ≤ 9 ∧ A 9 g = nI w) (h8 : ∀ g, g < n2 → ∃ r : Nat, r ≤ 200 ∧ A 8 g = nI r) : ∀ i, i ≤ n2 → xd_min A io m 0 i (zf_nx A io m i) := by
  intro i
  induction i with
  | zero =>
    intro _ g _ hg
    exact absurd hg (Nat.not_lt_zero _)
  | succ i ih =>
    intro hi
    have hh := ih (by omega)
    simp only [zf_nx]
    obtain ⟨wi, lwi, ewi⟩ := h9 i (by omega)
    obtain ⟨ri, lri, eri⟩ := h8 i (by omega)
    by_cases hf : xd_fit A io m i
    · cases ho : zf_nx A io m i with
      | none =>
        rw [ho] at hh
        have hc : A 13 i = 111 ∧ ¬ zf_short A i ∧ io (ze_ix (A 6 i)) = m ∧ zf_bO A i none = true := ⟨hf.1, hf.2.1, hf.2.2, rfl⟩
        rw [if_pos hc]
        refine ⟨Nat.zero_le _, by omega, hf, fun g _ g2 g3 => ?_⟩
        by_cases e : g = i
        · subst e
          exact Or.inr ⟨rfl, Nat.le_refl _⟩
        · exact absurd g3 (hh g (Nat.zero_le _) (by omega))
      | some b =>
        rw [ho] at hh
        obtain ⟨b1, b2, b3, b4⟩ := hh
        obtain ⟨wb, lwb, ewb⟩ := h9 b (by omega)
        obtain ⟨rb, lrb, erb⟩ := h8 b (by omega)
        have hb := xd_bet (A := A) ewi ewb eri erb lwi lwb lri lrb
        by_cases hc : zf_better A i b
        · have hc2 : A 13 i = 111 ∧ ¬ zf_short A i ∧ io (ze_ix (A 6 i)) = m ∧ zf_bO A i (some b) = true := ⟨hf.1, hf.2.1, hf.2.2, decide_eq_true hc⟩
          rw [if_pos hc2]
          refine ⟨Nat.zero_le _, by omega, hf, fun g _ g2 g3 => ?_⟩
          by_cases e : g = i
          · subst e
            exact Or.inr ⟨rfl, Nat.le_refl _⟩
          · have z1 := hb.mp hc
            have z2 := b4 g (Nat.zero_le _) (by omega) g3
            refine Or.inl ?_
            rw [Int32.lt_iff_toInt_lt] at z1 ⊢
            rcases z2 with q | ⟨q, -⟩
            · rw [Int32.lt_iff_toInt_lt] at q
              omega
            · rw [← q]
              exact z1
        · have hc2 : ¬ (A 13 i = 111 ∧ ¬ zf_short A i ∧ io (ze_ix (A 6 i)) = m ∧ zf_bO A i (some b) = true) := fun z => hc (of_decide_eq_true z.2.2.2)
          rw [if_neg hc2]
          refine ⟨b1, by omega, b3, fun g _ g2 g3 => ?_⟩
          by_cases e : g = i
          · subst e
            rcases xd_le (fun z => hc (hb.mpr z)) with q | q
            · exact Or.inl q
            · exact Or.inr ⟨q, by omega⟩
          · exact b4 g (Nat.zero_le _) (by omega) g3
    · have hc2 : ¬ (A 13 i = 111 ∧ ¬ zf_short A i ∧ io (ze_ix (A 6 i)) = m ∧ zf_bO A i (zf_nx A io m i) = true) := fun z => hf ⟨z.1, z.2.1, z.2.2.1⟩
      rw [if_neg hc2]
      cases ho : zf_nx A io m i with
      | none =>
        rw [ho] at hh
        intro g _ g2
        by_cases e : g = i
        · exact e ▸ hf
        · exact hh g (Nat.zero_le _) (by omega)
      | some b =>
        rw [ho] at hh
        obtain ⟨b1, b2, b3, b4⟩ := hh
        refine ⟨b1, by omega, b3, fun g _ g2 g3 => ?_⟩
        by_cases e : g = i
        · exact absurd (e ▸ g3) hf
        · exact b4 g (Nat.zero_le _) (by omega) g3
theorem xd_minU {lo : Nat} {o o2 : Option Nat} (h : xd_min A io m lo hi o) (h2 : xd_min A io m lo hi o2) : o = o2 := by
  cases o with
  | none =>
    cases o2 with
    | none => rfl
    | some b => exact absurd h2.2.2.1 (h b h2.1 h2.2.1)
  | some b =>
    cases o2 with
    | none => exact absurd h.2.2.1 (h2 b h.1 h.2.1)
    | some b2 =>
      have z1 := h.2.2.2 b2 h2.1 h2.2.1 h2.2.2.1
      have z2 := h2.2.2.2 b h.1 h.2.1 h.2.2.1
      rw [Int32.lt_iff_toInt_lt, ← Int32.toInt_inj] at z1 z2
      have e : b = b2 := by omega
      rw [e]
end XM
