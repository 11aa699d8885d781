theorem ze_appsetL {X Y X2 : va_W} {i : Nat} {q e : Nat × va_E} (h : X[i]? = some q) (h2 : X.set i e = X2) : (X ++ Y).set i e = X2 ++ Y := by
  rw [ze_appset0 (List.getElem?_eq_some_iff.mp h).1, h2]
theorem zf_glhi {A : Nat → Nat → Int32} {io : Nat → Int32} {m : Int32} {N : Nat} {g : Nat} (hg : N ≤ g) : ∀ (k : Nat) (s : Int32) (gv : Nat → Int32), (zf_gl A io m N k s gv).2 g = gv g := by
  intro k
  induction k with
  | zero =>
    intro s gv
    rfl
  | succ k ih =>
    intro s gv
    simp only [zf_gl]
    cases hp : zf_pick A io m gv N with
    | none => rfl
    | some b =>
      have hb := zf_picklt (Nat.le_refl _) hp
      show (zf_gl A io m N k (s + 1) (upd gv b (gv b + 1))).2 g = gv g
      rw [ih]
      have h : g ≠ b := by omega
      simp [upd, h]
theorem zf_giveshi (n : Nat → Nat) (A : Nat → Nat → Int32) (io : Nat → Int32) (m t : Int32) : ∀ g : Nat, n 2 ≤ g → (zf_gives n A io m t).2 g = A 12 g := by
  intro g hg
  unfold zf_gives
  rw [zf_glhi hg]
  have h : ¬ g < n 2 := by omega
  simp [ze_up, h]
theorem zf_kept {f z G : Nat → Int32} {N : Nat} (h : ∀ g : Nat, N ≤ g → G g = f g) : ze_up (ze_up f z N) G N = f := by
  funext g
  by_cases q : g < N
  · simp [ze_up, q]
  · simp [ze_up, q, h g (by omega)]
