/-! ===== the law's walk: rows that its calls share ===== -/
set_option maxHeartbeats 4000000 in
theorem zr_thrown (l : Launch) (D : va_G) (c : Nat → ClassId) (d n : Nat → Nat) (A : Nat → Nat → Int32) (B : Nat → Int64) (mk : Nat → Int32) (th : Int32) : ze_I l yX9_thrown wsX9_thrown 0 0 0 0 D c (ze_wR c d n A B mk th) [.ref (d 0)] th (ze_wR c d n A B mk th) := by
  intro sz
  refine ze_start (cc := cX9_thrown) (maxL := 1) (ret := (some .int)) (own := RX9) (by decide) rfl rfl (Nat.le_of_ble_eq_true rfl) ?_
  intro p e s m_ below meth cd F ls hF hsz E0
  obtain ⟨S, hr, hlocks, hK, hW, hA, hl⟩ := E0
  have hX_ := S.1
  have hB_ := S.2.1
  have hts := S.2.2.2.2
  have hl : lv_has ls 1 [(0, .ref (d 0))] := hl
  have hiX9 : ∀ w ∈ u_ws RX9 TX9 39, w ∈ wsX9_thrown := fun _ h => (List.mem_cons_of_mem _ (List.mem_append_right _ h))
  have w0 := hts (.fieldLink RX9 85 "IslandgridModel" "thrown" "I") (List.mem_cons_of_mem _ (List.mem_append_left _ (List.mem_of_getElem? (i := 0) rfl)))
  refine lv_aload_n hX_ hB_ dX9_thrown_0 rfl (lv_at hl 0 rfl) ?_
  refine ze_get (ci := 9) (C := RX9) (T := TX9) (N := 39) (v := .int th) S hiX9 hK hW 0 rfl rfl 32 (by decide) rfl w0 dX9_thrown_1 ?_
  exact ze_iret S hr hlocks hF hK hW rfl dX9_thrown_4 (Nat.le_of_ble_eq_true rfl) (Nat.le_of_ble_eq_true rfl) rfl rfl
section ZA
variable {D : va_G} {F : Nat → Prop} {H0 H : Heap} {locs : List Loc}
theorem ze_as {X Y Z : va_W} (h : ze_W D ((X ++ Y) ++ Z) F H0 H locs) : ze_W D (X ++ (Y ++ Z)) F H0 H locs := by
  rw [← List.append_assoc]
  exact h
theorem ze_asr {X Y Z : va_W} (h : ze_W D (X ++ (Y ++ Z)) F H0 H locs) : ze_W D ((X ++ Y) ++ Z) F H0 H locs := by
  rw [List.append_assoc]
  exact h
theorem zy_wA {X Y Z : va_W} (h : ze_W D (X ++ (Y ++ Z)) F H0 H locs) : ze_W D (Y ++ (Z ++ X)) F H0 H locs := ze_as (ze_Wc h)
theorem zy_wB {X Y Z : va_W} (h : ze_W D (Y ++ (Z ++ X)) F H0 H locs) : ze_W D (X ++ (Y ++ Z)) F H0 H locs := ze_Wc (ze_asr h)
theorem zy_wD {X Y Z P : va_W} (h : ze_W D ((X ++ Y) ++ (Z ++ P)) F H0 H locs) : ze_W D ((X ++ P) ++ (Y ++ Z)) F H0 H locs := by
  refine ze_Wsw (wu := X) (ws := Y ++ Z) (wt := P) ?_
  have e : (X ++ (Y ++ Z)) ++ P = (X ++ Y) ++ (Z ++ P) := by simp only [List.append_assoc]
  rw [e]
  exact h
theorem zy_wE {X Y Z P : va_W} (h : ze_W D ((X ++ P) ++ (Y ++ Z)) F H0 H locs) : ze_W D ((X ++ Y) ++ (Z ++ P)) F H0 H locs := by
  have h2 := ze_Wsw (wu := X) (ws := P) (wt := Y ++ Z) h
  have e : (X ++ (Y ++ Z)) ++ P = (X ++ Y) ++ (Z ++ P) := by simp only [List.append_assoc]
  rw [e] at h2
  exact h2
end ZA
theorem zy_cmp (x : Int64) : lg_cmp x x = 0 := by
  have h : ¬ x > x := fun h => by
    have h2 := Int64.lt_iff_toInt_lt.mp h
    omega
  unfold lg_cmp
  rw [if_neg h, if_pos rfl]
theorem zy_lt {L i : Nat} (hL : L ≤ 3072) (hi : i ≤ L) (q : ¬ (Int32.ofNat L - 6 < nI i)) : i + 6 ≤ L := by
  have e : Int32.ofNat L = nI L := rfl
  have e6 : (6 : Int32).toInt = 6 := by decide
  rw [Int32.lt_iff_toInt_lt, e, Int32.toInt_sub, nI_toInt (by omega), nI_toInt (by omega), e6, Int.bmod_eq_of_le (by omega) (by omega)] at q
  omega
theorem zy_shc {A : Nat → Nat → Int32} {N : Nat} {g : Nat → UInt64} (h0 : ¬ N = 0) (h : N ≤ 10) : Op.cmpValue (FP.dcmp (vf_upd g 0 (FP.f2d (FP.fdiv (FP.i2f (zf_lits A N)) (FP.i2f (nI N)))) (0 : Int32).toNatClampNeg) (FP.f2d (FP.fdiv (FP.i2f (zf_lits A N)) (FP.i2f (nI N))))) .l = 0 := by
  have e1 : ∀ x : UInt64, vf_upd g 0 x (0 : Int32).toNatClampNeg = x := fun x => rfl
  rw [e1]
  obtain ⟨j, hj, e⟩ := zf_litsN A N
  rw [e]
  have key : ∀ a b : Fin 11, ¬ b.val = 0 → a.val ≤ b.val → Op.cmpValue (FP.dcmp (FP.f2d (FP.fdiv (FP.i2f (nI a.val)) (FP.i2f (nI b.val)))) (FP.f2d (FP.fdiv (FP.i2f (nI a.val)) (FP.i2f (nI b.val))))) .l = 0 := by decide +kernel
  exact key ⟨j, by omega⟩ ⟨N, by omega⟩ h0 hj
abbrev zy_F (s : State) : Nat → Prop := fun q => s.heap.size ≤ q
abbrev zy_W (c : Nat → ClassId) (a d n : Nat → Nat) (A : Nat → Nat → Int32) (B : Nat → Int64) (E : Nat → Nat → Int32) (mk : Nat → Int32) (th : Int32) (o od : Nat) (f : Nat → Int64) (g : Nat → UInt64) : va_W := (ze_wC c a n A B E ++ [(o, .inl (c 6, 1, .inr (.inl f)))]) ++ (ze_wR c d n A B mk th ++ [(od, .inl (c 7, 1, .inr (.inr (.inr (.inl g)))))])
abbrev zy_L (b a0 d0 o od i : Nat) : List (Nat × Value) := [(0, .ref b), (1, .ref a0), (2, .ref d0), (3, .ref o), (4, .ref od), (5, .int (nI i))]
/-- what holds all through the law -/
def zy_C (p : Program) (l : Launch) (s : State) (m : MethodId) (cd : Code) (D : va_G) (c : Nat → ClassId) (b L : Nat) (xs : Nat → Int32) : Prop := CallFix p m cd cL_law 8 s #[Value.ref b] wsL_law_n RL ∧ l.stackTraces = false ∧ va_X b L xs s s.heap ∧ b < s.heap.size ∧ zx_B (zy_F s) s s.heap ∧ zq_N s ∧ va_K D vwCl (ze_ty c) s ∧ L ≤ 3072
/-- how it goes on behind a call -/
def zy_G (p : Program) (l : Launch) (e : Env) (s : State) (m : MethodId) (below : List Frame) (meth : Method) (cd : Code) (D : va_G) (c : Nat → ClassId) (b : Nat) (Q : State → Prop) (d : Nat → Nat) (o od a0 i k j : Nat) : Prop := ∀ (a n : Nat → Nat) (A : Nat → Nat → Int32) (B : Nat → Int64) (E : Nat → Nat → Int32) (mk : Nat → Int32) (th : Int32) (f : Nat → Int64) (g : Nat → UInt64) (H : Heap) (locs : List Loc) (ls : Array Slot), a 0 = a0 → zv_I n A E mk → ze_W D (zy_W c a d n A B E mk th o od f g) (zy_F s) s.heap H locs → lv_has ls 8 (zy_L b a0 (d 0) o od i) → W p l e room_1 s m #[Value.ref b] below meth cd H locs k j Q (F0 m 2642 ls [])
/-- an int of the script is read -/
theorem zy_arg {p : Program} {l : Launch} {e : Env} {s : State} {m : MethodId} {below : List Frame} {meth : Method} {cd : Code} {D : va_G} {c : Nat → ClassId} {b L : Nat} {xs : Nat → Int32} {Q : State → Prop} (C : zy_C p l s m cd D c b L xs) {W0 : va_W} {H : Heap} {locs : List Loc} {cells slots i q pc : Nat} {ls : Array Slot} {rest : List Value} {z : Int} (hW : ze_W D W0 (zy_F s) s.heap H locs) (hi : i + 6 ≤ L) (hq : q < 6) (h0 : ls[0]? = some (.val (.ref b))) (h5 : ls[5]? = some (.val (.int (nI i)))) (d0 : decode cL_law pc = .ok (.aload_n 0, 1)) (d1 : decode cL_law (pc + 1) = .ok (.iload 5, 2)) (d2 : decode cL_law (pc + 3) = .ok (.iconst z, 1)) (hz : Int32.ofInt z = nI q) (d3 : decode cL_law (pc + 4) = .ok (.iadd, 1)) (d4 : decode cL_law (pc + 5) = .ok (.iaload, 1))
    (kk : W p l e room_1 s m #[Value.ref b] below meth cd H locs cells slots Q (F0 m (pc + 6) ls (.int (xs (i + q)) :: rest))) : W p l e room_1 s m #[Value.ref b] below meth cd H locs cells slots Q (F0 m pc ls rest) := by
  obtain ⟨S, hst, hX, hbl, hXB, hNc, hK, hL⟩ := C
  have hbA : ¬ zy_F s b := Nat.not_le.mpr hbl
  refine lv_aload_n S.1 S.2.1 d0 rfl h0 ?_
  refine lv_iload S.1 S.2.1 d1 h5 ?_
  refine lv_iconst (v := nI q) S.1 S.2.1 d2 hz ?_
  refine lv_iadd S.1 S.2.1 d3 ?_
  refine ze_top (nI_add i q) ?_
  refine va_sld S.1 S.2.1 hX hbl hbA hW.2.2 (vp_in_nI (by omega) (by omega)) d4 ?_
  rw [nI_clamp (by omega)]
  exact kk
