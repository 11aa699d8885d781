/-! ===== what is not the callee's stays: a world beside the callee's ===== -/
theorem ze_appL {X Y : va_W} {k : Nat} {q : Nat × va_E} (h : Y[k]? = some q) : (X ++ Y)[X.length + k]? = some q := by
  rw [ze_appget rfl]
  exact h
theorem ze_PD {D : va_G} {cl : List vw_C} {ws wt ws2 : va_W} {F : Nat → Prop} {H H1 : Heap} (hP : va_P D cl (ws ++ wt) H) (hD : va_D F (ws ++ wt)) (hk : ∀ q : Nat, q < H.size → ¬ va_A ws H.size q → H1[q]? = H[q]?) (hF : ∀ q, va_A ws H.size q → F q) (hP1 : va_P D cl ws2 H1) (hD1 : va_D (va_A ws H.size) ws2) : va_P D cl (ws2 ++ wt) H1 ∧ va_D F (ws2 ++ wt) := by
  have hno : ∀ (k : Nat) (q : Nat × va_E), wt[k]? = some q → ¬ va_A ws H.size q.1 := by
    intro k q hq z
    have hq' := ze_appL (X := ws) hq
    rcases z with ⟨j, e, hj⟩ | z
    · have h1 := hD.1 j (ws.length + k) (q.1, e) q (ze_appget0 hj) hq' rfl
      have h2 := (List.getElem?_eq_some_iff.mp hj).1
      omega
    · have h1 := (hP _ q hq').lt
      omega
  refine ⟨hP1.app (va_P.kept (fun k q hq => hP _ q (ze_appL hq)) (fun k q hq => hk q.1 ((hP _ q (ze_appL hq)).lt) (hno k q hq))), va_D.app (hD1.weaken (fun k q _ h => hF q.1 h)) ⟨fun i j p q hi hj e => ?_, fun k q hq => hD.2 _ q (ze_appL hq)⟩ (fun i j p q hi hj e => hno j q hj (by rw [← e]; exact hD1.2 i p hi))⟩
  have h1 := hD.1 _ _ p q (ze_appL hi) (ze_appL hj) e
  omega
section ZF
variable {p : Program} {l : Launch} {e : Env} {R : Room} {s : State} {m : MethodId} {args : Array Value} {below : List Frame} {meth : Method} {cd : Code} {H : Heap} {locs : List Loc} {cells slots : Nat} {Q : State → Prop}
variable {cc : ByteArray} {pc : Nat} {ls : Array Slot} {rest : List Value} {D : va_G} {c : Nat → ClassId} {ws wt : va_W} {F : Nat → Prop} {H0 : Heap} {a : Nat}
theorem ze_Wl (hW : ze_W D (ws ++ wt) F H0 H locs) : ze_W D ws F H0 H locs := by
  refine ⟨fun k q hk => hW.1 k q (ze_appget0 hk), ⟨fun i j x y hi hj e => hW.2.1.1 i j x y (ze_appget0 hi) (ze_appget0 hj) e, fun k q hk => hW.2.1.2 k q (ze_appget0 hk)⟩, hW.2.2⟩
theorem ze_Wc (hW : ze_W D (ws ++ wt) F H0 H locs) : ze_W D (wt ++ ws) F H0 H locs := ⟨va_P.swap (a := []) hW.1, va_D.swap (a := []) hW.2.1, hW.2.2⟩
theorem ze_Wsw {wu : va_W} (hW : ze_W D ((wu ++ ws) ++ wt) F H0 H locs) : ze_W D ((wu ++ wt) ++ ws) F H0 H locs := ⟨va_P.swap hW.1, va_D.swap hW.2.1, hW.2.2⟩
theorem ze_fits (hW : ze_W D (ws ++ wt) F H0 H locs) (hA : ∀ q : Nat, H0.size ≤ q → F q) : ∀ q, va_A ws H.size q → F q := fun q h => by
  rcases h with ⟨k, e, h⟩ | h
  · exact hW.2.1.2 k (q, e) (ze_appget0 h)
  · exact hA q (Nat.le_trans hW.2.2.1 h)
theorem ze_calliF {ws2 : va_W} {v : Int32} {mc ms : Nat} {st0 : List Value} {av : Array Value} (hr : va_Run p l e R s m args below meth cd H locs cells slots mc ms (F0 m pc ls st0) rest (va_Qi (fun r (_ : Unit) => r = v) (fun _ t => ze_O D c ws2 (va_A ws H.size) t) (va_A ws H.size) av) (va_A ws H.size)) (hW : ze_W D (ws ++ wt) F H0 H locs) (hA : ∀ q : Nat, H0.size ≤ q → F q)
    (kk : ∀ (H1 : Heap) (locs1 : List Loc), ze_W D (ws2 ++ wt) F H0 H1 locs1 → W p l e R s m args below meth cd H1 locs1 (cells + mc) (slots + ms) Q (F0 m (pc + 3) ls (.int v :: rest))) : W p l e R s m args below meth cd H locs cells slots Q (F0 m pc ls st0) := by
  have hf := ze_fits hW hA
  refine va_calli hr hW.2.2 (fun q _ h => hf q h) hf (fun r u t H1 locs1 ht hvm hw hB hz1 hk1 hS => ?_)
  subst hw
  obtain ⟨hP1, hK1, hD1⟩ := hB
  rw [ht] at hP1
  have g := ze_PD hW.1 hW.2.1 hk1 hf hP1 hD1
  exact kk H1 locs1 ⟨g.1, g.2, hS⟩
theorem ze_calllF {ws2 : va_W} {v : Int64} {mc ms : Nat} {st0 : List Value} {av : Array Value} (hr : va_Run p l e R s m args below meth cd H locs cells slots mc ms (F0 m pc ls st0) rest (va_Ql (fun r (_ : Unit) => r = v) (fun _ t => ze_O D c ws2 (va_A ws H.size) t) (va_A ws H.size) av) (va_A ws H.size)) (hW : ze_W D (ws ++ wt) F H0 H locs) (hA : ∀ q : Nat, H0.size ≤ q → F q)
    (kk : ∀ (H1 : Heap) (locs1 : List Loc), ze_W D (ws2 ++ wt) F H0 H1 locs1 → W p l e R s m args below meth cd H1 locs1 (cells + mc) (slots + ms) Q (F0 m (pc + 3) ls (.long v :: rest))) : W p l e R s m args below meth cd H locs cells slots Q (F0 m pc ls st0) := by
  have hf := ze_fits hW hA
  refine va_calll hr hW.2.2 (fun q _ h => hf q h) hf (fun r u t H1 locs1 ht hvm hw hB hz1 hk1 hS => ?_)
  subst hw
  obtain ⟨hP1, hK1, hD1⟩ := hB
  rw [ht] at hP1
  have g := ze_PD hW.1 hW.2.1 hk1 hf hP1 hD1
  exact kk H1 locs1 ⟨g.1, g.2, hS⟩
theorem ze_callfF {ws2 : va_W} {v : UInt32} {mc ms : Nat} {st0 : List Value} {av : Array Value} (hr : va_Run p l e R s m args below meth cd H locs cells slots mc ms (F0 m pc ls st0) rest (va_Qf (fun r (_ : Unit) => r = v) (fun _ t => ze_O D c ws2 (va_A ws H.size) t) (va_A ws H.size) av) (va_A ws H.size)) (hW : ze_W D (ws ++ wt) F H0 H locs) (hA : ∀ q : Nat, H0.size ≤ q → F q)
    (kk : ∀ (H1 : Heap) (locs1 : List Loc), ze_W D (ws2 ++ wt) F H0 H1 locs1 → W p l e R s m args below meth cd H1 locs1 (cells + mc) (slots + ms) Q (F0 m (pc + 3) ls (.float v :: rest))) : W p l e R s m args below meth cd H locs cells slots Q (F0 m pc ls st0) := by
  have hf := ze_fits hW hA
  refine va_callf hr hW.2.2 (fun q _ h => hf q h) hf (fun r u t H1 locs1 ht hvm hw hB hz1 hk1 hS => ?_)
  subst hw
  obtain ⟨hP1, hK1, hD1⟩ := hB
  rw [ht] at hP1
  have g := ze_PD hW.1 hW.2.1 hk1 hf hP1 hD1
  exact kk H1 locs1 ⟨g.1, g.2, hS⟩
theorem ze_callvF {ws2 : va_W} {mc ms : Nat} {st0 : List Value} {av : Array Value} (hr : va_Run p l e R s m args below meth cd H locs cells slots mc ms (F0 m pc ls st0) rest (va_Qv (fun (_ : Unit) => True) (fun _ t => ze_O D c ws2 (va_A ws H.size) t) (va_A ws H.size) av) (va_A ws H.size)) (hW : ze_W D (ws ++ wt) F H0 H locs) (hA : ∀ q : Nat, H0.size ≤ q → F q)
    (kk : ∀ (H1 : Heap) (locs1 : List Loc), ze_W D (ws2 ++ wt) F H0 H1 locs1 → W p l e R s m args below meth cd H1 locs1 (cells + mc) (slots + ms) Q (F0 m (pc + 3) ls rest)) : W p l e R s m args below meth cd H locs cells slots Q (F0 m pc ls st0) := by
  have hf := ze_fits hW hA
  refine va_callv hr hW.2.2 (fun q _ h => hf q h) hf (fun u t H1 locs1 ht hvm hw hB hz1 hk1 hS => ?_)
  obtain ⟨hP1, hK1, hD1⟩ := hB
  rw [ht] at hP1
  have g := ze_PD hW.1 hW.2.1 hk1 hf hP1 hD1
  exact kk H1 locs1 ⟨g.1, g.2, hS⟩
theorem ze_FVi {y : MethodName} {bytes : ByteArray} {maxL nL mc ms n index fr lo ci q0 b : Nat} {ret : Option FieldType} {w Ts : List Cond} {own : String} {k : vw_C} {fs As : List Value} {ws2 : va_W} {v : Int32} {st0 : List Value} (S : CallFix p m cd cc nL s args Ts own) (hM : ze_I l y w fr lo mc ms D c ws (.ref b :: As) v ws2) (cw : CallW R s args own k.1 index y bytes maxL ret w { frames := fr, cells := mc, slots := ms, locals := lo } mc ms n) (hK : va_K D vwCl (ze_ty c) s) (hW : ze_W D (ws ++ wt) F H0 H locs) (hA : ∀ q : Nat, H0.size ≤ q → F q) (hc : vwCl[ci]? = some k) (he : ws[q0]? = some (b, .inr (ci, fs))) (hn : As.length = n) (hsize : ls.size = nL) (hst : st0 = As.reverse ++ .ref b :: rest) (hrm : 2 * (F0 m pc ls rest).monitorRoom + (rest.map fun v => v.category).sum ≤ 8) (hdg : decode cc pc = .ok (.invokevirtual index, 3)) (hf : cells + mc ≤ R.cells ∧ slots + ms ≤ R.slots)
    (kk : ∀ (H1 : Heap) (locs1 : List Loc), ze_W D (ws2 ++ wt) F H0 H1 locs1 → W p l e R s m args below meth cd H1 locs1 (cells + mc) (slots + ms) Q (F0 m (pc + 3) ls (.int v :: rest))) : W p l e R s m args below meth cd H locs cells slots Q (F0 m pc ls st0) :=
  ze_calliF (va_runV (As := As) (rest := rest) S (hM H.size) cw (ze_preV hK (ze_Wl hW) hc he) rfl hn hsize hst hrm hdg hf) hW hA kk
theorem ze_FVl {y : MethodName} {bytes : ByteArray} {maxL nL mc ms n index fr lo ci q0 b : Nat} {ret : Option FieldType} {w Ts : List Cond} {own : String} {k : vw_C} {fs As : List Value} {ws2 : va_W} {v : Int64} {st0 : List Value} (S : CallFix p m cd cc nL s args Ts own) (hM : ze_L l y w fr lo mc ms D c ws (.ref b :: As) v ws2) (cw : CallW R s args own k.1 index y bytes maxL ret w { frames := fr, cells := mc, slots := ms, locals := lo } mc ms n) (hK : va_K D vwCl (ze_ty c) s) (hW : ze_W D (ws ++ wt) F H0 H locs) (hA : ∀ q : Nat, H0.size ≤ q → F q) (hc : vwCl[ci]? = some k) (he : ws[q0]? = some (b, .inr (ci, fs))) (hn : As.length = n) (hsize : ls.size = nL) (hst : st0 = As.reverse ++ .ref b :: rest) (hrm : 2 * (F0 m pc ls rest).monitorRoom + (rest.map fun v => v.category).sum ≤ 8) (hdg : decode cc pc = .ok (.invokevirtual index, 3)) (hf : cells + mc ≤ R.cells ∧ slots + ms ≤ R.slots)
    (kk : ∀ (H1 : Heap) (locs1 : List Loc), ze_W D (ws2 ++ wt) F H0 H1 locs1 → W p l e R s m args below meth cd H1 locs1 (cells + mc) (slots + ms) Q (F0 m (pc + 3) ls (.long v :: rest))) : W p l e R s m args below meth cd H locs cells slots Q (F0 m pc ls st0) :=
  ze_calllF (va_runV (As := As) (rest := rest) S (hM H.size) cw (ze_preV hK (ze_Wl hW) hc he) rfl hn hsize hst hrm hdg hf) hW hA kk
theorem ze_FVf {y : MethodName} {bytes : ByteArray} {maxL nL mc ms n index fr lo ci q0 b : Nat} {ret : Option FieldType} {w Ts : List Cond} {own : String} {k : vw_C} {fs As : List Value} {ws2 : va_W} {v : UInt32} {st0 : List Value} (S : CallFix p m cd cc nL s args Ts own) (hM : ze_F l y w fr lo mc ms D c ws (.ref b :: As) v ws2) (cw : CallW R s args own k.1 index y bytes maxL ret w { frames := fr, cells := mc, slots := ms, locals := lo } mc ms n) (hK : va_K D vwCl (ze_ty c) s) (hW : ze_W D (ws ++ wt) F H0 H locs) (hA : ∀ q : Nat, H0.size ≤ q → F q) (hc : vwCl[ci]? = some k) (he : ws[q0]? = some (b, .inr (ci, fs))) (hn : As.length = n) (hsize : ls.size = nL) (hst : st0 = As.reverse ++ .ref b :: rest) (hrm : 2 * (F0 m pc ls rest).monitorRoom + (rest.map fun v => v.category).sum ≤ 8) (hdg : decode cc pc = .ok (.invokevirtual index, 3)) (hf : cells + mc ≤ R.cells ∧ slots + ms ≤ R.slots)
    (kk : ∀ (H1 : Heap) (locs1 : List Loc), ze_W D (ws2 ++ wt) F H0 H1 locs1 → W p l e R s m args below meth cd H1 locs1 (cells + mc) (slots + ms) Q (F0 m (pc + 3) ls (.float v :: rest))) : W p l e R s m args below meth cd H locs cells slots Q (F0 m pc ls st0) :=
  ze_callfF (va_runV (As := As) (rest := rest) S (hM H.size) cw (ze_preV hK (ze_Wl hW) hc he) rfl hn hsize hst hrm hdg hf) hW hA kk
theorem ze_FVv {y : MethodName} {bytes : ByteArray} {maxL nL mc ms n index fr lo ci q0 b : Nat} {ret : Option FieldType} {w Ts : List Cond} {own : String} {k : vw_C} {fs As : List Value} {ws2 : va_W} {st0 : List Value} (S : CallFix p m cd cc nL s args Ts own) (hM : ze_V l y w fr lo mc ms D c ws (.ref b :: As) ws2) (cw : CallW R s args own k.1 index y bytes maxL ret w { frames := fr, cells := mc, slots := ms, locals := lo } mc ms n) (hK : va_K D vwCl (ze_ty c) s) (hW : ze_W D (ws ++ wt) F H0 H locs) (hA : ∀ q : Nat, H0.size ≤ q → F q) (hc : vwCl[ci]? = some k) (he : ws[q0]? = some (b, .inr (ci, fs))) (hn : As.length = n) (hsize : ls.size = nL) (hst : st0 = As.reverse ++ .ref b :: rest) (hrm : 2 * (F0 m pc ls rest).monitorRoom + (rest.map fun v => v.category).sum ≤ 8) (hdg : decode cc pc = .ok (.invokevirtual index, 3)) (hf : cells + mc ≤ R.cells ∧ slots + ms ≤ R.slots)
    (kk : ∀ (H1 : Heap) (locs1 : List Loc), ze_W D (ws2 ++ wt) F H0 H1 locs1 → W p l e R s m args below meth cd H1 locs1 (cells + mc) (slots + ms) Q (F0 m (pc + 3) ls rest)) : W p l e R s m args below meth cd H locs cells slots Q (F0 m pc ls st0) :=
  ze_callvF (va_runV (As := As) (rest := rest) S (hM H.size) cw (ze_preV hK (ze_Wl hW) hc he) rfl hn hsize hst hrm hdg hf) hW hA kk
theorem ze_FSi {y : MethodName} {bytes : ByteArray} {maxL nL mc ms n index fr lo : Nat} {ret : Option FieldType} {w Ts : List Cond} {own : String} {As : List Value} {ws2 : va_W} {v : Int32} {st0 : List Value} (S : CallFix p m cd cc nL s args Ts own) (hM : ze_I l y w fr lo mc ms D c ws As v ws2) (cw : CallB R s args own index y bytes maxL ret w { frames := fr, cells := mc, slots := ms, locals := lo } mc ms n ∧ (Cond.static y).before args s = true) (hK : va_K D vwCl (ze_ty c) s) (hW : ze_W D (ws ++ wt) F H0 H locs) (hA : ∀ q : Nat, H0.size ≤ q → F q) (hn : As.length = n) (hsize : ls.size = nL) (hst : st0 = As.reverse ++ rest) (hrm : 2 * (F0 m pc ls rest).monitorRoom + (rest.map fun v => v.category).sum ≤ 8) (hdg : decode cc pc = .ok (.invokestatic index, 3)) (hf : cells + mc ≤ R.cells ∧ slots + ms ≤ R.slots)
    (kk : ∀ (H1 : Heap) (locs1 : List Loc), ze_W D (ws2 ++ wt) F H0 H1 locs1 → W p l e R s m args below meth cd H1 locs1 (cells + mc) (slots + ms) Q (F0 m (pc + 3) ls (.int v :: rest))) : W p l e R s m args below meth cd H locs cells slots Q (F0 m pc ls st0) :=
  ze_calliF (va_runS (As := As) (rest := rest) S (hM H.size) cw (ze_preS hK (ze_Wl hW)) rfl hn hsize hst hrm hdg hf) hW hA kk
/-- a row of ints is made -/
theorem ze_newi {maxL : Nat} {Ts : List Cond} {own : String} (S : CallFix p m cd cc maxL s args Ts own) (harr : (Cond.arrayClass .int).before args s = true) (hK : va_K D vwCl (ze_ty c) s) (hW : ze_W D ws F H0 H locs) (hA : ∀ q : Nat, H0.size ≤ q → F q) {N : Nat} (hN : N < 1000) (hcells : cells + 1 ≤ R.cells) (hslots : slots + N ≤ R.slots) (hdg : decode cc pc = .ok (.newarray .int, 2))
    (kk : ∀ (q : Nat) (H1 : Heap), ze_W D (ws ++ [(q, .inl (c 0, N, .inl (fun _ => 0)))]) F H0 H1 locs → W p l e R s m args below meth cd H1 locs (cells + 1) (slots + N) Q (F0 m (pc + 2) ls (.ref q :: rest))) : W p l e R s m args below meth cd H locs cells slots Q (F0 m pc ls (.int (nI N) :: rest)) := by
  refine va_newa (atype := .int) (ty := .int) (N' := N) (a0 := (N, .inl (fun _ => 0))) S.1 S.2.1 harr rfl hK hW.1 hW.2.1 hW.2.2 hA (fun cA => rfl) (nI_pos (by omega)) (nI_clamp (by omega)) (by have : componentBytes .int = 4 := rfl; rw [this]; omega) hcells hslots hdg (fun q cA H1 hK1 hP1 hD1 hS1 => ?_)
  have e1 := (hK1.2 (ze_ty c).length (cA, .int) (by simp)).2
  have e2 := (hK.2 0 (c 0, .int) rfl).2
  have e3 : cA = c 0 := Option.some.inj (e1.symm.trans e2)
  subst e3
  exact kk q H1 ⟨hP1, hD1, hS1⟩
end ZF
