/-! ===== the law's own calls: what is thrown becomes a code ===== -/
def zq_nc : List (String × String) := [("java/lang/IllegalArgumentException", "java/lang/IndexOutOfBoundsException"), ("java/lang/IllegalStateException", "java/lang/IndexOutOfBoundsException"), ("java/lang/IllegalStateException", "java/lang/IllegalArgumentException"), ("java/lang/UnsupportedOperationException", "java/lang/IndexOutOfBoundsException"), ("java/lang/UnsupportedOperationException", "java/lang/IllegalStateException"), ("java/lang/IllegalStateException", "java/util/NoSuchElementException"), ("java/lang/UnsupportedOperationException", "java/util/NoSuchElementException"), ("java/util/NoSuchElementException", "java/lang/IndexOutOfBoundsException"), ("java/util/NoSuchElementException", "java/lang/IllegalStateException"), ("java/util/NoSuchElementException", "java/lang/IllegalArgumentException")]
def zq_N (U : State) : Prop := ∀ q ∈ zq_nc, va_Nc q.1 q.2 U
def zq_P (D : va_G) (c : Nat → ClassId) (ws : va_W) (sz : Nat) (av : List Value) : Array Value → State → Prop := va_Pc av (fun U => U.heap.size = sz ∧ ze_O D c ws (fun _ => True) U ∧ zx_B (va_A ws sz) U U.heap ∧ zq_N U)
theorem zq_blind (D : va_G) (c : Nat → ClassId) (ws : va_W) (sz : Nat) (av : List Value) : FrameBlind (zq_P D c ws sz av) := fun a U g mk q => by
  obtain ⟨q0, q1, ⟨qP, qK, qD⟩, qB, qN⟩ := q
  exact ⟨q0, q1, ⟨qP, va_K.moved (u := U) (U := U.calling g mk a) (Vm.Alike.refl U.vm) qK, qD⟩, zx_B.same (U := U) (U2 := U.calling g mk a) rfl qB, fun z hz => va_Nc.moved (u := U) (U := U.calling g mk a) (Vm.Alike.refl U.vm) (qN z hz)⟩
def ze_Q (l : Launch) (y : MethodName) (w : List Cond) (fr lo mc ms : Nat) (D : va_G) (c : Nat → ClassId) (ws : va_W) (av : List Value) (v : Int32) (ws2 : va_W) : Prop := ∀ sz : Nat, Met l y w { frames := fr, cells := mc, slots := ms, locals := lo } (zq_P D c ws sz av) (ze_Qi D c ws sz v ws2) mc ms (va_A ws sz)
def ze_QE (l : Launch) (y : MethodName) (w : List Cond) (fr lo mc ms : Nat) (D : va_G) (c : Nat → ClassId) (ws : va_W) (av : List Value) (v : Int32) (ws2 : Nat → va_W) : Prop := ∀ sz : Nat, Met l y w { frames := fr, cells := mc, slots := ms, locals := lo } (zq_P D c ws sz av) (ze_Qe D c ws sz v ws2) mc ms (va_A ws sz)
section ZQ
variable {p : Program} {l : Launch} {e : Env} {R : Room} {s : State} {m : MethodId} {args : Array Value} {below : List Frame} {meth : Method} {cd : Code} {H : Heap} {locs : List Loc} {cells slots : Nat} {Q : State → Prop}
variable {cc : ByteArray} {pc : Nat} {ls : Array Slot} {rest : List Value} {D : va_G} {c : Nat → ClassId} {ws wt : va_W} {F : Nat → Prop} {H0 : Heap} {a : Nat}
theorem zq_start {y : MethodName} {own : String} {w w' : List Cond} {rm : Room} {sz mc ms maxL : Nat} {av : List Value} {cc : ByteArray} {ret : Option FieldType} {hh : List (Nat × Nat × Nat × Nat)} {Qc : Array Value → State → Outcome → State → Prop} (hy : plainName y.cls = true) (ho : y.cls = own) (hw : w = Cond.codeWith y cc maxL ret hh :: w') (hn : (lg_sl av).length ≤ maxL)
    (body : ∀ (p : Program) (e : Env) (s : State) (m : MethodId) (below : List Frame) (meth : Method) (cd : Code) (F : Nat → Prop) (ls : Array Slot), va_A ws sz = F → s.heap.size = sz → ze_E p l e s m meth cd cc maxL ret w own av D c ws F ls → zx_B F s s.heap → zq_N s → cd.exceptionTable.toList = tableOf hh →
      W p l e rm s m av.toArray below meth cd s.heap [] 0 0 (MQ below Qc av.toArray s mc ms F) (F0 m 0 ls [])) : Met l y w rm (zq_P D c ws sz av) Qc mc ms (va_A ws sz) := by
  refine va_MetW (cc := cc) (maxL := maxL) (ret := ret) (hh := hh) hy hw ?_
  intro p e s m args below meth cd s₁ B hml hv
  obtain ⟨rfl, hsz, ⟨hP, hK, hD0⟩, hXB, hNc⟩ := hv
  subst ho
  rw [lg_entry_eq]
  have hD : va_D (va_A ws sz) ws := hD0.self (sz := sz)
  exact body p e s m below meth cd (va_A ws sz) _ rfl hsz ⟨⟨B.exec, B.bytes, hml, findClass_of_methodNamed B.named, atoms_spec (ws := w) B.pre⟩, B.returns, B.notSynchronized, hK, ⟨hP, hD, va_S.rf⟩, fun q h => Or.inr (by rw [← hsz]; exact h), lv_entry av hn⟩ hXB hNc (vx_table (x := y) B (atoms_spec (ws := w) B.pre _ (by rw [hw]; exact List.mem_cons_self)))
/-- the callee throws, and it is caught here -/
theorem zx_FVc {y : MethodName} {bytes : ByteArray} {maxL nL n index fr lo ci q0 b : Nat} {ret : Option FieldType} {w Ts : List Cond} {own Ex : String} {k : vw_C} {fs As : List Value} {st0 : List Value} (S : CallFix p m cd cc nL s args Ts own) (hM : ze_T l y w fr lo D c ws (.ref b :: As) Ex) (cw : CallW R s args own k.1 index y bytes maxL ret w { frames := fr, cells := 1, slots := 6, locals := lo } 1 6 n) (hK : va_K D vwCl (ze_ty c) s) (hW : ze_W D (ws ++ wt) F s.heap H locs) (hXB : zx_B F s s.heap) (hA : ∀ q : Nat, s.heap.size ≤ q → F q) (hc : vwCl[ci]? = some k) (he : ws[q0]? = some (b, .inr (ci, fs))) (hn : As.length = n) (hsize : ls.size = nL) (hst : st0 = As.reverse ++ .ref b :: rest) (hrm : 2 * (F0 m pc ls rest).monitorRoom + (rest.map fun v => v.category).sum ≤ 8) (hdg : decode cc pc = .ok (.invokevirtual index, 3)) (hf : cells + 1 ≤ R.cells ∧ slots + 6 ≤ R.slots)
    (pre : List ExceptionTableEntry) (x : ExceptionTableEntry) (suf : List ExceptionTableEntry) (hsplit : cd.exceptionTable.toList = pre ++ x :: suf) (hpass : ∀ z ∈ pre, covers z pc = false ∨ (z.catchType ≠ 0 ∧ ∃ nm : String, (Cond.classLink own z.catchType nm).before args s = true ∧ va_Nc Ex nm s)) (hx : covers x pc = true) (h0 : x.catchType ≠ 0)
    (hlink : (Cond.classLink own x.catchType Ex).before args s = true) (hcast : (Cond.castable Ex Ex).before args s = true)
    (kk : ∀ (q9 : Nat) (H1 : Heap) (locs1 : List Loc), ze_W D (ws ++ wt) F s.heap H1 locs1 → W p l e R s m args below meth cd H1 locs1 (cells + 1) (slots + 6) Q (F0 m x.handlerPc ls [.ref q9])) : W p l e R s m args below meth cd H locs cells slots Q (F0 m pc ls st0) := by
  have hff := ze_fits hW hA
  have hr := vx_runV (p := p) (l := l) (e := e) (meth := meth) (below := below) (locs := locs) (g := F0 m pc ls st0) (cells := cells) (slots := slots) (As := As) (rest := rest) S (hM H.size) cw ⟨zx_blind D c ws H.size (.ref b :: As), va_recv hK (ze_Wl hW).1 hc he, fun U hU hWm => ⟨rfl, by rw [hU], ⟨by rw [hU]; exact (ze_Wl hW).1, va_K.moved hWm.alike hK, (ze_Wl hW).2.1.weaken (fun _ _ _ _ => trivial)⟩, by rw [hU]; exact hXB.to hW.2.2.2.1 hff hWm⟩⟩ rfl hn hsize hst hrm hdg hf
  refine vx_callv (S := Unit) (SX := Unit) (a := (Value.ref b :: As).toArray) (post := fun _ => False) (px := fun _ => True) (B := fun _ _ => True) (BX := fun E' _ t => E' = Ex ∧ ze_O D c ws (va_A ws H.size) t) (A1 := fun _ => False) (AX := va_A ws H.size) (free := va_A ws H.size) (mc := 1) (ms := 6) (rest := rest) (hr := ?_) hW.2.2 (fun q _ h => h.elim) hff (fun q _ h => hff q h) (fun E ce q9 u t H1 locs1 ht hvm _ hB hz1 hk1 hS hce hcv hcl => ?_) (fun u t H1 locs1 ht hvm hp hB hz1 hk1 hS => hp.elim)
  · intro T hT X
    rcases hr T hT X with ⟨v, st₀, t, T', L, h0, X', hL, e1, e2, ⟨⟨r, hv, hp, hb⟩, hF⟩, st⟩ | h
    · exact hp.elim
    · exact Or.inr h
  · obtain ⟨rfl, hP1, hK1, hD1⟩ := hB
    rw [ht] at hP1
    have g := ze_PD hW.1 hW.2.1 hk1 hff hP1 hD1
    exact vx_catch S.2.2.2.1 pre x suf hsplit hpass hx h0 hlink hcast hce hcv hcl (kk q9 H1 locs1 ⟨g.1, g.2, hS⟩)
end ZQ
