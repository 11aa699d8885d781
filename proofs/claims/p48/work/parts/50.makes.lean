/-! ===== cells are made, constructors run ===== -/
theorem ze_setne {ws : va_W} {i j : Nat} {e q : Nat × va_E} (h : i ≠ j) (h2 : ws[j]? = some q) : (ws.set i e)[j]? = some q := by
  rw [List.getElem?_set_ne h]
  exact h2
section ZM
variable {p : Program} {l : Launch} {e : Env} {R : Room} {s : State} {m : MethodId} {args : Array Value} {below : List Frame} {meth : Method} {cd : Code} {H : Heap} {locs : List Loc} {cells slots : Nat} {Q : State → Prop}
variable {cc : ByteArray} {pc : Nat} {ls : Array Slot} {rest : List Value} {D : va_G} {c : Nat → ClassId} {ws wt : va_W} {F : Nat → Prop} {H0 : Heap} {a : Nat}
theorem zi_start {y : MethodName} {own : String} {w w' : List Cond} {rm : Room} {sz mc ms maxL : Nat} {av : List Value} {cc : ByteArray} {ret : Option FieldType} {Qc : Array Value → State → Outcome → State → Prop} (hnm : y.name = "<init>") (hy : plainName y.cls = true) (ho : y.cls = own) (hw : w = Cond.code y cc maxL ret :: w') (hn : (lg_sl av).length ≤ maxL)
    (body : ∀ (p : Program) (e : Env) (s : State) (m : MethodId) (below : List Frame) (meth : Method) (cd : Code) (F : Nat → Prop) (ls : Array Slot), va_A ws sz = F → s.heap.size = sz → ze_E p l e s m meth cd cc maxL ret w own av D c ws F ls → meth.name = "<init>" →
      W p l e rm s m av.toArray below meth cd s.heap [] 0 0 (MQ below Qc av.toArray s mc ms F) (F0 m 0 ls [])) : Met l y w rm (ze_P D c ws sz av) Qc mc ms (va_A ws sz) := by
  refine Met.ofW (cc := cc) (maxL := maxL) (ret := ret) hy hw ?_
  intro p e s m args below meth cd s₁ B hml hv
  obtain ⟨rfl, hsz, hP, hK, hD0⟩ := hv
  subst ho
  rw [lg_entry_eq]
  have hD : va_D (va_A ws sz) ws := hD0.self (sz := sz)
  exact body p e s m below meth cd (va_A ws sz) _ rfl hsz ⟨⟨B.exec, B.bytes, hml, findClass_of_methodNamed B.named, atoms_spec (ws := w) B.pre⟩, B.returns, B.notSynchronized, hK, ⟨hP, hD, va_S.rf⟩, fun q h => Or.inr (by rw [← hsz]; exact h), lv_entry av hn⟩ ((name_of_methodNamed B.named B.method).1.trans hnm)
/-- Object's own constructor -/
theorem ze_obj {own : String} {maxL idx : Nat} {Ts : List Cond} (S : CallFix p m cd cc maxL s args Ts own) (hsize : ls.size = maxL) (h1 : (Cond.methodLink own idx Lib.objectInit).before args s = true) (h2 : (Cond.instanceMethod Lib.objectInit).before args s = true) (h3 : (Cond.code Lib.objectInit ⟨#[0xb1]⟩ 1 none).before args s = true) (hdg : decode cc pc = .ok (.invokespecial idx, 3)) (hR : 1 ≤ R.frames ∧ 2 * (F0 m pc ls (.ref a :: rest)).monitorRoom + (rest.map fun v => v.category).sum + 12 ≤ R.locals)
    (kk : W p l e R s m args below meth cd H locs cells slots Q (F0 m (pc + 3) ls rest)) : W p l e R s m args below meth cd H locs cells slots Q (F0 m pc ls (.ref a :: rest)) :=
  W.objInit S.1 S.2.1 S.2.2.2.1 h1 h2 h3 rfl (hsize.trans S.2.2.1.symm) rfl hdg hR.1 hR.2 kk
/-- a final field is written by its constructor -/
theorem ze_putF {own C : String} {T : u_T} {N ci idx maxL : Nat} {Ts : List Cond} (S : CallFix p m cd cc maxL s args Ts own) (hin : ∀ w ∈ u_ws C T N, w ∈ Ts) (ty0 : Nat → FieldType) (hty : ∀ k, k < N → parseFieldDescriptor (T k).2.2.1 = some (ty0 k)) (hnm : ∀ a, a < N → ∀ b, b < N → a ≠ b → (T a).2.1 ≠ (T b).2.1) (hin2 : meth.name = "<init>") (hK : va_K D vwCl (ze_ty c) s) (hW : ze_W D ws F H0 H locs) (q0 : Nat) {fs : List Value} (he : ws[q0]? = some (a, .inr (ci, fs))) (hc : vwCl[ci]? = some (C, T, N)) (k : Nat) (hk : k < N) {v : Value} (hl : k < fs.length) (hfin : (T k).2.2.2 = true) (hdecl : (T k).1 = own) (hn : narrow (ty0 k) v = v) (hfit : fits (ty0 k) v = true) (hlink : (Cond.fieldLink own idx (T k).1 (T k).2.1 (T k).2.2.1).before args s = true) (hdg : decode cc pc = .ok (.putfield idx, 3))
    {ws2 : va_W} (h2 : ws.set q0 (a, .inr (ci, fs.set k v)) = ws2) (kk : ∀ (H1 : Heap) (locs1 : List Loc), ze_W D ws2 F H0 H1 locs1 → W p l e R s m args below meth cd H1 locs1 cells slots Q (F0 m (pc + 3) ls rest)) : W p l e R s m args below meth cd H locs cells slots Q (F0 m pc ls (v :: .ref a :: rest)) := by
  subst h2
  exact va_putF S.1 S.2.1 S.2.2.2.2 hin ty0 hty hnm S.2.2.2.1 hK hW.1 hW.2.1 hW.2.2 q0 he hc k hk hlink (fun _ h9 => h9) hfin hin2 hdecl (hty k hk) hn hfit hl hdg (fun H1 locs1 hP hD hS => kk H1 locs1 ⟨hP, hD, hS⟩)
/-- an object is made -/
theorem ze_new {own C : String} {T : u_T} {N ci idx maxL : Nat} {Ts : List Cond} (S : CallFix p m cd cc maxL s args Ts own) (hin : ∀ w ∈ u_ws C T N, w ∈ Ts) (ty0 : Nat → FieldType) (hty : ∀ k, k < N → parseFieldDescriptor (T k).2.2.1 = some (ty0 k)) (hcl : (Cond.classLink own idx C).before args s = true) (hinst : (Cond.instantiable C N).before args s = true) (hini : (Cond.initialized C).before args s = true) (hK : va_K D vwCl (ze_ty c) s) (hW : ze_W D ws F H0 H locs) (hA : ∀ q : Nat, H0.size ≤ q → F q) (hc : vwCl[ci]? = some (C, T, N)) {fs : List Value} (hfs : ∀ j, j < N → defaultValue (ty0 j) = vp_V fs j) (hcells : cells + 1 ≤ R.cells) (hslots : slots + N ≤ R.slots) (hdg : decode cc pc = .ok (.new idx, 3))
    (kk : ∀ (q : Nat) (H1 : Heap), ze_W D (ws ++ [(q, .inr (ci, fs))]) F H0 H1 locs → W p l e R s m args below meth cd H1 locs (cells + 1) (slots + N) Q (F0 m (pc + 3) ls (.ref q :: rest))) : W p l e R s m args below meth cd H locs cells slots Q (F0 m pc ls rest) :=
  va_new S.1 S.2.1 S.2.2.2.2 hin ty0 hty S.2.2.2.1 hcl hinst hini hK hW.1 hW.2.1 hW.2.2 hA hc hfs hcells hslots hdg (fun q H1 hP1 hD1 hS1 => kk q H1 ⟨hP1, hD1, hS1⟩)
/-- a constructor is called, the rest of the world beside it -/
theorem ze_FIv {y : MethodName} {bytes : ByteArray} {maxL nL mc ms n index fr lo b : Nat} {w Ts : List Cond} {own : String} {As : List Value} {ws2 : va_W} {st0 : List Value} (S : CallFix p m cd cc nL s args Ts own) (hM : ze_V l y w fr lo mc ms D c ws (.ref b :: As) ws2) (cw : CallB R s args own index y bytes maxL none w { frames := fr, cells := mc, slots := ms, locals := lo } mc ms n ∧ y.name = "<init>" ∧ (Cond.instanceMethod y).before args s = true) (hK : va_K D vwCl (ze_ty c) s) (hW : ze_W D (ws ++ wt) F H0 H locs) (hA : ∀ q : Nat, H0.size ≤ q → F q) (hn : As.length = n) (hsize : ls.size = nL) (hst : st0 = As.reverse ++ .ref b :: rest) (hrm : 2 * (F0 m pc ls rest).monitorRoom + (rest.map fun v => v.category).sum ≤ 8) (hdg : decode cc pc = .ok (.invokespecial index, 3)) (hf : cells + mc ≤ R.cells ∧ slots + ms ≤ R.slots)
    (kk : ∀ (H1 : Heap) (locs1 : List Loc), ze_W D (ws2 ++ wt) F H0 H1 locs1 → W p l e R s m args below meth cd H1 locs1 (cells + mc) (slots + ms) Q (F0 m (pc + 3) ls rest)) : W p l e R s m args below meth cd H locs cells slots Q (F0 m pc ls st0) :=
  ze_callvF (va_runI (As := As) (rest := rest) S (hM H.size) cw (ze_preS hK (ze_Wl hW)) rfl hn hsize hst hrm hdg hf) hW hA kk
/-- a reference is stored -/
theorem ze_ast (hx : p.tables.exec = Jvm.exec) (hb : cd.code = cc) (hK : va_K D vwCl (ze_ty c) s) (hW : ze_W D ws F H0 H locs) (q0 t0 qk ci : Nat) {cA : ClassId} {r : vw_C} {M v i : Nat} {vs : List Value} {f : Nat → Option Nat} (ha : ws[q0]? = some (a, .inl (cA, M, .inr (.inr (.inr (.inr f)))))) (ht : (ze_ty c)[t0]? = some (cA, .object r.1)) (hv : ws[qk]? = some (v, .inr (ci, vs))) (hc : vwCl[ci]? = some r) (hi : i < M) (hM : M < 2 ^ 31) (hdg : decode cc pc = .ok (.aastore, 1))
    (kk : ∀ (H1 : Heap) (locs1 : List Loc), ze_W D (ws.set q0 (a, .inl (cA, M, .inr (.inr (.inr (.inr (va_up f i (some v)))))))) F H0 H1 locs1 → W p l e R s m args below meth cd H1 locs1 cells slots Q (F0 m (pc + 1) ls rest)) : W p l e R s m args below meth cd H locs cells slots Q (F0 m pc ls (.ref v :: .int (nI i) :: .ref a :: rest)) := by
  refine va_astq hx hb hK hW.1 hW.2.1 hW.2.2 q0 t0 qk ci ha ht hv hc (vp_in_nI hi hM) hdg (fun H1 locs1 hP hD hS => ?_)
  rw [nI_clamp (by omega)] at hP hD
  exact kk H1 locs1 ⟨hP, hD, hS⟩
/-! a generator, a store, a load more: the new cell takes its place -/
theorem ze_rwup {ad : Nat → Nat} {o N q : Nat} : va_up (ze_rw ad o N) N (some q) = ze_rw (va_up ad (o + N) q) o (N + 1) := by
  funext g
  by_cases h : g = N
  · subst h
    simp [ze_rw, va_up]
  · by_cases h2 : g < N
    · have h3 : g < N + 1 := by omega
      simp [ze_rw, va_up, h, h2, h3]
    · have h3 : ¬ g < N + 1 := by omega
      simp [ze_rw, va_up, h, h2, h3]
theorem ze_rwne {ad : Nat → Nat} {o N q k : Nat} (h : ∀ g, g < N → o + g ≠ k) : ze_rw (va_up ad k q) o N = ze_rw ad o N := by
  funext g
  by_cases h2 : g < N
  · simp [ze_rw, va_up, h2, h g h2]
  · simp [ze_rw, h2]
end ZM
