/-! ===== constructors that make rows ===== -/
def zk (U : State) : Prop := va_AO RX1 U ∧ va_AO RX7 U ∧ va_AO RX3 U ∧ va_Nw (.methodLinkNest RX8 9 yX5_init RX8) U ∧ va_Nw (.methodLinkNest RX8 41 yX2_init RX8) U
theorem zk.warm {s U : State} (hW : s.WarmedH U.vm) (h : zk s) : zk U := ⟨h.1.moved hW.alike, h.2.1.moved hW.alike, h.2.2.1.moved hW.alike, va_Nw.warmM hW h.2.2.2.1, va_Nw.warmM hW h.2.2.2.2⟩
def zk_P (D : va_G) (c : Nat → ClassId) (ws : va_W) (sz : Nat) (av : List Value) : Array Value → State → Prop := va_Pc av (fun U => U.heap.size = sz ∧ ze_O D c ws (fun _ => True) U ∧ zk U)
theorem zk_blind (D : va_G) (c : Nat → ClassId) (ws : va_W) (sz : Nat) (av : List Value) : FrameBlind (zk_P D c ws sz av) := fun a U g mk q => by
  obtain ⟨q0, q1, ⟨qP, qK, qD⟩, qB⟩ := q
  exact ⟨q0, q1, ⟨qP, va_K.moved (u := U) (U := U.calling g mk a) (Vm.Alike.refl U.vm) qK, qD⟩, ⟨va_AO.moved (u := U) (U := U.calling g mk a) (Vm.Alike.refl U.vm) qB.1, va_AO.moved (u := U) (U := U.calling g mk a) (Vm.Alike.refl U.vm) qB.2.1, va_AO.moved (u := U) (U := U.calling g mk a) (Vm.Alike.refl U.vm) qB.2.2.1, va_Nw.same (U := U.calling g mk a) rfl rfl qB.2.2.2.1, va_Nw.same (U := U.calling g mk a) rfl rfl qB.2.2.2.2⟩⟩
abbrev ze_Qg (D : va_G) (c : Nat → ClassId) (ws : va_W) (sz : Nat) (ws2 : (Nat → Nat) → va_W) : Array Value → State → Outcome → State → Prop := va_Qv (fun (_ : Nat → Nat) => True) (fun a t => ze_O D c (ws2 a) (va_A ws sz) t) (va_A ws sz)
def ze_VG (l : Launch) (y : MethodName) (w : List Cond) (fr lo mc ms : Nat) (D : va_G) (c : Nat → ClassId) (ws : va_W) (av : List Value) (ws2 : (Nat → Nat) → va_W) : Prop := ∀ sz : Nat, Met l y w { frames := fr, cells := mc, slots := ms, locals := lo } (zk_P D c ws sz av) (ze_Qg D c ws sz ws2) mc ms (va_A ws sz)
section ZG
variable {p : Program} {l : Launch} {e : Env} {R : Room} {s : State} {m : MethodId} {args : Array Value} {below : List Frame} {meth : Method} {cd : Code} {H : Heap} {locs : List Loc} {cells slots : Nat} {Q : State → Prop}
variable {cc : ByteArray} {pc : Nat} {ls : Array Slot} {rest : List Value} {D : va_G} {c : Nat → ClassId} {ws wt : va_W} {F : Nat → Prop} {H0 : Heap} {a : Nat}
theorem zk_start {y : MethodName} {own : String} {w w' : List Cond} {rm : Room} {sz mc ms maxL : Nat} {av : List Value} {cc : ByteArray} {ret : Option FieldType} {Qc : Array Value → State → Outcome → State → Prop} (hnm : y.name = "<init>") (hy : plainName y.cls = true) (ho : y.cls = own) (hw : w = Cond.code y cc maxL ret :: w') (hn : (lg_sl av).length ≤ maxL)
    (body : ∀ (p : Program) (e : Env) (s : State) (m : MethodId) (below : List Frame) (meth : Method) (cd : Code) (F : Nat → Prop) (ls : Array Slot), va_A ws sz = F → s.heap.size = sz → ze_E p l e s m meth cd cc maxL ret w own av D c ws F ls → meth.name = "<init>" → zk s →
      W p l e rm s m av.toArray below meth cd s.heap [] 0 0 (MQ below Qc av.toArray s mc ms F) (F0 m 0 ls [])) : Met l y w rm (zk_P D c ws sz av) Qc mc ms (va_A ws sz) := by
  refine Met.ofW (cc := cc) (maxL := maxL) (ret := ret) hy hw ?_
  intro p e s m args below meth cd s₁ B hml hv
  obtain ⟨rfl, hsz, ⟨hP, hK, hD0⟩, hZ⟩ := hv
  subst ho
  rw [lg_entry_eq]
  have hD : va_D (va_A ws sz) ws := hD0.self (sz := sz)
  exact body p e s m below meth cd (va_A ws sz) _ rfl hsz ⟨⟨B.exec, B.bytes, hml, findClass_of_methodNamed B.named, atoms_spec (ws := w) B.pre⟩, B.returns, B.notSynchronized, hK, ⟨hP, hD, va_S.rf⟩, fun q h => Or.inr (by rw [← hsz]; exact h), lv_entry av hn⟩ ((name_of_methodNamed B.named B.method).1.trans hnm) hZ
theorem ze_gret {sz : Nat} {a2 : Nat → Nat} {ws2 : (Nat → Nat) → va_W} {ws3 : va_W} {maxL : Nat} {Ts : List Cond} {own : String} {mc ms : Nat} (S : CallFix p m cd cc maxL s args Ts own) (hr : meth.sig.returnType = none) (hlocks : meth.locks = false) (hF : va_A ws sz = F) (hK : va_K D vwCl (ze_ty c) s) (hW : ze_W D ws3 F s.heap H locs) (hdg : decode cc pc = .ok (.return_, 1)) (hc : cells ≤ mc) (hs : slots ≤ ms) (hw2 : ws3 = ws2 a2) :
    W p l e R s m args below meth cd H locs cells slots (MQ below (ze_Qg D c ws sz ws2) args s mc ms F) (F0 m pc ls []) := by
  obtain ⟨hx, hb, hml, hown, hts⟩ := S
  subst hw2
  refine W.widen (k := mc) (n := ms) hc hs ?_
  exact W.vret hx hb hr (fun t ht hWm => ⟨⟨a2, rfl, trivial, (ze_end hF hK hW ht hWm).1⟩, (ze_end hF hK hW ht hWm).2⟩) hW.2.2.2.2 hdg hlocks
theorem ze_callg {ws2 : (Nat → Nat) → va_W} {mc ms : Nat} {st0 : List Value} {av : Array Value} (hr : va_Run p l e R s m args below meth cd H locs cells slots mc ms (F0 m pc ls st0) rest (va_Qv (fun (_ : Nat → Nat) => True) (fun a t => ze_O D c (ws2 a) (va_A ws H.size) t) (va_A ws H.size) av) (va_A ws H.size)) (hW : ze_W D (ws ++ wt) F H0 H locs) (hA : ∀ q : Nat, H0.size ≤ q → F q)
    (kk : ∀ (a2 : Nat → Nat) (H1 : Heap) (locs1 : List Loc), ze_W D (ws2 a2 ++ wt) F H0 H1 locs1 → W p l e R s m args below meth cd H1 locs1 (cells + mc) (slots + ms) Q (F0 m (pc + 3) ls rest)) : W p l e R s m args below meth cd H locs cells slots Q (F0 m pc ls st0) := by
  have hf := ze_fits hW hA
  refine va_callv hr hW.2.2 (fun q _ h => hf q h) hf (fun a2 t H1 locs1 ht hvm hw hB hz1 hk1 hS => ?_)
  obtain ⟨hP1, hK1, hD1⟩ := hB
  rw [ht] at hP1
  have g := ze_PD hW.1 hW.2.1 hk1 hf hP1 hD1
  exact kk a2 H1 locs1 ⟨g.1, g.2, hS⟩
theorem zk_pre {As : List Value} (hK : va_K D vwCl (ze_ty c) s) (hW : ze_W D ws F H0 H locs) (hZ : zk s) : PreS s H (zk_P D c ws H.size As) As :=
  ⟨zk_blind D c ws H.size As, fun U hU hWm => ⟨rfl, by rw [hU], ⟨by rw [hU]; exact hW.1, va_K.moved hWm.alike hK, hW.2.1.weaken (fun _ _ _ _ => trivial)⟩, hZ.warm hWm⟩⟩
theorem ze_FIg {y : MethodName} {bytes : ByteArray} {maxL nL mc ms n index fr lo b : Nat} {w Ts : List Cond} {own : String} {As : List Value} {ws2 : (Nat → Nat) → va_W} {st0 : List Value} (S : CallFix p m cd cc nL s args Ts own) (hM : ze_VG l y w fr lo mc ms D c ws (.ref b :: As) ws2) (cw : CallB R s args own index y bytes maxL none w { frames := fr, cells := mc, slots := ms, locals := lo } mc ms n ∧ y.name = "<init>" ∧ (Cond.instanceMethod y).before args s = true) (hZ : zk s) (hK : va_K D vwCl (ze_ty c) s) (hW : ze_W D (ws ++ wt) F H0 H locs) (hA : ∀ q : Nat, H0.size ≤ q → F q) (hn : As.length = n) (hsize : ls.size = nL) (hst : st0 = As.reverse ++ .ref b :: rest) (hrm : 2 * (F0 m pc ls rest).monitorRoom + (rest.map fun v => v.category).sum ≤ 8) (hdg : decode cc pc = .ok (.invokespecial index, 3)) (hf : cells + mc ≤ R.cells ∧ slots + ms ≤ R.slots)
    (kk : ∀ (a2 : Nat → Nat) (H1 : Heap) (locs1 : List Loc), ze_W D (ws2 a2 ++ wt) F H0 H1 locs1 → W p l e R s m args below meth cd H1 locs1 (cells + mc) (slots + ms) Q (F0 m (pc + 3) ls rest)) : W p l e R s m args below meth cd H locs cells slots Q (F0 m pc ls st0) :=
  ze_callg (va_runI (As := As) (rest := rest) S (hM H.size) cw (zk_pre hK (ze_Wl hW) hZ) rfl hn hsize hst hrm hdg hf) hW hA kk
theorem ze_FNg {y : MethodName} {bytes : ByteArray} {maxL nL mc ms n index fr lo b : Nat} {w Ts : List Cond} {own host : String} {As : List Value} {ws2 : (Nat → Nat) → va_W} {st0 : List Value} (S : CallFix p m cd cc nL s args Ts own) (hM : ze_VG l y w fr lo mc ms D c ws (.ref b :: As) ws2) (cw : va_CN R s args own index y host bytes maxL none w { frames := fr, cells := mc, slots := ms, locals := lo } mc ms n ∧ y.name = "<init>" ∧ (Cond.instanceMethod y).before args s = true) (hZ : zk s) (hK : va_K D vwCl (ze_ty c) s) (hW : ze_W D (ws ++ wt) F H0 H locs) (hA : ∀ q : Nat, H0.size ≤ q → F q) (hn : As.length = n) (hsize : ls.size = nL) (hst : st0 = As.reverse ++ .ref b :: rest) (hrm : 2 * (F0 m pc ls rest).monitorRoom + (rest.map fun v => v.category).sum ≤ 8) (hdg : decode cc pc = .ok (.invokespecial index, 3)) (hf : cells + mc ≤ R.cells ∧ slots + ms ≤ R.slots)
    (kk : ∀ (a2 : Nat → Nat) (H1 : Heap) (locs1 : List Loc), ze_W D (ws2 a2 ++ wt) F H0 H1 locs1 → W p l e R s m args below meth cd H1 locs1 (cells + mc) (slots + ms) Q (F0 m (pc + 3) ls rest)) : W p l e R s m args below meth cd H locs cells slots Q (F0 m pc ls st0) :=
  ze_callg (va_runIN (As := As) (rest := rest) S (hM H.size) cw (zk_pre hK (ze_Wl hW) hZ) rfl hn hsize hst hrm hdg hf) hW hA kk
theorem ze_newz {maxL : Nat} {Ts : List Cond} {own : String} (S : CallFix p m cd cc maxL s args Ts own) (harr : (Cond.arrayClass .boolean).before args s = true) (hK : va_K D vwCl (ze_ty c) s) (hW : ze_W D ws F H0 H locs) (hA : ∀ q : Nat, H0.size ≤ q → F q) {N : Nat} (hN : N < 1000) (hcells : cells + 1 ≤ R.cells) (hslots : slots + N ≤ R.slots) (hdg : decode cc pc = .ok (.newarray .boolean, 2))
    (kk : ∀ (q : Nat) (H1 : Heap), ze_W D (ws ++ [(q, .inl (c 1, N, .inl (fun _ => 0)))]) F H0 H1 locs → W p l e R s m args below meth cd H1 locs (cells + 1) (slots + N) Q (F0 m (pc + 2) ls (.ref q :: rest))) : W p l e R s m args below meth cd H locs cells slots Q (F0 m pc ls (.int (nI N) :: rest)) := by
  refine va_newa (atype := .boolean) (ty := .boolean) (N' := N) (a0 := (N, .inl (fun _ => 0))) S.1 S.2.1 harr rfl hK hW.1 hW.2.1 hW.2.2 hA (fun cA => rfl) (nI_pos (by omega)) (nI_clamp (by omega)) (Nat.le_trans (Nat.mul_le_mul (Nat.le_of_lt hN) (by decide : componentBytes .boolean ≤ 2)) (by decide)) hcells hslots hdg (fun q cA H1 hK1 hP1 hD1 hS1 => ?_)
  have e1 := (hK1.2 (ze_ty c).length (cA, .boolean) (by simp)).2
  have e2 := (hK.2 1 (c 1, .boolean) rfl).2
  have e3 : cA = c 1 := Option.some.inj (e1.symm.trans e2)
  subst e3
  exact kk q H1 ⟨hP1, hD1, hS1⟩
theorem ze_newG {maxL idx : Nat} {Ts : List Cond} {own : String} (S : CallFix p m cd cc maxL s args Ts own) (hcl : (Cond.classLink own idx RX1).before args s = true) (hZ : zk s) (hK : va_K D vwCl (ze_ty c) s) (hW : ze_W D ws F H0 H locs) (hA : ∀ q : Nat, H0.size ≤ q → F q) {N : Nat} (hN : N < 1000) (hcells : cells + 1 ≤ R.cells) (hslots : slots + N ≤ R.slots) (hdg : decode cc pc = .ok (.anewarray idx, 3))
    (kk : ∀ (q : Nat) (H1 : Heap), ze_W D (ws ++ [(q, .inl (c 3, N, .inr (.inr (.inr (.inr (fun _ => none))))))]) F H0 H1 locs → W p l e R s m args below meth cd H1 locs (cells + 1) (slots + N) Q (F0 m (pc + 3) ls (.ref q :: rest))) : W p l e R s m args below meth cd H locs cells slots Q (F0 m pc ls (.int (nI N) :: rest)) := by
  refine va_newq (C := RX1) (N' := N) S.1 S.2.1 S.2.2.2.1 hcl hZ.1 hK hW.1 hW.2.1 hW.2.2 hA (nI_pos (by omega)) (nI_clamp (by omega)) (by omega) hcells hslots hdg (fun q cA H1 hK1 hP1 hD1 hS1 => ?_)
  obtain ⟨-, -, -, -, -, e1⟩ := (hK1.2 (ze_ty c).length (cA, .object RX1) (by simp)).2
  obtain ⟨-, -, -, -, -, e2⟩ := (hK.2 3 (c 3, .object RX1) rfl).2
  have e3 : cA = c 3 := Option.some.inj (e1.symm.trans e2)
  subst e3
  exact kk q H1 ⟨hP1, hD1, hS1⟩
theorem ze_newT {maxL idx : Nat} {Ts : List Cond} {own : String} (S : CallFix p m cd cc maxL s args Ts own) (hcl : (Cond.classLink own idx RX7).before args s = true) (hZ : zk s) (hK : va_K D vwCl (ze_ty c) s) (hW : ze_W D ws F H0 H locs) (hA : ∀ q : Nat, H0.size ≤ q → F q) {N : Nat} (hN : N < 1000) (hcells : cells + 1 ≤ R.cells) (hslots : slots + N ≤ R.slots) (hdg : decode cc pc = .ok (.anewarray idx, 3))
    (kk : ∀ (q : Nat) (H1 : Heap), ze_W D (ws ++ [(q, .inl (c 4, N, .inr (.inr (.inr (.inr (fun _ => none))))))]) F H0 H1 locs → W p l e R s m args below meth cd H1 locs (cells + 1) (slots + N) Q (F0 m (pc + 3) ls (.ref q :: rest))) : W p l e R s m args below meth cd H locs cells slots Q (F0 m pc ls (.int (nI N) :: rest)) := by
  refine va_newq (C := RX7) (N' := N) S.1 S.2.1 S.2.2.2.1 hcl hZ.2.1 hK hW.1 hW.2.1 hW.2.2 hA (nI_pos (by omega)) (nI_clamp (by omega)) (by omega) hcells hslots hdg (fun q cA H1 hK1 hP1 hD1 hS1 => ?_)
  obtain ⟨-, -, -, -, -, e1⟩ := (hK1.2 (ze_ty c).length (cA, .object RX7) (by simp)).2
  obtain ⟨-, -, -, -, -, e2⟩ := (hK.2 4 (c 4, .object RX7) rfl).2
  have e3 : cA = c 4 := Option.some.inj (e1.symm.trans e2)
  subst e3
  exact kk q H1 ⟨hP1, hD1, hS1⟩
theorem ze_newL {maxL idx : Nat} {Ts : List Cond} {own : String} (S : CallFix p m cd cc maxL s args Ts own) (hcl : (Cond.classLink own idx RX3).before args s = true) (hZ : zk s) (hK : va_K D vwCl (ze_ty c) s) (hW : ze_W D ws F H0 H locs) (hA : ∀ q : Nat, H0.size ≤ q → F q) {N : Nat} (hN : N < 1000) (hcells : cells + 1 ≤ R.cells) (hslots : slots + N ≤ R.slots) (hdg : decode cc pc = .ok (.anewarray idx, 3))
    (kk : ∀ (q : Nat) (H1 : Heap), ze_W D (ws ++ [(q, .inl (c 5, N, .inr (.inr (.inr (.inr (fun _ => none))))))]) F H0 H1 locs → W p l e R s m args below meth cd H1 locs (cells + 1) (slots + N) Q (F0 m (pc + 3) ls (.ref q :: rest))) : W p l e R s m args below meth cd H locs cells slots Q (F0 m pc ls (.int (nI N) :: rest)) := by
  refine va_newq (C := RX3) (N' := N) S.1 S.2.1 S.2.2.2.1 hcl hZ.2.2.1 hK hW.1 hW.2.1 hW.2.2 hA (nI_pos (by omega)) (nI_clamp (by omega)) (by omega) hcells hslots hdg (fun q cA H1 hK1 hP1 hD1 hS1 => ?_)
  obtain ⟨-, -, -, -, -, e1⟩ := (hK1.2 (ze_ty c).length (cA, .object RX3) (by simp)).2
  obtain ⟨-, -, -, -, -, e2⟩ := (hK.2 5 (c 5, .object RX3) rfl).2
  have e3 : cA = c 5 := Option.some.inj (e1.symm.trans e2)
  subst e3
  exact kk q H1 ⟨hP1, hD1, hS1⟩
end ZG
