/-! ===== the law's own methods: the net beside the class's world, the script beside both ===== -/
def xb_S (b L : Nat) (xs : Nat → Int32) (F : Nat → Prop) (U : State) : Prop := va_X b L xs U U.heap ∧ b < U.heap.size ∧ ¬ F b
/-- what a call needs beside its world: what throws stand on; the script, where it reads it -/
def xb_G (o : Option (Nat × Nat × (Nat → Int32))) (F : Nat → Prop) (U : State) : Prop := zx_B F U U.heap ∧ zq_N U ∧ ∀ q, o = some q → xb_S q.1 q.2.1 q.2.2 F U
theorem xb_G.same {o : Option (Nat × Nat × (Nat → Int32))} {F : Nat → Prop} {U : State} {g : JFrame} {mk : MethodId} {a : Array Value} (h : xb_G o F U) : xb_G o F (U.calling g mk a) := by
  obtain ⟨hB, hN, hS⟩ := h
  refine ⟨zx_B.same (U := U) (U2 := U.calling g mk a) rfl hB, fun z hz => va_Nc.moved (u := U) (U := U.calling g mk a) (Vm.Alike.refl U.vm) (hN z hz), fun q hq => ?_⟩
  obtain ⟨hX, hb, hF⟩ := hS q hq
  exact ⟨va_X.moved (u := U) (U := U.calling g mk a) (Vm.Alike.refl U.vm) hX, hb, hF⟩
theorem xb_G.to {o o2 : Option (Nat × Nat × (Nat → Int32))} {F G : Nat → Prop} {s U : State} {H : Heap} (ho : o2 = none ∨ o2 = o) (h : xb_G o F s) (hz : s.heap.size ≤ H.size) (hk : ∀ q : Nat, q < s.heap.size → ¬ F q → H[q]? = s.heap[q]?) (hG : ∀ q, G q → F q) (hW : s.WarmedH U.vm) (hU : U.heap = H) : xb_G o2 G U := by
  obtain ⟨hB, hN, hS⟩ := h
  refine ⟨?_, fun z hz => va_Nc.moved hW.alike (hN z hz), fun q hq => ?_⟩
  · rw [hU]
    exact hB.to hk hG hW
  · rcases ho with e | e
    · rw [e] at hq
      cases hq
    · rw [e] at hq
      obtain ⟨hX, hb, hF⟩ := hS q hq
      refine ⟨?_, by rw [hU]; exact Nat.lt_of_lt_of_le hb hz, fun z => hF (hG _ z)⟩
      rw [hU]
      exact va_X.moved hW.alike (va_X.kept hX (hk _ hb hF))
abbrev xb_P (D : va_G) (c : Nat → ClassId) (o : Option (Nat × Nat × (Nat → Int32))) (ws : va_W) (sz : Nat) (av : List Value) : Array Value → State → Prop := va_Pc av (fun U => U.heap.size = sz ∧ ze_O D c ws (fun _ => True) U ∧ xb_G o (va_A ws sz) U)
theorem xb_blind (D : va_G) (c : Nat → ClassId) (o : Option (Nat × Nat × (Nat → Int32))) (ws : va_W) (sz : Nat) (av : List Value) : FrameBlind (xb_P D c o ws sz av) := fun a U g mk q => by
  obtain ⟨q0, q1, ⟨qP, qK, qD⟩, qG⟩ := q
  exact ⟨q0, q1, ⟨qP, va_K.moved (u := U) (U := U.calling g mk a) (Vm.Alike.refl U.vm) qK, qD⟩, qG.same⟩
/-- an int answer, and a world that is one of a kind -/
abbrev xb_Q {T : Type} (D : va_G) (c : Nat → ClassId) (ws : va_W) (sz : Nat) (post : Int32 → T → Prop) (ws2 : T → va_W) : Array Value → State → Outcome → State → Prop := va_Qi post (fun v t => ze_O D c (ws2 v) (va_A ws sz) t) (va_A ws sz)
def xb_M {T : Type} (l : Launch) (y : MethodName) (w : List Cond) (fr lo mc ms : Nat) (D : va_G) (c : Nat → ClassId) (o : Option (Nat × Nat × (Nat → Int32))) (ws : va_W) (av : List Value) (post : Int32 → T → Prop) (ws2 : T → va_W) : Prop := ∀ sz : Nat, Met l y w { frames := fr, cells := mc, slots := ms, locals := lo } (xb_P D c o ws sz av) (xb_Q D c ws sz post ws2) mc ms (va_A ws sz)
/-- an object or a row as the answer -/
abbrev xb_Qr {T : Type} (D : va_G) (c : Nat → ClassId) (ws : va_W) (sz : Nat) (post : T → Prop) (rf : T → Nat) (ws2 : T → va_W) : Array Value → State → Outcome → State → Prop := va_Qr post (fun v ra t => ra = rf v ∧ ze_O D c (ws2 v) (va_A ws sz) t) (va_A ws sz)
def xb_R {T : Type} (l : Launch) (y : MethodName) (w : List Cond) (fr lo mc ms : Nat) (D : va_G) (c : Nat → ClassId) (o : Option (Nat × Nat × (Nat → Int32))) (ws : va_W) (av : List Value) (post : T → Prop) (rf : T → Nat) (ws2 : T → va_W) : Prop := ∀ sz : Nat, Met l y w { frames := fr, cells := mc, slots := ms, locals := lo } (xb_P D c o ws sz av) (xb_Qr D c ws sz post rf ws2) mc ms (va_A ws sz)
/-- the same without what throws stand on -/
def xb_Rn {T : Type} (l : Launch) (y : MethodName) (w : List Cond) (fr lo mc ms : Nat) (D : va_G) (c : Nat → ClassId) (ws : va_W) (av : List Value) (post : T → Prop) (rf : T → Nat) (ws2 : T → va_W) : Prop := ∀ sz : Nat, Met l y w { frames := fr, cells := mc, slots := ms, locals := lo } (ze_P D c ws sz av) (xb_Qr D c ws sz post rf ws2) mc ms (va_A ws sz)
/-- a float, what throws stand on -/
def xb_F (l : Launch) (y : MethodName) (w : List Cond) (fr lo mc ms : Nat) (D : va_G) (c : Nat → ClassId) (ws : va_W) (av : List Value) (v : UInt32) (ws2 : va_W) : Prop := ∀ sz : Nat, Met l y w { frames := fr, cells := mc, slots := ms, locals := lo } (zq_P D c ws sz av) (ze_Qf D c ws sz v ws2) mc ms (va_A ws sz)
theorem xb_lift {l : Launch} {y : MethodName} {w : List Cond} {fr lo mc ms : Nat} {D : va_G} {c : Nat → ClassId} {o : Option (Nat × Nat × (Nat → Int32))} {ws : va_W} {av : List Value} {Q : Nat → Array Value → State → Outcome → State → Prop} (h : ∀ sz : Nat, Met l y w { frames := fr, cells := mc, slots := ms, locals := lo } (zq_P D c ws sz av) (Q sz) mc ms (va_A ws sz)) : ∀ sz : Nat, Met l y w { frames := fr, cells := mc, slots := ms, locals := lo } (xb_P D c o ws sz av) (Q sz) mc ms (va_A ws sz) := fun sz =>
  MetFree.mono (h sz) (fun _ _ z => ⟨z.1, z.2.1, z.2.2.1, z.2.2.2.1, z.2.2.2.2.1⟩) (fun _ _ _ _ _ z => z) (fun _ _ _ _ _ z => z)
section XB
variable {p : Program} {l : Launch} {e : Env} {R : Room} {s : State} {m : MethodId} {args : Array Value} {below : List Frame} {meth : Method} {cd : Code} {H : Heap} {locs : List Loc} {cells slots : Nat} {Q : State → Prop}
variable {cc : ByteArray} {pc : Nat} {ls : Array Slot} {rest : List Value} {D : va_G} {c : Nat → ClassId} {ws wt : va_W} {F : Nat → Prop} {H0 : Heap} {a : Nat} {o : Option (Nat × Nat × (Nat → Int32))} {T : Type}
theorem xb_start {y : MethodName} {own : String} {w w' : List Cond} {rm : Room} {sz mc ms maxL : Nat} {av : List Value} {cc : ByteArray} {ret : Option FieldType} {Qc : Array Value → State → Outcome → State → Prop} (hy : plainName y.cls = true) (ho : y.cls = own) (hw : w = Cond.code y cc maxL ret :: w') (hn : (lg_sl av).length ≤ maxL)
    (body : ∀ (p : Program) (e : Env) (s : State) (m : MethodId) (below : List Frame) (meth : Method) (cd : Code) (F : Nat → Prop) (ls : Array Slot), va_A ws sz = F → s.heap.size = sz → ze_E p l e s m meth cd cc maxL ret w own av D c ws F ls → xb_G o F s →
      W p l e rm s m av.toArray below meth cd s.heap [] 0 0 (MQ below Qc av.toArray s mc ms F) (F0 m 0 ls [])) : Met l y w rm (xb_P D c o ws sz av) Qc mc ms (va_A ws sz) := by
  refine Met.ofW (cc := cc) (maxL := maxL) (ret := ret) hy hw ?_
  intro p e s m args below meth cd s₁ B hml hv
  obtain ⟨rfl, hsz, ⟨hP, hK, hD0⟩, hG⟩ := hv
  subst ho
  rw [lg_entry_eq]
  have hD : va_D (va_A ws sz) ws := hD0.self (sz := sz)
  exact body p e s m below meth cd (va_A ws sz) _ rfl hsz ⟨⟨B.exec, B.bytes, hml, findClass_of_methodNamed B.named, atoms_spec (ws := w) B.pre⟩, B.returns, B.notSynchronized, hK, ⟨hP, hD, va_S.rf⟩, fun q h => Or.inr (by rw [← hsz]; exact h), lv_entry av hn⟩ hG
theorem xb_iret {sz : Nat} {post : Int32 → T → Prop} {ws2 : T → va_W} {ws3 : va_W} {ret : FieldType} {maxL : Nat} {Ts : List Cond} {own : String} {r : Int32} {mc ms : Nat} (v : T) (S : CallFix p m cd cc maxL s args Ts own) (hr : meth.sig.returnType = some ret) (hlocks : meth.locks = false) (hF : va_A ws sz = F) (hK : va_K D vwCl (ze_ty c) s) (hW : ze_W D ws3 F s.heap H locs) (hn : narrow ret (.int r) = .int r) (hdg : decode cc pc = .ok (.ireturn, 1)) (hc : cells ≤ mc) (hs : slots ≤ ms) (hv : post r v) (hw2 : ws3 = ws2 v) :
    W p l e R s m args below meth cd H locs cells slots (MQ below (xb_Q D c ws sz post ws2) args s mc ms F) (F0 m pc ls [.int r]) := by
  obtain ⟨hx, hb, hml, hown, hts⟩ := S
  subst hw2
  refine W.widen (k := mc) (n := ms) hc hs ?_
  exact W.zret hx hb hr hn (fun t ht hWm => ⟨⟨r, v, rfl, hv, (ze_end hF hK hW ht hWm).1⟩, (ze_end hF hK hW ht hWm).2⟩) hW.2.2.2.2 hdg hlocks
theorem xb_rret {sz : Nat} {post : T → Prop} {rf : T → Nat} {ws2 : T → va_W} {ws3 : va_W} {ret : FieldType} {maxL : Nat} {Ts : List Cond} {own : String} {r : Nat} {mc ms : Nat} (v : T) (S : CallFix p m cd cc maxL s args Ts own) (hr : meth.sig.returnType = some ret) (ht0 : (∃ C, ret = .object C) ∨ ∃ C, ret = .array C) (hlocks : meth.locks = false) (hF : va_A ws sz = F) (hK : va_K D vwCl (ze_ty c) s) (hW : ze_W D ws3 F s.heap H locs) (hdg : decode cc pc = .ok (.areturn, 1)) (hc : cells ≤ mc) (hs : slots ≤ ms) (hv : post v) (hrf : r = rf v) (hw2 : ws3 = ws2 v) :
    W p l e R s m args below meth cd H locs cells slots (MQ below (xb_Qr D c ws sz post rf ws2) args s mc ms F) (F0 m pc ls [.ref r]) := by
  obtain ⟨hx, hb, hml, hown, hts⟩ := S
  subst hw2
  refine W.widen (k := mc) (n := ms) hc hs ?_
  exact W.aret hx hb hr ht0 (Or.inr ⟨r, rfl⟩) (fun t ht hWm => ⟨⟨v, r, rfl, hv, hrf, (ze_end hF hK hW ht hWm).1⟩, (ze_end hF hK hW ht hWm).2⟩) hW.2.2.2.2 hdg hlocks
theorem xb_pre {o2 : Option (Nat × Nat × (Nat → Int32))} {As : List Value} (ho : o2 = none ∨ o2 = o) (hK : va_K D vwCl (ze_ty c) s) (hW : ze_W D (ws ++ wt) F s.heap H locs) (hG : xb_G o F s) (hA : ∀ q : Nat, s.heap.size ≤ q → F q) : PreS s H (xb_P D c o2 ws H.size As) As :=
  ⟨xb_blind D c o2 ws H.size As, fun U hU hWm => ⟨rfl, by rw [hU], ⟨by rw [hU]; exact (ze_Wl hW).1, va_K.moved hWm.alike hK, (ze_Wl hW).2.1.weaken (fun _ _ _ _ => trivial)⟩, hG.to ho hW.2.2.1 hW.2.2.2.1 (ze_fits hW hA) hWm hU⟩⟩
theorem xb_calli {post : Int32 → T → Prop} {ws2 : T → va_W} {mc ms : Nat} {st0 : List Value} {av : Array Value} (hr : va_Run p l e R s m args below meth cd H locs cells slots mc ms (F0 m pc ls st0) rest (va_Qi post (fun v t => ze_O D c (ws2 v) (va_A ws H.size) t) (va_A ws H.size) av) (va_A ws H.size)) (hW : ze_W D (ws ++ wt) F H0 H locs) (hA : ∀ q : Nat, H0.size ≤ q → F q)
    (kk : ∀ (r : Int32) (v : T), post r v → ∀ (H1 : Heap) (locs1 : List Loc), ze_W D (ws2 v ++ wt) F H0 H1 locs1 → W p l e R s m args below meth cd H1 locs1 (cells + mc) (slots + ms) Q (F0 m (pc + 3) ls (.int r :: rest))) : W p l e R s m args below meth cd H locs cells slots Q (F0 m pc ls st0) := by
  have hf := ze_fits hW hA
  refine va_calli hr hW.2.2 (fun q _ h => hf q h) hf (fun r v t H1 locs1 ht hvm hw hB hz1 hk1 hS => ?_)
  obtain ⟨hP1, hK1, hD1⟩ := hB
  rw [ht] at hP1
  have g := ze_PD hW.1 hW.2.1 hk1 hf hP1 hD1
  exact kk r v hw H1 locs1 ⟨g.1, g.2, hS⟩
theorem xb_callr {post : T → Prop} {rf : T → Nat} {ws2 : T → va_W} {mc ms : Nat} {st0 : List Value} {av : Array Value} (hr : va_Run p l e R s m args below meth cd H locs cells slots mc ms (F0 m pc ls st0) rest (va_Qr post (fun v ra t => ra = rf v ∧ ze_O D c (ws2 v) (va_A ws H.size) t) (va_A ws H.size) av) (va_A ws H.size)) (hW : ze_W D (ws ++ wt) F H0 H locs) (hA : ∀ q : Nat, H0.size ≤ q → F q)
    (kk : ∀ (v : T), post v → ∀ (H1 : Heap) (locs1 : List Loc), ze_W D (ws2 v ++ wt) F H0 H1 locs1 → W p l e R s m args below meth cd H1 locs1 (cells + mc) (slots + ms) Q (F0 m (pc + 3) ls (.ref (rf v) :: rest))) : W p l e R s m args below meth cd H locs cells slots Q (F0 m pc ls st0) := by
  have hf := ze_fits hW hA
  refine va_callr hr hW.2.2 (fun q _ h => hf q h) hf (fun v ra t H1 locs1 ht hvm hw hB hz1 hk1 hS => ?_)
  obtain ⟨rfl, hP1, hK1, hD1⟩ := hB
  rw [ht] at hP1
  have g := ze_PD hW.1 hW.2.1 hk1 hf hP1 hD1
  exact kk v hw H1 locs1 ⟨g.1, g.2, hS⟩
theorem xb_FSv {y : MethodName} {bytes : ByteArray} {maxL nL mc ms n index fr lo : Nat} {ret : Option FieldType} {w Ts : List Cond} {own : String} {As : List Value} {ws2 : va_W} {st0 : List Value} (S : CallFix p m cd cc nL s args Ts own) (hM : ze_V l y w fr lo mc ms D c ws As ws2) (cw : CallB R s args own index y bytes maxL ret w { frames := fr, cells := mc, slots := ms, locals := lo } mc ms n ∧ (Cond.static y).before args s = true) (hK : va_K D vwCl (ze_ty c) s) (hW : ze_W D (ws ++ wt) F H0 H locs) (hA : ∀ q : Nat, H0.size ≤ q → F q) (hn : As.length = n) (hsize : ls.size = nL) (hst : st0 = As.reverse ++ rest) (hrm : 2 * (F0 m pc ls rest).monitorRoom + (rest.map fun v => v.category).sum ≤ 8) (hdg : decode cc pc = .ok (.invokestatic index, 3)) (hf : cells + mc ≤ R.cells ∧ slots + ms ≤ R.slots)
    (kk : ∀ (H1 : Heap) (locs1 : List Loc), ze_W D (ws2 ++ wt) F H0 H1 locs1 → W p l e R s m args below meth cd H1 locs1 (cells + mc) (slots + ms) Q (F0 m (pc + 3) ls rest)) : W p l e R s m args below meth cd H locs cells slots Q (F0 m pc ls st0) :=
  ze_callvF (va_runS (As := As) (rest := rest) S (hM H.size) cw (ze_preS hK (ze_Wl hW)) rfl hn hsize hst hrm hdg hf) hW hA kk
theorem xb_FSm {y : MethodName} {bytes : ByteArray} {maxL nL mc ms n index fr lo : Nat} {ret : Option FieldType} {w Ts : List Cond} {own : String} {As : List Value} {o2 : Option (Nat × Nat × (Nat → Int32))} {post : Int32 → T → Prop} {ws2 : T → va_W} {st0 : List Value} (S : CallFix p m cd cc nL s args Ts own) (hM : xb_M l y w fr lo mc ms D c o2 ws As post ws2) (cw : CallB R s args own index y bytes maxL ret w { frames := fr, cells := mc, slots := ms, locals := lo } mc ms n ∧ (Cond.static y).before args s = true) (ho : o2 = none ∨ o2 = o) (hG : xb_G o F s) (hK : va_K D vwCl (ze_ty c) s) (hW : ze_W D (ws ++ wt) F s.heap H locs) (hA : ∀ q : Nat, s.heap.size ≤ q → F q) (hn : As.length = n) (hsize : ls.size = nL) (hst : st0 = As.reverse ++ rest) (hrm : 2 * (F0 m pc ls rest).monitorRoom + (rest.map fun v => v.category).sum ≤ 8) (hdg : decode cc pc = .ok (.invokestatic index, 3)) (hf : cells + mc ≤ R.cells ∧ slots + ms ≤ R.slots)
    (kk : ∀ (r : Int32) (v : T), post r v → ∀ (H1 : Heap) (locs1 : List Loc), ze_W D (ws2 v ++ wt) F s.heap H1 locs1 → W p l e R s m args below meth cd H1 locs1 (cells + mc) (slots + ms) Q (F0 m (pc + 3) ls (.int r :: rest))) : W p l e R s m args below meth cd H locs cells slots Q (F0 m pc ls st0) :=
  xb_calli (va_runS (As := As) (rest := rest) S (hM H.size) cw (xb_pre ho hK hW hG hA) rfl hn hsize hst hrm hdg hf) hW hA kk
theorem xb_FSr {y : MethodName} {bytes : ByteArray} {maxL nL mc ms n index fr lo : Nat} {ret : Option FieldType} {w Ts : List Cond} {own : String} {As : List Value} {o2 : Option (Nat × Nat × (Nat → Int32))} {post : T → Prop} {rf : T → Nat} {ws2 : T → va_W} {st0 : List Value} (S : CallFix p m cd cc nL s args Ts own) (hM : xb_R l y w fr lo mc ms D c o2 ws As post rf ws2) (cw : CallB R s args own index y bytes maxL ret w { frames := fr, cells := mc, slots := ms, locals := lo } mc ms n ∧ (Cond.static y).before args s = true) (ho : o2 = none ∨ o2 = o) (hG : xb_G o F s) (hK : va_K D vwCl (ze_ty c) s) (hW : ze_W D (ws ++ wt) F s.heap H locs) (hA : ∀ q : Nat, s.heap.size ≤ q → F q) (hn : As.length = n) (hsize : ls.size = nL) (hst : st0 = As.reverse ++ rest) (hrm : 2 * (F0 m pc ls rest).monitorRoom + (rest.map fun v => v.category).sum ≤ 8) (hdg : decode cc pc = .ok (.invokestatic index, 3)) (hf : cells + mc ≤ R.cells ∧ slots + ms ≤ R.slots)
    (kk : ∀ (v : T), post v → ∀ (H1 : Heap) (locs1 : List Loc), ze_W D (ws2 v ++ wt) F s.heap H1 locs1 → W p l e R s m args below meth cd H1 locs1 (cells + mc) (slots + ms) Q (F0 m (pc + 3) ls (.ref (rf v) :: rest))) : W p l e R s m args below meth cd H locs cells slots Q (F0 m pc ls st0) :=
  xb_callr (va_runS (As := As) (rest := rest) S (hM H.size) cw (xb_pre ho hK hW hG hA) rfl hn hsize hst hrm hdg hf) hW hA kk
theorem xb_FSrn {y : MethodName} {bytes : ByteArray} {maxL nL mc ms n index fr lo : Nat} {ret : Option FieldType} {w Ts : List Cond} {own : String} {As : List Value} {post : T → Prop} {rf : T → Nat} {ws2 : T → va_W} {st0 : List Value} (S : CallFix p m cd cc nL s args Ts own) (hM : xb_Rn l y w fr lo mc ms D c ws As post rf ws2) (cw : CallB R s args own index y bytes maxL ret w { frames := fr, cells := mc, slots := ms, locals := lo } mc ms n ∧ (Cond.static y).before args s = true) (hK : va_K D vwCl (ze_ty c) s) (hW : ze_W D (ws ++ wt) F H0 H locs) (hA : ∀ q : Nat, H0.size ≤ q → F q) (hn : As.length = n) (hsize : ls.size = nL) (hst : st0 = As.reverse ++ rest) (hrm : 2 * (F0 m pc ls rest).monitorRoom + (rest.map fun v => v.category).sum ≤ 8) (hdg : decode cc pc = .ok (.invokestatic index, 3)) (hf : cells + mc ≤ R.cells ∧ slots + ms ≤ R.slots)
    (kk : ∀ (v : T), post v → ∀ (H1 : Heap) (locs1 : List Loc), ze_W D (ws2 v ++ wt) F H0 H1 locs1 → W p l e R s m args below meth cd H1 locs1 (cells + mc) (slots + ms) Q (F0 m (pc + 3) ls (.ref (rf v) :: rest))) : W p l e R s m args below meth cd H locs cells slots Q (F0 m pc ls st0) :=
  xb_callr (va_runS (As := As) (rest := rest) S (hM H.size) cw (ze_preS hK (ze_Wl hW)) rfl hn hsize hst hrm hdg hf) hW hA kk
theorem xb_preq {As : List Value} (hK : va_K D vwCl (ze_ty c) s) (hW : ze_W D (ws ++ wt) F s.heap H locs) (hG : xb_G o F s) (hA : ∀ q : Nat, s.heap.size ≤ q → F q) : PreS s H (zq_P D c ws H.size As) As :=
  ⟨zq_blind D c ws H.size As, fun U hU hWm => ⟨rfl, by rw [hU], ⟨by rw [hU]; exact (ze_Wl hW).1, va_K.moved hWm.alike hK, (ze_Wl hW).2.1.weaken (fun _ _ _ _ => trivial)⟩, (hG.to (o2 := none) (Or.inl rfl) hW.2.2.1 hW.2.2.2.1 (ze_fits hW hA) hWm hU).1, (hG.to (o2 := none) (Or.inl rfl) hW.2.2.1 hW.2.2.2.1 (ze_fits hW hA) hWm hU).2.1⟩⟩
/-- a wrapper that answers what it is told -/
theorem xb_FSq {y : MethodName} {bytes : ByteArray} {maxL nL mc ms n index fr lo : Nat} {ret : Option FieldType} {hh : List (Nat × Nat × Nat × Nat)} {w Ts : List Cond} {own : String} {As : List Value} {ws2 : va_W} {v : Int32} {st0 : List Value} (S : CallFix p m cd cc nL s args Ts own) (hM : ze_Q l y w fr lo mc ms D c ws As v ws2) (cw : vx_CSW R s args own index y bytes maxL ret hh w { frames := fr, cells := mc, slots := ms, locals := lo } mc ms n) (hG : xb_G o F s) (hK : va_K D vwCl (ze_ty c) s) (hW : ze_W D (ws ++ wt) F s.heap H locs) (hA : ∀ q : Nat, s.heap.size ≤ q → F q) (hn : As.length = n) (hsize : ls.size = nL) (hst : st0 = As.reverse ++ rest) (hrm : 2 * (F0 m pc ls rest).monitorRoom + (rest.map fun v => v.category).sum ≤ 8) (hdg : decode cc pc = .ok (.invokestatic index, 3)) (hf : cells + mc ≤ R.cells ∧ slots + ms ≤ R.slots)
    (kk : ∀ (H1 : Heap) (locs1 : List Loc), ze_W D (ws2 ++ wt) F s.heap H1 locs1 → W p l e R s m args below meth cd H1 locs1 (cells + mc) (slots + ms) Q (F0 m (pc + 3) ls (.int v :: rest))) : W p l e R s m args below meth cd H locs cells slots Q (F0 m pc ls st0) :=
  ze_calliF (vx_runSW (As := As) (rest := rest) S (hM H.size) cw (xb_preq hK hW hG hA) rfl hn hsize hst hrm hdg hf) hW hA kk
theorem xb_FSe {y : MethodName} {bytes : ByteArray} {maxL nL mc ms n index fr lo : Nat} {ret : Option FieldType} {hh : List (Nat × Nat × Nat × Nat)} {w Ts : List Cond} {own : String} {As : List Value} {ws2 : Nat → va_W} {v : Int32} {st0 : List Value} (S : CallFix p m cd cc nL s args Ts own) (hM : ze_QE l y w fr lo mc ms D c ws As v ws2) (cw : vx_CSW R s args own index y bytes maxL ret hh w { frames := fr, cells := mc, slots := ms, locals := lo } mc ms n) (hG : xb_G o F s) (hK : va_K D vwCl (ze_ty c) s) (hW : ze_W D (ws ++ wt) F s.heap H locs) (hA : ∀ q : Nat, s.heap.size ≤ q → F q) (hn : As.length = n) (hsize : ls.size = nL) (hst : st0 = As.reverse ++ rest) (hrm : 2 * (F0 m pc ls rest).monitorRoom + (rest.map fun v => v.category).sum ≤ 8) (hdg : decode cc pc = .ok (.invokestatic index, 3)) (hf : cells + mc ≤ R.cells ∧ slots + ms ≤ R.slots)
    (kk : ∀ (q : Nat) (H1 : Heap) (locs1 : List Loc), ze_W D (ws2 q ++ wt) F s.heap H1 locs1 → W p l e R s m args below meth cd H1 locs1 (cells + mc) (slots + ms) Q (F0 m (pc + 3) ls (.int v :: rest))) : W p l e R s m args below meth cd H locs cells slots Q (F0 m pc ls st0) :=
  ze_calle (vx_runSW (As := As) (rest := rest) S (hM H.size) cw (xb_preq hK hW hG hA) rfl hn hsize hst hrm hdg hf) hW hA kk
theorem xb_FSf {y : MethodName} {bytes : ByteArray} {maxL nL mc ms n index fr lo : Nat} {ret : Option FieldType} {hh : List (Nat × Nat × Nat × Nat)} {w Ts : List Cond} {own : String} {As : List Value} {ws2 : va_W} {v : UInt32} {st0 : List Value} (S : CallFix p m cd cc nL s args Ts own) (hM : xb_F l y w fr lo mc ms D c ws As v ws2) (cw : vx_CSW R s args own index y bytes maxL ret hh w { frames := fr, cells := mc, slots := ms, locals := lo } mc ms n) (hG : xb_G o F s) (hK : va_K D vwCl (ze_ty c) s) (hW : ze_W D (ws ++ wt) F s.heap H locs) (hA : ∀ q : Nat, s.heap.size ≤ q → F q) (hn : As.length = n) (hsize : ls.size = nL) (hst : st0 = As.reverse ++ rest) (hrm : 2 * (F0 m pc ls rest).monitorRoom + (rest.map fun v => v.category).sum ≤ 8) (hdg : decode cc pc = .ok (.invokestatic index, 3)) (hf : cells + mc ≤ R.cells ∧ slots + ms ≤ R.slots)
    (kk : ∀ (H1 : Heap) (locs1 : List Loc), ze_W D (ws2 ++ wt) F s.heap H1 locs1 → W p l e R s m args below meth cd H1 locs1 (cells + mc) (slots + ms) Q (F0 m (pc + 3) ls (.float v :: rest))) : W p l e R s m args below meth cd H locs cells slots Q (F0 m pc ls st0) :=
  ze_callfF (vx_runSW (As := As) (rest := rest) S (hM H.size) cw (xb_preq hK hW hG hA) rfl hn hsize hst hrm hdg hf) hW hA kk
end XB
theorem xb_add {a b c : Nat} (h : a + b = c) : nI a + nI b = nI c := by rw [nI_add, h]
theorem nI_mulN (a b : Nat) : nI a * nI b = nI (a * b) := (Int32.ofNat_mul a b).symm
theorem xb_mul {a b c : Nat} (h : a * b = c) : nI a * nI b = nI c := by rw [nI_mulN, h]
theorem xb_un {f : Nat → Int32} {k j : Nat} {x : Int32} (h : j ≠ k) : upd f k x j = f j := by
  unfold upd
  rw [if_neg h]
