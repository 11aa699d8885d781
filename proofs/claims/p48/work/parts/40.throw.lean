/-! ===== calls that throw: the world stays, one object more ===== -/
def zx_tx : List (Nat × String) := [(55, "there are 6 sites"), (78, "a line is between two different sites"), (84, "there are 8 lines"), (98, "the line is closed"), (106, "the phases do not fit"), (116, "the line is open"), (120, "there is no site"), (127, "the main grid is tied"), (138, "the main grid is not tied"), (154, "there are 6 generators"), (173, "the generator is not off"), (179, "the fuel is less than the least power"), (187, "the generator is off"), (198, "there is no generator to start"), (205, "the generator would have more than 99999"), (207, "the generator does not warm up"), (210, "there are 4 stores"), (227, "there are 10 loads"), (244, "the load is lit"), (323, "there is no load"), (327, "there is no such number"), (330, "the value is out of its range")]
abbrev zx_at (ic : Nat) (X : String) : List Cond := vx_atS RX8 ic X ["java/lang/RuntimeException", "java/lang/Exception"]
def zx_bad : List Cond := [.declares (Bundle.initS "java/lang/RuntimeException"), .declares (Bundle.initS "java/lang/Exception"), .declares (Bundle.initS Bundle.tN), .castable "java/lang/IllegalStateException" "java/lang/IllegalStateException", .castable "java/lang/IllegalArgumentException" "java/lang/IllegalArgumentException", .castable "java/lang/UnsupportedOperationException" "java/lang/UnsupportedOperationException", .castable "java/util/NoSuchElementException" "java/util/NoSuchElementException", .castable "java/lang/IndexOutOfBoundsException" "java/lang/IndexOutOfBoundsException"]
theorem zx_g57 : ((zx_at 57 "java/lang/IllegalStateException").filter (fun w => !goodWord w)).all (fun w => decide (w ∈ zx_bad)) = true := by decide +kernel
theorem zx_o57 : ((zx_at 57 "java/lang/IllegalStateException").all vx_ot) = true := by decide +kernel
theorem zx_g80 : ((zx_at 80 "java/lang/IllegalArgumentException").filter (fun w => !goodWord w)).all (fun w => decide (w ∈ zx_bad)) = true := by decide +kernel
theorem zx_o80 : ((zx_at 80 "java/lang/IllegalArgumentException").all vx_ot) = true := by decide +kernel
theorem zx_g108 : ((zx_at 108 "java/lang/UnsupportedOperationException").filter (fun w => !goodWord w)).all (fun w => decide (w ∈ zx_bad)) = true := by decide +kernel
theorem zx_o108 : ((zx_at 108 "java/lang/UnsupportedOperationException").all vx_ot) = true := by decide +kernel
theorem zx_g122 : ((zx_at 122 "java/util/NoSuchElementException").filter (fun w => !goodWord w)).all (fun w => decide (w ∈ zx_bad)) = true := by decide +kernel
theorem zx_o122 : ((zx_at 122 "java/util/NoSuchElementException").all vx_ot) = true := by decide +kernel
theorem zx_g329 : ((zx_at 329 "java/lang/IndexOutOfBoundsException").filter (fun w => !goodWord w)).all (fun w => decide (w ∈ zx_bad)) = true := by decide +kernel
theorem zx_o329 : ((zx_at 329 "java/lang/IndexOutOfBoundsException").all vx_ot) = true := by decide +kernel
def zx_B (F : Nat → Prop) (U : State) (H : Heap) : Prop := vx_Zq Bundle.tN "UNASSIGNED_STACK" Bundle.steD F U H ∧ vx_Zq Bundle.tN "SUPPRESSED_SENTINEL" Bundle.listD F U H ∧ (∀ q ∈ zx_tx, ∃ sa, vk_R RX8 q.1 q.2 sa U) ∧ ∀ w ∈ zx_bad, va_Nw w U
theorem zx_badW {s U : State} (hW : s.WarmedH U.vm) : ∀ w ∈ zx_bad, va_Nw w s → va_Nw w U := by
  intro w hw h
  simp only [zx_bad, List.mem_cons, List.not_mem_nil, or_false] at hw
  rcases hw with rfl | rfl | rfl | rfl | rfl | rfl | rfl | rfl
  all_goals first | exact va_Nw.warmD hW h | exact va_Nw.warmC hW h
theorem zx_badU {s : State} {args : Array Value} (h : ∀ w ∈ zx_bad, va_Nw w s) : ∀ w ∈ zx_bad, w.before args s = true := by
  intro w hw
  have h1 := h w hw
  simp only [zx_bad, List.mem_cons, List.not_mem_nil, or_false] at hw
  rcases hw with rfl | rfl | rfl | rfl | rfl | rfl | rfl | rfl <;> exact va_Nw.use (A := args) rfl h1
theorem zx_B.same {F : Nat → Prop} {U U2 : State} {H : Heap} (hv : U2.vm = U.vm) (h : zx_B F U H) : zx_B F U2 H := by
  have ha : U.vm.Alike U2.vm := by rw [hv]; exact Vm.Alike.refl _
  exact ⟨vx_Zq.moved ha h.1, vx_Zq.moved ha h.2.1, fun z hz => by
    obtain ⟨sa, g⟩ := h.2.2.1 z hz
    exact ⟨sa, vk_R.same hv g⟩, zx_badW (by rw [hv]; exact State.WarmedH.refl _) |> fun f w hw => f w hw (h.2.2.2 w hw)⟩
theorem zx_B.to {F G : Nat → Prop} {s U : State} {H H1 : Heap} (h : zx_B F s H) (hk : ∀ q : Nat, q < H.size → ¬ F q → H1[q]? = H[q]?) (hG : ∀ q, G q → F q) (hW : s.WarmedH U.vm) : zx_B G U H1 :=
  ⟨(vx_Zq.moved hW.alike (h.1.kept hk)).narrow hG, (vx_Zq.moved hW.alike (h.2.1.kept hk)).narrow hG, fun z hz => by
    obtain ⟨sa, g⟩ := h.2.2.1 z hz
    exact ⟨sa, vk_R.warm hW g⟩, fun w hw => zx_badW hW w hw (h.2.2.2 w hw)⟩
def zx_P (D : va_G) (c : Nat → ClassId) (ws : va_W) (sz : Nat) (av : List Value) : Array Value → State → Prop := va_Pc av (fun U => U.heap.size = sz ∧ ze_O D c ws (fun _ => True) U ∧ zx_B (va_A ws sz) U U.heap)
theorem zx_blind (D : va_G) (c : Nat → ClassId) (ws : va_W) (sz : Nat) (av : List Value) : FrameBlind (zx_P D c ws sz av) := fun a U g mk q => by
  obtain ⟨q0, q1, ⟨qP, qK, qD⟩, qB⟩ := q
  exact ⟨q0, q1, ⟨qP, va_K.moved (u := U) (U := U.calling g mk a) (Vm.Alike.refl U.vm) qK, qD⟩, zx_B.same (U := U) (U2 := U.calling g mk a) rfl qB⟩
abbrev zx_Q (D : va_G) (c : Nat → ClassId) (ws : va_W) (sz : Nat) (Ex : String) : String → State → State → Prop := vx_X (fun _ : Unit => True) (fun E' _ t => E' = Ex ∧ ze_O D c ws (va_A ws sz) t) (va_A ws sz)
abbrev zx_N : Array Value → State → Outcome → State → Prop := va_Qv (fun _ : Unit => False) (fun _ _ => True) (fun _ => True)
/-- it throws Ex -/
def ze_T (l : Launch) (y : MethodName) (w : List Cond) (fr lo : Nat) (D : va_G) (c : Nat → ClassId) (ws : va_W) (av : List Value) (Ex : String) : Prop := ∀ sz : Nat, vx_Met l y w { frames := fr, cells := 1, slots := 6, locals := lo } (zx_P D c ws sz av) zx_N (zx_Q D c ws sz Ex) 1 6 (va_A ws sz)
section ZX
variable {p : Program} {l : Launch} {e : Env} {R : Room} {s : State} {m : MethodId} {args : Array Value} {below : List Frame} {meth : Method} {cd : Code} {H : Heap} {locs : List Loc} {cells slots : Nat} {Q : State → Prop}
variable {cc : ByteArray} {pc : Nat} {ls : Array Slot} {rest : List Value} {D : va_G} {c : Nat → ClassId} {ws : va_W} {F : Nat → Prop} {H0 : Heap} {a : Nat}
theorem zx_start {y : MethodName} {own : String} {w w' : List Cond} {rm : Room} {sz maxL : Nat} {av : List Value} {cc : ByteArray} {ret : Option FieldType} {Ex : String} (hy : plainName y.cls = true) (ho : y.cls = own) (hw : w = Cond.code y cc maxL ret :: w') (hn : (lg_sl av).length ≤ maxL)
    (body : ∀ (p : Program) (e : Env) (s : State) (m : MethodId) (below : List Frame) (meth : Method) (cd : Code) (F : Nat → Prop) (ls : Array Slot), va_A ws sz = F → s.heap.size = sz → ze_E p l e s m meth cd cc maxL ret w own av D c ws F ls → zx_B F s s.heap → (∀ x ∈ cd.exceptionTable.toList, False) →
      W p l e rm s m av.toArray below meth cd s.heap [] 0 0 (vx_MQ below zx_N (zx_Q D c ws sz Ex) av.toArray s 1 6 F) (F0 m 0 ls [])) : vx_Met l y w rm (zx_P D c ws sz av) zx_N (zx_Q D c ws sz Ex) 1 6 (va_A ws sz) := by
  refine vx_ofW (cc := cc) (maxL := maxL) (ret := ret) hy hw ?_
  intro p e s m args below meth cd s₁ B hml htab hv
  obtain ⟨rfl, hsz, ⟨hP, hK, hD0⟩, hXB⟩ := hv
  subst ho
  rw [lg_entry_eq]
  have hD : va_D (va_A ws sz) ws := hD0.self (sz := sz)
  exact body p e s m below meth cd (va_A ws sz) _ rfl hsz ⟨⟨B.exec, B.bytes, hml, findClass_of_methodNamed B.named, atoms_spec (ws := w) B.pre⟩, B.returns, B.notSynchronized, hK, ⟨hP, hD, va_S.rf⟩, fun q h => Or.inr (by rw [← hsz]; exact h), lv_entry av hn⟩ hXB htab
/-- what is left behind at a throw -/
theorem zx_left {sz : Nat} {Ex : String} (hF : va_A ws sz = F) (hK : va_K D vwCl (ze_ty c) s) (hW : ze_W D ws F s.heap H locs) {t : State} (hal : s.vm.Alike t.vm) (hsz : H.size ≤ t.heap.size) (hkeep : ∀ q : Nat, q < H.size → t.heap[q]? = H[q]?) : zx_Q D c ws sz Ex Ex s t := by
  subst hF
  refine ⟨(), trivial, ⟨rfl, hW.1.kept (fun k q hk => hkeep q.1 ((hW.1 k q hk).lt)), va_K.moved hal hK, hW.2.1⟩, ⟨Nat.le_trans hW.2.2.1 hsz, fun q h1 h2 => ?_⟩⟩
  rw [hkeep q (Nat.lt_of_lt_of_le h1 hW.2.2.1)]
  exact hW.2.2.2.1 q h1 h2
theorem zx_throw {maxL ik is ic sz : Nat} {Ts : List Cond} {X tx : String} (hst : l.stackTraces = false) (S : CallFix p m cd cc maxL s args Ts RX8) (hlocks : meth.locks = false) (hF : va_A ws sz = F) (hK : va_K D vwCl (ze_ty c) s) (hW : ze_W D ws F s.heap H locs) (hXB : zx_B F s s.heap) (htab : ∀ x ∈ cd.exceptionTable.toList, False) (hsize : ls.size = maxL)
    (hX : Bundle.fit X = true) (hk : (Cond.classLink RX8 ik X).before args s = true) (hini : (Cond.initialized X).before args s = true) (htx : (is, tx) ∈ zx_tx) (hg : ((zx_at ic X).filter (fun w => !goodWord w)).all (fun w => decide (w ∈ zx_bad)) = true) (ho : ((zx_at ic X).all vx_ot) = true) (hw : ∀ w ∈ (zx_at ic X).filter goodWord, w ∈ Ts) (ho2 : vx_ot (Cond.classLink RX8 ik X) = true ∧ vx_ot (Cond.initialized X) = true)
    (d0 : decode cc pc = .ok (.new ik, 3)) (d3 : decode cc (pc + 3) = .ok (.dup, 1)) (d4 : decode cc (pc + 4) = .ok (.ldc is, 2)) (d6 : decode cc (pc + 6) = .ok (.invokespecial ic, 3)) (d9 : decode cc (pc + 9) = .ok (.athrow, 1))
    (hR : 5 < R.frames ∧ (rest.map fun v => v.category).sum + 82 ≤ R.locals ∧ cells + 1 ≤ R.cells ∧ slots + 6 ≤ R.slots) (hc : cells + 1 ≤ 1) (hs : slots + 6 ≤ 6) :
    W p l e R s m args below meth cd H locs cells slots (vx_MQ below zx_N (zx_Q D c ws sz X) args s 1 6 F) (F0 m pc ls rest) := by
  obtain ⟨sa, hstr⟩ := hXB.2.2.1 (is, tx) htx
  refine vx_throwS (names := ["java/lang/RuntimeException", "java/lang/Exception"]) S.1 S.2.1 hst S.2.2.2.1 hX (by decide) hk hini hstr (vx_hat (B := zx_bad) (fun w h => S.2.2.2.2 w (hw w h)) (fun w h => of_decide_eq_true (List.all_eq_true.mp hg w h)) (zx_badU hXB.2.2.2)) ?_ hXB.1 hXB.2.1 hW.2.2 (hsize.trans S.2.2.1.symm) d0 d3 d4 d6 d9 (fun x hx => (htab x hx).elim) hR.1 hR.2.1 hR.2.2.1 hR.2.2.2 hlocks (fun t h1 h2 h3 => zx_left hF hK hW h1 h2 h3) hW.2.2.2.2 hc hs
  intro w hw9
  rcases List.mem_cons.mp hw9 with rfl | hw9
  · exact ho2.1
  rcases List.mem_cons.mp hw9 with rfl | hw9
  · exact ho2.2
  exact List.all_eq_true.mp ho w hw9
theorem zx_throwW {maxL ik is ic sz : Nat} {Ts : List Cond} {X tx : String} (hst : l.stackTraces = false) (S : CallFix p m cd cc maxL s args Ts RX8) (hlocks : meth.locks = false) (hF : va_A ws sz = F) (hK : va_K D vwCl (ze_ty c) s) (hW : ze_W D ws F s.heap H locs) (hXB : zx_B F s s.heap) (htab : ∀ x ∈ cd.exceptionTable.toList, False) (hsize : ls.size = maxL)
    (hX : Bundle.fit X = true) (hk : (Cond.classLink RX8 ik X).before args s = true) (hini : (Cond.initialized X).before args s = true) (htx : (is, tx) ∈ zx_tx) (hg : ((zx_at ic X).filter (fun w => !goodWord w)).all (fun w => decide (w ∈ zx_bad)) = true) (ho : ((zx_at ic X).all vx_ot) = true) (hw : ∀ w ∈ (zx_at ic X).filter goodWord, w ∈ Ts) (ho2 : vx_ot (Cond.classLink RX8 ik X) = true ∧ vx_ot (Cond.initialized X) = true)
    (d0 : decode cc pc = .ok (.new ik, 3)) (d3 : decode cc (pc + 3) = .ok (.dup, 1)) (d4 : decode cc (pc + 4) = .ok (.ldc_w is, 3)) (d7 : decode cc (pc + 7) = .ok (.invokespecial ic, 3)) (d10 : decode cc (pc + 10) = .ok (.athrow, 1))
    (hR : 5 < R.frames ∧ (rest.map fun v => v.category).sum + 82 ≤ R.locals ∧ cells + 1 ≤ R.cells ∧ slots + 6 ≤ R.slots) (hc : cells + 1 ≤ 1) (hs : slots + 6 ≤ 6) :
    W p l e R s m args below meth cd H locs cells slots (vx_MQ below zx_N (zx_Q D c ws sz X) args s 1 6 F) (F0 m pc ls rest) := by
  obtain ⟨sa, hstr⟩ := hXB.2.2.1 (is, tx) htx
  refine vx_throwSW (names := ["java/lang/RuntimeException", "java/lang/Exception"]) S.1 S.2.1 hst S.2.2.2.1 hX (by decide) hk hini hstr (vx_hat (B := zx_bad) (fun w h => S.2.2.2.2 w (hw w h)) (fun w h => of_decide_eq_true (List.all_eq_true.mp hg w h)) (zx_badU hXB.2.2.2)) ?_ hXB.1 hXB.2.1 hW.2.2 (hsize.trans S.2.2.1.symm) d0 d3 d4 d7 d10 (fun x hx => (htab x hx).elim) hR.1 hR.2.1 hR.2.2.1 hR.2.2.2 hlocks (fun t h1 h2 h3 => zx_left hF hK hW h1 h2 h3) hW.2.2.2.2 hc hs
  intro w hw9
  rcases List.mem_cons.mp hw9 with rfl | hw9
  · exact ho2.1
  rcases List.mem_cons.mp hw9 with rfl | hw9
  · exact ho2.2
  exact List.all_eq_true.mp ho w hw9
/-- the callee throws, and so does the caller -/
theorem zx_callt {sz mc ms : Nat} {Ex : String} {st0 : List Value} {av : Array Value} (hr : vx_Run p l e R s m args below meth cd H locs cells slots mc ms (F0 m pc ls st0) rest (zx_N av) (zx_Q D c ws H.size Ex) (va_A ws H.size)) (hlocks : meth.locks = false) (hF : va_A ws sz = F) (hW : ze_W D ws F s.heap H locs) (hA : ∀ q : Nat, s.heap.size ≤ q → F q) (htab : ∀ x ∈ cd.exceptionTable.toList, False) (hc : cells + mc ≤ 1) (hs : slots + ms ≤ 6) :
    W p l e R s m args below meth cd H locs cells slots (vx_MQ below zx_N (zx_Q D c ws sz Ex) args s 1 6 F) (F0 m pc ls st0) := by
  have hf : ∀ q, va_A ws H.size q → F q := fun q h => by
    rcases h with ⟨k, e, h⟩ | h
    · exact hW.2.1.2 k (q, e) h
    · exact hA q (Nat.le_trans hW.2.2.1 h)
  refine vx_callv (S := Unit) (SX := Unit) (a := av) (post := fun _ => False) (px := fun _ => True) (B := fun _ _ => True) (BX := fun E' _ t => E' = Ex ∧ ze_O D c ws (va_A ws H.size) t) (A1 := fun _ => False) (AX := va_A ws H.size) (free := va_A ws H.size) (mc := mc) (ms := ms) (rest := rest) (hr := ?_) hW.2.2 (fun q _ h => h.elim) hf (fun q _ h => hf q h) (fun E ce q9 u t H1 locs1 ht hvm _ hB hz1 hk1 hS hce hcv hcl => ?_) (fun u t H1 locs1 ht hvm hp hB hz1 hk1 hS => hp.elim)
  · intro T hT X
    rcases hr T hT X with ⟨v, st₀, t, T', L, h0, X', hL, e1, e2, ⟨⟨r, hv, hp, hb⟩, hF⟩, st⟩ | h
    · exact hp.elim
    · exact Or.inr h
  · obtain ⟨rfl, hP1, hK1, hD1⟩ := hB
    rw [ht] at hP1
    refine vx_out (fun x hx => (htab x hx).elim) hlocks hce hcv hcl (fun t2 ht2 hal => ?_) hS.2.2 hc hs
    subst hF
    refine ⟨(), trivial, ⟨rfl, by rw [ht2]; exact hP1, va_K.moved (hvm.symm.trans hal) hK1, hD1.weaken (fun k q _ h => hf q.1 h)⟩, ⟨by rw [ht2]; exact hS.1, fun q h1 h2 => by rw [ht2]; exact hS.2.1 q h1 h2⟩⟩
theorem zx_Vt {y : MethodName} {bytes : ByteArray} {maxL nL n index fr lo ci q0 b sz : Nat} {ret : Option FieldType} {w Ts : List Cond} {own Ex : String} {k : vw_C} {fs As : List Value} {st0 : List Value} (S : CallFix p m cd cc nL s args Ts own) (hM : ze_T l y w fr lo D c ws (.ref b :: As) Ex) (cw : CallW R s args own k.1 index y bytes maxL ret w { frames := fr, cells := 1, slots := 6, locals := lo } 1 6 n) (hlocks : meth.locks = false) (hF : va_A ws sz = F) (hK : va_K D vwCl (ze_ty c) s) (hW : ze_W D ws F s.heap H locs) (hXB : zx_B F s s.heap) (htab : ∀ x ∈ cd.exceptionTable.toList, False) (hA : ∀ q : Nat, s.heap.size ≤ q → F q) (hc : vwCl[ci]? = some k) (he : ws[q0]? = some (b, .inr (ci, fs))) (hn : As.length = n) (hsize : ls.size = nL) (hst : st0 = As.reverse ++ .ref b :: rest) (hrm : 2 * (F0 m pc ls rest).monitorRoom + (rest.map fun v => v.category).sum ≤ 8) (hdg : decode cc pc = .ok (.invokevirtual index, 3)) (hf : cells + 1 ≤ R.cells ∧ slots + 6 ≤ R.slots) (h1 : cells + 1 ≤ 1) (h2 : slots + 6 ≤ 6) :
    W p l e R s m args below meth cd H locs cells slots (vx_MQ below zx_N (zx_Q D c ws sz Ex) args s 1 6 F) (F0 m pc ls st0) := by
  have hff : ∀ q, va_A ws H.size q → F q := fun q h => by
    rcases h with ⟨k, e, h⟩ | h
    · exact hW.2.1.2 k (q, e) h
    · exact hA q (Nat.le_trans hW.2.2.1 h)
  exact zx_callt (vx_runV (As := As) (rest := rest) S (hM H.size) cw ⟨zx_blind D c ws H.size (.ref b :: As), va_recv hK hW.1 hc he, fun U hU hWm => ⟨rfl, by rw [hU], ⟨by rw [hU]; exact hW.1, va_K.moved hWm.alike hK, hW.2.1.weaken (fun _ _ _ _ => trivial)⟩, by rw [hU]; exact hXB.to hW.2.2.2.1 hff hWm⟩⟩ rfl hn hsize hst hrm hdg hf) hlocks hF hW hA htab h1 h2
theorem zx_St {y : MethodName} {bytes : ByteArray} {maxL nL n index fr lo sz : Nat} {ret : Option FieldType} {w Ts : List Cond} {own Ex : String} {As : List Value} {st0 : List Value} (S : CallFix p m cd cc nL s args Ts own) (hM : ze_T l y w fr lo D c ws As Ex) (cw : CallB R s args own index y bytes maxL ret w { frames := fr, cells := 1, slots := 6, locals := lo } 1 6 n ∧ (Cond.static y).before args s = true) (hlocks : meth.locks = false) (hF : va_A ws sz = F) (hK : va_K D vwCl (ze_ty c) s) (hW : ze_W D ws F s.heap H locs) (hXB : zx_B F s s.heap) (htab : ∀ x ∈ cd.exceptionTable.toList, False) (hA : ∀ q : Nat, s.heap.size ≤ q → F q) (hn : As.length = n) (hsize : ls.size = nL) (hst : st0 = As.reverse ++ rest) (hrm : 2 * (F0 m pc ls rest).monitorRoom + (rest.map fun v => v.category).sum ≤ 8) (hdg : decode cc pc = .ok (.invokestatic index, 3)) (hf : cells + 1 ≤ R.cells ∧ slots + 6 ≤ R.slots) (h1 : cells + 1 ≤ 1) (h2 : slots + 6 ≤ 6) :
    W p l e R s m args below meth cd H locs cells slots (vx_MQ below zx_N (zx_Q D c ws sz Ex) args s 1 6 F) (F0 m pc ls st0) := by
  have hff : ∀ q, va_A ws H.size q → F q := fun q h => by
    rcases h with ⟨k, e, h⟩ | h
    · exact hW.2.1.2 k (q, e) h
    · exact hA q (Nat.le_trans hW.2.2.1 h)
  exact zx_callt (vx_runS (As := As) (rest := rest) S (hM H.size) cw ⟨zx_blind D c ws H.size As, fun U hU hWm => ⟨rfl, by rw [hU], ⟨by rw [hU]; exact hW.1, va_K.moved hWm.alike hK, hW.2.1.weaken (fun _ _ _ _ => trivial)⟩, by rw [hU]; exact hXB.to hW.2.2.2.1 hff hWm⟩⟩ rfl hn hsize hst hrm hdg hf) hlocks hF hW hA htab h1 h2
end ZX
