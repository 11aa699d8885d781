/-! ===== calls that answer a cell of the world ===== -/
abbrev ze_Qr (D : va_G) (c : Nat → ClassId) (ws : va_W) (sz : Nat) (v : Nat) (ws2 : va_W) : Array Value → State → Outcome → State → Prop := va_Qr (fun (_ : Unit) => True) (fun _ ra t => ra = v ∧ ze_O D c ws2 (va_A ws sz) t) (va_A ws sz)
def ze_R (l : Launch) (y : MethodName) (w : List Cond) (fr lo mc ms : Nat) (D : va_G) (c : Nat → ClassId) (ws : va_W) (av : List Value) (v : Nat) (ws2 : va_W) : Prop := ∀ sz : Nat, Met l y w { frames := fr, cells := mc, slots := ms, locals := lo } (ze_P D c ws sz av) (ze_Qr D c ws sz v ws2) mc ms (va_A ws sz)
section ZR
variable {p : Program} {l : Launch} {e : Env} {R : Room} {s : State} {m : MethodId} {args : Array Value} {below : List Frame} {meth : Method} {cd : Code} {H : Heap} {locs : List Loc} {cells slots : Nat} {Q : State → Prop}
variable {cc : ByteArray} {pc : Nat} {ls : Array Slot} {rest : List Value} {D : va_G} {c : Nat → ClassId} {ws wt : va_W} {F : Nat → Prop} {H0 : Heap} {a : Nat}
theorem ze_rret {sz : Nat} {ws2 ws3 : va_W} {C : String} {maxL : Nat} {Ts : List Cond} {own : String} {r v : Nat} {mc ms : Nat} (S : CallFix p m cd cc maxL s args Ts own) (hr : meth.sig.returnType = some (.object C)) (hlocks : meth.locks = false) (hF : va_A ws sz = F) (hK : va_K D vwCl (ze_ty c) s) (hW : ze_W D ws2 F s.heap H locs) (hdg : decode cc pc = .ok (.areturn, 1)) (hc : cells ≤ mc) (hs : slots ≤ ms) (hv : r = v) (hw2 : ws2 = ws3) :
    W p l e R s m args below meth cd H locs cells slots (MQ below (ze_Qr D c ws sz v ws3) args s mc ms F) (F0 m pc ls [.ref r]) := by
  obtain ⟨hx, hb, hml, hown, hts⟩ := S
  subst hw2
  refine W.widen (k := mc) (n := ms) hc hs ?_
  exact W.aret hx hb hr (Or.inl ⟨C, rfl⟩) (Or.inr ⟨r, rfl⟩) (fun t ht hWm => ⟨⟨(), r, rfl, trivial, hv, (ze_end hF hK hW ht hWm).1⟩, (ze_end hF hK hW ht hWm).2⟩) hW.2.2.2.2 hdg hlocks
theorem ze_callr {ws2 : va_W} {v : Nat} {mc ms : Nat} {st0 : List Value} {av : Array Value} (hr : va_Run p l e R s m args below meth cd H locs cells slots mc ms (F0 m pc ls st0) rest (va_Qr (fun (_ : Unit) => True) (fun _ ra t => ra = v ∧ ze_O D c ws2 (va_A ws H.size) t) (va_A ws H.size) av) (va_A ws H.size)) (hW : ze_W D ws F H0 H locs) (hA : ∀ q : Nat, H0.size ≤ q → F q)
    (kk : ∀ (H1 : Heap) (locs1 : List Loc), ze_W D ws2 F H0 H1 locs1 → W p l e R s m args below meth cd H1 locs1 (cells + mc) (slots + ms) Q (F0 m (pc + 3) ls (.ref v :: rest))) : W p l e R s m args below meth cd H locs cells slots Q (F0 m pc ls st0) := by
  have hf : ∀ q, va_A ws H.size q → F q := fun q h => by
    rcases h with ⟨k, e, h⟩ | h
    · exact hW.2.1.2 k (q, e) h
    · exact hA q (Nat.le_trans hW.2.2.1 h)
  refine va_callr hr hW.2.2 (fun q _ h => hf q h) hf (fun u ra t H1 locs1 ht hvm hw hB hz1 hk1 hS => ?_)
  obtain ⟨rfl, hP1, hK1, hD1⟩ := hB
  rw [ht] at hP1
  exact kk H1 locs1 ⟨hP1, hD1.weaken (fun k q _ h => hf q.1 h), hS⟩
theorem ze_Vr {y : MethodName} {bytes : ByteArray} {maxL nL mc ms n index fr lo ci q0 b : Nat} {ret : Option FieldType} {w Ts : List Cond} {own : String} {k : vw_C} {fs As : List Value} {ws2 : va_W} {v : Nat} {st0 : List Value} (S : CallFix p m cd cc nL s args Ts own) (hM : ze_R l y w fr lo mc ms D c ws (.ref b :: As) v ws2) (cw : CallW R s args own k.1 index y bytes maxL ret w { frames := fr, cells := mc, slots := ms, locals := lo } mc ms n) (hK : va_K D vwCl (ze_ty c) s) (hW : ze_W D ws F H0 H locs) (hA : ∀ q : Nat, H0.size ≤ q → F q) (hc : vwCl[ci]? = some k) (he : ws[q0]? = some (b, .inr (ci, fs))) (hn : As.length = n) (hsize : ls.size = nL) (hst : st0 = As.reverse ++ .ref b :: rest) (hrm : 2 * (F0 m pc ls rest).monitorRoom + (rest.map fun v => v.category).sum ≤ 8) (hdg : decode cc pc = .ok (.invokevirtual index, 3)) (hf : cells + mc ≤ R.cells ∧ slots + ms ≤ R.slots)
    (kk : ∀ (H1 : Heap) (locs1 : List Loc), ze_W D ws2 F H0 H1 locs1 → W p l e R s m args below meth cd H1 locs1 (cells + mc) (slots + ms) Q (F0 m (pc + 3) ls (.ref v :: rest))) : W p l e R s m args below meth cd H locs cells slots Q (F0 m pc ls st0) :=
  ze_callr (va_runV (As := As) (rest := rest) S (hM H.size) cw (ze_preV hK hW hc he) rfl hn hsize hst hrm hdg hf) hW hA kk
theorem ze_Sv {y : MethodName} {bytes : ByteArray} {maxL nL mc ms n index fr lo : Nat} {ret : Option FieldType} {w Ts : List Cond} {own : String} {As : List Value} {ws2 : va_W} {st0 : List Value} (S : CallFix p m cd cc nL s args Ts own) (hM : ze_V l y w fr lo mc ms D c ws As ws2) (cw : CallB R s args own index y bytes maxL ret w { frames := fr, cells := mc, slots := ms, locals := lo } mc ms n ∧ (Cond.static y).before args s = true) (hK : va_K D vwCl (ze_ty c) s) (hW : ze_W D ws F H0 H locs) (hA : ∀ q : Nat, H0.size ≤ q → F q) (hn : As.length = n) (hsize : ls.size = nL) (hst : st0 = As.reverse ++ rest) (hrm : 2 * (F0 m pc ls rest).monitorRoom + (rest.map fun v => v.category).sum ≤ 8) (hdg : decode cc pc = .ok (.invokestatic index, 3)) (hf : cells + mc ≤ R.cells ∧ slots + ms ≤ R.slots)
    (kk : ∀ (H1 : Heap) (locs1 : List Loc), ze_W D ws2 F H0 H1 locs1 → W p l e R s m args below meth cd H1 locs1 (cells + mc) (slots + ms) Q (F0 m (pc + 3) ls rest)) : W p l e R s m args below meth cd H locs cells slots Q (F0 m pc ls st0) :=
  ze_callv (F2 := F) (va_runS (As := As) (rest := rest) S (hM H.size) cw (ze_preS hK hW) rfl hn hsize hst hrm hdg hf) hW hA kk
end ZR
theorem zf_isInI {x y z : Int32} (h : zf_isIn x y z) : ¬ x < y ∧ x ≤ z := ⟨h.1, Int32.not_lt.mp h.2⟩
