/-! ===== answers whose world has a cell made on the way ===== -/
abbrev ze_Qe (D : va_G) (c : Nat → ClassId) (ws : va_W) (sz : Nat) (v : Int32) (ws2 : Nat → va_W) : Array Value → State → Outcome → State → Prop := va_Qi (fun r (_ : Nat) => r = v) (fun q t => ze_O D c (ws2 q) (va_A ws sz) t) (va_A ws sz)
def ze_IE (l : Launch) (y : MethodName) (w : List Cond) (fr lo mc ms : Nat) (D : va_G) (c : Nat → ClassId) (ws : va_W) (av : List Value) (v : Int32) (ws2 : Nat → va_W) : Prop := ∀ sz : Nat, Met l y w { frames := fr, cells := mc, slots := ms, locals := lo } (ze_P D c ws sz av) (ze_Qe D c ws sz v ws2) mc ms (va_A ws sz)
section ZE2
variable {p : Program} {l : Launch} {e : Env} {R : Room} {s : State} {m : MethodId} {args : Array Value} {below : List Frame} {meth : Method} {cd : Code} {H : Heap} {locs : List Loc} {cells slots : Nat} {Q : State → Prop}
variable {cc : ByteArray} {pc : Nat} {ls : Array Slot} {rest : List Value} {D : va_G} {c : Nat → ClassId} {ws wt : va_W} {F : Nat → Prop} {H0 : Heap} {a : Nat}
theorem ze_eret {sz q : Nat} {ws2 : Nat → va_W} {ws3 : va_W} {ret : FieldType} {maxL : Nat} {Ts : List Cond} {own : String} {r v : Int32} {mc ms : Nat} (S : CallFix p m cd cc maxL s args Ts own) (hr : meth.sig.returnType = some ret) (hlocks : meth.locks = false) (hF : va_A ws sz = F) (hK : va_K D vwCl (ze_ty c) s) (hW : ze_W D ws3 F s.heap H locs) (hn : narrow ret (.int r) = .int r) (hdg : decode cc pc = .ok (.ireturn, 1)) (hc : cells ≤ mc) (hs : slots ≤ ms) (hv : r = v) (hw2 : ws3 = ws2 q) :
    W p l e R s m args below meth cd H locs cells slots (MQ below (ze_Qe D c ws sz v ws2) args s mc ms F) (F0 m pc ls [.int r]) := by
  obtain ⟨hx, hb, hml, hown, hts⟩ := S
  subst hw2
  refine W.widen (k := mc) (n := ms) hc hs ?_
  exact W.zret hx hb hr hn (fun t ht hWm => ⟨⟨r, q, rfl, hv, (ze_end hF hK hW ht hWm).1⟩, (ze_end hF hK hW ht hWm).2⟩) hW.2.2.2.2 hdg hlocks
theorem ze_calle {ws2 : Nat → va_W} {v : Int32} {mc ms : Nat} {st0 : List Value} {av : Array Value} (hr : va_Run p l e R s m args below meth cd H locs cells slots mc ms (F0 m pc ls st0) rest (va_Qi (fun r (_ : Nat) => r = v) (fun q t => ze_O D c (ws2 q) (va_A ws H.size) t) (va_A ws H.size) av) (va_A ws H.size)) (hW : ze_W D (ws ++ wt) F H0 H locs) (hA : ∀ q : Nat, H0.size ≤ q → F q)
    (kk : ∀ (q : Nat) (H1 : Heap) (locs1 : List Loc), ze_W D (ws2 q ++ wt) F H0 H1 locs1 → W p l e R s m args below meth cd H1 locs1 (cells + mc) (slots + ms) Q (F0 m (pc + 3) ls (.int v :: rest))) : W p l e R s m args below meth cd H locs cells slots Q (F0 m pc ls st0) := by
  have hf := ze_fits hW hA
  refine va_calli hr hW.2.2 (fun q _ h => hf q h) hf (fun r q t H1 locs1 ht hvm hw hB hz1 hk1 hS => ?_)
  subst hw
  obtain ⟨hP1, hK1, hD1⟩ := hB
  rw [ht] at hP1
  have g := ze_PD hW.1 hW.2.1 hk1 hf hP1 hD1
  exact kk q H1 locs1 ⟨g.1, g.2, hS⟩
theorem ze_FVe {y : MethodName} {bytes : ByteArray} {maxL nL mc ms n index fr lo ci q0 b : Nat} {ret : Option FieldType} {w Ts : List Cond} {own : String} {k : vw_C} {fs As : List Value} {ws2 : Nat → va_W} {v : Int32} {st0 : List Value} (S : CallFix p m cd cc nL s args Ts own) (hM : ze_IE l y w fr lo mc ms D c ws (.ref b :: As) v ws2) (cw : CallW R s args own k.1 index y bytes maxL ret w { frames := fr, cells := mc, slots := ms, locals := lo } mc ms n) (hK : va_K D vwCl (ze_ty c) s) (hW : ze_W D (ws ++ wt) F H0 H locs) (hA : ∀ q : Nat, H0.size ≤ q → F q) (hc : vwCl[ci]? = some k) (he : ws[q0]? = some (b, .inr (ci, fs))) (hn : As.length = n) (hsize : ls.size = nL) (hst : st0 = As.reverse ++ .ref b :: rest) (hrm : 2 * (F0 m pc ls rest).monitorRoom + (rest.map fun v => v.category).sum ≤ 8) (hdg : decode cc pc = .ok (.invokevirtual index, 3)) (hf : cells + mc ≤ R.cells ∧ slots + ms ≤ R.slots)
    (kk : ∀ (q : Nat) (H1 : Heap) (locs1 : List Loc), ze_W D (ws2 q ++ wt) F H0 H1 locs1 → W p l e R s m args below meth cd H1 locs1 (cells + mc) (slots + ms) Q (F0 m (pc + 3) ls (.int v :: rest))) : W p l e R s m args below meth cd H locs cells slots Q (F0 m pc ls st0) :=
  ze_calle (va_runV (As := As) (rest := rest) S (hM H.size) cw (ze_preV hK (ze_Wl hW) hc he) rfl hn hsize hst hrm hdg hf) hW hA kk
theorem ze_W0 (hW : ze_W D ws F H0 H locs) : ze_W D (ws ++ []) F H0 H locs := by rw [List.append_nil]; exact hW
theorem ze_W0' (hW : ze_W D (ws ++ []) F H0 H locs) : ze_W D ws F H0 H locs := by rw [List.append_nil] at hW; exact hW
end ZE2
