/-! ===== what a state is: the reference's world and the class's, both read off the same rows ===== -/
def ze_ix (x : Int32) : Nat := x.toNatClampNeg
def ze_b (P : Prop) [Decidable P] : Int32 := if P then 1 else 0
def ze_mn (a b : Int32) : Int32 := if b < a then b else a
def ze_mx (a b : Int32) : Int32 := if a < b then b else a
def ze_ab (a : Int32) : Int32 := if 0 ≤ a then a else 0 - a
def ze_nt (x : Int32) : Int32 := if x = 0 then 1 else 0
/-- row k is f now -/
def ze_sA (A : Nat → Nat → Int32) (k : Nat) (f : Nat → Int32) : Nat → Nat → Int32 := fun j => if j = k then f else A j
/-- place i of row k is v now -/
def ze_sE (A : Nat → Nat → Int32) (k i : Nat) (v : Int32) : Nat → Nat → Int32 := ze_sA A k (upd (A k) i v)
/-- the lone number of row k is v now -/
def ze_sC (A : Nat → Nat → Int32) (k : Nat) (v : Int32) : Nat → Nat → Int32 := ze_sA A k (fun _ => v)
def ze_sB (B : Nat → Int64) (k : Nat) (v : Int64) : Nat → Int64 := fun j => if j = k then v else B j
def ze_sn (n : Nat → Nat) (k v : Nat) : Nat → Nat := fun j => if j = k then v else n j
def ze_sum (x : Int32) (f : Nat → Int32) : Nat → Int32
  | 0 => x
  | k + 1 => ze_sum x f k + f k
abbrev ze_ty (c : Nat → ClassId) : List (ClassId × FieldType) := [(c 0, .int), (c 1, .boolean), (c 2, .int), (c 3, .object "Islandgrid$Generator"), (c 4, .object "Islandgrid$Store"), (c 5, .object "Islandgrid$Load")]
def ze_fR (d : Nat → Nat) (n : Nat → Nat) (A : Nat → Nat → Int32) (B : Nat → Int64) (th : Int32) : List Value := [.ref (d 1), .ref (d 2), .ref (d 3), .ref (d 4), .ref (d 5), .ref (d 6), .ref (d 7), .ref (d 8), .ref (d 9), .ref (d 10), .ref (d 11), .ref (d 12), .ref (d 13), .ref (d 14), .ref (d 15), .ref (d 16), .ref (d 17), .ref (d 18), .ref (d 19), .ref (d 20), .ref (d 21), .ref (d 22), .ref (d 23), .int (nI (n 0)), .int (nI (n 1)), .int (nI (n 2)), .int (nI (n 3)), .int (nI (n 4)), .int (A 28 0), .int (A 29 0), .int (A 30 0), .int (A 31 0), .int th, .long (B 33), .long (B 34), .long (B 35), .long (B 36), .long (B 37), .int (A 38 0)]
/-- the reference: its object, its 23 rows -/
def ze_wR (c : Nat → ClassId) (d : Nat → Nat) (n : Nat → Nat) (A : Nat → Nat → Int32) (B : Nat → Int64) (mk : Nat → Int32) (th : Int32) : va_W := [(d 0, .inr (9, ze_fR d n A B th)),
  (d 1, .inl (c 0, 6, .inl (A 0))), (d 2, .inl (c 0, 6, .inl mk)), (d 3, .inl (c 0, 8, .inl (A 2))), (d 4, .inl (c 0, 8, .inl (A 3))), (d 5, .inl (c 1, 8, .inl (A 4))), (d 6, .inl (c 1, 10, .inl (A 5))),
  (d 7, .inl (c 0, 6, .inl (A 6))), (d 8, .inl (c 0, 6, .inl (A 7))), (d 9, .inl (c 0, 6, .inl (A 8))), (d 10, .inl (c 0, 6, .inl (A 9))), (d 11, .inl (c 0, 6, .inl (A 10))), (d 12, .inl (c 0, 6, .inl (A 11))), (d 13, .inl (c 0, 6, .inl (A 12))), (d 14, .inl (c 2, 6, .inl (A 13))),
  (d 15, .inl (c 0, 4, .inl (A 14))), (d 16, .inl (c 0, 4, .inl (A 15))), (d 17, .inl (c 0, 4, .inl (A 16))), (d 18, .inl (c 0, 4, .inl (A 17))), (d 19, .inl (c 0, 4, .inl (A 18))),
  (d 20, .inl (c 0, 10, .inl (A 19))), (d 21, .inl (c 0, 10, .inl (A 20))), (d 22, .inl (c 0, 10, .inl (A 21))), (d 23, .inl (c 0, 10, .inl (A 22)))]
def ze_fG (A : Nat → Nat → Int32) (g : Nat) : List Value := [.int (A 6 g), .int (A 7 g), .int (A 8 g), .int (A 9 g), .int (A 10 g), .int (A 13 g), .int (A 11 g), .int (A 12 g)]
def ze_fT (A : Nat → Nat → Int32) (k : Nat) : List Value := [.int (A 14 k), .int (A 15 k), .int (A 16 k), .int (A 17 k), .int (A 18 k)]
def ze_fL (A : Nat → Nat → Int32) (k : Nat) : List Value := [.int (nI k), .int (A 19 k), .int (A 20 k), .int (A 21 k), .int (ze_nt (A 5 k)), .int (A 22 k)]
def ze_gs (a : Nat → Nat) (A : Nat → Nat → Int32) (N : Nat) : va_W := (List.range N).map (fun g => (a (20 + g), .inr (1, ze_fG A g)))
def ze_ts (a : Nat → Nat) (A : Nat → Nat → Int32) (N : Nat) : va_W := (List.range N).map (fun g => (a (30 + g), .inr (7, ze_fT A g)))
def ze_ls (a : Nat → Nat) (A : Nat → Nat → Int32) (N : Nat) : va_W := (List.range N).map (fun g => (a (40 + g), .inr (3, ze_fL A g)))
def ze_rw (a : Nat → Nat) (o N : Nat) : Nat → Option Nat := fun g => if g < N then some (a (o + g)) else none
def ze_w0 (c : Nat → ClassId) (a : Nat → Nat) (n : Nat → Nat) (A : Nat → Nat → Int32) (B : Nat → Int64) (E : Nat → Nat → Int32) : va_W := [(a 0, .inr (8, [.ref (a 1), .ref (a 9), .ref (a 13), .ref (a 15), .ref (a 17), .int (A 28 0), .int (A 29 0), .int (A 30 0)])),
  (a 1, .inr (5, [.int (nI (n 0)), .int (nI (n 1)), .int (A 38 0), .ref (a 2), .ref (a 3), .ref (a 4), .ref (a 5), .ref (a 6), .ref (a 7), .ref (a 8)])),
  (a 2, .inl (c 0, 6, .inl (A 0))), (a 3, .inl (c 0, 6, .inl (E 0))), (a 4, .inl (c 0, 8, .inl (A 2))), (a 5, .inl (c 0, 8, .inl (A 3))), (a 6, .inl (c 1, 8, .inl (A 4))), (a 7, .inl (c 0, 6, .inl (E 1))), (a 8, .inl (c 0, 6, .inl (E 2))),
  (a 9, .inr (0, [.ref (a 1), .ref (a 10), .int (nI (n 2)), .ref (a 11), .ref (a 12)])), (a 10, .inl (c 3, 6, .inr (.inr (.inr (.inr (ze_rw a 20 (n 2))))))), (a 11, .inl (c 0, 6, .inl (E 3))), (a 12, .inl (c 0, 6, .inl (E 4))),
  (a 13, .inr (6, [.ref (a 1), .ref (a 14), .int (nI (n 3))])), (a 14, .inl (c 4, 4, .inr (.inr (.inr (.inr (ze_rw a 30 (n 3))))))),
  (a 15, .inr (4, [.ref (a 1), .ref (a 16), .int (nI (n 4))])), (a 16, .inl (c 5, 10, .inr (.inr (.inr (.inr (ze_rw a 40 (n 4))))))),
  (a 17, .inr (2, [.int (A 31 0), .long (B 33), .long (B 34), .long (B 35), .long (B 36), .long (B 37)]))]
/-- the class: 18 cells that always stand, then its generators, its stores, its loads -/
def ze_wC (c : Nat → ClassId) (a : Nat → Nat) (n : Nat → Nat) (A : Nat → Nat → Int32) (B : Nat → Int64) (E : Nat → Nat → Int32) : va_W := ze_w0 c a n A B E ++ (ze_gs a A (n 2) ++ (ze_ts a A (n 3) ++ ze_ls a A (n 4)))
/-! ===== where a cell stands, what a write makes of the world ===== -/
theorem ze_mapget {f : Nat → Nat × va_E} {N i : Nat} (h : i < N) : ((List.range N).map f)[i]? = some (f i) := by
  rw [List.getElem?_map, List.getElem?_range h]
  rfl
theorem ze_appget {X Y : va_W} {o i : Nat} (h : X.length = o) : (X ++ Y)[o + i]? = Y[i]? := by
  rw [List.getElem?_append_right (by omega), ← h, Nat.add_sub_cancel_left]
theorem ze_appget0 {X Y : va_W} {i : Nat} {q : Nat × va_E} (h : X[i]? = some q) : (X ++ Y)[i]? = some q := by
  rw [List.getElem?_append_left (List.getElem?_eq_some_iff.mp h).1]
  exact h
theorem ze_gslen (a : Nat → Nat) (A : Nat → Nat → Int32) (N : Nat) : (ze_gs a A N).length = N := by simp [ze_gs]
theorem ze_tslen (a : Nat → Nat) (A : Nat → Nat → Int32) (N : Nat) : (ze_ts a A N).length = N := by simp [ze_ts]
theorem ze_lslen (a : Nat → Nat) (A : Nat → Nat → Int32) (N : Nat) : (ze_ls a A N).length = N := by simp [ze_ls]
theorem ze_w0len (c : Nat → ClassId) (a : Nat → Nat) (n : Nat → Nat) (A : Nat → Nat → Int32) (B : Nat → Int64) (E : Nat → Nat → Int32) : (ze_w0 c a n A B E).length = 18 := rfl
theorem ze_at0 {c : Nat → ClassId} {a n : Nat → Nat} {A : Nat → Nat → Int32} {B : Nat → Int64} {E : Nat → Nat → Int32} (i : Nat) {q : Nat × va_E} (h : (ze_w0 c a n A B E)[i]? = some q) : (ze_wC c a n A B E)[i]? = some q := ze_appget0 h
theorem ze_atG {c : Nat → ClassId} {a n : Nat → Nat} {A : Nat → Nat → Int32} {B : Nat → Int64} {E : Nat → Nat → Int32} {g : Nat} (h : g < n 2) : (ze_wC c a n A B E)[18 + g]? = some (a (20 + g), .inr (1, ze_fG A g)) := by
  unfold ze_wC
  rw [ze_appget (ze_w0len c a n A B E)]
  exact ze_appget0 (ze_mapget h)
theorem ze_atT {c : Nat → ClassId} {a n : Nat → Nat} {A : Nat → Nat → Int32} {B : Nat → Int64} {E : Nat → Nat → Int32} {g : Nat} (h : g < n 3) : (ze_wC c a n A B E)[18 + (n 2 + g)]? = some (a (30 + g), .inr (7, ze_fT A g)) := by
  unfold ze_wC
  rw [ze_appget (ze_w0len c a n A B E), ze_appget (ze_gslen a A (n 2))]
  exact ze_appget0 (ze_mapget h)
theorem ze_atL {c : Nat → ClassId} {a n : Nat → Nat} {A : Nat → Nat → Int32} {B : Nat → Int64} {E : Nat → Nat → Int32} {g : Nat} (h : g < n 4) : (ze_wC c a n A B E)[18 + (n 2 + (n 3 + g))]? = some (a (40 + g), .inr (3, ze_fL A g)) := by
  unfold ze_wC
  rw [ze_appget (ze_w0len c a n A B E), ze_appget (ze_gslen a A (n 2)), ze_appget (ze_tslen a A (n 3))]
  exact ze_mapget h
theorem ze_mapset {f f2 : Nat → Nat × va_E} {N i : Nat} {e : Nat × va_E} (h : i < N) (h1 : f2 i = e) (h2 : ∀ j, j < N → j ≠ i → f2 j = f j) : ((List.range N).map f).set i e = (List.range N).map f2 := by
  apply List.ext_getElem?
  intro j
  by_cases hj : j < N
  · rw [ze_mapget hj]
    by_cases hi : j = i
    · subst hi
      rw [List.getElem?_set_self (by simpa using hj), h1]
    · rw [List.getElem?_set_ne (Ne.symm hi), ze_mapget hj, h2 j hj hi]
  · rw [List.getElem?_eq_none (by simpa using Nat.not_lt.mp hj), List.getElem?_eq_none (by simpa using Nat.not_lt.mp hj)]
theorem ze_appset {X Y : va_W} {o i : Nat} {e : Nat × va_E} (h : X.length = o) : (X ++ Y).set (o + i) e = X ++ Y.set i e := by
  rw [List.set_append_right _ _ (by omega), ← h, Nat.add_sub_cancel_left]
theorem ze_appset0 {X Y : va_W} {i : Nat} {e : Nat × va_E} (h : i < X.length) : (X ++ Y).set i e = X.set i e ++ Y := List.set_append_left _ _ h
theorem ze_set0 {c : Nat → ClassId} {a n : Nat → Nat} {A A2 : Nat → Nat → Int32} {B B2 : Nat → Int64} {E E2 : Nat → Nat → Int32} (i : Nat) {q : Nat × va_E} (hi : i < 18) (h : (ze_w0 c a n A B E).set i q = ze_w0 c a n A2 B2 E2)
    (hG : ze_gs a A (n 2) = ze_gs a A2 (n 2)) (hT : ze_ts a A (n 3) = ze_ts a A2 (n 3)) (hL : ze_ls a A (n 4) = ze_ls a A2 (n 4)) : (ze_wC c a n A B E).set i q = ze_wC c a n A2 B2 E2 := by
  unfold ze_wC
  rw [ze_appset0 (by rw [ze_w0len]; exact hi), h, hG, hT, hL]
theorem ze_setG {c : Nat → ClassId} {a n : Nat → Nat} {A A2 : Nat → Nat → Int32} {B : Nat → Int64} {E : Nat → Nat → Int32} {g : Nat} {fs : List Value} (h : g < n 2) (h0 : ze_w0 c a n A B E = ze_w0 c a n A2 B E) (hT : ze_ts a A (n 3) = ze_ts a A2 (n 3)) (hL : ze_ls a A (n 4) = ze_ls a A2 (n 4))
    (h1 : ze_fG A2 g = fs) (h2 : ∀ j, j ≠ g → ze_fG A2 j = ze_fG A j) : (ze_wC c a n A B E).set (18 + g) (a (20 + g), .inr (1, fs)) = ze_wC c a n A2 B E := by
  unfold ze_wC
  rw [ze_appset (ze_w0len c a n A B E), ze_appset0 (by rw [ze_gslen]; exact h), h0, hT, hL]
  congr 2
  exact ze_mapset h (by rw [h1]) (fun j _ hj => by rw [h2 j hj])
theorem ze_setT {c : Nat → ClassId} {a n : Nat → Nat} {A A2 : Nat → Nat → Int32} {B : Nat → Int64} {E : Nat → Nat → Int32} {g : Nat} {fs : List Value} (h : g < n 3) (h0 : ze_w0 c a n A B E = ze_w0 c a n A2 B E) (hG : ze_gs a A (n 2) = ze_gs a A2 (n 2)) (hL : ze_ls a A (n 4) = ze_ls a A2 (n 4))
    (h1 : ze_fT A2 g = fs) (h2 : ∀ j, j ≠ g → ze_fT A2 j = ze_fT A j) : (ze_wC c a n A B E).set (18 + (n 2 + g)) (a (30 + g), .inr (7, fs)) = ze_wC c a n A2 B E := by
  unfold ze_wC
  rw [ze_appset (ze_w0len c a n A B E), ze_appset (ze_gslen a A (n 2)), ze_appset0 (by rw [ze_tslen]; exact h), h0, hG, hL]
  congr 3
  exact ze_mapset h (by rw [h1]) (fun j _ hj => by rw [h2 j hj])
theorem ze_setL {c : Nat → ClassId} {a n : Nat → Nat} {A A2 : Nat → Nat → Int32} {B : Nat → Int64} {E : Nat → Nat → Int32} {g : Nat} {fs : List Value} (h : g < n 4) (h0 : ze_w0 c a n A B E = ze_w0 c a n A2 B E) (hG : ze_gs a A (n 2) = ze_gs a A2 (n 2)) (hT : ze_ts a A (n 3) = ze_ts a A2 (n 3))
    (h1 : ze_fL A2 g = fs) (h2 : ∀ j, j ≠ g → ze_fL A2 j = ze_fL A j) : (ze_wC c a n A B E).set (18 + (n 2 + (n 3 + g))) (a (40 + g), .inr (3, fs)) = ze_wC c a n A2 B E := by
  unfold ze_wC
  rw [ze_appset (ze_w0len c a n A B E), ze_appset (ze_gslen a A (n 2)), ze_appset (ze_tslen a A (n 3)), h0, hG, hT]
  congr 3
  exact ze_mapset h (by rw [h1]) (fun j _ hj => by rw [h2 j hj])
theorem ze_sE_ne {A : Nat → Nat → Int32} {k i j : Nat} {v : Int32} (h : j ≠ i) (r : Nat) : ze_sE A k i v r j = A r j := by
  unfold ze_sE ze_sA upd
  by_cases hr : r = k
  · subst hr
    simp [h]
  · simp [hr]
/-! ===== contracts, in one shape: the arguments, the world before, the answer, the world behind ===== -/
def ze_O (D : va_G) (c : Nat → ClassId) (ws : va_W) (F : Nat → Prop) (U : State) : Prop := va_P D vwCl ws U.heap ∧ va_K D vwCl (ze_ty c) U ∧ va_D F ws
def ze_P (D : va_G) (c : Nat → ClassId) (ws : va_W) (sz : Nat) (av : List Value) : Array Value → State → Prop := va_Pc av (fun U => U.heap.size = sz ∧ ze_O D c ws (fun _ => True) U)
theorem ze_blind (D : va_G) (c : Nat → ClassId) (ws : va_W) (sz : Nat) (av : List Value) : FrameBlind (ze_P D c ws sz av) := fun a U g mk q => by
  obtain ⟨q0, q1, qP, qK, qD⟩ := q
  exact ⟨q0, q1, qP, va_K.moved (u := U) (U := U.calling g mk a) (Vm.Alike.refl U.vm) qK, qD⟩
abbrev ze_Qi (D : va_G) (c : Nat → ClassId) (ws : va_W) (sz : Nat) (v : Int32) (ws2 : va_W) : Array Value → State → Outcome → State → Prop := va_Qi (fun r (_ : Unit) => r = v) (fun _ t => ze_O D c ws2 (va_A ws sz) t) (va_A ws sz)
abbrev ze_Qv (D : va_G) (c : Nat → ClassId) (ws : va_W) (sz : Nat) (ws2 : va_W) : Array Value → State → Outcome → State → Prop := va_Qv (fun (_ : Unit) => True) (fun _ t => ze_O D c ws2 (va_A ws sz) t) (va_A ws sz)
abbrev ze_Ql (D : va_G) (c : Nat → ClassId) (ws : va_W) (sz : Nat) (v : Int64) (ws2 : va_W) : Array Value → State → Outcome → State → Prop := va_Ql (fun r (_ : Unit) => r = v) (fun _ t => ze_O D c ws2 (va_A ws sz) t) (va_A ws sz)
abbrev ze_Qf (D : va_G) (c : Nat → ClassId) (ws : va_W) (sz : Nat) (v : UInt32) (ws2 : va_W) : Array Value → State → Outcome → State → Prop := va_Qf (fun r (_ : Unit) => r = v) (fun _ t => ze_O D c ws2 (va_A ws sz) t) (va_A ws sz)
def ze_I (l : Launch) (y : MethodName) (w : List Cond) (fr lo mc ms : Nat) (D : va_G) (c : Nat → ClassId) (ws : va_W) (av : List Value) (v : Int32) (ws2 : va_W) : Prop := ∀ sz : Nat, Met l y w { frames := fr, cells := mc, slots := ms, locals := lo } (ze_P D c ws sz av) (ze_Qi D c ws sz v ws2) mc ms (va_A ws sz)
def ze_V (l : Launch) (y : MethodName) (w : List Cond) (fr lo mc ms : Nat) (D : va_G) (c : Nat → ClassId) (ws : va_W) (av : List Value) (ws2 : va_W) : Prop := ∀ sz : Nat, Met l y w { frames := fr, cells := mc, slots := ms, locals := lo } (ze_P D c ws sz av) (ze_Qv D c ws sz ws2) mc ms (va_A ws sz)
def ze_L (l : Launch) (y : MethodName) (w : List Cond) (fr lo mc ms : Nat) (D : va_G) (c : Nat → ClassId) (ws : va_W) (av : List Value) (v : Int64) (ws2 : va_W) : Prop := ∀ sz : Nat, Met l y w { frames := fr, cells := mc, slots := ms, locals := lo } (ze_P D c ws sz av) (ze_Ql D c ws sz v ws2) mc ms (va_A ws sz)
def ze_F (l : Launch) (y : MethodName) (w : List Cond) (fr lo mc ms : Nat) (D : va_G) (c : Nat → ClassId) (ws : va_W) (av : List Value) (v : UInt32) (ws2 : va_W) : Prop := ∀ sz : Nat, Met l y w { frames := fr, cells := mc, slots := ms, locals := lo } (ze_P D c ws sz av) (ze_Qf D c ws sz v ws2) mc ms (va_A ws sz)
/-- the world now -/
def ze_W (D : va_G) (ws : va_W) (F : Nat → Prop) (H0 H : Heap) (locs : List Loc) : Prop := va_P D vwCl ws H ∧ va_D F ws ∧ va_S F H0 H locs
section ZE
variable {p : Program} {l : Launch} {e : Env} {R : Room} {s : State} {m : MethodId} {args : Array Value} {below : List Frame} {meth : Method} {cd : Code} {H : Heap} {locs : List Loc} {cells slots : Nat} {Q : State → Prop}
variable {cc : ByteArray} {pc : Nat} {ls : Array Slot} {rest : List Value} {D : va_G} {c : Nat → ClassId} {ws : va_W} {F : Nat → Prop} {H0 : Heap} {a : Nat}
/-- what a method of mine has at its entry -/
abbrev ze_E (p : Program) (l : Launch) (e : Env) (s : State) (m : MethodId) (meth : Method) (cd : Code) (cc : ByteArray) (maxL : Nat) (ret : Option FieldType) (Ts : List Cond) (own : String) (av : List Value) (D : va_G) (c : Nat → ClassId) (ws : va_W) (F : Nat → Prop) (ls : Array Slot) : Prop :=
  CallFix p m cd cc maxL s av.toArray Ts own ∧ meth.sig.returnType = ret ∧ meth.locks = false ∧ va_K D vwCl (ze_ty c) s ∧ ze_W D ws F s.heap s.heap [] ∧ (∀ q : Nat, s.heap.size ≤ q → F q) ∧ lv_has ls maxL (lv_args 0 av)
theorem ze_start {y : MethodName} {own : String} {w w' : List Cond} {rm : Room} {sz mc ms maxL : Nat} {av : List Value} {cc : ByteArray} {ret : Option FieldType} {Qc : Array Value → State → Outcome → State → Prop} (hy : plainName y.cls = true) (ho : y.cls = own) (hw : w = Cond.code y cc maxL ret :: w') (hn : (lg_sl av).length ≤ maxL)
    (body : ∀ (p : Program) (e : Env) (s : State) (m : MethodId) (below : List Frame) (meth : Method) (cd : Code) (F : Nat → Prop) (ls : Array Slot), va_A ws sz = F → s.heap.size = sz → ze_E p l e s m meth cd cc maxL ret w own av D c ws F ls →
      W p l e rm s m av.toArray below meth cd s.heap [] 0 0 (MQ below Qc av.toArray s mc ms F) (F0 m 0 ls [])) : Met l y w rm (ze_P D c ws sz av) Qc mc ms (va_A ws sz) := by
  refine Met.ofW (cc := cc) (maxL := maxL) (ret := ret) hy hw ?_
  intro p e s m args below meth cd s₁ B hml hv
  obtain ⟨rfl, hsz, hP, hK, hD0⟩ := hv
  subst ho
  rw [lg_entry_eq]
  have hD : va_D (va_A ws sz) ws := hD0.self (sz := sz)
  exact body p e s m below meth cd (va_A ws sz) _ rfl hsz ⟨⟨B.exec, B.bytes, hml, findClass_of_methodNamed B.named, atoms_spec (ws := w) B.pre⟩, B.returns, B.notSynchronized, hK, ⟨hP, hD, va_S.rf⟩, fun q h => Or.inr (by rw [← hsz]; exact h), lv_entry av hn⟩
theorem ze_end {sz : Nat} {ws2 : va_W} (hF : va_A ws sz = F) (hK : va_K D vwCl (ze_ty c) s) (hW : ze_W D ws2 F s.heap H locs) {t : State} (ht : t.heap = H) (hWm : s.WarmedH t.vm) : ze_O D c ws2 (va_A ws sz) t ∧ va_F (va_A ws sz) s t := by
  subst hF
  exact ⟨⟨by rw [ht]; exact hW.1, va_K.moved hWm.alike hK, hW.2.1⟩, hW.2.2.F ht⟩
theorem ze_iret {sz : Nat} {ws2 ws3 : va_W} {ret : FieldType} {maxL : Nat} {Ts : List Cond} {own : String} {r v : Int32} {mc ms : Nat} (S : CallFix p m cd cc maxL s args Ts own) (hr : meth.sig.returnType = some ret) (hlocks : meth.locks = false) (hF : va_A ws sz = F) (hK : va_K D vwCl (ze_ty c) s) (hW : ze_W D ws2 F s.heap H locs) (hn : narrow ret (.int r) = .int r) (hdg : decode cc pc = .ok (.ireturn, 1)) (hc : cells ≤ mc) (hs : slots ≤ ms) (hv : r = v) (hw2 : ws2 = ws3) :
    W p l e R s m args below meth cd H locs cells slots (MQ below (ze_Qi D c ws sz v ws3) args s mc ms F) (F0 m pc ls [.int r]) := by
  obtain ⟨hx, hb, hml, hown, hts⟩ := S
  subst hw2
  refine W.widen (k := mc) (n := ms) hc hs ?_
  exact W.zret hx hb hr hn (fun t ht hWm => ⟨⟨r, (), rfl, hv, (ze_end hF hK hW ht hWm).1⟩, (ze_end hF hK hW ht hWm).2⟩) hW.2.2.2.2 hdg hlocks
theorem ze_lret {sz : Nat} {ws2 ws3 : va_W} {maxL : Nat} {Ts : List Cond} {own : String} {r v : Int64} {mc ms : Nat} (S : CallFix p m cd cc maxL s args Ts own) (hr : meth.sig.returnType = some .long) (hlocks : meth.locks = false) (hF : va_A ws sz = F) (hK : va_K D vwCl (ze_ty c) s) (hW : ze_W D ws2 F s.heap H locs) (hdg : decode cc pc = .ok (.lreturn, 1)) (hc : cells ≤ mc) (hs : slots ≤ ms) (hv : r = v) (hw2 : ws2 = ws3) :
    W p l e R s m args below meth cd H locs cells slots (MQ below (ze_Ql D c ws sz v ws3) args s mc ms F) (F0 m pc ls [.long r]) := by
  obtain ⟨hx, hb, hml, hown, hts⟩ := S
  subst hw2
  refine W.widen (k := mc) (n := ms) hc hs ?_
  exact W.lret hx hb hr (fun t ht hWm => ⟨⟨r, (), rfl, hv, (ze_end hF hK hW ht hWm).1⟩, (ze_end hF hK hW ht hWm).2⟩) hW.2.2.2.2 hdg hlocks
theorem ze_fret {sz : Nat} {ws2 ws3 : va_W} {maxL : Nat} {Ts : List Cond} {own : String} {r v : UInt32} {mc ms : Nat} (S : CallFix p m cd cc maxL s args Ts own) (hr : meth.sig.returnType = some .float) (hlocks : meth.locks = false) (hF : va_A ws sz = F) (hK : va_K D vwCl (ze_ty c) s) (hW : ze_W D ws2 F s.heap H locs) (hdg : decode cc pc = .ok (.freturn, 1)) (hc : cells ≤ mc) (hs : slots ≤ ms) (hv : r = v) (hw2 : ws2 = ws3) :
    W p l e R s m args below meth cd H locs cells slots (MQ below (ze_Qf D c ws sz v ws3) args s mc ms F) (F0 m pc ls [.float r]) := by
  obtain ⟨hx, hb, hml, hown, hts⟩ := S
  subst hw2
  refine W.widen (k := mc) (n := ms) hc hs ?_
  exact W.fret hx hb hr (fun t ht hWm => ⟨⟨r, (), rfl, hv, (ze_end hF hK hW ht hWm).1⟩, (ze_end hF hK hW ht hWm).2⟩) hW.2.2.2.2 hdg hlocks
theorem ze_vret {sz : Nat} {ws2 ws3 : va_W} {maxL : Nat} {Ts : List Cond} {own : String} {mc ms : Nat} (S : CallFix p m cd cc maxL s args Ts own) (hr : meth.sig.returnType = none) (hlocks : meth.locks = false) (hF : va_A ws sz = F) (hK : va_K D vwCl (ze_ty c) s) (hW : ze_W D ws2 F s.heap H locs) (hdg : decode cc pc = .ok (.return_, 1)) (hc : cells ≤ mc) (hs : slots ≤ ms) (hw2 : ws2 = ws3) :
    W p l e R s m args below meth cd H locs cells slots (MQ below (ze_Qv D c ws sz ws3) args s mc ms F) (F0 m pc ls []) := by
  obtain ⟨hx, hb, hml, hown, hts⟩ := S
  subst hw2
  refine W.widen (k := mc) (n := ms) hc hs ?_
  exact W.vret hx hb hr (fun t ht hWm => ⟨⟨(), rfl, trivial, (ze_end hF hK hW ht hWm).1⟩, (ze_end hF hK hW ht hWm).2⟩) hW.2.2.2.2 hdg hlocks
/-- a field is read -/
theorem ze_get {own C : String} {T : u_T} {N ci idx maxL : Nat} {Ts : List Cond} (S : CallFix p m cd cc maxL s args Ts own) (hin : ∀ w ∈ u_ws C T N, w ∈ Ts) (hK : va_K D vwCl (ze_ty c) s) (hW : ze_W D ws F H0 H locs) (q0 : Nat) {fs : List Value} (he : ws[q0]? = some (a, .inr (ci, fs))) (hc : vwCl[ci]? = some (C, T, N)) (k : Nat) (hk : k < N) {v : Value} (hv : fs[k]? = some v) (hlink : (Cond.fieldLink own idx (T k).1 (T k).2.1 (T k).2.2.1).before args s = true) (hdg : decode cc pc = .ok (.getfield idx, 3))
    (kk : W p l e R s m args below meth cd H locs cells slots Q (F0 m (pc + 3) ls (v :: rest))) : W p l e R s m args below meth cd H locs cells slots Q (F0 m pc ls (.ref a :: rest)) :=
  va_get S.1 S.2.1 S.2.2.2.2 hin S.2.2.2.1 hK hW.1 q0 he hc k hk hlink (fun _ h9 => h9) hv hdg kk
/-- a field is written -/
theorem ze_put {own C : String} {T : u_T} {N ci idx maxL : Nat} {Ts : List Cond} (S : CallFix p m cd cc maxL s args Ts own) (hin : ∀ w ∈ u_ws C T N, w ∈ Ts) (ty0 : Nat → FieldType) (hty : ∀ k, k < N → parseFieldDescriptor (T k).2.2.1 = some (ty0 k)) (hnm : ∀ a, a < N → ∀ b, b < N → a ≠ b → (T a).2.1 ≠ (T b).2.1) (hK : va_K D vwCl (ze_ty c) s) (hW : ze_W D ws F H0 H locs) (q0 : Nat) {fs : List Value} (he : ws[q0]? = some (a, .inr (ci, fs))) (hc : vwCl[ci]? = some (C, T, N)) (k : Nat) (hk : k < N) {v : Value} (hl : k < fs.length) (hfin : (T k).2.2.2 = false) (hn : narrow (ty0 k) v = v) (hfit : fits (ty0 k) v = true) (hlink : (Cond.fieldLink own idx (T k).1 (T k).2.1 (T k).2.2.1).before args s = true) (hdg : decode cc pc = .ok (.putfield idx, 3))
    {ws2 : va_W} (h2 : ws.set q0 (a, .inr (ci, fs.set k v)) = ws2) (kk : ∀ (H1 : Heap) (locs1 : List Loc), ze_W D ws2 F H0 H1 locs1 → W p l e R s m args below meth cd H1 locs1 cells slots Q (F0 m (pc + 3) ls rest)) : W p l e R s m args below meth cd H locs cells slots Q (F0 m pc ls (v :: .ref a :: rest)) := by
  subst h2
  exact va_put S.1 S.2.1 S.2.2.2.2 hin ty0 hty hnm S.2.2.2.1 hK hW.1 hW.2.1 hW.2.2 q0 he hc k hk hlink (fun _ h9 => h9) hfin (hty k hk) hn hfit hl hdg (fun H1 locs1 hP hD hS => kk H1 locs1 ⟨hP, hD, hS⟩)
/-- a place of an int row is read: by any number within, by a counted one -/
theorem ze_iald (hx : p.tables.exec = Jvm.exec) (hb : cd.code = cc) (hK : va_K D vwCl (ze_ty c) s) (hW : ze_W D ws F H0 H locs) (q0 : Nat) {N : Nat} {f : Nat → Int32} (ha : ws[q0]? = some (a, .inl (c 0, N, .inl f))) {i : Int32} (hin : vp_in i N) (hdg : decode cc pc = .ok (.iaload, 1))
    (kk : W p l e R s m args below meth cd H locs cells slots Q (F0 m (pc + 1) ls (.int (f (ze_ix i)) :: rest))) : W p l e R s m args below meth cd H locs cells slots Q (F0 m pc ls (.int i :: .ref a :: rest)) := va_iald hx hb hK hW.1 q0 0 ha rfl hin hdg kk
theorem ze_ialdN (hx : p.tables.exec = Jvm.exec) (hb : cd.code = cc) (hK : va_K D vwCl (ze_ty c) s) (hW : ze_W D ws F H0 H locs) (q0 : Nat) {N : Nat} {f : Nat → Int32} (ha : ws[q0]? = some (a, .inl (c 0, N, .inl f))) {i : Nat} (hi : i < N) (hN : N < 2 ^ 31) (hdg : decode cc pc = .ok (.iaload, 1))
    (kk : W p l e R s m args below meth cd H locs cells slots Q (F0 m (pc + 1) ls (.int (f i) :: rest))) : W p l e R s m args below meth cd H locs cells slots Q (F0 m pc ls (.int (nI i) :: .ref a :: rest)) := by
  refine va_iald hx hb hK hW.1 q0 0 ha rfl (vp_in_nI hi hN) hdg ?_
  rw [nI_clamp (by omega)]
  exact kk
theorem ze_zaldN (hx : p.tables.exec = Jvm.exec) (hb : cd.code = cc) (hK : va_K D vwCl (ze_ty c) s) (hW : ze_W D ws F H0 H locs) (q0 : Nat) {N : Nat} {f : Nat → Int32} (ha : ws[q0]? = some (a, .inl (c 1, N, .inl f))) {i : Nat} (hi : i < N) (hN : N < 2 ^ 31) (hdg : decode cc pc = .ok (.baload, 1))
    (kk : W p l e R s m args below meth cd H locs cells slots Q (F0 m (pc + 1) ls (.int (f i) :: rest))) : W p l e R s m args below meth cd H locs cells slots Q (F0 m pc ls (.int (nI i) :: .ref a :: rest)) := by
  refine va_zald hx hb hK hW.1 q0 1 ha rfl (vp_in_nI hi hN) hdg ?_
  rw [nI_clamp (by omega)]
  exact kk
theorem ze_iastN (hx : p.tables.exec = Jvm.exec) (hb : cd.code = cc) (hK : va_K D vwCl (ze_ty c) s) (hW : ze_W D ws F H0 H locs) (q0 : Nat) {N : Nat} {f : Nat → Int32} (ha : ws[q0]? = some (a, .inl (c 0, N, .inl f))) {i : Nat} {x : Int32} (hi : i < N) (hN : N < 2 ^ 31) (hdg : decode cc pc = .ok (.iastore, 1))
    {ws2 : va_W} (h2 : ws.set q0 (a, .inl (c 0, N, .inl (upd f i x))) = ws2) (kk : ∀ (H1 : Heap) (locs1 : List Loc), ze_W D ws2 F H0 H1 locs1 → W p l e R s m args below meth cd H1 locs1 cells slots Q (F0 m (pc + 1) ls rest)) : W p l e R s m args below meth cd H locs cells slots Q (F0 m pc ls (.int x :: .int (nI i) :: .ref a :: rest)) := by
  subst h2
  refine va_iast hx hb hK hW.1 hW.2.1 hW.2.2 q0 0 ha rfl (vp_in_nI hi hN) hdg (fun H1 locs1 hP hD hS => ?_)
  rw [nI_clamp (by omega)] at hP hD
  exact kk H1 locs1 ⟨hP, hD, hS⟩
theorem ze_iast (hx : p.tables.exec = Jvm.exec) (hb : cd.code = cc) (hK : va_K D vwCl (ze_ty c) s) (hW : ze_W D ws F H0 H locs) (q0 : Nat) {N : Nat} {f : Nat → Int32} (ha : ws[q0]? = some (a, .inl (c 0, N, .inl f))) {i : Int32} {x : Int32} (hin : vp_in i N) (hdg : decode cc pc = .ok (.iastore, 1))
    {ws2 : va_W} (h2 : ws.set q0 (a, .inl (c 0, N, .inl (upd f (ze_ix i) x))) = ws2) (kk : ∀ (H1 : Heap) (locs1 : List Loc), ze_W D ws2 F H0 H1 locs1 → W p l e R s m args below meth cd H1 locs1 cells slots Q (F0 m (pc + 1) ls rest)) : W p l e R s m args below meth cd H locs cells slots Q (F0 m pc ls (.int x :: .int i :: .ref a :: rest)) := by
  subst h2
  exact va_iast hx hb hK hW.1 hW.2.1 hW.2.2 q0 0 ha rfl hin hdg (fun H1 locs1 hP hD hS => kk H1 locs1 ⟨hP, hD, hS⟩)
theorem ze_zastN (hx : p.tables.exec = Jvm.exec) (hb : cd.code = cc) (hK : va_K D vwCl (ze_ty c) s) (hW : ze_W D ws F H0 H locs) (q0 : Nat) {N : Nat} {f : Nat → Int32} (ha : ws[q0]? = some (a, .inl (c 1, N, .inl f))) {i : Nat} {x : Int32} (hi : i < N) (hN : N < 2 ^ 31) (hn : vp_nar .boolean x = x) (hdg : decode cc pc = .ok (.bastore, 1))
    {ws2 : va_W} (h2 : ws.set q0 (a, .inl (c 1, N, .inl (upd f i x))) = ws2) (kk : ∀ (H1 : Heap) (locs1 : List Loc), ze_W D ws2 F H0 H1 locs1 → W p l e R s m args below meth cd H1 locs1 cells slots Q (F0 m (pc + 1) ls rest)) : W p l e R s m args below meth cd H locs cells slots Q (F0 m pc ls (.int x :: .int (nI i) :: .ref a :: rest)) := by
  subst h2
  refine va_zast hx hb hK hW.1 hW.2.1 hW.2.2 q0 1 ha rfl (vp_in_nI hi hN) hdg (fun H1 locs1 hP hD hS => ?_)
  rw [nI_clamp (by omega), hn] at hP hD
  exact kk H1 locs1 ⟨hP, hD, hS⟩
/-- a place of a row of references is read -/
theorem ze_aldN (hx : p.tables.exec = Jvm.exec) (hb : cd.code = cc) (hK : va_K D vwCl (ze_ty c) s) (hW : ze_W D ws F H0 H locs) (q0 t0 : Nat) {cA : ClassId} {C : String} {ad : Nat → Nat} {N o M : Nat} (ha : ws[q0]? = some (a, .inl (cA, M, .inr (.inr (.inr (.inr (ze_rw ad o N))))))) (ht : (ze_ty c)[t0]? = some (cA, .object C)) {i : Nat} (hi : i < N) (hiM : i < M) (hM : M < 2 ^ 31) (hdg : decode cc pc = .ok (.aaload, 1))
    (kk : W p l e R s m args below meth cd H locs cells slots Q (F0 m (pc + 1) ls (.ref (ad (o + i)) :: rest))) : W p l e R s m args below meth cd H locs cells slots Q (F0 m pc ls (.int (nI i) :: .ref a :: rest)) := by
  refine va_aldq hx hb hK hW.1 q0 t0 ha ht (vp_in_nI hiM hM) hdg ?_
  rw [nI_clamp (by omega)]
  simp only [ze_rw, if_pos hi, va_rf]
  exact kk
/-! calls: the whole world goes in, a whole world comes back -/
theorem ze_calli {F2 : Nat → Prop} {ws2 : va_W} {v : Int32} {mc ms : Nat} {st0 : List Value} {av : Array Value} (hr : va_Run p l e R s m args below meth cd H locs cells slots mc ms (F0 m pc ls st0) rest (va_Qi (fun r (_ : Unit) => r = v) (fun _ t => ze_O D c ws2 (va_A ws H.size) t) (va_A ws H.size) av) (va_A ws H.size)) (hW : ze_W D ws F H0 H locs) (hA : ∀ q : Nat, H0.size ≤ q → F q)
    (kk : ∀ (H1 : Heap) (locs1 : List Loc), ze_W D ws2 F H0 H1 locs1 → W p l e R s m args below meth cd H1 locs1 (cells + mc) (slots + ms) Q (F0 m (pc + 3) ls (.int v :: rest))) : W p l e R s m args below meth cd H locs cells slots Q (F0 m pc ls st0) := by
  have hf : ∀ q, va_A ws H.size q → F q := fun q h => by
    rcases h with ⟨k, e, h⟩ | h
    · exact hW.2.1.2 k (q, e) h
    · exact hA q (Nat.le_trans hW.2.2.1 h)
  refine va_calli hr hW.2.2 (fun q _ h => hf q h) hf (fun r u t H1 locs1 ht hvm hw hB hz1 hk1 hS => ?_)
  subst hw
  obtain ⟨hP1, hK1, hD1⟩ := hB
  rw [ht] at hP1
  exact kk H1 locs1 ⟨hP1, hD1.weaken (fun k q _ h => hf q.1 h), hS⟩
theorem ze_calll {F2 : Nat → Prop} {ws2 : va_W} {v : Int64} {mc ms : Nat} {st0 : List Value} {av : Array Value} (hr : va_Run p l e R s m args below meth cd H locs cells slots mc ms (F0 m pc ls st0) rest (va_Ql (fun r (_ : Unit) => r = v) (fun _ t => ze_O D c ws2 (va_A ws H.size) t) (va_A ws H.size) av) (va_A ws H.size)) (hW : ze_W D ws F H0 H locs) (hA : ∀ q : Nat, H0.size ≤ q → F q)
    (kk : ∀ (H1 : Heap) (locs1 : List Loc), ze_W D ws2 F H0 H1 locs1 → W p l e R s m args below meth cd H1 locs1 (cells + mc) (slots + ms) Q (F0 m (pc + 3) ls (.long v :: rest))) : W p l e R s m args below meth cd H locs cells slots Q (F0 m pc ls st0) := by
  have hf : ∀ q, va_A ws H.size q → F q := fun q h => by
    rcases h with ⟨k, e, h⟩ | h
    · exact hW.2.1.2 k (q, e) h
    · exact hA q (Nat.le_trans hW.2.2.1 h)
  refine va_calll hr hW.2.2 (fun q _ h => hf q h) hf (fun r u t H1 locs1 ht hvm hw hB hz1 hk1 hS => ?_)
  subst hw
  obtain ⟨hP1, hK1, hD1⟩ := hB
  rw [ht] at hP1
  exact kk H1 locs1 ⟨hP1, hD1.weaken (fun k q _ h => hf q.1 h), hS⟩
theorem ze_callv {F2 : Nat → Prop} {ws2 : va_W} {mc ms : Nat} {st0 : List Value} {av : Array Value} (hr : va_Run p l e R s m args below meth cd H locs cells slots mc ms (F0 m pc ls st0) rest (va_Qv (fun (_ : Unit) => True) (fun _ t => ze_O D c ws2 (va_A ws H.size) t) (va_A ws H.size) av) (va_A ws H.size)) (hW : ze_W D ws F H0 H locs) (hA : ∀ q : Nat, H0.size ≤ q → F q)
    (kk : ∀ (H1 : Heap) (locs1 : List Loc), ze_W D ws2 F H0 H1 locs1 → W p l e R s m args below meth cd H1 locs1 (cells + mc) (slots + ms) Q (F0 m (pc + 3) ls rest)) : W p l e R s m args below meth cd H locs cells slots Q (F0 m pc ls st0) := by
  have hf : ∀ q, va_A ws H.size q → F q := fun q h => by
    rcases h with ⟨k, e, h⟩ | h
    · exact hW.2.1.2 k (q, e) h
    · exact hA q (Nat.le_trans hW.2.2.1 h)
  refine va_callv hr hW.2.2 (fun q _ h => hf q h) hf (fun u t H1 locs1 ht hvm hw hB hz1 hk1 hS => ?_)
  obtain ⟨hP1, hK1, hD1⟩ := hB
  rw [ht] at hP1
  exact kk H1 locs1 ⟨hP1, hD1.weaken (fun k q _ h => hf q.1 h), hS⟩
/-- the receiver stands in the world -/
theorem ze_preV {ci q0 b : Nat} {fs : List Value} {k : vw_C} {As : List Value} (hK : va_K D vwCl (ze_ty c) s) (hW : ze_W D ws F H0 H locs) (hc : vwCl[ci]? = some k) (he : ws[q0]? = some (b, .inr (ci, fs))) : PreV s H k.1 b (ze_P D c ws H.size (.ref b :: As)) As :=
  ⟨ze_blind D c ws H.size (.ref b :: As), va_recv hK hW.1 hc he, fun U hU hWm => ⟨rfl, by rw [hU], by rw [hU]; exact hW.1, va_K.moved hWm.alike hK, hW.2.1.weaken (fun _ _ _ _ => trivial)⟩⟩
theorem ze_preS {As : List Value} (hK : va_K D vwCl (ze_ty c) s) (hW : ze_W D ws F H0 H locs) : PreS s H (ze_P D c ws H.size As) As :=
  ⟨ze_blind D c ws H.size As, fun U hU hWm => ⟨rfl, by rw [hU], by rw [hU]; exact hW.1, va_K.moved hWm.alike hK, hW.2.1.weaken (fun _ _ _ _ => trivial)⟩⟩
theorem ze_Vi {y : MethodName} {bytes : ByteArray} {maxL nL mc ms n index fr lo ci q0 b : Nat} {ret : Option FieldType} {w Ts : List Cond} {own : String} {k : vw_C} {fs As : List Value} {ws2 : va_W} {v : Int32} {st0 : List Value} (S : CallFix p m cd cc nL s args Ts own) (hM : ze_I l y w fr lo mc ms D c ws (.ref b :: As) v ws2) (cw : CallW R s args own k.1 index y bytes maxL ret w { frames := fr, cells := mc, slots := ms, locals := lo } mc ms n) (hK : va_K D vwCl (ze_ty c) s) (hW : ze_W D ws F H0 H locs) (hA : ∀ q : Nat, H0.size ≤ q → F q) (hc : vwCl[ci]? = some k) (he : ws[q0]? = some (b, .inr (ci, fs))) (hn : As.length = n) (hsize : ls.size = nL) (hst : st0 = As.reverse ++ .ref b :: rest) (hrm : 2 * (F0 m pc ls rest).monitorRoom + (rest.map fun v => v.category).sum ≤ 8) (hdg : decode cc pc = .ok (.invokevirtual index, 3)) (hf : cells + mc ≤ R.cells ∧ slots + ms ≤ R.slots)
    (kk : ∀ (H1 : Heap) (locs1 : List Loc), ze_W D ws2 F H0 H1 locs1 → W p l e R s m args below meth cd H1 locs1 (cells + mc) (slots + ms) Q (F0 m (pc + 3) ls (.int v :: rest))) : W p l e R s m args below meth cd H locs cells slots Q (F0 m pc ls st0) :=
  ze_calli (F2 := F) (va_runV (As := As) (rest := rest) S (hM H.size) cw (ze_preV hK hW hc he) rfl hn hsize hst hrm hdg hf) hW hA kk
theorem ze_Vl {y : MethodName} {bytes : ByteArray} {maxL nL mc ms n index fr lo ci q0 b : Nat} {ret : Option FieldType} {w Ts : List Cond} {own : String} {k : vw_C} {fs As : List Value} {ws2 : va_W} {v : Int64} {st0 : List Value} (S : CallFix p m cd cc nL s args Ts own) (hM : ze_L l y w fr lo mc ms D c ws (.ref b :: As) v ws2) (cw : CallW R s args own k.1 index y bytes maxL ret w { frames := fr, cells := mc, slots := ms, locals := lo } mc ms n) (hK : va_K D vwCl (ze_ty c) s) (hW : ze_W D ws F H0 H locs) (hA : ∀ q : Nat, H0.size ≤ q → F q) (hc : vwCl[ci]? = some k) (he : ws[q0]? = some (b, .inr (ci, fs))) (hn : As.length = n) (hsize : ls.size = nL) (hst : st0 = As.reverse ++ .ref b :: rest) (hrm : 2 * (F0 m pc ls rest).monitorRoom + (rest.map fun v => v.category).sum ≤ 8) (hdg : decode cc pc = .ok (.invokevirtual index, 3)) (hf : cells + mc ≤ R.cells ∧ slots + ms ≤ R.slots)
    (kk : ∀ (H1 : Heap) (locs1 : List Loc), ze_W D ws2 F H0 H1 locs1 → W p l e R s m args below meth cd H1 locs1 (cells + mc) (slots + ms) Q (F0 m (pc + 3) ls (.long v :: rest))) : W p l e R s m args below meth cd H locs cells slots Q (F0 m pc ls st0) :=
  ze_calll (F2 := F) (va_runV (As := As) (rest := rest) S (hM H.size) cw (ze_preV hK hW hc he) rfl hn hsize hst hrm hdg hf) hW hA kk
theorem ze_Vv {y : MethodName} {bytes : ByteArray} {maxL nL mc ms n index fr lo ci q0 b : Nat} {ret : Option FieldType} {w Ts : List Cond} {own : String} {k : vw_C} {fs As : List Value} {ws2 : va_W} {st0 : List Value} (S : CallFix p m cd cc nL s args Ts own) (hM : ze_V l y w fr lo mc ms D c ws (.ref b :: As) ws2) (cw : CallW R s args own k.1 index y bytes maxL ret w { frames := fr, cells := mc, slots := ms, locals := lo } mc ms n) (hK : va_K D vwCl (ze_ty c) s) (hW : ze_W D ws F H0 H locs) (hA : ∀ q : Nat, H0.size ≤ q → F q) (hc : vwCl[ci]? = some k) (he : ws[q0]? = some (b, .inr (ci, fs))) (hn : As.length = n) (hsize : ls.size = nL) (hst : st0 = As.reverse ++ .ref b :: rest) (hrm : 2 * (F0 m pc ls rest).monitorRoom + (rest.map fun v => v.category).sum ≤ 8) (hdg : decode cc pc = .ok (.invokevirtual index, 3)) (hf : cells + mc ≤ R.cells ∧ slots + ms ≤ R.slots)
    (kk : ∀ (H1 : Heap) (locs1 : List Loc), ze_W D ws2 F H0 H1 locs1 → W p l e R s m args below meth cd H1 locs1 (cells + mc) (slots + ms) Q (F0 m (pc + 3) ls rest)) : W p l e R s m args below meth cd H locs cells slots Q (F0 m pc ls st0) :=
  ze_callv (F2 := F) (va_runV (As := As) (rest := rest) S (hM H.size) cw (ze_preV hK hW hc he) rfl hn hsize hst hrm hdg hf) hW hA kk
theorem ze_Si {y : MethodName} {bytes : ByteArray} {maxL nL mc ms n index fr lo : Nat} {ret : Option FieldType} {w Ts : List Cond} {own : String} {As : List Value} {ws2 : va_W} {v : Int32} {st0 : List Value} (S : CallFix p m cd cc nL s args Ts own) (hM : ze_I l y w fr lo mc ms D c ws As v ws2) (cw : CallB R s args own index y bytes maxL ret w { frames := fr, cells := mc, slots := ms, locals := lo } mc ms n ∧ (Cond.static y).before args s = true) (hK : va_K D vwCl (ze_ty c) s) (hW : ze_W D ws F H0 H locs) (hA : ∀ q : Nat, H0.size ≤ q → F q) (hn : As.length = n) (hsize : ls.size = nL) (hst : st0 = As.reverse ++ rest) (hrm : 2 * (F0 m pc ls rest).monitorRoom + (rest.map fun v => v.category).sum ≤ 8) (hdg : decode cc pc = .ok (.invokestatic index, 3)) (hf : cells + mc ≤ R.cells ∧ slots + ms ≤ R.slots)
    (kk : ∀ (H1 : Heap) (locs1 : List Loc), ze_W D ws2 F H0 H1 locs1 → W p l e R s m args below meth cd H1 locs1 (cells + mc) (slots + ms) Q (F0 m (pc + 3) ls (.int v :: rest))) : W p l e R s m args below meth cd H locs cells slots Q (F0 m pc ls st0) :=
  ze_calli (F2 := F) (va_runS (As := As) (rest := rest) S (hM H.size) cw (ze_preS hK hW) rfl hn hsize hst hrm hdg hf) hW hA kk
/-! Math.min, max, abs -/
theorem ze_min {maxL idx : Nat} {Ts : List Cond} {own : String} (S : CallFix p m cd cc maxL s args Ts own) (hsize : ls.size = maxL) (h1 : (Cond.methodLink own idx Lib.Math.min.name).before args s = true) (h2 : (Cond.static Lib.Math.min.name).before args s = true) (h3 : (Cond.initialized "java/lang/Math").before args s = true) (h4 : (Cond.code Lib.Math.min.name Lib.Math.min.code 2 (some .int)).before args s = true) (hR : 1 ≤ R.frames ∧ (rest.map fun v => v.category).sum + 13 ≤ R.locals ∧ cells ≤ R.cells ∧ slots ≤ R.slots) {x y : Int32} (hdg : decode cc pc = .ok (.invokestatic idx, 3))
    (kk : W p l e R s m args below meth cd H locs cells slots Q (F0 m (pc + 3) ls (.int (ze_mn x y) :: rest))) : W p l e R s m args below meth cd H locs cells slots Q (F0 m pc ls (.int y :: .int x :: rest)) := va_mmin S.1 S.2.1 (S.2.2.1.trans hsize.symm) S.2.2.2.1 h1 h2 h3 h4 hR.1 hR.2.1 hR.2.2.1 hR.2.2.2 hdg kk
theorem ze_max {maxL idx : Nat} {Ts : List Cond} {own : String} (S : CallFix p m cd cc maxL s args Ts own) (hsize : ls.size = maxL) (h1 : (Cond.methodLink own idx Lib.Math.max.name).before args s = true) (h2 : (Cond.static Lib.Math.max.name).before args s = true) (h3 : (Cond.initialized "java/lang/Math").before args s = true) (h4 : (Cond.code Lib.Math.max.name Lib.Math.max.code 2 (some .int)).before args s = true) (hR : 1 ≤ R.frames ∧ (rest.map fun v => v.category).sum + 13 ≤ R.locals ∧ cells ≤ R.cells ∧ slots ≤ R.slots) {x y : Int32} (hdg : decode cc pc = .ok (.invokestatic idx, 3))
    (kk : W p l e R s m args below meth cd H locs cells slots Q (F0 m (pc + 3) ls (.int (ze_mx x y) :: rest))) : W p l e R s m args below meth cd H locs cells slots Q (F0 m pc ls (.int y :: .int x :: rest)) := va_mmax S.1 S.2.1 (S.2.2.1.trans hsize.symm) S.2.2.2.1 h1 h2 h3 h4 hR.1 hR.2.1 hR.2.2.1 hR.2.2.2 hdg kk
theorem ze_abs {maxL idx : Nat} {Ts : List Cond} {own : String} (S : CallFix p m cd cc maxL s args Ts own) (hsize : ls.size = maxL) (h1 : (Cond.methodLink own idx Lib.Math.abs.name).before args s = true) (h2 : (Cond.static Lib.Math.abs.name).before args s = true) (h3 : (Cond.initialized "java/lang/Math").before args s = true) (h4 : (Cond.code Lib.Math.abs.name Lib.Math.abs.code 1 (some .int)).before args s = true) (hR : 1 ≤ R.frames ∧ (rest.map fun v => v.category).sum + 13 ≤ R.locals ∧ cells ≤ R.cells ∧ slots ≤ R.slots) {x : Int32} (hdg : decode cc pc = .ok (.invokestatic idx, 3))
    (kk : W p l e R s m args below meth cd H locs cells slots Q (F0 m (pc + 3) ls (.int (ze_ab x) :: rest))) : W p l e R s m args below meth cd H locs cells slots Q (F0 m pc ls (.int x :: rest)) := va_mabs S.1 S.2.1 (S.2.2.1.trans hsize.symm) S.2.2.2.1 h1 h2 h3 h4 hR.1 hR.2.1 hR.2.2.1 hR.2.2.2 hdg kk
end ZE
theorem ze_top {p : Program} {l : Launch} {e : Env} {R : Room} {s : State} {m : MethodId} {args : Array Value} {below : List Frame} {meth : Method} {cd : Code} {H : Heap} {locs : List Loc} {cells slots : Nat} {Q : State → Prop} {pc : Nat} {ls : Array Slot} {rest : List Value} {x y : Int32} (h : x = y) (k : W p l e R s m args below meth cd H locs cells slots Q (F0 m pc ls (.int y :: rest))) : W p l e R s m args below meth cd H locs cells slots Q (F0 m pc ls (.int x :: rest)) := by
  subst h
  exact k
theorem ze_inc (i : Nat) : nI i + Int32.ofInt 1 = nI (i + 1) := nI_1 i
theorem ze_b1 {P : Prop} [Decidable P] (h : P) : (1 : Int32) = ze_b P := by simp [ze_b, h]
theorem ze_b0 {P : Prop} [Decidable P] (h : ¬ P) : (0 : Int32) = ze_b P := by simp [ze_b, h]
theorem ze_bt {P : Prop} [Decidable P] (h : ¬ ze_b P = 0) : P := by
  unfold ze_b at h
  split at h
  · assumption
  · exact absurd rfl h
theorem ze_bf {P : Prop} [Decidable P] (h : ze_b P = 0) : ¬ P := by
  intro hp
  unfold ze_b at h
  rw [if_pos hp] at h
  exact absurd h (by decide)
theorem ze_narb {P : Prop} [Decidable P] : narrow .boolean (.int (ze_b P)) = .int (ze_b P) := by
  unfold ze_b
  split <;> rfl
theorem ze_thP {P : Prop} [Decidable P] {y : Int32} : (if ze_b P = 0 then 0 else y) = if P then y else 0 := by
  by_cases h : P
  · rw [if_pos h, if_neg (by simp [ze_b, h])]
  · rw [if_neg h, if_pos (by simp [ze_b, h])]
theorem ze_ntf {x : Int32} (h : ze_nt x = 0) : ¬ x = 0 := by
  intro hx
  rw [ze_nt, if_pos hx] at h
  exact absurd h (by decide)
theorem ze_ntt {x : Int32} (h : ¬ ze_nt x = 0) : x = 0 := by
  by_cases hx : x = 0
  · exact hx
  · rw [ze_nt, if_neg hx] at h
    exact absurd rfl h
theorem ze_e1 (A : Nat → Nat → Int32) (k : Nat) (f : Nat → Int32) (i : Nat) (v : Int32) : ze_sE (ze_sA A k f) k i v = ze_sA A k (upd f i v) := by
  funext r
  by_cases h : r = k <;> simp [ze_sE, ze_sA, h]
theorem ze_e2 {A : Nat → Nat → Int32} {j k : Nat} {g : Nat → Int32} {i : Nat} {v : Int32} (h : j ≠ k) : ze_sE (ze_sA A j g) k i v = ze_sA (ze_sE A k i v) j g := by
  funext r
  by_cases h1 : r = k
  · subst h1
    simp [ze_sE, ze_sA, Ne.symm h]
  · by_cases h2 : r = j <;> simp [ze_sE, ze_sA, h1, h2, h]
theorem ze_e3 (A : Nat → Nat → Int32) (k i : Nat) (v : Int32) : ze_sE A k i v = ze_sA A k (upd (A k) i v) := rfl
theorem ze_sAid (A : Nat → Nat → Int32) (k : Nat) : ze_sA A k (A k) = A := by
  funext r
  by_cases h : r = k
  · subst h
    simp [ze_sA]
  · simp [ze_sA, h]
theorem ze_sAid1 {A : Nat → Nat → Int32} {j k : Nat} {g : Nat → Int32} (h : k ≠ j) : ze_sA (ze_sA A j g) k (A k) = ze_sA A j g := by
  funext r
  by_cases h1 : r = k
  · subst h1
    simp [ze_sA, h]
  · simp [ze_sA, h1]
theorem ze_sAid2 (A : Nat → Nat → Int32) (k : Nat) : ze_sA A k (A k) = A := ze_sAid A k
theorem ze_sAid2b {A : Nat → Nat → Int32} {i j k l : Nat} {f g : Nat → Int32} (h1 : k ≠ i) (h2 : k ≠ j) (h3 : l ≠ i) (h4 : l ≠ j) : ze_sA (ze_sA (ze_sA (ze_sA A i f) j g) k (A k)) l (A l) = ze_sA (ze_sA A i f) j g := by
  funext r
  by_cases q1 : r = l
  · subst q1
    simp [ze_sA, h3, h4]
  · by_cases q2 : r = k
    · subst q2
      simp [ze_sA, h1, h2, q1]
    · simp [ze_sA, q1, q2]
theorem ze_sAid3 {A : Nat → Nat → Int32} {f g h : Nat → Int32} (h1 : A 12 = f) (h2 : A 11 = g) (h3 : A 13 = h) : ze_sA (ze_sA (ze_sA A 12 f) 11 g) 13 h = A := by
  subst h1 h2 h3
  funext r
  by_cases q1 : r = 13
  · subst q1
    simp [ze_sA]
  · by_cases q2 : r = 11
    · subst q2
      simp [ze_sA]
    · by_cases q3 : r = 12
      · subst q3
        simp [ze_sA]
      · simp [ze_sA, q1, q2, q3]
