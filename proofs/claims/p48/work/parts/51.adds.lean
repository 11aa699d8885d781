/-! ===== one generator, one store, one load more ===== -/
def ze_w1 (c : Nat → ClassId) (a : Nat → Nat) (N0 N1 N2 N3 N4 : Nat) (rg rt rl : Nat → Option Nat) (A : Nat → Nat → Int32) (B : Nat → Int64) (E : Nat → Nat → Int32) : va_W := [(a 0, .inr (8, [.ref (a 1), .ref (a 9), .ref (a 13), .ref (a 15), .ref (a 17), .int (A 28 0), .int (A 29 0), .int (A 30 0)])),
  (a 1, .inr (5, [.int (nI N0), .int (nI N1), .int (A 38 0), .ref (a 2), .ref (a 3), .ref (a 4), .ref (a 5), .ref (a 6), .ref (a 7), .ref (a 8)])),
  (a 2, .inl (c 0, 6, .inl (A 0))), (a 3, .inl (c 0, 6, .inl (E 0))), (a 4, .inl (c 0, 8, .inl (A 2))), (a 5, .inl (c 0, 8, .inl (A 3))), (a 6, .inl (c 1, 8, .inl (A 4))), (a 7, .inl (c 0, 6, .inl (E 1))), (a 8, .inl (c 0, 6, .inl (E 2))),
  (a 9, .inr (0, [.ref (a 1), .ref (a 10), .int (nI N2), .ref (a 11), .ref (a 12)])), (a 10, .inl (c 3, 6, .inr (.inr (.inr (.inr rg))))), (a 11, .inl (c 0, 6, .inl (E 3))), (a 12, .inl (c 0, 6, .inl (E 4))),
  (a 13, .inr (6, [.ref (a 1), .ref (a 14), .int (nI N3)])), (a 14, .inl (c 4, 4, .inr (.inr (.inr (.inr rt))))),
  (a 15, .inr (4, [.ref (a 1), .ref (a 16), .int (nI N4)])), (a 16, .inl (c 5, 10, .inr (.inr (.inr (.inr rl))))),
  (a 17, .inr (2, [.int (A 31 0), .long (B 33), .long (B 34), .long (B 35), .long (B 36), .long (B 37)]))]
theorem ze_w01 (c : Nat → ClassId) (a n : Nat → Nat) (A : Nat → Nat → Int32) (B : Nat → Int64) (E : Nat → Nat → Int32) : ze_w0 c a n A B E = ze_w1 c a (n 0) (n 1) (n 2) (n 3) (n 4) (ze_rw a 20 (n 2)) (ze_rw a 30 (n 3)) (ze_rw a 40 (n 4)) A B E := rfl
/-- the rows that the 18 fixed cells show -/
def zf_sees (A A2 : Nat → Nat → Int32) : Prop := A2 0 = A 0 ∧ A2 2 = A 2 ∧ A2 3 = A 3 ∧ A2 4 = A 4 ∧ A2 28 = A 28 ∧ A2 29 = A 29 ∧ A2 30 = A 30 ∧ A2 31 = A 31 ∧ A2 38 = A 38
theorem ze_w1c {c : Nat → ClassId} {a a2 : Nat → Nat} {N0 N1 N2 N3 N4 : Nat} {rg rt rl : Nat → Option Nat} {A A2 : Nat → Nat → Int32} {B : Nat → Int64} {E : Nat → Nat → Int32} (ha : ∀ i, i < 18 → a2 i = a i) (h : zf_sees A A2) : ze_w1 c a2 N0 N1 N2 N3 N4 rg rt rl A2 B E = ze_w1 c a N0 N1 N2 N3 N4 rg rt rl A B E := by
  obtain ⟨h0, h1, h2, h3, h4, h5, h6, h7, h8⟩ := h
  unfold ze_w1
  rw [h0, h1, h2, h3, h4, h5, h6, h7, h8, ha 0 (by decide), ha 1 (by decide), ha 2 (by decide), ha 3 (by decide), ha 4 (by decide), ha 5 (by decide), ha 6 (by decide), ha 7 (by decide), ha 8 (by decide), ha 9 (by decide), ha 10 (by decide), ha 11 (by decide), ha 12 (by decide), ha 13 (by decide), ha 14 (by decide), ha 15 (by decide), ha 16 (by decide), ha 17 (by decide)]
theorem ze_mapc {f g : Nat → Nat × va_E} {N : Nat} (h : ∀ i, i < N → f i = g i) : (List.range N).map f = (List.range N).map g := List.map_congr_left (fun i hi => h i (List.mem_range.mp hi))
theorem ze_map1 (f : Nat → Nat × va_E) (N : Nat) : (List.range (N + 1)).map f = (List.range N).map f ++ [f N] := by
  rw [List.range_succ, List.map_append]
  rfl
section ZA
variable {D : va_G} {c : Nat → ClassId} {a n : Nat → Nat} {A A2 : Nat → Nat → Int32} {B : Nat → Int64} {E : Nat → Nat → Int32} {F : Nat → Prop} {H0 H : Heap} {locs : List Loc} {q : Nat}
theorem ze_addG (hN : zf_N n) (h6 : n 2 < 6) (hs : zf_sees A A2) (hg : ∀ g, g ≠ n 2 → ze_fG A2 g = ze_fG A g) (hT : ∀ g, ze_fT A2 g = ze_fT A g) (hL : ∀ g, ze_fL A2 g = ze_fL A g)
    (hW : ze_W D (((ze_wC c a n A B E ++ ([(q, .inr (1, ze_fG A2 (n 2)))] : va_W)).set 10 (a 10, .inl (c 3, 6, .inr (.inr (.inr (.inr (va_up (ze_rw a 20 (n 2)) (n 2) (some q)))))))).set 9 (a 9, .inr (0, [.ref (a 1), .ref (a 10), .int (nI (n 2 + 1)), .ref (a 11), .ref (a 12)]))) F H0 H locs) :
    ze_W D (ze_wC c (va_up a (20 + n 2) q) (ze_sn n 2 (n 2 + 1)) A2 B E) F H0 H locs := by
  obtain ⟨hn0, hn1, hn2, hn3, hn4⟩ := hN
  have h1 : ze_W D ((ze_w1 c a (n 0) (n 1) (n 2 + 1) (n 3) (n 4) (va_up (ze_rw a 20 (n 2)) (n 2) (some q)) (ze_rw a 30 (n 3)) (ze_rw a 40 (n 4)) A B E ++ (ze_gs a A (n 2) ++ (ze_ts a A (n 3) ++ ze_ls a A (n 4)))) ++ [(q, .inr (1, ze_fG A2 (n 2)))]) F H0 H locs := hW
  rw [← List.append_assoc] at h1
  have h2 := ze_Wsw h1
  have e0 : ze_w0 c (va_up a (20 + n 2) q) (ze_sn n 2 (n 2 + 1)) A2 B E = ze_w1 c a (n 0) (n 1) (n 2 + 1) (n 3) (n 4) (va_up (ze_rw a 20 (n 2)) (n 2) (some q)) (ze_rw a 30 (n 3)) (ze_rw a 40 (n 4)) A B E := by
    rw [ze_w01, ze_w1c (a := a) (fun i hi => va_up_ne _ _ (by omega)) hs]
    show ze_w1 c a (n 0) (n 1) (n 2 + 1) (n 3) (n 4) (ze_rw (va_up a (20 + n 2) q) 20 (n 2 + 1)) (ze_rw (va_up a (20 + n 2) q) 30 (n 3)) (ze_rw (va_up a (20 + n 2) q) 40 (n 4)) A B E = _
    rw [← ze_rwup, ze_rwne (fun g hg => by omega), ze_rwne (fun g hg => by omega)]
  have e1 : ze_gs (va_up a (20 + n 2) q) A2 (n 2 + 1) = ze_gs a A (n 2) ++ [(q, .inr (1, ze_fG A2 (n 2)))] := by
    unfold ze_gs
    rw [ze_map1, va_up_self]
    congr 1
    exact ze_mapc (fun i hi => by rw [va_up_ne _ _ (by omega), hg i (by omega)])
  have e2 : ze_ts (va_up a (20 + n 2) q) A2 (n 3) = ze_ts a A (n 3) := ze_mapc (fun i hi => by rw [va_up_ne _ _ (by omega), hT])
  have e3 : ze_ls (va_up a (20 + n 2) q) A2 (n 4) = ze_ls a A (n 4) := ze_mapc (fun i hi => by rw [va_up_ne _ _ (by omega), hL])
  have e : ze_wC c (va_up a (20 + n 2) q) (ze_sn n 2 (n 2 + 1)) A2 B E = ((ze_w1 c a (n 0) (n 1) (n 2 + 1) (n 3) (n 4) (va_up (ze_rw a 20 (n 2)) (n 2) (some q)) (ze_rw a 30 (n 3)) (ze_rw a 40 (n 4)) A B E ++ ze_gs a A (n 2)) ++ [(q, .inr (1, ze_fG A2 (n 2)))]) ++ (ze_ts a A (n 3) ++ ze_ls a A (n 4)) := by
    show ze_w0 c (va_up a (20 + n 2) q) (ze_sn n 2 (n 2 + 1)) A2 B E ++ (ze_gs (va_up a (20 + n 2) q) A2 (n 2 + 1) ++ (ze_ts (va_up a (20 + n 2) q) A2 (n 3) ++ ze_ls (va_up a (20 + n 2) q) A2 (n 4))) = _
    rw [e0, e1, e2, e3]
    simp only [List.append_assoc]
  rw [e]
  exact h2
theorem ze_addT (hN : zf_N n) (h6 : n 3 < 4) (hs : zf_sees A A2) (hg : ∀ g, g ≠ n 3 → ze_fT A2 g = ze_fT A g) (hT : ∀ g, ze_fG A2 g = ze_fG A g) (hL : ∀ g, ze_fL A2 g = ze_fL A g)
    (hW : ze_W D (((ze_wC c a n A B E ++ ([(q, .inr (7, ze_fT A2 (n 3)))] : va_W)).set 14 (a 14, .inl (c 4, 4, .inr (.inr (.inr (.inr (va_up (ze_rw a 30 (n 3)) (n 3) (some q)))))))).set 13 (a 13, .inr (6, [.ref (a 1), .ref (a 14), .int (nI (n 3 + 1))]))) F H0 H locs) :
    ze_W D (ze_wC c (va_up a (30 + n 3) q) (ze_sn n 3 (n 3 + 1)) A2 B E) F H0 H locs := by
  obtain ⟨hn0, hn1, hn2, hn3, hn4⟩ := hN
  have h1 : ze_W D ((ze_w1 c a (n 0) (n 1) (n 2) (n 3 + 1) (n 4) (ze_rw a 20 (n 2)) (va_up (ze_rw a 30 (n 3)) (n 3) (some q)) (ze_rw a 40 (n 4)) A B E ++ (ze_gs a A (n 2) ++ (ze_ts a A (n 3) ++ ze_ls a A (n 4)))) ++ [(q, .inr (7, ze_fT A2 (n 3)))]) F H0 H locs := hW
  rw [← List.append_assoc, ← List.append_assoc] at h1
  have h2 := ze_Wsw h1
  have e0 : ze_w0 c (va_up a (30 + n 3) q) (ze_sn n 3 (n 3 + 1)) A2 B E = ze_w1 c a (n 0) (n 1) (n 2) (n 3 + 1) (n 4) (ze_rw a 20 (n 2)) (va_up (ze_rw a 30 (n 3)) (n 3) (some q)) (ze_rw a 40 (n 4)) A B E := by
    rw [ze_w01, ze_w1c (a := a) (fun i hi => va_up_ne _ _ (by omega)) hs]
    show ze_w1 c a (n 0) (n 1) (n 2) (n 3 + 1) (n 4) (ze_rw (va_up a (30 + n 3) q) 20 (n 2)) (ze_rw (va_up a (30 + n 3) q) 30 (n 3 + 1)) (ze_rw (va_up a (30 + n 3) q) 40 (n 4)) A B E = _
    rw [← ze_rwup, ze_rwne (fun g hg => by omega), ze_rwne (fun g hg => by omega)]
  have e1 : ze_ts (va_up a (30 + n 3) q) A2 (n 3 + 1) = ze_ts a A (n 3) ++ [(q, .inr (7, ze_fT A2 (n 3)))] := by
    unfold ze_ts
    rw [ze_map1, va_up_self]
    congr 1
    exact ze_mapc (fun i hi => by rw [va_up_ne _ _ (by omega), hg i (by omega)])
  have e2 : ze_gs (va_up a (30 + n 3) q) A2 (n 2) = ze_gs a A (n 2) := ze_mapc (fun i hi => by rw [va_up_ne _ _ (by omega), hT])
  have e3 : ze_ls (va_up a (30 + n 3) q) A2 (n 4) = ze_ls a A (n 4) := ze_mapc (fun i hi => by rw [va_up_ne _ _ (by omega), hL])
  have e : ze_wC c (va_up a (30 + n 3) q) (ze_sn n 3 (n 3 + 1)) A2 B E = (((ze_w1 c a (n 0) (n 1) (n 2) (n 3 + 1) (n 4) (ze_rw a 20 (n 2)) (va_up (ze_rw a 30 (n 3)) (n 3) (some q)) (ze_rw a 40 (n 4)) A B E ++ ze_gs a A (n 2)) ++ ze_ts a A (n 3)) ++ [(q, .inr (7, ze_fT A2 (n 3)))]) ++ ze_ls a A (n 4) := by
    show ze_w0 c (va_up a (30 + n 3) q) (ze_sn n 3 (n 3 + 1)) A2 B E ++ (ze_gs (va_up a (30 + n 3) q) A2 (n 2) ++ (ze_ts (va_up a (30 + n 3) q) A2 (n 3 + 1) ++ ze_ls (va_up a (30 + n 3) q) A2 (n 4))) = _
    rw [e0, e1, e2, e3]
    simp only [List.append_assoc]
  rw [e]
  exact h2
theorem ze_addL (hN : zf_N n) (h6 : n 4 < 10) (hs : zf_sees A A2) (hg : ∀ g, g ≠ n 4 → ze_fL A2 g = ze_fL A g) (hT : ∀ g, ze_fT A2 g = ze_fT A g) (hL : ∀ g, ze_fG A2 g = ze_fG A g)
    (hW : ze_W D (((ze_wC c a n A B E ++ ([(q, .inr (3, ze_fL A2 (n 4)))] : va_W)).set 16 (a 16, .inl (c 5, 10, .inr (.inr (.inr (.inr (va_up (ze_rw a 40 (n 4)) (n 4) (some q)))))))).set 15 (a 15, .inr (4, [.ref (a 1), .ref (a 16), .int (nI (n 4 + 1))]))) F H0 H locs) :
    ze_W D (ze_wC c (va_up a (40 + n 4) q) (ze_sn n 4 (n 4 + 1)) A2 B E) F H0 H locs := by
  obtain ⟨hn0, hn1, hn2, hn3, hn4⟩ := hN
  have h1 : ze_W D ((ze_w1 c a (n 0) (n 1) (n 2) (n 3) (n 4 + 1) (ze_rw a 20 (n 2)) (ze_rw a 30 (n 3)) (va_up (ze_rw a 40 (n 4)) (n 4) (some q)) A B E ++ (ze_gs a A (n 2) ++ (ze_ts a A (n 3) ++ ze_ls a A (n 4)))) ++ [(q, .inr (3, ze_fL A2 (n 4)))]) F H0 H locs := hW
  have e0 : ze_w0 c (va_up a (40 + n 4) q) (ze_sn n 4 (n 4 + 1)) A2 B E = ze_w1 c a (n 0) (n 1) (n 2) (n 3) (n 4 + 1) (ze_rw a 20 (n 2)) (ze_rw a 30 (n 3)) (va_up (ze_rw a 40 (n 4)) (n 4) (some q)) A B E := by
    rw [ze_w01, ze_w1c (a := a) (fun i hi => va_up_ne _ _ (by omega)) hs]
    show ze_w1 c a (n 0) (n 1) (n 2) (n 3) (n 4 + 1) (ze_rw (va_up a (40 + n 4) q) 20 (n 2)) (ze_rw (va_up a (40 + n 4) q) 30 (n 3)) (ze_rw (va_up a (40 + n 4) q) 40 (n 4 + 1)) A B E = _
    rw [← ze_rwup, ze_rwne (fun g hg => by omega), ze_rwne (fun g hg => by omega)]
  have e1 : ze_ls (va_up a (40 + n 4) q) A2 (n 4 + 1) = ze_ls a A (n 4) ++ [(q, .inr (3, ze_fL A2 (n 4)))] := by
    unfold ze_ls
    rw [ze_map1, va_up_self]
    congr 1
    exact ze_mapc (fun i hi => by rw [va_up_ne _ _ (by omega), hg i (by omega)])
  have e2 : ze_gs (va_up a (40 + n 4) q) A2 (n 2) = ze_gs a A (n 2) := ze_mapc (fun i hi => by rw [va_up_ne _ _ (by omega), hL])
  have e3 : ze_ts (va_up a (40 + n 4) q) A2 (n 3) = ze_ts a A (n 3) := ze_mapc (fun i hi => by rw [va_up_ne _ _ (by omega), hT])
  have e : ze_wC c (va_up a (40 + n 4) q) (ze_sn n 4 (n 4 + 1)) A2 B E = (ze_w1 c a (n 0) (n 1) (n 2) (n 3) (n 4 + 1) (ze_rw a 20 (n 2)) (ze_rw a 30 (n 3)) (va_up (ze_rw a 40 (n 4)) (n 4) (some q)) A B E ++ (ze_gs a A (n 2) ++ (ze_ts a A (n 3) ++ ze_ls a A (n 4)))) ++ [(q, .inr (3, ze_fL A2 (n 4)))] := by
    show ze_w0 c (va_up a (40 + n 4) q) (ze_sn n 4 (n 4 + 1)) A2 B E ++ (ze_gs (va_up a (40 + n 4) q) A2 (n 2) ++ (ze_ts (va_up a (40 + n 4) q) A2 (n 3) ++ ze_ls (va_up a (40 + n 4) q) A2 (n 4 + 1))) = _
    rw [e0, e1, e2, e3]
    simp only [List.append_assoc]
  rw [e]
  exact h1
end ZA
