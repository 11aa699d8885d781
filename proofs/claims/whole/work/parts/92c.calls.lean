/-! ===== the law's calls, walked ===== -/
section ZY
variable {p : Program} {l : Launch} {e : Env} {s : State} {m : MethodId} {below : List Frame} {meth : Method} {cd : Code} {D : va_G} {c : Nat → ClassId} {b L : Nat} {xs : Nat → Int32} {Q : State → Prop}
set_option maxHeartbeats 4000000 in
set_option maxRecDepth 100000 in
theorem zy_setRank (C : zy_C p l s m cd D c b L xs) {a d n : Nat → Nat} {A : Nat → Nat → Int32} {B : Nat → Int64} {E : Nat → Nat → Int32} {mk : Nat → Int32} {th : Int32} {o od : Nat} {f : Nat → Int64} {g : Nat → UInt64} {H : Heap} {locs : List Loc} {ls : Array Slot} {i k j : Nat} (hi : i + 6 ≤ L) (hb : k + 2 ≤ 601024 ∧ j + 14 ≤ 7293034) (hI : zv_I n A E mk) (hW : ze_W D (zy_W c a d n A B E mk th o od f g) (zy_F s) s.heap H locs) (hl : lv_has ls 8 (zy_L b (a 0) (d 0) o od i)) (G : zy_G p l e s m below meth cd D c b Q d o od (a 0) i (k + 2) (j + 14)) : W p l e room_1 s m #[Value.ref b] below meth cd H locs k j Q (F0 m 1581 ls []) := by
  obtain ⟨S, hst, hX, hbl, hXB, hNc, hK, hL⟩ := id C
  have hX_ := S.1
  have hB_ := S.2.1
  have hts := S.2.2.2.2
  have hA : ∀ q : Nat, s.heap.size ≤ q → zy_F s q := fun _ h => h
  obtain ⟨hb1, hb2⟩ := hb
  obtain ⟨k1, v, fr, lo, mc, ms, fr2, lo2, mc2, ms2, a2, n2, A2, B2, E2, mk2, f2, ⟨b1, b2, b3, b4, b5, b6, b7, b8⟩, hQ, hR, hkv, ha2, hG, hI2⟩ := zw_setRank (l := l) (D := D) (c := c) (a := a) (d := d) (B := B) (th := th) (o := o) (f := f) hI hst (xs (i + 1)) (xs (i + 2))
  have hQ : ze_QE l yL_setRank wsL_setRank fr lo mc ms D c (ze_wC c a n A B E ++ [(o, .inl (c 6, 1, .inr (.inl f)))]) [.ref (a 0), .int (xs (i + 1)), .int (xs (i + 2)), .ref o] k1 (fun q => ze_wC c (a2 q) n2 A2 B2 E2 ++ [(o, .inl (c 6, 1, .inr (.inl f2)))]) := hQ
  have hR : ze_I l yX9_setRank wsX9_setRank fr2 lo2 mc2 ms2 D c (ze_wR c d n A B mk th) [.ref (d 0), .int (xs (i + 1)), .int (xs (i + 2))] v (ze_wR c d n2 A2 B2 mk2 k1) := hR
  have hl : lv_has ls 8 [(0, .ref b), (1, .ref (a 0)), (2, .ref (d 0)), (3, .ref o), (4, .ref od), (5, .int (nI i))] := hl
  refine lv_aload_n hX_ hB_ dL_law_1581 rfl (lv_at hl 1 rfl) ?_
  refine zy_arg (q := 1) C hW hi (by decide) (lv_at hl 0 rfl) (lv_at hl 5 rfl) dL_law_1582 dL_law_1583 dL_law_1585 rfl dL_law_1586 dL_law_1587 ?_
  refine zy_arg (q := 2) C hW hi (by decide) (lv_at hl 0 rfl) (lv_at hl 5 rfl) dL_law_1588 dL_law_1589 dL_law_1591 rfl dL_law_1592 dL_law_1593 ?_
  refine lv_aload_n hX_ hB_ dL_law_1594 rfl (lv_at hl 3 rfl) ?_
  refine ze_FQe (As := [.ref (a 0), .int (xs (i + 1)), .int (xs (i + 2)), .ref o]) (rest := []) S hQ (vx_cwSW 4 hts gL_law_L_setRank_n rfl rfl rfl (by decide +kernel) ⟨by show fr + 1 ≤ 13; omega, by show 8 + (_ + 11) + lo ≤ 476; omega⟩) hXB hNc hK hW hA rfl hl.1 rfl (lv_room (Nat.le_of_ble_eq_true rfl)) dL_law_1595 ⟨by show k + mc ≤ 601024; omega, by show j + ms ≤ 7293034; omega⟩ (fun q9 H locs hW => ?_)
  refine lv_istore (lv' := [(6, .int k1), (0, .ref b), (1, .ref (a 0)), (2, .ref (d 0)), (3, .ref o), (4, .ref od), (5, .int (nI i))]) hX_ hB_ dL_law_1598 hl (by decide) rfl (fun ls hl => ?_)
  refine lv_aload_n hX_ hB_ dL_law_1600 rfl (lv_at hl 3 rfl) ?_
  refine zy_arg (q := 1) C hW hi (by decide) (lv_at hl 1 rfl) (lv_at hl 6 rfl) dL_law_1601 dL_law_1602 dL_law_1604 rfl dL_law_1605 dL_law_1606 ?_
  refine zy_arg (q := 2) C hW hi (by decide) (lv_at hl 1 rfl) (lv_at hl 6 rfl) dL_law_1607 dL_law_1608 dL_law_1610 rfl dL_law_1611 dL_law_1612 ?_
  have hW := zy_wA hW
  refine ze_FVi (As := [.int (xs (i + 1)), .int (xs (i + 2))]) (rest := []) (ci := 9) (q0 := 0) (k := (RX9, TX9, 39)) S hR (cwV 2 hts gL_law_X9_setRank_n rfl rfl rfl (by decide +kernel) ⟨by show fr2 + 1 ≤ 13; omega, by show 8 + (_ + 11) + lo2 ≤ 476; omega⟩) hK hW hA rfl rfl rfl hl.1 rfl (lv_room (Nat.le_of_ble_eq_true rfl)) dL_law_1613 ⟨by show k + mc + mc2 ≤ 601024; omega, by show j + ms + ms2 ≤ 7293034; omega⟩ (fun H locs hW => ?_)
  refine lv_istore (lv' := [(7, .int v), (6, .int k1), (0, .ref b), (1, .ref (a 0)), (2, .ref (d 0)), (3, .ref o), (4, .ref od), (5, .int (nI i))]) hX_ hB_ dL_law_1616 hl (by decide) rfl (fun ls hl => ?_)
  refine lv_aload_n hX_ hB_ dL_law_1618 rfl (lv_at hl 4 rfl) ?_
  refine ze_FVi (As := []) (rest := []) (ci := 9) (q0 := 0) (k := (RX9, TX9, 39)) S (zr_thrown l D c d n2 A2 B2 mk2 k1) (cwV 0 hts gL_law_X9_thrown_n rfl rfl rfl (by decide +kernel) ⟨Nat.le_of_ble_eq_true rfl, Nat.le_of_ble_eq_true rfl⟩) hK hW hA rfl rfl rfl hl.1 rfl (lv_room (Nat.le_of_ble_eq_true rfl)) dL_law_1619 ⟨by show k + mc + mc2 + 0 ≤ 601024; omega, by show j + ms + ms2 + 0 ≤ 7293034; omega⟩ (fun H locs hW => ?_)
  have hW := zy_wB hW
  refine lv_iload hX_ hB_ dL_law_1622 (lv_at hl 1 rfl) ?_
  refine lv_icmp_eq (tgt := 1629) hX_ hB_ dL_law_1624 (by decide) (fun _ => ?_) (fun q => absurd rfl q)
  refine lv_iload hX_ hB_ dL_law_1629 (lv_at hl 1 rfl) ?_
  have gg : ∀ (ls : Array Slot), lv_has ls 8 [(7, .int v), (6, .int k1), (0, .ref b), (1, .ref (a 0)), (2, .ref (d 0)), (3, .ref o), (4, .ref od), (5, .int (nI i))] → W p l e room_1 s m #[Value.ref b] below meth cd H locs (k + mc + mc2 + 0) (j + ms + ms2 + 0) Q (F0 m 1646 ls []) := fun ls hl => by
    refine lv_goto (tgt := 2642) hX_ hB_ dL_law_1646 (by decide) ?_
    refine W.widen (k := k + 2) (n := j + 14) (by omega) (by omega) ?_
    exact G (a2 q9) n2 A2 B2 E2 mk2 k1 f2 g H locs ls (ha2 q9) hI2 hW (lv_sub hl [2, 3, 4, 5, 6, 7] rfl)
  refine lv_if_ne (tgt := 1646) hX_ hB_ dL_law_1631 (by decide) (fun _ => gg ls hl) (fun hk0 => ?_)
  have hf2 : f2 (0 : Int32).toNatClampNeg = v.toInt64 := hkv hk0
  refine lv_aload_n hX_ hB_ dL_law_1634 rfl (lv_at hl 5 rfl) ?_
  refine lv_iconst (v := 0) hX_ hB_ dL_law_1635 (by decide) ?_
  refine va_lald (f := f2) hX_ hB_ hK hW.1 ((ze_wC c (a2 q9) n2 A2 B2 E2).length + 0) 6 (ze_appget0 (ze_appL (k := 0) rfl)) rfl (vp_in_nI (n := 0) (N := 1) (by decide) (by decide)) dL_law_1636 ?_
  refine lv_iload hX_ hB_ dL_law_1637 (lv_at hl 0 rfl) ?_
  refine lv_i2l (v := v.toInt64) hX_ hB_ dL_law_1639 rfl ?_
  refine W.lcmp hX_ hB_ dL_law_1640 ?_
  rw [hf2, zy_cmp]
  exact lv_if_eq (tgt := 1646) hX_ hB_ dL_law_1641 (by decide) (fun _ => gg ls hl) (fun q => absurd rfl q)
set_option maxHeartbeats 4000000 in
set_option maxRecDepth 100000 in
theorem zy_isLit (C : zy_C p l s m cd D c b L xs) {a d n : Nat → Nat} {A : Nat → Nat → Int32} {B : Nat → Int64} {E : Nat → Nat → Int32} {mk : Nat → Int32} {th : Int32} {o od : Nat} {f : Nat → Int64} {g : Nat → UInt64} {H : Heap} {locs : List Loc} {ls : Array Slot} {i k j : Nat} (hi : i + 6 ≤ L) (hb : k + 2 ≤ 601024 ∧ j + 14 ≤ 7293034) (hI : zv_I n A E mk) (hW : ze_W D (zy_W c a d n A B E mk th o od f g) (zy_F s) s.heap H locs) (hl : lv_has ls 8 (zy_L b (a 0) (d 0) o od i)) (G : zy_G p l e s m below meth cd D c b Q d o od (a 0) i (k + 2) (j + 14)) : W p l e room_1 s m #[Value.ref b] below meth cd H locs k j Q (F0 m 1649 ls []) := by
  obtain ⟨S, hst, hX, hbl, hXB, hNc, hK, hL⟩ := id C
  have hX_ := S.1
  have hB_ := S.2.1
  have hts := S.2.2.2.2
  have hA : ∀ q : Nat, s.heap.size ≤ q → zy_F s q := fun _ h => h
  obtain ⟨hb1, hb2⟩ := hb
  obtain ⟨k1, v, fr, lo, mc, ms, fr2, lo2, mc2, ms2, a2, n2, A2, B2, E2, mk2, f2, ⟨b1, b2, b3, b4, b5, b6, b7, b8⟩, hQ, hR, hkv, ha2, hG, hI2⟩ := zw_isLit (l := l) (D := D) (c := c) (a := a) (d := d) (B := B) (th := th) (o := o) (f := f) hI hst (xs (i + 1))
  have hQ : ze_QE l yL_isLit wsL_isLit fr lo mc ms D c (ze_wC c a n A B E ++ [(o, .inl (c 6, 1, .inr (.inl f)))]) [.ref (a 0), .int (xs (i + 1)), .ref o] k1 (fun q => ze_wC c (a2 q) n2 A2 B2 E2 ++ [(o, .inl (c 6, 1, .inr (.inl f2)))]) := hQ
  have hR : ze_I l yX9_isLit wsX9_isLit fr2 lo2 mc2 ms2 D c (ze_wR c d n A B mk th) [.ref (d 0), .int (xs (i + 1))] v (ze_wR c d n2 A2 B2 mk2 k1) := hR
  have hl : lv_has ls 8 [(0, .ref b), (1, .ref (a 0)), (2, .ref (d 0)), (3, .ref o), (4, .ref od), (5, .int (nI i))] := hl
  refine lv_aload_n hX_ hB_ dL_law_1649 rfl (lv_at hl 1 rfl) ?_
  refine zy_arg (q := 1) C hW hi (by decide) (lv_at hl 0 rfl) (lv_at hl 5 rfl) dL_law_1650 dL_law_1651 dL_law_1653 rfl dL_law_1654 dL_law_1655 ?_
  refine lv_aload_n hX_ hB_ dL_law_1656 rfl (lv_at hl 3 rfl) ?_
  refine ze_FQe (As := [.ref (a 0), .int (xs (i + 1)), .ref o]) (rest := []) S hQ (vx_cwSW 3 hts gL_law_L_isLit_n rfl rfl rfl (by decide +kernel) ⟨by show fr + 1 ≤ 13; omega, by show 8 + (_ + 11) + lo ≤ 476; omega⟩) hXB hNc hK hW hA rfl hl.1 rfl (lv_room (Nat.le_of_ble_eq_true rfl)) dL_law_1657 ⟨by show k + mc ≤ 601024; omega, by show j + ms ≤ 7293034; omega⟩ (fun q9 H locs hW => ?_)
  refine lv_istore (lv' := [(6, .int k1), (0, .ref b), (1, .ref (a 0)), (2, .ref (d 0)), (3, .ref o), (4, .ref od), (5, .int (nI i))]) hX_ hB_ dL_law_1660 hl (by decide) rfl (fun ls hl => ?_)
  refine lv_aload_n hX_ hB_ dL_law_1662 rfl (lv_at hl 3 rfl) ?_
  refine zy_arg (q := 1) C hW hi (by decide) (lv_at hl 1 rfl) (lv_at hl 6 rfl) dL_law_1663 dL_law_1664 dL_law_1666 rfl dL_law_1667 dL_law_1668 ?_
  have hW := zy_wA hW
  refine ze_FVi (As := [.int (xs (i + 1))]) (rest := []) (ci := 9) (q0 := 0) (k := (RX9, TX9, 39)) S hR (cwV 1 hts gL_law_X9_isLit_n rfl rfl rfl (by decide +kernel) ⟨by show fr2 + 1 ≤ 13; omega, by show 8 + (_ + 11) + lo2 ≤ 476; omega⟩) hK hW hA rfl rfl rfl hl.1 rfl (lv_room (Nat.le_of_ble_eq_true rfl)) dL_law_1669 ⟨by show k + mc + mc2 ≤ 601024; omega, by show j + ms + ms2 ≤ 7293034; omega⟩ (fun H locs hW => ?_)
  refine lv_istore (lv' := [(7, .int v), (6, .int k1), (0, .ref b), (1, .ref (a 0)), (2, .ref (d 0)), (3, .ref o), (4, .ref od), (5, .int (nI i))]) hX_ hB_ dL_law_1672 hl (by decide) rfl (fun ls hl => ?_)
  refine lv_aload_n hX_ hB_ dL_law_1674 rfl (lv_at hl 4 rfl) ?_
  refine ze_FVi (As := []) (rest := []) (ci := 9) (q0 := 0) (k := (RX9, TX9, 39)) S (zr_thrown l D c d n2 A2 B2 mk2 k1) (cwV 0 hts gL_law_X9_thrown_n rfl rfl rfl (by decide +kernel) ⟨Nat.le_of_ble_eq_true rfl, Nat.le_of_ble_eq_true rfl⟩) hK hW hA rfl rfl rfl hl.1 rfl (lv_room (Nat.le_of_ble_eq_true rfl)) dL_law_1675 ⟨by show k + mc + mc2 + 0 ≤ 601024; omega, by show j + ms + ms2 + 0 ≤ 7293034; omega⟩ (fun H locs hW => ?_)
  have hW := zy_wB hW
  refine lv_iload hX_ hB_ dL_law_1678 (lv_at hl 1 rfl) ?_
  refine lv_icmp_eq (tgt := 1685) hX_ hB_ dL_law_1680 (by decide) (fun _ => ?_) (fun q => absurd rfl q)
  refine lv_iload hX_ hB_ dL_law_1685 (lv_at hl 1 rfl) ?_
  have gg : ∀ (ls : Array Slot), lv_has ls 8 [(7, .int v), (6, .int k1), (0, .ref b), (1, .ref (a 0)), (2, .ref (d 0)), (3, .ref o), (4, .ref od), (5, .int (nI i))] → W p l e room_1 s m #[Value.ref b] below meth cd H locs (k + mc + mc2 + 0) (j + ms + ms2 + 0) Q (F0 m 1709 ls []) := fun ls hl => by
    refine lv_goto (tgt := 2642) hX_ hB_ dL_law_1709 (by decide) ?_
    refine W.widen (k := k + 2) (n := j + 14) (by omega) (by omega) ?_
    exact G (a2 q9) n2 A2 B2 E2 mk2 k1 f2 g H locs ls (ha2 q9) hI2 hW (lv_sub hl [2, 3, 4, 5, 6, 7] rfl)
  refine lv_if_ne (tgt := 1709) hX_ hB_ dL_law_1687 (by decide) (fun _ => gg ls hl) (fun hk0 => ?_)
  have hf2 : f2 (0 : Int32).toNatClampNeg = v.toInt64 := hkv hk0
  refine lv_aload_n hX_ hB_ dL_law_1690 rfl (lv_at hl 5 rfl) ?_
  refine lv_iconst (v := 0) hX_ hB_ dL_law_1691 (by decide) ?_
  refine va_lald (f := f2) hX_ hB_ hK hW.1 ((ze_wC c (a2 q9) n2 A2 B2 E2).length + 0) 6 (ze_appget0 (ze_appL (k := 0) rfl)) rfl (vp_in_nI (n := 0) (N := 1) (by decide) (by decide)) dL_law_1692 ?_
  refine lv_iload hX_ hB_ dL_law_1693 (lv_at hl 0 rfl) ?_
  refine lv_if_eq (tgt := 1702) hX_ hB_ dL_law_1695 (by decide) (fun hv => ?_) (fun hv => ?_)
  · refine lv_lconst (v := 0) hX_ hB_ dL_law_1702 (by decide) ?_
    refine W.lcmp hX_ hB_ dL_law_1703 ?_
    have e0 : (0 : Int32).toInt64 = 0 := by decide
    rw [hf2, hv, e0, zy_cmp]
    exact lv_if_eq (tgt := 1709) hX_ hB_ dL_law_1704 (by decide) (fun _ => gg ls hl) (fun q => absurd rfl q)
  · refine lv_lconst (v := 1) hX_ hB_ dL_law_1698 (by decide) ?_
    refine lv_goto (tgt := 1703) hX_ hB_ dL_law_1699 (by decide) ?_
    refine W.lcmp hX_ hB_ dL_law_1703 ?_
    have e1 : v = 1 := hG.resolve_left hv
    have e0 : (1 : Int32).toInt64 = 1 := by decide
    rw [hf2, e1, e0, zy_cmp]
    exact lv_if_eq (tgt := 1709) hX_ hB_ dL_law_1704 (by decide) (fun _ => gg ls hl) (fun q => absurd rfl q)
set_option maxHeartbeats 4000000 in
set_option maxRecDepth 100000 in
theorem zy_waits (C : zy_C p l s m cd D c b L xs) {a d n : Nat → Nat} {A : Nat → Nat → Int32} {B : Nat → Int64} {E : Nat → Nat → Int32} {mk : Nat → Int32} {th : Int32} {o od : Nat} {f : Nat → Int64} {g : Nat → UInt64} {H : Heap} {locs : List Loc} {ls : Array Slot} {i k j : Nat} (hi : i + 6 ≤ L) (hb : k + 2 ≤ 601024 ∧ j + 14 ≤ 7293034) (hI : zv_I n A E mk) (hW : ze_W D (zy_W c a d n A B E mk th o od f g) (zy_F s) s.heap H locs) (hl : lv_has ls 8 (zy_L b (a 0) (d 0) o od i)) (G : zy_G p l e s m below meth cd D c b Q d o od (a 0) i (k + 2) (j + 14)) : W p l e room_1 s m #[Value.ref b] below meth cd H locs k j Q (F0 m 1712 ls []) := by
  obtain ⟨S, hst, hX, hbl, hXB, hNc, hK, hL⟩ := id C
  have hX_ := S.1
  have hB_ := S.2.1
  have hts := S.2.2.2.2
  have hA : ∀ q : Nat, s.heap.size ≤ q → zy_F s q := fun _ h => h
  obtain ⟨hb1, hb2⟩ := hb
  obtain ⟨k1, v, fr, lo, mc, ms, fr2, lo2, mc2, ms2, a2, n2, A2, B2, E2, mk2, f2, ⟨b1, b2, b3, b4, b5, b6, b7, b8⟩, hQ, hR, hkv, ha2, hG, hI2⟩ := zw_waits_n (l := l) (D := D) (c := c) (a := a) (d := d) (B := B) (th := th) (o := o) (f := f) hI hst (xs (i + 1))
  have hQ : ze_QE l yL_waits wsL_waits_n fr lo mc ms D c (ze_wC c a n A B E ++ [(o, .inl (c 6, 1, .inr (.inl f)))]) [.ref (a 0), .int (xs (i + 1)), .ref o] k1 (fun q => ze_wC c (a2 q) n2 A2 B2 E2 ++ [(o, .inl (c 6, 1, .inr (.inl f2)))]) := hQ
  have hR : ze_I l yX9_waits wsX9_waits fr2 lo2 mc2 ms2 D c (ze_wR c d n A B mk th) [.ref (d 0), .int (xs (i + 1))] v (ze_wR c d n2 A2 B2 mk2 k1) := hR
  have hl : lv_has ls 8 [(0, .ref b), (1, .ref (a 0)), (2, .ref (d 0)), (3, .ref o), (4, .ref od), (5, .int (nI i))] := hl
  refine lv_aload_n hX_ hB_ dL_law_1712 rfl (lv_at hl 1 rfl) ?_
  refine zy_arg (q := 1) C hW hi (by decide) (lv_at hl 0 rfl) (lv_at hl 5 rfl) dL_law_1713 dL_law_1714 dL_law_1716 rfl dL_law_1717 dL_law_1718 ?_
  refine lv_aload_n hX_ hB_ dL_law_1719 rfl (lv_at hl 3 rfl) ?_
  refine ze_FQe (As := [.ref (a 0), .int (xs (i + 1)), .ref o]) (rest := []) S hQ (vx_cwSW 3 hts gL_law_L_waits_n rfl rfl rfl (by decide +kernel) ⟨by show fr + 1 ≤ 13; omega, by show 8 + (_ + 11) + lo ≤ 476; omega⟩) hXB hNc hK hW hA rfl hl.1 rfl (lv_room (Nat.le_of_ble_eq_true rfl)) dL_law_1720 ⟨by show k + mc ≤ 601024; omega, by show j + ms ≤ 7293034; omega⟩ (fun q9 H locs hW => ?_)
  refine lv_istore (lv' := [(6, .int k1), (0, .ref b), (1, .ref (a 0)), (2, .ref (d 0)), (3, .ref o), (4, .ref od), (5, .int (nI i))]) hX_ hB_ dL_law_1723 hl (by decide) rfl (fun ls hl => ?_)
  refine lv_aload_n hX_ hB_ dL_law_1725 rfl (lv_at hl 3 rfl) ?_
  refine zy_arg (q := 1) C hW hi (by decide) (lv_at hl 1 rfl) (lv_at hl 6 rfl) dL_law_1726 dL_law_1727 dL_law_1729 rfl dL_law_1730 dL_law_1731 ?_
  have hW := zy_wA hW
  refine ze_FVi (As := [.int (xs (i + 1))]) (rest := []) (ci := 9) (q0 := 0) (k := (RX9, TX9, 39)) S hR (cwV 1 hts gL_law_X9_waits_n rfl rfl rfl (by decide +kernel) ⟨by show fr2 + 1 ≤ 13; omega, by show 8 + (_ + 11) + lo2 ≤ 476; omega⟩) hK hW hA rfl rfl rfl hl.1 rfl (lv_room (Nat.le_of_ble_eq_true rfl)) dL_law_1732 ⟨by show k + mc + mc2 ≤ 601024; omega, by show j + ms + ms2 ≤ 7293034; omega⟩ (fun H locs hW => ?_)
  refine lv_istore (lv' := [(7, .int v), (6, .int k1), (0, .ref b), (1, .ref (a 0)), (2, .ref (d 0)), (3, .ref o), (4, .ref od), (5, .int (nI i))]) hX_ hB_ dL_law_1735 hl (by decide) rfl (fun ls hl => ?_)
  refine lv_aload_n hX_ hB_ dL_law_1737 rfl (lv_at hl 4 rfl) ?_
  refine ze_FVi (As := []) (rest := []) (ci := 9) (q0 := 0) (k := (RX9, TX9, 39)) S (zr_thrown l D c d n2 A2 B2 mk2 k1) (cwV 0 hts gL_law_X9_thrown_n rfl rfl rfl (by decide +kernel) ⟨Nat.le_of_ble_eq_true rfl, Nat.le_of_ble_eq_true rfl⟩) hK hW hA rfl rfl rfl hl.1 rfl (lv_room (Nat.le_of_ble_eq_true rfl)) dL_law_1738 ⟨by show k + mc + mc2 + 0 ≤ 601024; omega, by show j + ms + ms2 + 0 ≤ 7293034; omega⟩ (fun H locs hW => ?_)
  have hW := zy_wB hW
  refine lv_iload hX_ hB_ dL_law_1741 (lv_at hl 1 rfl) ?_
  refine lv_icmp_eq (tgt := 1748) hX_ hB_ dL_law_1743 (by decide) (fun _ => ?_) (fun q => absurd rfl q)
  refine lv_iload hX_ hB_ dL_law_1748 (lv_at hl 1 rfl) ?_
  have gg : ∀ (ls : Array Slot), lv_has ls 8 [(7, .int v), (6, .int k1), (0, .ref b), (1, .ref (a 0)), (2, .ref (d 0)), (3, .ref o), (4, .ref od), (5, .int (nI i))] → W p l e room_1 s m #[Value.ref b] below meth cd H locs (k + mc + mc2 + 0) (j + ms + ms2 + 0) Q (F0 m 1765 ls []) := fun ls hl => by
    refine lv_goto (tgt := 2642) hX_ hB_ dL_law_1765 (by decide) ?_
    refine W.widen (k := k + 2) (n := j + 14) (by omega) (by omega) ?_
    exact G (a2 q9) n2 A2 B2 E2 mk2 k1 f2 g H locs ls (ha2 q9) hI2 hW (lv_sub hl [2, 3, 4, 5, 6, 7] rfl)
  refine lv_if_ne (tgt := 1765) hX_ hB_ dL_law_1750 (by decide) (fun _ => gg ls hl) (fun hk0 => ?_)
  have hf2 : f2 (0 : Int32).toNatClampNeg = v.toInt64 := hkv hk0
  refine lv_aload_n hX_ hB_ dL_law_1753 rfl (lv_at hl 5 rfl) ?_
  refine lv_iconst (v := 0) hX_ hB_ dL_law_1754 (by decide) ?_
  refine va_lald (f := f2) hX_ hB_ hK hW.1 ((ze_wC c (a2 q9) n2 A2 B2 E2).length + 0) 6 (ze_appget0 (ze_appL (k := 0) rfl)) rfl (vp_in_nI (n := 0) (N := 1) (by decide) (by decide)) dL_law_1755 ?_
  refine lv_iload hX_ hB_ dL_law_1756 (lv_at hl 0 rfl) ?_
  refine lv_i2l (v := v.toInt64) hX_ hB_ dL_law_1758 rfl ?_
  refine W.lcmp hX_ hB_ dL_law_1759 ?_
  rw [hf2, zy_cmp]
  exact lv_if_eq (tgt := 1765) hX_ hB_ dL_law_1760 (by decide) (fun _ => gg ls hl) (fun q => absurd rfl q)
set_option maxHeartbeats 4000000 in
set_option maxRecDepth 100000 in
theorem zy_setReserve (C : zy_C p l s m cd D c b L xs) {a d n : Nat → Nat} {A : Nat → Nat → Int32} {B : Nat → Int64} {E : Nat → Nat → Int32} {mk : Nat → Int32} {th : Int32} {o od : Nat} {f : Nat → Int64} {g : Nat → UInt64} {H : Heap} {locs : List Loc} {ls : Array Slot} {i k j : Nat} (hi : i + 6 ≤ L) (hb : k + 2 ≤ 601024 ∧ j + 14 ≤ 7293034) (hI : zv_I n A E mk) (hW : ze_W D (zy_W c a d n A B E mk th o od f g) (zy_F s) s.heap H locs) (hl : lv_has ls 8 (zy_L b (a 0) (d 0) o od i)) (G : zy_G p l e s m below meth cd D c b Q d o od (a 0) i (k + 2) (j + 14)) : W p l e room_1 s m #[Value.ref b] below meth cd H locs k j Q (F0 m 1768 ls []) := by
  obtain ⟨S, hst, hX, hbl, hXB, hNc, hK, hL⟩ := id C
  have hX_ := S.1
  have hB_ := S.2.1
  have hts := S.2.2.2.2
  have hA : ∀ q : Nat, s.heap.size ≤ q → zy_F s q := fun _ h => h
  obtain ⟨hb1, hb2⟩ := hb
  obtain ⟨k1, v, fr, lo, mc, ms, fr2, lo2, mc2, ms2, a2, n2, A2, B2, E2, mk2, f2, ⟨b1, b2, b3, b4, b5, b6, b7, b8⟩, hQ, hR, hkv, ha2, hG, hI2⟩ := zw_setReserve (l := l) (D := D) (c := c) (a := a) (d := d) (B := B) (th := th) (o := o) (f := f) hI hst (xs (i + 1))
  have hQ : ze_QE l yL_setReserve wsL_setReserve fr lo mc ms D c (ze_wC c a n A B E ++ [(o, .inl (c 6, 1, .inr (.inl f)))]) [.ref (a 0), .int (xs (i + 1)), .ref o] k1 (fun q => ze_wC c (a2 q) n2 A2 B2 E2 ++ [(o, .inl (c 6, 1, .inr (.inl f2)))]) := hQ
  have hR : ze_I l yX9_setReserve wsX9_setReserve fr2 lo2 mc2 ms2 D c (ze_wR c d n A B mk th) [.ref (d 0), .int (xs (i + 1))] v (ze_wR c d n2 A2 B2 mk2 k1) := hR
  have hl : lv_has ls 8 [(0, .ref b), (1, .ref (a 0)), (2, .ref (d 0)), (3, .ref o), (4, .ref od), (5, .int (nI i))] := hl
  refine lv_aload_n hX_ hB_ dL_law_1768 rfl (lv_at hl 1 rfl) ?_
  refine zy_arg (q := 1) C hW hi (by decide) (lv_at hl 0 rfl) (lv_at hl 5 rfl) dL_law_1769 dL_law_1770 dL_law_1772 rfl dL_law_1773 dL_law_1774 ?_
  refine lv_aload_n hX_ hB_ dL_law_1775 rfl (lv_at hl 3 rfl) ?_
  refine ze_FQe (As := [.ref (a 0), .int (xs (i + 1)), .ref o]) (rest := []) S hQ (vx_cwSW 3 hts gL_law_L_setReserve_n rfl rfl rfl (by decide +kernel) ⟨by show fr + 1 ≤ 13; omega, by show 8 + (_ + 11) + lo ≤ 476; omega⟩) hXB hNc hK hW hA rfl hl.1 rfl (lv_room (Nat.le_of_ble_eq_true rfl)) dL_law_1776 ⟨by show k + mc ≤ 601024; omega, by show j + ms ≤ 7293034; omega⟩ (fun q9 H locs hW => ?_)
  refine lv_istore (lv' := [(6, .int k1), (0, .ref b), (1, .ref (a 0)), (2, .ref (d 0)), (3, .ref o), (4, .ref od), (5, .int (nI i))]) hX_ hB_ dL_law_1779 hl (by decide) rfl (fun ls hl => ?_)
  refine lv_aload_n hX_ hB_ dL_law_1781 rfl (lv_at hl 3 rfl) ?_
  refine zy_arg (q := 1) C hW hi (by decide) (lv_at hl 1 rfl) (lv_at hl 6 rfl) dL_law_1782 dL_law_1783 dL_law_1785 rfl dL_law_1786 dL_law_1787 ?_
  have hW := zy_wA hW
  refine ze_FVi (As := [.int (xs (i + 1))]) (rest := []) (ci := 9) (q0 := 0) (k := (RX9, TX9, 39)) S hR (cwV 1 hts gL_law_X9_setReserve_n rfl rfl rfl (by decide +kernel) ⟨by show fr2 + 1 ≤ 13; omega, by show 8 + (_ + 11) + lo2 ≤ 476; omega⟩) hK hW hA rfl rfl rfl hl.1 rfl (lv_room (Nat.le_of_ble_eq_true rfl)) dL_law_1788 ⟨by show k + mc + mc2 ≤ 601024; omega, by show j + ms + ms2 ≤ 7293034; omega⟩ (fun H locs hW => ?_)
  refine lv_istore (lv' := [(7, .int v), (6, .int k1), (0, .ref b), (1, .ref (a 0)), (2, .ref (d 0)), (3, .ref o), (4, .ref od), (5, .int (nI i))]) hX_ hB_ dL_law_1791 hl (by decide) rfl (fun ls hl => ?_)
  refine lv_aload_n hX_ hB_ dL_law_1793 rfl (lv_at hl 4 rfl) ?_
  refine ze_FVi (As := []) (rest := []) (ci := 9) (q0 := 0) (k := (RX9, TX9, 39)) S (zr_thrown l D c d n2 A2 B2 mk2 k1) (cwV 0 hts gL_law_X9_thrown_n rfl rfl rfl (by decide +kernel) ⟨Nat.le_of_ble_eq_true rfl, Nat.le_of_ble_eq_true rfl⟩) hK hW hA rfl rfl rfl hl.1 rfl (lv_room (Nat.le_of_ble_eq_true rfl)) dL_law_1794 ⟨by show k + mc + mc2 + 0 ≤ 601024; omega, by show j + ms + ms2 + 0 ≤ 7293034; omega⟩ (fun H locs hW => ?_)
  have hW := zy_wB hW
  refine lv_iload hX_ hB_ dL_law_1797 (lv_at hl 1 rfl) ?_
  refine lv_icmp_eq (tgt := 1804) hX_ hB_ dL_law_1799 (by decide) (fun _ => ?_) (fun q => absurd rfl q)
  refine lv_iload hX_ hB_ dL_law_1804 (lv_at hl 1 rfl) ?_
  have gg : ∀ (ls : Array Slot), lv_has ls 8 [(7, .int v), (6, .int k1), (0, .ref b), (1, .ref (a 0)), (2, .ref (d 0)), (3, .ref o), (4, .ref od), (5, .int (nI i))] → W p l e room_1 s m #[Value.ref b] below meth cd H locs (k + mc + mc2 + 0) (j + ms + ms2 + 0) Q (F0 m 1821 ls []) := fun ls hl => by
    refine lv_goto (tgt := 2642) hX_ hB_ dL_law_1821 (by decide) ?_
    refine W.widen (k := k + 2) (n := j + 14) (by omega) (by omega) ?_
    exact G (a2 q9) n2 A2 B2 E2 mk2 k1 f2 g H locs ls (ha2 q9) hI2 hW (lv_sub hl [2, 3, 4, 5, 6, 7] rfl)
  refine lv_if_ne (tgt := 1821) hX_ hB_ dL_law_1806 (by decide) (fun _ => gg ls hl) (fun hk0 => ?_)
  have hf2 : f2 (0 : Int32).toNatClampNeg = v.toInt64 := hkv hk0
  refine lv_aload_n hX_ hB_ dL_law_1809 rfl (lv_at hl 5 rfl) ?_
  refine lv_iconst (v := 0) hX_ hB_ dL_law_1810 (by decide) ?_
  refine va_lald (f := f2) hX_ hB_ hK hW.1 ((ze_wC c (a2 q9) n2 A2 B2 E2).length + 0) 6 (ze_appget0 (ze_appL (k := 0) rfl)) rfl (vp_in_nI (n := 0) (N := 1) (by decide) (by decide)) dL_law_1811 ?_
  refine lv_iload hX_ hB_ dL_law_1812 (lv_at hl 0 rfl) ?_
  refine lv_i2l (v := v.toInt64) hX_ hB_ dL_law_1814 rfl ?_
  refine W.lcmp hX_ hB_ dL_law_1815 ?_
  rw [hf2, zy_cmp]
  exact lv_if_eq (tgt := 1821) hX_ hB_ dL_law_1816 (by decide) (fun _ => gg ls hl) (fun q => absurd rfl q)
set_option maxHeartbeats 4000000 in
set_option maxRecDepth 100000 in
theorem zy_setDelay (C : zy_C p l s m cd D c b L xs) {a d n : Nat → Nat} {A : Nat → Nat → Int32} {B : Nat → Int64} {E : Nat → Nat → Int32} {mk : Nat → Int32} {th : Int32} {o od : Nat} {f : Nat → Int64} {g : Nat → UInt64} {H : Heap} {locs : List Loc} {ls : Array Slot} {i k j : Nat} (hi : i + 6 ≤ L) (hb : k + 2 ≤ 601024 ∧ j + 14 ≤ 7293034) (hI : zv_I n A E mk) (hW : ze_W D (zy_W c a d n A B E mk th o od f g) (zy_F s) s.heap H locs) (hl : lv_has ls 8 (zy_L b (a 0) (d 0) o od i)) (G : zy_G p l e s m below meth cd D c b Q d o od (a 0) i (k + 2) (j + 14)) : W p l e room_1 s m #[Value.ref b] below meth cd H locs k j Q (F0 m 1824 ls []) := by
  obtain ⟨S, hst, hX, hbl, hXB, hNc, hK, hL⟩ := id C
  have hX_ := S.1
  have hB_ := S.2.1
  have hts := S.2.2.2.2
  have hA : ∀ q : Nat, s.heap.size ≤ q → zy_F s q := fun _ h => h
  obtain ⟨hb1, hb2⟩ := hb
  obtain ⟨k1, v, fr, lo, mc, ms, fr2, lo2, mc2, ms2, a2, n2, A2, B2, E2, mk2, f2, ⟨b1, b2, b3, b4, b5, b6, b7, b8⟩, hQ, hR, hkv, ha2, hG, hI2⟩ := zw_setDelay (l := l) (D := D) (c := c) (a := a) (d := d) (B := B) (th := th) (o := o) (f := f) hI hst (xs (i + 1))
  have hQ : ze_QE l yL_setDelay wsL_setDelay fr lo mc ms D c (ze_wC c a n A B E ++ [(o, .inl (c 6, 1, .inr (.inl f)))]) [.ref (a 0), .int (xs (i + 1)), .ref o] k1 (fun q => ze_wC c (a2 q) n2 A2 B2 E2 ++ [(o, .inl (c 6, 1, .inr (.inl f2)))]) := hQ
  have hR : ze_I l yX9_setDelay wsX9_setDelay fr2 lo2 mc2 ms2 D c (ze_wR c d n A B mk th) [.ref (d 0), .int (xs (i + 1))] v (ze_wR c d n2 A2 B2 mk2 k1) := hR
  have hl : lv_has ls 8 [(0, .ref b), (1, .ref (a 0)), (2, .ref (d 0)), (3, .ref o), (4, .ref od), (5, .int (nI i))] := hl
  refine lv_aload_n hX_ hB_ dL_law_1824 rfl (lv_at hl 1 rfl) ?_
  refine zy_arg (q := 1) C hW hi (by decide) (lv_at hl 0 rfl) (lv_at hl 5 rfl) dL_law_1825 dL_law_1826 dL_law_1828 rfl dL_law_1829 dL_law_1830 ?_
  refine lv_aload_n hX_ hB_ dL_law_1831 rfl (lv_at hl 3 rfl) ?_
  refine ze_FQe (As := [.ref (a 0), .int (xs (i + 1)), .ref o]) (rest := []) S hQ (vx_cwSW 3 hts gL_law_L_setDelay_n rfl rfl rfl (by decide +kernel) ⟨by show fr + 1 ≤ 13; omega, by show 8 + (_ + 11) + lo ≤ 476; omega⟩) hXB hNc hK hW hA rfl hl.1 rfl (lv_room (Nat.le_of_ble_eq_true rfl)) dL_law_1832 ⟨by show k + mc ≤ 601024; omega, by show j + ms ≤ 7293034; omega⟩ (fun q9 H locs hW => ?_)
  refine lv_istore (lv' := [(6, .int k1), (0, .ref b), (1, .ref (a 0)), (2, .ref (d 0)), (3, .ref o), (4, .ref od), (5, .int (nI i))]) hX_ hB_ dL_law_1835 hl (by decide) rfl (fun ls hl => ?_)
  refine lv_aload_n hX_ hB_ dL_law_1837 rfl (lv_at hl 3 rfl) ?_
  refine zy_arg (q := 1) C hW hi (by decide) (lv_at hl 1 rfl) (lv_at hl 6 rfl) dL_law_1838 dL_law_1839 dL_law_1841 rfl dL_law_1842 dL_law_1843 ?_
  have hW := zy_wA hW
  refine ze_FVi (As := [.int (xs (i + 1))]) (rest := []) (ci := 9) (q0 := 0) (k := (RX9, TX9, 39)) S hR (cwV 1 hts gL_law_X9_setDelay_n rfl rfl rfl (by decide +kernel) ⟨by show fr2 + 1 ≤ 13; omega, by show 8 + (_ + 11) + lo2 ≤ 476; omega⟩) hK hW hA rfl rfl rfl hl.1 rfl (lv_room (Nat.le_of_ble_eq_true rfl)) dL_law_1844 ⟨by show k + mc + mc2 ≤ 601024; omega, by show j + ms + ms2 ≤ 7293034; omega⟩ (fun H locs hW => ?_)
  refine lv_istore (lv' := [(7, .int v), (6, .int k1), (0, .ref b), (1, .ref (a 0)), (2, .ref (d 0)), (3, .ref o), (4, .ref od), (5, .int (nI i))]) hX_ hB_ dL_law_1847 hl (by decide) rfl (fun ls hl => ?_)
  refine lv_aload_n hX_ hB_ dL_law_1849 rfl (lv_at hl 4 rfl) ?_
  refine ze_FVi (As := []) (rest := []) (ci := 9) (q0 := 0) (k := (RX9, TX9, 39)) S (zr_thrown l D c d n2 A2 B2 mk2 k1) (cwV 0 hts gL_law_X9_thrown_n rfl rfl rfl (by decide +kernel) ⟨Nat.le_of_ble_eq_true rfl, Nat.le_of_ble_eq_true rfl⟩) hK hW hA rfl rfl rfl hl.1 rfl (lv_room (Nat.le_of_ble_eq_true rfl)) dL_law_1850 ⟨by show k + mc + mc2 + 0 ≤ 601024; omega, by show j + ms + ms2 + 0 ≤ 7293034; omega⟩ (fun H locs hW => ?_)
  have hW := zy_wB hW
  refine lv_iload hX_ hB_ dL_law_1853 (lv_at hl 1 rfl) ?_
  refine lv_icmp_eq (tgt := 1860) hX_ hB_ dL_law_1855 (by decide) (fun _ => ?_) (fun q => absurd rfl q)
  refine lv_iload hX_ hB_ dL_law_1860 (lv_at hl 1 rfl) ?_
  have gg : ∀ (ls : Array Slot), lv_has ls 8 [(7, .int v), (6, .int k1), (0, .ref b), (1, .ref (a 0)), (2, .ref (d 0)), (3, .ref o), (4, .ref od), (5, .int (nI i))] → W p l e room_1 s m #[Value.ref b] below meth cd H locs (k + mc + mc2 + 0) (j + ms + ms2 + 0) Q (F0 m 1877 ls []) := fun ls hl => by
    refine lv_goto (tgt := 2642) hX_ hB_ dL_law_1877 (by decide) ?_
    refine W.widen (k := k + 2) (n := j + 14) (by omega) (by omega) ?_
    exact G (a2 q9) n2 A2 B2 E2 mk2 k1 f2 g H locs ls (ha2 q9) hI2 hW (lv_sub hl [2, 3, 4, 5, 6, 7] rfl)
  refine lv_if_ne (tgt := 1877) hX_ hB_ dL_law_1862 (by decide) (fun _ => gg ls hl) (fun hk0 => ?_)
  have hf2 : f2 (0 : Int32).toNatClampNeg = v.toInt64 := hkv hk0
  refine lv_aload_n hX_ hB_ dL_law_1865 rfl (lv_at hl 5 rfl) ?_
  refine lv_iconst (v := 0) hX_ hB_ dL_law_1866 (by decide) ?_
  refine va_lald (f := f2) hX_ hB_ hK hW.1 ((ze_wC c (a2 q9) n2 A2 B2 E2).length + 0) 6 (ze_appget0 (ze_appL (k := 0) rfl)) rfl (vp_in_nI (n := 0) (N := 1) (by decide) (by decide)) dL_law_1867 ?_
  refine lv_iload hX_ hB_ dL_law_1868 (lv_at hl 0 rfl) ?_
  refine lv_i2l (v := v.toInt64) hX_ hB_ dL_law_1870 rfl ?_
  refine W.lcmp hX_ hB_ dL_law_1871 ?_
  rw [hf2, zy_cmp]
  exact lv_if_eq (tgt := 1877) hX_ hB_ dL_law_1872 (by decide) (fun _ => gg ls hl) (fun q => absurd rfl q)
set_option maxHeartbeats 4000000 in
set_option maxRecDepth 100000 in
theorem zy_bound (C : zy_C p l s m cd D c b L xs) {a d n : Nat → Nat} {A : Nat → Nat → Int32} {B : Nat → Int64} {E : Nat → Nat → Int32} {mk : Nat → Int32} {th : Int32} {o od : Nat} {f : Nat → Int64} {g : Nat → UInt64} {H : Heap} {locs : List Loc} {ls : Array Slot} {i k j : Nat} (hi : i + 6 ≤ L) (hb : k + 2 ≤ 601024 ∧ j + 14 ≤ 7293034) (hI : zv_I n A E mk) (hW : ze_W D (zy_W c a d n A B E mk th o od f g) (zy_F s) s.heap H locs) (hl : lv_has ls 8 (zy_L b (a 0) (d 0) o od i)) (G : zy_G p l e s m below meth cd D c b Q d o od (a 0) i (k + 2) (j + 14)) : W p l e room_1 s m #[Value.ref b] below meth cd H locs k j Q (F0 m 1880 ls []) := by
  obtain ⟨S, hst, hX, hbl, hXB, hNc, hK, hL⟩ := id C
  have hX_ := S.1
  have hB_ := S.2.1
  have hts := S.2.2.2.2
  have hA : ∀ q : Nat, s.heap.size ≤ q → zy_F s q := fun _ h => h
  obtain ⟨hb1, hb2⟩ := hb
  obtain ⟨k1, v, fr, lo, mc, ms, fr2, lo2, mc2, ms2, a2, n2, A2, B2, E2, mk2, f2, ⟨b1, b2, b3, b4, b5, b6, b7, b8⟩, hQ, hR, hkv, ha2, hG, hI2⟩ := zw_bound (l := l) (D := D) (c := c) (a := a) (d := d) (B := B) (th := th) (o := o) (f := f) hI hst (xs (i + 1))
  have hQ : ze_QE l yL_bound wsL_bound fr lo mc ms D c (ze_wC c a n A B E ++ [(o, .inl (c 6, 1, .inr (.inl f)))]) [.ref (a 0), .int (xs (i + 1)), .ref o] k1 (fun q => ze_wC c (a2 q) n2 A2 B2 E2 ++ [(o, .inl (c 6, 1, .inr (.inl f2)))]) := hQ
  have hR : ze_I l yX9_bound wsX9_bound fr2 lo2 mc2 ms2 D c (ze_wR c d n A B mk th) [.ref (d 0), .int (xs (i + 1))] v (ze_wR c d n2 A2 B2 mk2 k1) := hR
  have hl : lv_has ls 8 [(0, .ref b), (1, .ref (a 0)), (2, .ref (d 0)), (3, .ref o), (4, .ref od), (5, .int (nI i))] := hl
  refine lv_aload_n hX_ hB_ dL_law_1880 rfl (lv_at hl 1 rfl) ?_
  refine zy_arg (q := 1) C hW hi (by decide) (lv_at hl 0 rfl) (lv_at hl 5 rfl) dL_law_1881 dL_law_1882 dL_law_1884 rfl dL_law_1885 dL_law_1886 ?_
  refine lv_aload_n hX_ hB_ dL_law_1887 rfl (lv_at hl 3 rfl) ?_
  refine ze_FQe (As := [.ref (a 0), .int (xs (i + 1)), .ref o]) (rest := []) S hQ (vx_cwSW 3 hts gL_law_L_bound_n rfl rfl rfl (by decide +kernel) ⟨by show fr + 1 ≤ 13; omega, by show 8 + (_ + 11) + lo ≤ 476; omega⟩) hXB hNc hK hW hA rfl hl.1 rfl (lv_room (Nat.le_of_ble_eq_true rfl)) dL_law_1888 ⟨by show k + mc ≤ 601024; omega, by show j + ms ≤ 7293034; omega⟩ (fun q9 H locs hW => ?_)
  refine lv_istore (lv' := [(6, .int k1), (0, .ref b), (1, .ref (a 0)), (2, .ref (d 0)), (3, .ref o), (4, .ref od), (5, .int (nI i))]) hX_ hB_ dL_law_1891 hl (by decide) rfl (fun ls hl => ?_)
  refine lv_aload_n hX_ hB_ dL_law_1893 rfl (lv_at hl 3 rfl) ?_
  refine zy_arg (q := 1) C hW hi (by decide) (lv_at hl 1 rfl) (lv_at hl 6 rfl) dL_law_1894 dL_law_1895 dL_law_1897 rfl dL_law_1898 dL_law_1899 ?_
  have hW := zy_wA hW
  refine ze_FVi (As := [.int (xs (i + 1))]) (rest := []) (ci := 9) (q0 := 0) (k := (RX9, TX9, 39)) S hR (cwV 1 hts gL_law_X9_bound_n rfl rfl rfl (by decide +kernel) ⟨by show fr2 + 1 ≤ 13; omega, by show 8 + (_ + 11) + lo2 ≤ 476; omega⟩) hK hW hA rfl rfl rfl hl.1 rfl (lv_room (Nat.le_of_ble_eq_true rfl)) dL_law_1900 ⟨by show k + mc + mc2 ≤ 601024; omega, by show j + ms + ms2 ≤ 7293034; omega⟩ (fun H locs hW => ?_)
  refine lv_istore (lv' := [(7, .int v), (6, .int k1), (0, .ref b), (1, .ref (a 0)), (2, .ref (d 0)), (3, .ref o), (4, .ref od), (5, .int (nI i))]) hX_ hB_ dL_law_1903 hl (by decide) rfl (fun ls hl => ?_)
  refine lv_aload_n hX_ hB_ dL_law_1905 rfl (lv_at hl 4 rfl) ?_
  refine ze_FVi (As := []) (rest := []) (ci := 9) (q0 := 0) (k := (RX9, TX9, 39)) S (zr_thrown l D c d n2 A2 B2 mk2 k1) (cwV 0 hts gL_law_X9_thrown_n rfl rfl rfl (by decide +kernel) ⟨Nat.le_of_ble_eq_true rfl, Nat.le_of_ble_eq_true rfl⟩) hK hW hA rfl rfl rfl hl.1 rfl (lv_room (Nat.le_of_ble_eq_true rfl)) dL_law_1906 ⟨by show k + mc + mc2 + 0 ≤ 601024; omega, by show j + ms + ms2 + 0 ≤ 7293034; omega⟩ (fun H locs hW => ?_)
  have hW := zy_wB hW
  refine lv_iload hX_ hB_ dL_law_1909 (lv_at hl 1 rfl) ?_
  refine lv_icmp_eq (tgt := 1916) hX_ hB_ dL_law_1911 (by decide) (fun _ => ?_) (fun q => absurd rfl q)
  refine lv_iload hX_ hB_ dL_law_1916 (lv_at hl 1 rfl) ?_
  have gg : ∀ (ls : Array Slot), lv_has ls 8 [(7, .int v), (6, .int k1), (0, .ref b), (1, .ref (a 0)), (2, .ref (d 0)), (3, .ref o), (4, .ref od), (5, .int (nI i))] → W p l e room_1 s m #[Value.ref b] below meth cd H locs (k + mc + mc2 + 0) (j + ms + ms2 + 0) Q (F0 m 1933 ls []) := fun ls hl => by
    refine lv_goto (tgt := 2642) hX_ hB_ dL_law_1933 (by decide) ?_
    refine W.widen (k := k + 2) (n := j + 14) (by omega) (by omega) ?_
    exact G (a2 q9) n2 A2 B2 E2 mk2 k1 f2 g H locs ls (ha2 q9) hI2 hW (lv_sub hl [2, 3, 4, 5, 6, 7] rfl)
  refine lv_if_ne (tgt := 1933) hX_ hB_ dL_law_1918 (by decide) (fun _ => gg ls hl) (fun hk0 => ?_)
  have hf2 : f2 (0 : Int32).toNatClampNeg = v.toInt64 := hkv hk0
  refine lv_aload_n hX_ hB_ dL_law_1921 rfl (lv_at hl 5 rfl) ?_
  refine lv_iconst (v := 0) hX_ hB_ dL_law_1922 (by decide) ?_
  refine va_lald (f := f2) hX_ hB_ hK hW.1 ((ze_wC c (a2 q9) n2 A2 B2 E2).length + 0) 6 (ze_appget0 (ze_appL (k := 0) rfl)) rfl (vp_in_nI (n := 0) (N := 1) (by decide) (by decide)) dL_law_1923 ?_
  refine lv_iload hX_ hB_ dL_law_1924 (lv_at hl 0 rfl) ?_
  refine lv_i2l (v := v.toInt64) hX_ hB_ dL_law_1926 rfl ?_
  refine W.lcmp hX_ hB_ dL_law_1927 ?_
  rw [hf2, zy_cmp]
  exact lv_if_eq (tgt := 1933) hX_ hB_ dL_law_1928 (by decide) (fun _ => gg ls hl) (fun q => absurd rfl q)
set_option maxHeartbeats 4000000 in
set_option maxRecDepth 100000 in
theorem zy_demand (C : zy_C p l s m cd D c b L xs) {a d n : Nat → Nat} {A : Nat → Nat → Int32} {B : Nat → Int64} {E : Nat → Nat → Int32} {mk : Nat → Int32} {th : Int32} {o od : Nat} {f : Nat → Int64} {g : Nat → UInt64} {H : Heap} {locs : List Loc} {ls : Array Slot} {i k j : Nat} (hi : i + 6 ≤ L) (hb : k + 2 ≤ 601024 ∧ j + 14 ≤ 7293034) (hI : zv_I n A E mk) (hW : ze_W D (zy_W c a d n A B E mk th o od f g) (zy_F s) s.heap H locs) (hl : lv_has ls 8 (zy_L b (a 0) (d 0) o od i)) (G : zy_G p l e s m below meth cd D c b Q d o od (a 0) i (k + 2) (j + 14)) : W p l e room_1 s m #[Value.ref b] below meth cd H locs k j Q (F0 m 1936 ls []) := by
  obtain ⟨S, hst, hX, hbl, hXB, hNc, hK, hL⟩ := id C
  have hX_ := S.1
  have hB_ := S.2.1
  have hts := S.2.2.2.2
  have hA : ∀ q : Nat, s.heap.size ≤ q → zy_F s q := fun _ h => h
  obtain ⟨hb1, hb2⟩ := hb
  obtain ⟨k1, v, fr, lo, mc, ms, fr2, lo2, mc2, ms2, a2, n2, A2, B2, E2, mk2, f2, ⟨b1, b2, b3, b4, b5, b6, b7, b8⟩, hQ, hR, hkv, ha2, hG, hI2⟩ := zw_demand (l := l) (D := D) (c := c) (a := a) (d := d) (B := B) (th := th) (o := o) (f := f) hI hst (xs (i + 1))
  have hQ : ze_QE l yL_demand wsL_demand fr lo mc ms D c (ze_wC c a n A B E ++ [(o, .inl (c 6, 1, .inr (.inl f)))]) [.ref (a 0), .int (xs (i + 1)), .ref o] k1 (fun q => ze_wC c (a2 q) n2 A2 B2 E2 ++ [(o, .inl (c 6, 1, .inr (.inl f2)))]) := hQ
  have hR : ze_I l yX9_demand wsX9_demand fr2 lo2 mc2 ms2 D c (ze_wR c d n A B mk th) [.ref (d 0), .int (xs (i + 1))] v (ze_wR c d n2 A2 B2 mk2 k1) := hR
  have hl : lv_has ls 8 [(0, .ref b), (1, .ref (a 0)), (2, .ref (d 0)), (3, .ref o), (4, .ref od), (5, .int (nI i))] := hl
  refine lv_aload_n hX_ hB_ dL_law_1936 rfl (lv_at hl 1 rfl) ?_
  refine zy_arg (q := 1) C hW hi (by decide) (lv_at hl 0 rfl) (lv_at hl 5 rfl) dL_law_1937 dL_law_1938 dL_law_1940 rfl dL_law_1941 dL_law_1942 ?_
  refine lv_aload_n hX_ hB_ dL_law_1943 rfl (lv_at hl 3 rfl) ?_
  refine ze_FQe (As := [.ref (a 0), .int (xs (i + 1)), .ref o]) (rest := []) S hQ (vx_cwSW 3 hts gL_law_L_demand_n rfl rfl rfl (by decide +kernel) ⟨by show fr + 1 ≤ 13; omega, by show 8 + (_ + 11) + lo ≤ 476; omega⟩) hXB hNc hK hW hA rfl hl.1 rfl (lv_room (Nat.le_of_ble_eq_true rfl)) dL_law_1944 ⟨by show k + mc ≤ 601024; omega, by show j + ms ≤ 7293034; omega⟩ (fun q9 H locs hW => ?_)
  refine lv_istore (lv' := [(6, .int k1), (0, .ref b), (1, .ref (a 0)), (2, .ref (d 0)), (3, .ref o), (4, .ref od), (5, .int (nI i))]) hX_ hB_ dL_law_1947 hl (by decide) rfl (fun ls hl => ?_)
  refine lv_aload_n hX_ hB_ dL_law_1949 rfl (lv_at hl 3 rfl) ?_
  refine zy_arg (q := 1) C hW hi (by decide) (lv_at hl 1 rfl) (lv_at hl 6 rfl) dL_law_1950 dL_law_1951 dL_law_1953 rfl dL_law_1954 dL_law_1955 ?_
  have hW := zy_wA hW
  refine ze_FVi (As := [.int (xs (i + 1))]) (rest := []) (ci := 9) (q0 := 0) (k := (RX9, TX9, 39)) S hR (cwV 1 hts gL_law_X9_demand_n rfl rfl rfl (by decide +kernel) ⟨by show fr2 + 1 ≤ 13; omega, by show 8 + (_ + 11) + lo2 ≤ 476; omega⟩) hK hW hA rfl rfl rfl hl.1 rfl (lv_room (Nat.le_of_ble_eq_true rfl)) dL_law_1956 ⟨by show k + mc + mc2 ≤ 601024; omega, by show j + ms + ms2 ≤ 7293034; omega⟩ (fun H locs hW => ?_)
  refine lv_istore (lv' := [(7, .int v), (6, .int k1), (0, .ref b), (1, .ref (a 0)), (2, .ref (d 0)), (3, .ref o), (4, .ref od), (5, .int (nI i))]) hX_ hB_ dL_law_1959 hl (by decide) rfl (fun ls hl => ?_)
  refine lv_aload_n hX_ hB_ dL_law_1961 rfl (lv_at hl 4 rfl) ?_
  refine ze_FVi (As := []) (rest := []) (ci := 9) (q0 := 0) (k := (RX9, TX9, 39)) S (zr_thrown l D c d n2 A2 B2 mk2 k1) (cwV 0 hts gL_law_X9_thrown_n rfl rfl rfl (by decide +kernel) ⟨Nat.le_of_ble_eq_true rfl, Nat.le_of_ble_eq_true rfl⟩) hK hW hA rfl rfl rfl hl.1 rfl (lv_room (Nat.le_of_ble_eq_true rfl)) dL_law_1962 ⟨by show k + mc + mc2 + 0 ≤ 601024; omega, by show j + ms + ms2 + 0 ≤ 7293034; omega⟩ (fun H locs hW => ?_)
  have hW := zy_wB hW
  refine lv_iload hX_ hB_ dL_law_1965 (lv_at hl 1 rfl) ?_
  refine lv_icmp_eq (tgt := 1972) hX_ hB_ dL_law_1967 (by decide) (fun _ => ?_) (fun q => absurd rfl q)
  refine lv_iload hX_ hB_ dL_law_1972 (lv_at hl 1 rfl) ?_
  have gg : ∀ (ls : Array Slot), lv_has ls 8 [(7, .int v), (6, .int k1), (0, .ref b), (1, .ref (a 0)), (2, .ref (d 0)), (3, .ref o), (4, .ref od), (5, .int (nI i))] → W p l e room_1 s m #[Value.ref b] below meth cd H locs (k + mc + mc2 + 0) (j + ms + ms2 + 0) Q (F0 m 1989 ls []) := fun ls hl => by
    refine lv_goto (tgt := 2642) hX_ hB_ dL_law_1989 (by decide) ?_
    refine W.widen (k := k + 2) (n := j + 14) (by omega) (by omega) ?_
    exact G (a2 q9) n2 A2 B2 E2 mk2 k1 f2 g H locs ls (ha2 q9) hI2 hW (lv_sub hl [2, 3, 4, 5, 6, 7] rfl)
  refine lv_if_ne (tgt := 1989) hX_ hB_ dL_law_1974 (by decide) (fun _ => gg ls hl) (fun hk0 => ?_)
  have hf2 : f2 (0 : Int32).toNatClampNeg = v.toInt64 := hkv hk0
  refine lv_aload_n hX_ hB_ dL_law_1977 rfl (lv_at hl 5 rfl) ?_
  refine lv_iconst (v := 0) hX_ hB_ dL_law_1978 (by decide) ?_
  refine va_lald (f := f2) hX_ hB_ hK hW.1 ((ze_wC c (a2 q9) n2 A2 B2 E2).length + 0) 6 (ze_appget0 (ze_appL (k := 0) rfl)) rfl (vp_in_nI (n := 0) (N := 1) (by decide) (by decide)) dL_law_1979 ?_
  refine lv_iload hX_ hB_ dL_law_1980 (lv_at hl 0 rfl) ?_
  refine lv_i2l (v := v.toInt64) hX_ hB_ dL_law_1982 rfl ?_
  refine W.lcmp hX_ hB_ dL_law_1983 ?_
  rw [hf2, zy_cmp]
  exact lv_if_eq (tgt := 1989) hX_ hB_ dL_law_1984 (by decide) (fun _ => gg ls hl) (fun q => absurd rfl q)
set_option maxHeartbeats 4000000 in
set_option maxRecDepth 100000 in
theorem zy_isKept (C : zy_C p l s m cd D c b L xs) {a d n : Nat → Nat} {A : Nat → Nat → Int32} {B : Nat → Int64} {E : Nat → Nat → Int32} {mk : Nat → Int32} {th : Int32} {o od : Nat} {f : Nat → Int64} {g : Nat → UInt64} {H : Heap} {locs : List Loc} {ls : Array Slot} {i k j : Nat} (hi : i + 6 ≤ L) (hb : k + 2 ≤ 601024 ∧ j + 14 ≤ 7293034) (hI : zv_I n A E mk) (hW : ze_W D (zy_W c a d n A B E mk th o od f g) (zy_F s) s.heap H locs) (hl : lv_has ls 8 (zy_L b (a 0) (d 0) o od i)) (G : zy_G p l e s m below meth cd D c b Q d o od (a 0) i (k + 2) (j + 14)) : W p l e room_1 s m #[Value.ref b] below meth cd H locs k j Q (F0 m 1992 ls []) := by
  obtain ⟨S, hst, hX, hbl, hXB, hNc, hK, hL⟩ := id C
  have hX_ := S.1
  have hB_ := S.2.1
  have hts := S.2.2.2.2
  have hA : ∀ q : Nat, s.heap.size ≤ q → zy_F s q := fun _ h => h
  obtain ⟨hb1, hb2⟩ := hb
  obtain ⟨k1, v, fr, lo, mc, ms, fr2, lo2, mc2, ms2, a2, n2, A2, B2, E2, mk2, f2, ⟨b1, b2, b3, b4, b5, b6, b7, b8⟩, hQ, hR, hkv, ha2, hG, hI2⟩ := zw_isKept (l := l) (D := D) (c := c) (a := a) (d := d) (B := B) (th := th) (o := o) (f := f) hI hst (xs (i + 1))
  have hQ : ze_QE l yL_isKept wsL_isKept fr lo mc ms D c (ze_wC c a n A B E ++ [(o, .inl (c 6, 1, .inr (.inl f)))]) [.ref (a 0), .int (xs (i + 1)), .ref o] k1 (fun q => ze_wC c (a2 q) n2 A2 B2 E2 ++ [(o, .inl (c 6, 1, .inr (.inl f2)))]) := hQ
  have hR : ze_I l yX9_isKept wsX9_isKept fr2 lo2 mc2 ms2 D c (ze_wR c d n A B mk th) [.ref (d 0), .int (xs (i + 1))] v (ze_wR c d n2 A2 B2 mk2 k1) := hR
  have hl : lv_has ls 8 [(0, .ref b), (1, .ref (a 0)), (2, .ref (d 0)), (3, .ref o), (4, .ref od), (5, .int (nI i))] := hl
  refine lv_aload_n hX_ hB_ dL_law_1992 rfl (lv_at hl 1 rfl) ?_
  refine zy_arg (q := 1) C hW hi (by decide) (lv_at hl 0 rfl) (lv_at hl 5 rfl) dL_law_1993 dL_law_1994 dL_law_1996 rfl dL_law_1997 dL_law_1998 ?_
  refine lv_aload_n hX_ hB_ dL_law_1999 rfl (lv_at hl 3 rfl) ?_
  refine ze_FQe (As := [.ref (a 0), .int (xs (i + 1)), .ref o]) (rest := []) S hQ (vx_cwSW 3 hts gL_law_L_isKept_n rfl rfl rfl (by decide +kernel) ⟨by show fr + 1 ≤ 13; omega, by show 8 + (_ + 11) + lo ≤ 476; omega⟩) hXB hNc hK hW hA rfl hl.1 rfl (lv_room (Nat.le_of_ble_eq_true rfl)) dL_law_2000 ⟨by show k + mc ≤ 601024; omega, by show j + ms ≤ 7293034; omega⟩ (fun q9 H locs hW => ?_)
  refine lv_istore (lv' := [(6, .int k1), (0, .ref b), (1, .ref (a 0)), (2, .ref (d 0)), (3, .ref o), (4, .ref od), (5, .int (nI i))]) hX_ hB_ dL_law_2003 hl (by decide) rfl (fun ls hl => ?_)
  refine lv_aload_n hX_ hB_ dL_law_2005 rfl (lv_at hl 3 rfl) ?_
  refine zy_arg (q := 1) C hW hi (by decide) (lv_at hl 1 rfl) (lv_at hl 6 rfl) dL_law_2006 dL_law_2007 dL_law_2009 rfl dL_law_2010 dL_law_2011 ?_
  have hW := zy_wA hW
  refine ze_FVi (As := [.int (xs (i + 1))]) (rest := []) (ci := 9) (q0 := 0) (k := (RX9, TX9, 39)) S hR (cwV 1 hts gL_law_X9_isKept_n rfl rfl rfl (by decide +kernel) ⟨by show fr2 + 1 ≤ 13; omega, by show 8 + (_ + 11) + lo2 ≤ 476; omega⟩) hK hW hA rfl rfl rfl hl.1 rfl (lv_room (Nat.le_of_ble_eq_true rfl)) dL_law_2012 ⟨by show k + mc + mc2 ≤ 601024; omega, by show j + ms + ms2 ≤ 7293034; omega⟩ (fun H locs hW => ?_)
  refine lv_istore (lv' := [(7, .int v), (6, .int k1), (0, .ref b), (1, .ref (a 0)), (2, .ref (d 0)), (3, .ref o), (4, .ref od), (5, .int (nI i))]) hX_ hB_ dL_law_2015 hl (by decide) rfl (fun ls hl => ?_)
  refine lv_aload_n hX_ hB_ dL_law_2017 rfl (lv_at hl 4 rfl) ?_
  refine ze_FVi (As := []) (rest := []) (ci := 9) (q0 := 0) (k := (RX9, TX9, 39)) S (zr_thrown l D c d n2 A2 B2 mk2 k1) (cwV 0 hts gL_law_X9_thrown_n rfl rfl rfl (by decide +kernel) ⟨Nat.le_of_ble_eq_true rfl, Nat.le_of_ble_eq_true rfl⟩) hK hW hA rfl rfl rfl hl.1 rfl (lv_room (Nat.le_of_ble_eq_true rfl)) dL_law_2018 ⟨by show k + mc + mc2 + 0 ≤ 601024; omega, by show j + ms + ms2 + 0 ≤ 7293034; omega⟩ (fun H locs hW => ?_)
  have hW := zy_wB hW
  refine lv_iload hX_ hB_ dL_law_2021 (lv_at hl 1 rfl) ?_
  refine lv_icmp_eq (tgt := 2028) hX_ hB_ dL_law_2023 (by decide) (fun _ => ?_) (fun q => absurd rfl q)
  refine lv_iload hX_ hB_ dL_law_2028 (lv_at hl 1 rfl) ?_
  have gg : ∀ (ls : Array Slot), lv_has ls 8 [(7, .int v), (6, .int k1), (0, .ref b), (1, .ref (a 0)), (2, .ref (d 0)), (3, .ref o), (4, .ref od), (5, .int (nI i))] → W p l e room_1 s m #[Value.ref b] below meth cd H locs (k + mc + mc2 + 0) (j + ms + ms2 + 0) Q (F0 m 2052 ls []) := fun ls hl => by
    refine lv_goto (tgt := 2642) hX_ hB_ dL_law_2052 (by decide) ?_
    refine W.widen (k := k + 2) (n := j + 14) (by omega) (by omega) ?_
    exact G (a2 q9) n2 A2 B2 E2 mk2 k1 f2 g H locs ls (ha2 q9) hI2 hW (lv_sub hl [2, 3, 4, 5, 6, 7] rfl)
  refine lv_if_ne (tgt := 2052) hX_ hB_ dL_law_2030 (by decide) (fun _ => gg ls hl) (fun hk0 => ?_)
  have hf2 : f2 (0 : Int32).toNatClampNeg = v.toInt64 := hkv hk0
  refine lv_aload_n hX_ hB_ dL_law_2033 rfl (lv_at hl 5 rfl) ?_
  refine lv_iconst (v := 0) hX_ hB_ dL_law_2034 (by decide) ?_
  refine va_lald (f := f2) hX_ hB_ hK hW.1 ((ze_wC c (a2 q9) n2 A2 B2 E2).length + 0) 6 (ze_appget0 (ze_appL (k := 0) rfl)) rfl (vp_in_nI (n := 0) (N := 1) (by decide) (by decide)) dL_law_2035 ?_
  refine lv_iload hX_ hB_ dL_law_2036 (lv_at hl 0 rfl) ?_
  refine lv_if_eq (tgt := 2045) hX_ hB_ dL_law_2038 (by decide) (fun hv => ?_) (fun hv => ?_)
  · refine lv_lconst (v := 0) hX_ hB_ dL_law_2045 (by decide) ?_
    refine W.lcmp hX_ hB_ dL_law_2046 ?_
    have e0 : (0 : Int32).toInt64 = 0 := by decide
    rw [hf2, hv, e0, zy_cmp]
    exact lv_if_eq (tgt := 2052) hX_ hB_ dL_law_2047 (by decide) (fun _ => gg ls hl) (fun q => absurd rfl q)
  · refine lv_lconst (v := 1) hX_ hB_ dL_law_2041 (by decide) ?_
    refine lv_goto (tgt := 2046) hX_ hB_ dL_law_2042 (by decide) ?_
    refine W.lcmp hX_ hB_ dL_law_2046 ?_
    have e1 : v = 1 := hG.resolve_left hv
    have e0 : (1 : Int32).toInt64 = 1 := by decide
    rw [hf2, e1, e0, zy_cmp]
    exact lv_if_eq (tgt := 2052) hX_ hB_ dL_law_2047 (by decide) (fun _ => gg ls hl) (fun q => absurd rfl q)
set_option maxHeartbeats 4000000 in
set_option maxRecDepth 100000 in
theorem zy_barrier (C : zy_C p l s m cd D c b L xs) {a d n : Nat → Nat} {A : Nat → Nat → Int32} {B : Nat → Int64} {E : Nat → Nat → Int32} {mk : Nat → Int32} {th : Int32} {o od : Nat} {f : Nat → Int64} {g : Nat → UInt64} {H : Heap} {locs : List Loc} {ls : Array Slot} {i k j : Nat} (hi : i + 6 ≤ L) (hb : k + 2 ≤ 601024 ∧ j + 14 ≤ 7293034) (hI : zv_I n A E mk) (hW : ze_W D (zy_W c a d n A B E mk th o od f g) (zy_F s) s.heap H locs) (hl : lv_has ls 8 (zy_L b (a 0) (d 0) o od i)) (G : zy_G p l e s m below meth cd D c b Q d o od (a 0) i (k + 2) (j + 14)) : W p l e room_1 s m #[Value.ref b] below meth cd H locs k j Q (F0 m 2055 ls []) := by
  obtain ⟨S, hst, hX, hbl, hXB, hNc, hK, hL⟩ := id C
  have hX_ := S.1
  have hB_ := S.2.1
  have hts := S.2.2.2.2
  have hA : ∀ q : Nat, s.heap.size ≤ q → zy_F s q := fun _ h => h
  obtain ⟨hb1, hb2⟩ := hb
  obtain ⟨k1, v, fr, lo, mc, ms, fr2, lo2, mc2, ms2, a2, n2, A2, B2, E2, mk2, f2, ⟨b1, b2, b3, b4, b5, b6, b7, b8⟩, hQ, hR, hkv, ha2, hG, hI2⟩ := zw_barrier_n (l := l) (D := D) (c := c) (a := a) (d := d) (B := B) (th := th) (o := o) (f := f) hI hst (xs (i + 1))
  have hQ : ze_QE l yL_barrier wsL_barrier_n fr lo mc ms D c (ze_wC c a n A B E ++ [(o, .inl (c 6, 1, .inr (.inl f)))]) [.ref (a 0), .int (xs (i + 1)), .ref o] k1 (fun q => ze_wC c (a2 q) n2 A2 B2 E2 ++ [(o, .inl (c 6, 1, .inr (.inl f2)))]) := hQ
  have hR : ze_I l yX9_barrier wsX9_barrier fr2 lo2 mc2 ms2 D c (ze_wR c d n A B mk th) [.ref (d 0), .int (xs (i + 1))] v (ze_wR c d n2 A2 B2 mk2 k1) := hR
  have hl : lv_has ls 8 [(0, .ref b), (1, .ref (a 0)), (2, .ref (d 0)), (3, .ref o), (4, .ref od), (5, .int (nI i))] := hl
  refine lv_aload_n hX_ hB_ dL_law_2055 rfl (lv_at hl 1 rfl) ?_
  refine zy_arg (q := 1) C hW hi (by decide) (lv_at hl 0 rfl) (lv_at hl 5 rfl) dL_law_2056 dL_law_2057 dL_law_2059 rfl dL_law_2060 dL_law_2061 ?_
  refine lv_aload_n hX_ hB_ dL_law_2062 rfl (lv_at hl 3 rfl) ?_
  refine ze_FQe (As := [.ref (a 0), .int (xs (i + 1)), .ref o]) (rest := []) S hQ (vx_cwSW 3 hts gL_law_L_barrier_n rfl rfl rfl (by decide +kernel) ⟨by show fr + 1 ≤ 13; omega, by show 8 + (_ + 11) + lo ≤ 476; omega⟩) hXB hNc hK hW hA rfl hl.1 rfl (lv_room (Nat.le_of_ble_eq_true rfl)) dL_law_2063 ⟨by show k + mc ≤ 601024; omega, by show j + ms ≤ 7293034; omega⟩ (fun q9 H locs hW => ?_)
  refine lv_istore (lv' := [(6, .int k1), (0, .ref b), (1, .ref (a 0)), (2, .ref (d 0)), (3, .ref o), (4, .ref od), (5, .int (nI i))]) hX_ hB_ dL_law_2066 hl (by decide) rfl (fun ls hl => ?_)
  refine lv_aload_n hX_ hB_ dL_law_2068 rfl (lv_at hl 3 rfl) ?_
  refine zy_arg (q := 1) C hW hi (by decide) (lv_at hl 1 rfl) (lv_at hl 6 rfl) dL_law_2069 dL_law_2070 dL_law_2072 rfl dL_law_2073 dL_law_2074 ?_
  have hW := zy_wA hW
  refine ze_FVi (As := [.int (xs (i + 1))]) (rest := []) (ci := 9) (q0 := 0) (k := (RX9, TX9, 39)) S hR (cwV 1 hts gL_law_X9_barrier_n rfl rfl rfl (by decide +kernel) ⟨by show fr2 + 1 ≤ 13; omega, by show 8 + (_ + 11) + lo2 ≤ 476; omega⟩) hK hW hA rfl rfl rfl hl.1 rfl (lv_room (Nat.le_of_ble_eq_true rfl)) dL_law_2075 ⟨by show k + mc + mc2 ≤ 601024; omega, by show j + ms + ms2 ≤ 7293034; omega⟩ (fun H locs hW => ?_)
  refine lv_istore (lv' := [(7, .int v), (6, .int k1), (0, .ref b), (1, .ref (a 0)), (2, .ref (d 0)), (3, .ref o), (4, .ref od), (5, .int (nI i))]) hX_ hB_ dL_law_2078 hl (by decide) rfl (fun ls hl => ?_)
  refine lv_aload_n hX_ hB_ dL_law_2080 rfl (lv_at hl 4 rfl) ?_
  refine ze_FVi (As := []) (rest := []) (ci := 9) (q0 := 0) (k := (RX9, TX9, 39)) S (zr_thrown l D c d n2 A2 B2 mk2 k1) (cwV 0 hts gL_law_X9_thrown_n rfl rfl rfl (by decide +kernel) ⟨Nat.le_of_ble_eq_true rfl, Nat.le_of_ble_eq_true rfl⟩) hK hW hA rfl rfl rfl hl.1 rfl (lv_room (Nat.le_of_ble_eq_true rfl)) dL_law_2081 ⟨by show k + mc + mc2 + 0 ≤ 601024; omega, by show j + ms + ms2 + 0 ≤ 7293034; omega⟩ (fun H locs hW => ?_)
  have hW := zy_wB hW
  refine lv_iload hX_ hB_ dL_law_2084 (lv_at hl 1 rfl) ?_
  refine lv_icmp_eq (tgt := 2091) hX_ hB_ dL_law_2086 (by decide) (fun _ => ?_) (fun q => absurd rfl q)
  refine lv_iload hX_ hB_ dL_law_2091 (lv_at hl 1 rfl) ?_
  have gg : ∀ (ls : Array Slot), lv_has ls 8 [(7, .int v), (6, .int k1), (0, .ref b), (1, .ref (a 0)), (2, .ref (d 0)), (3, .ref o), (4, .ref od), (5, .int (nI i))] → W p l e room_1 s m #[Value.ref b] below meth cd H locs (k + mc + mc2 + 0) (j + ms + ms2 + 0) Q (F0 m 2108 ls []) := fun ls hl => by
    refine lv_goto (tgt := 2642) hX_ hB_ dL_law_2108 (by decide) ?_
    refine W.widen (k := k + 2) (n := j + 14) (by omega) (by omega) ?_
    exact G (a2 q9) n2 A2 B2 E2 mk2 k1 f2 g H locs ls (ha2 q9) hI2 hW (lv_sub hl [2, 3, 4, 5, 6, 7] rfl)
  refine lv_if_ne (tgt := 2108) hX_ hB_ dL_law_2093 (by decide) (fun _ => gg ls hl) (fun hk0 => ?_)
  have hf2 : f2 (0 : Int32).toNatClampNeg = v.toInt64 := hkv hk0
  refine lv_aload_n hX_ hB_ dL_law_2096 rfl (lv_at hl 5 rfl) ?_
  refine lv_iconst (v := 0) hX_ hB_ dL_law_2097 (by decide) ?_
  refine va_lald (f := f2) hX_ hB_ hK hW.1 ((ze_wC c (a2 q9) n2 A2 B2 E2).length + 0) 6 (ze_appget0 (ze_appL (k := 0) rfl)) rfl (vp_in_nI (n := 0) (N := 1) (by decide) (by decide)) dL_law_2098 ?_
  refine lv_iload hX_ hB_ dL_law_2099 (lv_at hl 0 rfl) ?_
  refine lv_i2l (v := v.toInt64) hX_ hB_ dL_law_2101 rfl ?_
  refine W.lcmp hX_ hB_ dL_law_2102 ?_
  rw [hf2, zy_cmp]
  exact lv_if_eq (tgt := 2108) hX_ hB_ dL_law_2103 (by decide) (fun _ => gg ls hl) (fun q => absurd rfl q)
set_option maxHeartbeats 4000000 in
set_option maxRecDepth 100000 in
theorem zy_behind (C : zy_C p l s m cd D c b L xs) {a d n : Nat → Nat} {A : Nat → Nat → Int32} {B : Nat → Int64} {E : Nat → Nat → Int32} {mk : Nat → Int32} {th : Int32} {o od : Nat} {f : Nat → Int64} {g : Nat → UInt64} {H : Heap} {locs : List Loc} {ls : Array Slot} {i k j : Nat} (hi : i + 6 ≤ L) (hb : k + 2 ≤ 601024 ∧ j + 14 ≤ 7293034) (hI : zv_I n A E mk) (hW : ze_W D (zy_W c a d n A B E mk th o od f g) (zy_F s) s.heap H locs) (hl : lv_has ls 8 (zy_L b (a 0) (d 0) o od i)) (G : zy_G p l e s m below meth cd D c b Q d o od (a 0) i (k + 2) (j + 14)) : W p l e room_1 s m #[Value.ref b] below meth cd H locs k j Q (F0 m 2111 ls []) := by
  obtain ⟨S, hst, hX, hbl, hXB, hNc, hK, hL⟩ := id C
  have hX_ := S.1
  have hB_ := S.2.1
  have hts := S.2.2.2.2
  have hA : ∀ q : Nat, s.heap.size ≤ q → zy_F s q := fun _ h => h
  obtain ⟨hb1, hb2⟩ := hb
  obtain ⟨k1, v, fr, lo, mc, ms, fr2, lo2, mc2, ms2, a2, n2, A2, B2, E2, mk2, f2, ⟨b1, b2, b3, b4, b5, b6, b7, b8⟩, hQ, hR, hkv, ha2, hG, hI2⟩ := zw_behind_n (l := l) (D := D) (c := c) (a := a) (d := d) (B := B) (th := th) (o := o) (f := f) hI hst (xs (i + 1))
  have hQ : ze_QE l yL_behind wsL_behind_n fr lo mc ms D c (ze_wC c a n A B E ++ [(o, .inl (c 6, 1, .inr (.inl f)))]) [.ref (a 0), .int (xs (i + 1)), .ref o] k1 (fun q => ze_wC c (a2 q) n2 A2 B2 E2 ++ [(o, .inl (c 6, 1, .inr (.inl f2)))]) := hQ
  have hR : ze_I l yX9_behind wsX9_behind fr2 lo2 mc2 ms2 D c (ze_wR c d n A B mk th) [.ref (d 0), .int (xs (i + 1))] v (ze_wR c d n2 A2 B2 mk2 k1) := hR
  have hl : lv_has ls 8 [(0, .ref b), (1, .ref (a 0)), (2, .ref (d 0)), (3, .ref o), (4, .ref od), (5, .int (nI i))] := hl
  refine lv_aload_n hX_ hB_ dL_law_2111 rfl (lv_at hl 1 rfl) ?_
  refine zy_arg (q := 1) C hW hi (by decide) (lv_at hl 0 rfl) (lv_at hl 5 rfl) dL_law_2112 dL_law_2113 dL_law_2115 rfl dL_law_2116 dL_law_2117 ?_
  refine lv_aload_n hX_ hB_ dL_law_2118 rfl (lv_at hl 3 rfl) ?_
  refine ze_FQe (As := [.ref (a 0), .int (xs (i + 1)), .ref o]) (rest := []) S hQ (vx_cwSW 3 hts gL_law_L_behind_n rfl rfl rfl (by decide +kernel) ⟨by show fr + 1 ≤ 13; omega, by show 8 + (_ + 11) + lo ≤ 476; omega⟩) hXB hNc hK hW hA rfl hl.1 rfl (lv_room (Nat.le_of_ble_eq_true rfl)) dL_law_2119 ⟨by show k + mc ≤ 601024; omega, by show j + ms ≤ 7293034; omega⟩ (fun q9 H locs hW => ?_)
  refine lv_istore (lv' := [(6, .int k1), (0, .ref b), (1, .ref (a 0)), (2, .ref (d 0)), (3, .ref o), (4, .ref od), (5, .int (nI i))]) hX_ hB_ dL_law_2122 hl (by decide) rfl (fun ls hl => ?_)
  refine lv_aload_n hX_ hB_ dL_law_2124 rfl (lv_at hl 3 rfl) ?_
  refine zy_arg (q := 1) C hW hi (by decide) (lv_at hl 1 rfl) (lv_at hl 6 rfl) dL_law_2125 dL_law_2126 dL_law_2128 rfl dL_law_2129 dL_law_2130 ?_
  have hW := zy_wA hW
  refine ze_FVi (As := [.int (xs (i + 1))]) (rest := []) (ci := 9) (q0 := 0) (k := (RX9, TX9, 39)) S hR (cwV 1 hts gL_law_X9_behind_n rfl rfl rfl (by decide +kernel) ⟨by show fr2 + 1 ≤ 13; omega, by show 8 + (_ + 11) + lo2 ≤ 476; omega⟩) hK hW hA rfl rfl rfl hl.1 rfl (lv_room (Nat.le_of_ble_eq_true rfl)) dL_law_2131 ⟨by show k + mc + mc2 ≤ 601024; omega, by show j + ms + ms2 ≤ 7293034; omega⟩ (fun H locs hW => ?_)
  refine lv_istore (lv' := [(7, .int v), (6, .int k1), (0, .ref b), (1, .ref (a 0)), (2, .ref (d 0)), (3, .ref o), (4, .ref od), (5, .int (nI i))]) hX_ hB_ dL_law_2134 hl (by decide) rfl (fun ls hl => ?_)
  refine lv_aload_n hX_ hB_ dL_law_2136 rfl (lv_at hl 4 rfl) ?_
  refine ze_FVi (As := []) (rest := []) (ci := 9) (q0 := 0) (k := (RX9, TX9, 39)) S (zr_thrown l D c d n2 A2 B2 mk2 k1) (cwV 0 hts gL_law_X9_thrown_n rfl rfl rfl (by decide +kernel) ⟨Nat.le_of_ble_eq_true rfl, Nat.le_of_ble_eq_true rfl⟩) hK hW hA rfl rfl rfl hl.1 rfl (lv_room (Nat.le_of_ble_eq_true rfl)) dL_law_2137 ⟨by show k + mc + mc2 + 0 ≤ 601024; omega, by show j + ms + ms2 + 0 ≤ 7293034; omega⟩ (fun H locs hW => ?_)
  have hW := zy_wB hW
  refine lv_iload hX_ hB_ dL_law_2140 (lv_at hl 1 rfl) ?_
  refine lv_icmp_eq (tgt := 2147) hX_ hB_ dL_law_2142 (by decide) (fun _ => ?_) (fun q => absurd rfl q)
  refine lv_iload hX_ hB_ dL_law_2147 (lv_at hl 1 rfl) ?_
  have gg : ∀ (ls : Array Slot), lv_has ls 8 [(7, .int v), (6, .int k1), (0, .ref b), (1, .ref (a 0)), (2, .ref (d 0)), (3, .ref o), (4, .ref od), (5, .int (nI i))] → W p l e room_1 s m #[Value.ref b] below meth cd H locs (k + mc + mc2 + 0) (j + ms + ms2 + 0) Q (F0 m 2164 ls []) := fun ls hl => by
    refine lv_goto (tgt := 2642) hX_ hB_ dL_law_2164 (by decide) ?_
    refine W.widen (k := k + 2) (n := j + 14) (by omega) (by omega) ?_
    exact G (a2 q9) n2 A2 B2 E2 mk2 k1 f2 g H locs ls (ha2 q9) hI2 hW (lv_sub hl [2, 3, 4, 5, 6, 7] rfl)
  refine lv_if_ne (tgt := 2164) hX_ hB_ dL_law_2149 (by decide) (fun _ => gg ls hl) (fun hk0 => ?_)
  have hf2 : f2 (0 : Int32).toNatClampNeg = v.toInt64 := hkv hk0
  refine lv_aload_n hX_ hB_ dL_law_2152 rfl (lv_at hl 5 rfl) ?_
  refine lv_iconst (v := 0) hX_ hB_ dL_law_2153 (by decide) ?_
  refine va_lald (f := f2) hX_ hB_ hK hW.1 ((ze_wC c (a2 q9) n2 A2 B2 E2).length + 0) 6 (ze_appget0 (ze_appL (k := 0) rfl)) rfl (vp_in_nI (n := 0) (N := 1) (by decide) (by decide)) dL_law_2154 ?_
  refine lv_iload hX_ hB_ dL_law_2155 (lv_at hl 0 rfl) ?_
  refine lv_i2l (v := v.toInt64) hX_ hB_ dL_law_2157 rfl ?_
  refine W.lcmp hX_ hB_ dL_law_2158 ?_
  rw [hf2, zy_cmp]
  exact lv_if_eq (tgt := 2164) hX_ hB_ dL_law_2159 (by decide) (fun _ => gg ls hl) (fun q => absurd rfl q)
set_option maxHeartbeats 4000000 in
set_option maxRecDepth 100000 in
theorem zy_share (C : zy_C p l s m cd D c b L xs) {a d n : Nat → Nat} {A : Nat → Nat → Int32} {B : Nat → Int64} {E : Nat → Nat → Int32} {mk : Nat → Int32} {th : Int32} {o od : Nat} {f : Nat → Int64} {g : Nat → UInt64} {H : Heap} {locs : List Loc} {ls : Array Slot} {i k j : Nat} (hi : i + 6 ≤ L) (hb : k + 2 ≤ 601024 ∧ j + 14 ≤ 7293034) (hI : zv_I n A E mk) (hW : ze_W D (zy_W c a d n A B E mk th o od f g) (zy_F s) s.heap H locs) (hl : lv_has ls 8 (zy_L b (a 0) (d 0) o od i)) (G : zy_G p l e s m below meth cd D c b Q d o od (a 0) i (k + 2) (j + 14)) : W p l e room_1 s m #[Value.ref b] below meth cd H locs k j Q (F0 m 2167 ls []) := by
  obtain ⟨S, hst, hX, hbl, hXB, hNc, hK, hL⟩ := id C
  have hX_ := S.1
  have hB_ := S.2.1
  have hts := S.2.2.2.2
  have hA : ∀ q : Nat, s.heap.size ≤ q → zy_F s q := fun _ h => h
  obtain ⟨hb1, hb2⟩ := hb
  obtain ⟨k1, v, fr, lo, mc, ms, fr2, lo2, mc2, ms2, a2, n2, A2, B2, E2, mk2, f2, ⟨b1, b2, b3, b4, b5, b6, b7, b8⟩, hQ, hR, hkv, ha2, hG, hI2⟩ := zw_share_n (l := l) (D := D) (c := c) (a := a) (d := d) (B := B) (th := th) (o := o) (f := f) hI hst (xs (i + 1)) (xs (i + 2)) (xs (i + 3))
  have hQ : ze_QE l yL_share wsL_share_n fr lo mc ms D c (ze_wC c a n A B E ++ [(o, .inl (c 6, 1, .inr (.inl f)))]) [.ref (a 0), .int (xs (i + 1)), .int (xs (i + 2)), .int (xs (i + 3)), .ref o] k1 (fun q => ze_wC c (a2 q) n2 A2 B2 E2 ++ [(o, .inl (c 6, 1, .inr (.inl f2)))]) := hQ
  have hR : ze_I l yX9_share wsX9_share fr2 lo2 mc2 ms2 D c (ze_wR c d n A B mk th) [.ref (d 0), .int (xs (i + 1)), .int (xs (i + 2)), .int (xs (i + 3))] v (ze_wR c d n2 A2 B2 mk2 k1) := hR
  have hl : lv_has ls 8 [(0, .ref b), (1, .ref (a 0)), (2, .ref (d 0)), (3, .ref o), (4, .ref od), (5, .int (nI i))] := hl
  refine lv_aload_n hX_ hB_ dL_law_2167 rfl (lv_at hl 1 rfl) ?_
  refine zy_arg (q := 1) C hW hi (by decide) (lv_at hl 0 rfl) (lv_at hl 5 rfl) dL_law_2168 dL_law_2169 dL_law_2171 rfl dL_law_2172 dL_law_2173 ?_
  refine zy_arg (q := 2) C hW hi (by decide) (lv_at hl 0 rfl) (lv_at hl 5 rfl) dL_law_2174 dL_law_2175 dL_law_2177 rfl dL_law_2178 dL_law_2179 ?_
  refine zy_arg (q := 3) C hW hi (by decide) (lv_at hl 0 rfl) (lv_at hl 5 rfl) dL_law_2180 dL_law_2181 dL_law_2183 rfl dL_law_2184 dL_law_2185 ?_
  refine lv_aload_n hX_ hB_ dL_law_2186 rfl (lv_at hl 3 rfl) ?_
  refine ze_FQe (As := [.ref (a 0), .int (xs (i + 1)), .int (xs (i + 2)), .int (xs (i + 3)), .ref o]) (rest := []) S hQ (vx_cwSW 5 hts gL_law_L_share_n rfl rfl rfl (by decide +kernel) ⟨by show fr + 1 ≤ 13; omega, by show 8 + (_ + 11) + lo ≤ 476; omega⟩) hXB hNc hK hW hA rfl hl.1 rfl (lv_room (Nat.le_of_ble_eq_true rfl)) dL_law_2187 ⟨by show k + mc ≤ 601024; omega, by show j + ms ≤ 7293034; omega⟩ (fun q9 H locs hW => ?_)
  refine lv_istore (lv' := [(6, .int k1), (0, .ref b), (1, .ref (a 0)), (2, .ref (d 0)), (3, .ref o), (4, .ref od), (5, .int (nI i))]) hX_ hB_ dL_law_2190 hl (by decide) rfl (fun ls hl => ?_)
  refine lv_aload_n hX_ hB_ dL_law_2192 rfl (lv_at hl 3 rfl) ?_
  refine zy_arg (q := 1) C hW hi (by decide) (lv_at hl 1 rfl) (lv_at hl 6 rfl) dL_law_2193 dL_law_2194 dL_law_2196 rfl dL_law_2197 dL_law_2198 ?_
  refine zy_arg (q := 2) C hW hi (by decide) (lv_at hl 1 rfl) (lv_at hl 6 rfl) dL_law_2199 dL_law_2200 dL_law_2202 rfl dL_law_2203 dL_law_2204 ?_
  refine zy_arg (q := 3) C hW hi (by decide) (lv_at hl 1 rfl) (lv_at hl 6 rfl) dL_law_2205 dL_law_2206 dL_law_2208 rfl dL_law_2209 dL_law_2210 ?_
  have hW := zy_wA hW
  refine ze_FVi (As := [.int (xs (i + 1)), .int (xs (i + 2)), .int (xs (i + 3))]) (rest := []) (ci := 9) (q0 := 0) (k := (RX9, TX9, 39)) S hR (cwV 3 hts gL_law_X9_share_n rfl rfl rfl (by decide +kernel) ⟨by show fr2 + 1 ≤ 13; omega, by show 8 + (_ + 11) + lo2 ≤ 476; omega⟩) hK hW hA rfl rfl rfl hl.1 rfl (lv_room (Nat.le_of_ble_eq_true rfl)) dL_law_2211 ⟨by show k + mc + mc2 ≤ 601024; omega, by show j + ms + ms2 ≤ 7293034; omega⟩ (fun H locs hW => ?_)
  refine lv_istore (lv' := [(7, .int v), (6, .int k1), (0, .ref b), (1, .ref (a 0)), (2, .ref (d 0)), (3, .ref o), (4, .ref od), (5, .int (nI i))]) hX_ hB_ dL_law_2214 hl (by decide) rfl (fun ls hl => ?_)
  refine lv_aload_n hX_ hB_ dL_law_2216 rfl (lv_at hl 4 rfl) ?_
  refine ze_FVi (As := []) (rest := []) (ci := 9) (q0 := 0) (k := (RX9, TX9, 39)) S (zr_thrown l D c d n2 A2 B2 mk2 k1) (cwV 0 hts gL_law_X9_thrown_n rfl rfl rfl (by decide +kernel) ⟨Nat.le_of_ble_eq_true rfl, Nat.le_of_ble_eq_true rfl⟩) hK hW hA rfl rfl rfl hl.1 rfl (lv_room (Nat.le_of_ble_eq_true rfl)) dL_law_2217 ⟨by show k + mc + mc2 + 0 ≤ 601024; omega, by show j + ms + ms2 + 0 ≤ 7293034; omega⟩ (fun H locs hW => ?_)
  have hW := zy_wB hW
  refine lv_iload hX_ hB_ dL_law_2220 (lv_at hl 1 rfl) ?_
  refine lv_icmp_eq (tgt := 2227) hX_ hB_ dL_law_2222 (by decide) (fun _ => ?_) (fun q => absurd rfl q)
  refine lv_iload hX_ hB_ dL_law_2227 (lv_at hl 1 rfl) ?_
  have gg : ∀ (ls : Array Slot), lv_has ls 8 [(7, .int v), (6, .int k1), (0, .ref b), (1, .ref (a 0)), (2, .ref (d 0)), (3, .ref o), (4, .ref od), (5, .int (nI i))] → W p l e room_1 s m #[Value.ref b] below meth cd H locs (k + mc + mc2 + 0) (j + ms + ms2 + 0) Q (F0 m 2244 ls []) := fun ls hl => by
    refine lv_goto (tgt := 2642) hX_ hB_ dL_law_2244 (by decide) ?_
    refine W.widen (k := k + 2) (n := j + 14) (by omega) (by omega) ?_
    exact G (a2 q9) n2 A2 B2 E2 mk2 k1 f2 g H locs ls (ha2 q9) hI2 hW (lv_sub hl [2, 3, 4, 5, 6, 7] rfl)
  refine lv_if_ne (tgt := 2244) hX_ hB_ dL_law_2229 (by decide) (fun _ => gg ls hl) (fun hk0 => ?_)
  have hf2 : f2 (0 : Int32).toNatClampNeg = v.toInt64 := hkv hk0
  refine lv_aload_n hX_ hB_ dL_law_2232 rfl (lv_at hl 5 rfl) ?_
  refine lv_iconst (v := 0) hX_ hB_ dL_law_2233 (by decide) ?_
  refine va_lald (f := f2) hX_ hB_ hK hW.1 ((ze_wC c (a2 q9) n2 A2 B2 E2).length + 0) 6 (ze_appget0 (ze_appL (k := 0) rfl)) rfl (vp_in_nI (n := 0) (N := 1) (by decide) (by decide)) dL_law_2234 ?_
  refine lv_iload hX_ hB_ dL_law_2235 (lv_at hl 0 rfl) ?_
  refine lv_i2l (v := v.toInt64) hX_ hB_ dL_law_2237 rfl ?_
  refine W.lcmp hX_ hB_ dL_law_2238 ?_
  rw [hf2, zy_cmp]
  exact lv_if_eq (tgt := 2244) hX_ hB_ dL_law_2239 (by decide) (fun _ => gg ls hl) (fun q => absurd rfl q)
end ZY
