/-! ===== the law's calls, walked ===== -/
section ZY
variable {p : Program} {l : Launch} {e : Env} {s : State} {m : MethodId} {below : List Frame} {meth : Method} {cd : Code} {D : va_G} {c : Nat → ClassId} {b L : Nat} {xs : Nat → Int32} {Q : State → Prop}
set_option maxHeartbeats 4000000 in
set_option maxRecDepth 100000 in
theorem zy_addGenerator (C : zy_C p l s m cd D c b L xs) {a d n : Nat → Nat} {A : Nat → Nat → Int32} {B : Nat → Int64} {E : Nat → Nat → Int32} {mk : Nat → Int32} {th : Int32} {o od : Nat} {f : Nat → Int64} {g : Nat → UInt64} {H : Heap} {locs : List Loc} {ls : Array Slot} {i k j : Nat} (hi : i + 6 ≤ L) (hb : k + 2 ≤ 601024 ∧ j + 14 ≤ 7293034) (hI : zv_I n A E mk) (hW : ze_W D (zy_W c a d n A B E mk th o od f g) (zy_F s) s.heap H locs) (hl : lv_has ls 8 (zy_L b (a 0) (d 0) o od i)) (G : zy_G p l e s m below meth cd D c b Q d o od (a 0) i (k + 2) (j + 14)) : W p l e room_1 s m #[Value.ref b] below meth cd H locs k j Q (F0 m 857 ls []) := by
  obtain ⟨S, hst, hX, hbl, hXB, hNc, hK, hL⟩ := id C
  have hX_ := S.1
  have hB_ := S.2.1
  have hts := S.2.2.2.2
  have hA : ∀ q : Nat, s.heap.size ≤ q → zy_F s q := fun _ h => h
  obtain ⟨hb1, hb2⟩ := hb
  obtain ⟨k1, v, fr, lo, mc, ms, fr2, lo2, mc2, ms2, a2, n2, A2, B2, E2, mk2, f2, ⟨b1, b2, b3, b4, b5, b6, b7, b8⟩, hQ, hR, hkv, ha2, hG, hI2⟩ := zw_addGenerator (l := l) (D := D) (c := c) (a := a) (d := d) (B := B) (th := th) (o := o) (f := f) hI hst (xs (i + 1)) (xs (i + 2)) (xs (i + 3)) (xs (i + 4)) (xs (i + 5))
  have hQ : ze_QE l yL_addGenerator wsL_addGenerator fr lo mc ms D c (ze_wC c a n A B E ++ [(o, .inl (c 6, 1, .inr (.inl f)))]) [.ref (a 0), .int (xs (i + 1)), .int (xs (i + 2)), .int (xs (i + 3)), .int (xs (i + 4)), .int (xs (i + 5)), .ref o] k1 (fun q => ze_wC c (a2 q) n2 A2 B2 E2 ++ [(o, .inl (c 6, 1, .inr (.inl f2)))]) := hQ
  have hR : ze_I l yX9_addGenerator wsX9_addGenerator fr2 lo2 mc2 ms2 D c (ze_wR c d n A B mk th) [.ref (d 0), .int (xs (i + 1)), .int (xs (i + 2)), .int (xs (i + 3)), .int (xs (i + 4)), .int (xs (i + 5))] v (ze_wR c d n2 A2 B2 mk2 k1) := hR
  have hl : lv_has ls 8 [(0, .ref b), (1, .ref (a 0)), (2, .ref (d 0)), (3, .ref o), (4, .ref od), (5, .int (nI i))] := hl
  refine lv_aload_n hX_ hB_ dL_law_857 rfl (lv_at hl 1 rfl) ?_
  refine zy_arg (q := 1) C hW hi (by decide) (lv_at hl 0 rfl) (lv_at hl 5 rfl) dL_law_858 dL_law_859 dL_law_861 rfl dL_law_862 dL_law_863 ?_
  refine zy_arg (q := 2) C hW hi (by decide) (lv_at hl 0 rfl) (lv_at hl 5 rfl) dL_law_864 dL_law_865 dL_law_867 rfl dL_law_868 dL_law_869 ?_
  refine zy_arg (q := 3) C hW hi (by decide) (lv_at hl 0 rfl) (lv_at hl 5 rfl) dL_law_870 dL_law_871 dL_law_873 rfl dL_law_874 dL_law_875 ?_
  refine zy_arg (q := 4) C hW hi (by decide) (lv_at hl 0 rfl) (lv_at hl 5 rfl) dL_law_876 dL_law_877 dL_law_879 rfl dL_law_880 dL_law_881 ?_
  refine zy_arg (q := 5) C hW hi (by decide) (lv_at hl 0 rfl) (lv_at hl 5 rfl) dL_law_882 dL_law_883 dL_law_885 rfl dL_law_886 dL_law_887 ?_
  refine lv_aload_n hX_ hB_ dL_law_888 rfl (lv_at hl 3 rfl) ?_
  refine ze_FQe (As := [.ref (a 0), .int (xs (i + 1)), .int (xs (i + 2)), .int (xs (i + 3)), .int (xs (i + 4)), .int (xs (i + 5)), .ref o]) (rest := []) S hQ (vx_cwSW 7 hts gL_law_L_addGenerator_n rfl rfl rfl (by decide +kernel) ⟨by show fr + 1 ≤ 13; omega, by show 8 + (_ + 11) + lo ≤ 476; omega⟩) hXB hNc hK hW hA rfl hl.1 rfl (lv_room (Nat.le_of_ble_eq_true rfl)) dL_law_889 ⟨by show k + mc ≤ 601024; omega, by show j + ms ≤ 7293034; omega⟩ (fun q9 H locs hW => ?_)
  refine lv_istore (lv' := [(6, .int k1), (0, .ref b), (1, .ref (a 0)), (2, .ref (d 0)), (3, .ref o), (4, .ref od), (5, .int (nI i))]) hX_ hB_ dL_law_892 hl (by decide) rfl (fun ls hl => ?_)
  refine lv_aload_n hX_ hB_ dL_law_894 rfl (lv_at hl 3 rfl) ?_
  refine zy_arg (q := 1) C hW hi (by decide) (lv_at hl 1 rfl) (lv_at hl 6 rfl) dL_law_895 dL_law_896 dL_law_898 rfl dL_law_899 dL_law_900 ?_
  refine zy_arg (q := 2) C hW hi (by decide) (lv_at hl 1 rfl) (lv_at hl 6 rfl) dL_law_901 dL_law_902 dL_law_904 rfl dL_law_905 dL_law_906 ?_
  refine zy_arg (q := 3) C hW hi (by decide) (lv_at hl 1 rfl) (lv_at hl 6 rfl) dL_law_907 dL_law_908 dL_law_910 rfl dL_law_911 dL_law_912 ?_
  refine zy_arg (q := 4) C hW hi (by decide) (lv_at hl 1 rfl) (lv_at hl 6 rfl) dL_law_913 dL_law_914 dL_law_916 rfl dL_law_917 dL_law_918 ?_
  refine zy_arg (q := 5) C hW hi (by decide) (lv_at hl 1 rfl) (lv_at hl 6 rfl) dL_law_919 dL_law_920 dL_law_922 rfl dL_law_923 dL_law_924 ?_
  have hW := zy_wA hW
  refine ze_FVi (As := [.int (xs (i + 1)), .int (xs (i + 2)), .int (xs (i + 3)), .int (xs (i + 4)), .int (xs (i + 5))]) (rest := []) (ci := 9) (q0 := 0) (k := (RX9, TX9, 39)) S hR (cwV 5 hts gL_law_X9_addGenerator_n rfl rfl rfl (by decide +kernel) ⟨by show fr2 + 1 ≤ 13; omega, by show 8 + (_ + 11) + lo2 ≤ 476; omega⟩) hK hW hA rfl rfl rfl hl.1 rfl (lv_room (Nat.le_of_ble_eq_true rfl)) dL_law_925 ⟨by show k + mc + mc2 ≤ 601024; omega, by show j + ms + ms2 ≤ 7293034; omega⟩ (fun H locs hW => ?_)
  refine lv_istore (lv' := [(7, .int v), (6, .int k1), (0, .ref b), (1, .ref (a 0)), (2, .ref (d 0)), (3, .ref o), (4, .ref od), (5, .int (nI i))]) hX_ hB_ dL_law_928 hl (by decide) rfl (fun ls hl => ?_)
  refine lv_aload_n hX_ hB_ dL_law_930 rfl (lv_at hl 4 rfl) ?_
  refine ze_FVi (As := []) (rest := []) (ci := 9) (q0 := 0) (k := (RX9, TX9, 39)) S (zr_thrown l D c d n2 A2 B2 mk2 k1) (cwV 0 hts gL_law_X9_thrown_n rfl rfl rfl (by decide +kernel) ⟨Nat.le_of_ble_eq_true rfl, Nat.le_of_ble_eq_true rfl⟩) hK hW hA rfl rfl rfl hl.1 rfl (lv_room (Nat.le_of_ble_eq_true rfl)) dL_law_931 ⟨by show k + mc + mc2 + 0 ≤ 601024; omega, by show j + ms + ms2 + 0 ≤ 7293034; omega⟩ (fun H locs hW => ?_)
  have hW := zy_wB hW
  refine lv_iload hX_ hB_ dL_law_934 (lv_at hl 1 rfl) ?_
  refine lv_icmp_eq (tgt := 941) hX_ hB_ dL_law_936 (by decide) (fun _ => ?_) (fun q => absurd rfl q)
  refine lv_iload hX_ hB_ dL_law_941 (lv_at hl 1 rfl) ?_
  have gg : ∀ (ls : Array Slot), lv_has ls 8 [(7, .int v), (6, .int k1), (0, .ref b), (1, .ref (a 0)), (2, .ref (d 0)), (3, .ref o), (4, .ref od), (5, .int (nI i))] → W p l e room_1 s m #[Value.ref b] below meth cd H locs (k + mc + mc2 + 0) (j + ms + ms2 + 0) Q (F0 m 958 ls []) := fun ls hl => by
    refine lv_goto (tgt := 2642) hX_ hB_ dL_law_958 (by decide) ?_
    refine W.widen (k := k + 2) (n := j + 14) (by omega) (by omega) ?_
    exact G (a2 q9) n2 A2 B2 E2 mk2 k1 f2 g H locs ls (ha2 q9) hI2 hW (lv_sub hl [2, 3, 4, 5, 6, 7] rfl)
  refine lv_if_ne (tgt := 958) hX_ hB_ dL_law_943 (by decide) (fun _ => gg ls hl) (fun hk0 => ?_)
  have hf2 : f2 (0 : Int32).toNatClampNeg = v.toInt64 := hkv hk0
  refine lv_aload_n hX_ hB_ dL_law_946 rfl (lv_at hl 5 rfl) ?_
  refine lv_iconst (v := 0) hX_ hB_ dL_law_947 (by decide) ?_
  refine va_lald (f := f2) hX_ hB_ hK hW.1 ((ze_wC c (a2 q9) n2 A2 B2 E2).length + 0) 6 (ze_appget0 (ze_appL (k := 0) rfl)) rfl (vp_in_nI (n := 0) (N := 1) (by decide) (by decide)) dL_law_948 ?_
  refine lv_iload hX_ hB_ dL_law_949 (lv_at hl 0 rfl) ?_
  refine lv_i2l (v := v.toInt64) hX_ hB_ dL_law_951 rfl ?_
  refine W.lcmp hX_ hB_ dL_law_952 ?_
  rw [hf2, zy_cmp]
  exact lv_if_eq (tgt := 958) hX_ hB_ dL_law_953 (by decide) (fun _ => gg ls hl) (fun q => absurd rfl q)
set_option maxHeartbeats 4000000 in
set_option maxRecDepth 100000 in
theorem zy_start (C : zy_C p l s m cd D c b L xs) {a d n : Nat → Nat} {A : Nat → Nat → Int32} {B : Nat → Int64} {E : Nat → Nat → Int32} {mk : Nat → Int32} {th : Int32} {o od : Nat} {f : Nat → Int64} {g : Nat → UInt64} {H : Heap} {locs : List Loc} {ls : Array Slot} {i k j : Nat} (hi : i + 6 ≤ L) (hb : k + 2 ≤ 601024 ∧ j + 14 ≤ 7293034) (hI : zv_I n A E mk) (hW : ze_W D (zy_W c a d n A B E mk th o od f g) (zy_F s) s.heap H locs) (hl : lv_has ls 8 (zy_L b (a 0) (d 0) o od i)) (G : zy_G p l e s m below meth cd D c b Q d o od (a 0) i (k + 2) (j + 14)) : W p l e room_1 s m #[Value.ref b] below meth cd H locs k j Q (F0 m 961 ls []) := by
  obtain ⟨S, hst, hX, hbl, hXB, hNc, hK, hL⟩ := id C
  have hX_ := S.1
  have hB_ := S.2.1
  have hts := S.2.2.2.2
  have hA : ∀ q : Nat, s.heap.size ≤ q → zy_F s q := fun _ h => h
  obtain ⟨hb1, hb2⟩ := hb
  obtain ⟨k1, v, fr, lo, mc, ms, fr2, lo2, mc2, ms2, a2, n2, A2, B2, E2, mk2, f2, ⟨b1, b2, b3, b4, b5, b6, b7, b8⟩, hQ, hR, hkv, ha2, hG, hI2⟩ := zw_start_n (l := l) (D := D) (c := c) (a := a) (d := d) (B := B) (th := th) (o := o) (f := f) hI hst (xs (i + 1))
  have hQ : ze_QE l yL_start wsL_start_n fr lo mc ms D c (ze_wC c a n A B E ++ [(o, .inl (c 6, 1, .inr (.inl f)))]) [.ref (a 0), .int (xs (i + 1)), .ref o] k1 (fun q => ze_wC c (a2 q) n2 A2 B2 E2 ++ [(o, .inl (c 6, 1, .inr (.inl f2)))]) := hQ
  have hR : ze_I l yX9_start wsX9_start fr2 lo2 mc2 ms2 D c (ze_wR c d n A B mk th) [.ref (d 0), .int (xs (i + 1))] v (ze_wR c d n2 A2 B2 mk2 k1) := hR
  have hl : lv_has ls 8 [(0, .ref b), (1, .ref (a 0)), (2, .ref (d 0)), (3, .ref o), (4, .ref od), (5, .int (nI i))] := hl
  refine lv_aload_n hX_ hB_ dL_law_961 rfl (lv_at hl 1 rfl) ?_
  refine zy_arg (q := 1) C hW hi (by decide) (lv_at hl 0 rfl) (lv_at hl 5 rfl) dL_law_962 dL_law_963 dL_law_965 rfl dL_law_966 dL_law_967 ?_
  refine lv_aload_n hX_ hB_ dL_law_968 rfl (lv_at hl 3 rfl) ?_
  refine ze_FQe (As := [.ref (a 0), .int (xs (i + 1)), .ref o]) (rest := []) S hQ (vx_cwSW 3 hts gL_law_L_start_n rfl rfl rfl (by decide +kernel) ⟨by show fr + 1 ≤ 13; omega, by show 8 + (_ + 11) + lo ≤ 476; omega⟩) hXB hNc hK hW hA rfl hl.1 rfl (lv_room (Nat.le_of_ble_eq_true rfl)) dL_law_969 ⟨by show k + mc ≤ 601024; omega, by show j + ms ≤ 7293034; omega⟩ (fun q9 H locs hW => ?_)
  refine lv_istore (lv' := [(6, .int k1), (0, .ref b), (1, .ref (a 0)), (2, .ref (d 0)), (3, .ref o), (4, .ref od), (5, .int (nI i))]) hX_ hB_ dL_law_972 hl (by decide) rfl (fun ls hl => ?_)
  refine lv_aload_n hX_ hB_ dL_law_974 rfl (lv_at hl 3 rfl) ?_
  refine zy_arg (q := 1) C hW hi (by decide) (lv_at hl 1 rfl) (lv_at hl 6 rfl) dL_law_975 dL_law_976 dL_law_978 rfl dL_law_979 dL_law_980 ?_
  have hW := zy_wA hW
  refine ze_FVi (As := [.int (xs (i + 1))]) (rest := []) (ci := 9) (q0 := 0) (k := (RX9, TX9, 39)) S hR (cwV 1 hts gL_law_X9_start_n rfl rfl rfl (by decide +kernel) ⟨by show fr2 + 1 ≤ 13; omega, by show 8 + (_ + 11) + lo2 ≤ 476; omega⟩) hK hW hA rfl rfl rfl hl.1 rfl (lv_room (Nat.le_of_ble_eq_true rfl)) dL_law_981 ⟨by show k + mc + mc2 ≤ 601024; omega, by show j + ms + ms2 ≤ 7293034; omega⟩ (fun H locs hW => ?_)
  refine lv_istore (lv' := [(7, .int v), (6, .int k1), (0, .ref b), (1, .ref (a 0)), (2, .ref (d 0)), (3, .ref o), (4, .ref od), (5, .int (nI i))]) hX_ hB_ dL_law_984 hl (by decide) rfl (fun ls hl => ?_)
  refine lv_aload_n hX_ hB_ dL_law_986 rfl (lv_at hl 4 rfl) ?_
  refine ze_FVi (As := []) (rest := []) (ci := 9) (q0 := 0) (k := (RX9, TX9, 39)) S (zr_thrown l D c d n2 A2 B2 mk2 k1) (cwV 0 hts gL_law_X9_thrown_n rfl rfl rfl (by decide +kernel) ⟨Nat.le_of_ble_eq_true rfl, Nat.le_of_ble_eq_true rfl⟩) hK hW hA rfl rfl rfl hl.1 rfl (lv_room (Nat.le_of_ble_eq_true rfl)) dL_law_987 ⟨by show k + mc + mc2 + 0 ≤ 601024; omega, by show j + ms + ms2 + 0 ≤ 7293034; omega⟩ (fun H locs hW => ?_)
  have hW := zy_wB hW
  refine lv_iload hX_ hB_ dL_law_990 (lv_at hl 1 rfl) ?_
  refine lv_icmp_eq (tgt := 997) hX_ hB_ dL_law_992 (by decide) (fun _ => ?_) (fun q => absurd rfl q)
  refine lv_iload hX_ hB_ dL_law_997 (lv_at hl 1 rfl) ?_
  have gg : ∀ (ls : Array Slot), lv_has ls 8 [(7, .int v), (6, .int k1), (0, .ref b), (1, .ref (a 0)), (2, .ref (d 0)), (3, .ref o), (4, .ref od), (5, .int (nI i))] → W p l e room_1 s m #[Value.ref b] below meth cd H locs (k + mc + mc2 + 0) (j + ms + ms2 + 0) Q (F0 m 1014 ls []) := fun ls hl => by
    refine lv_goto (tgt := 2642) hX_ hB_ dL_law_1014 (by decide) ?_
    refine W.widen (k := k + 2) (n := j + 14) (by omega) (by omega) ?_
    exact G (a2 q9) n2 A2 B2 E2 mk2 k1 f2 g H locs ls (ha2 q9) hI2 hW (lv_sub hl [2, 3, 4, 5, 6, 7] rfl)
  refine lv_if_ne (tgt := 1014) hX_ hB_ dL_law_999 (by decide) (fun _ => gg ls hl) (fun hk0 => ?_)
  have hf2 : f2 (0 : Int32).toNatClampNeg = v.toInt64 := hkv hk0
  refine lv_aload_n hX_ hB_ dL_law_1002 rfl (lv_at hl 5 rfl) ?_
  refine lv_iconst (v := 0) hX_ hB_ dL_law_1003 (by decide) ?_
  refine va_lald (f := f2) hX_ hB_ hK hW.1 ((ze_wC c (a2 q9) n2 A2 B2 E2).length + 0) 6 (ze_appget0 (ze_appL (k := 0) rfl)) rfl (vp_in_nI (n := 0) (N := 1) (by decide) (by decide)) dL_law_1004 ?_
  refine lv_iload hX_ hB_ dL_law_1005 (lv_at hl 0 rfl) ?_
  refine lv_i2l (v := v.toInt64) hX_ hB_ dL_law_1007 rfl ?_
  refine W.lcmp hX_ hB_ dL_law_1008 ?_
  rw [hf2, zy_cmp]
  exact lv_if_eq (tgt := 1014) hX_ hB_ dL_law_1009 (by decide) (fun _ => gg ls hl) (fun q => absurd rfl q)
set_option maxHeartbeats 4000000 in
set_option maxRecDepth 100000 in
theorem zy_stop (C : zy_C p l s m cd D c b L xs) {a d n : Nat → Nat} {A : Nat → Nat → Int32} {B : Nat → Int64} {E : Nat → Nat → Int32} {mk : Nat → Int32} {th : Int32} {o od : Nat} {f : Nat → Int64} {g : Nat → UInt64} {H : Heap} {locs : List Loc} {ls : Array Slot} {i k j : Nat} (hi : i + 6 ≤ L) (hb : k + 2 ≤ 601024 ∧ j + 14 ≤ 7293034) (hI : zv_I n A E mk) (hW : ze_W D (zy_W c a d n A B E mk th o od f g) (zy_F s) s.heap H locs) (hl : lv_has ls 8 (zy_L b (a 0) (d 0) o od i)) (G : zy_G p l e s m below meth cd D c b Q d o od (a 0) i (k + 2) (j + 14)) : W p l e room_1 s m #[Value.ref b] below meth cd H locs k j Q (F0 m 1017 ls []) := by
  obtain ⟨S, hst, hX, hbl, hXB, hNc, hK, hL⟩ := id C
  have hX_ := S.1
  have hB_ := S.2.1
  have hts := S.2.2.2.2
  have hA : ∀ q : Nat, s.heap.size ≤ q → zy_F s q := fun _ h => h
  obtain ⟨hb1, hb2⟩ := hb
  obtain ⟨k1, v, fr, lo, mc, ms, fr2, lo2, mc2, ms2, a2, n2, A2, B2, E2, mk2, f2, ⟨b1, b2, b3, b4, b5, b6, b7, b8⟩, hQ, hR, hkv, ha2, hG, hI2⟩ := zw_stop (l := l) (D := D) (c := c) (a := a) (d := d) (B := B) (th := th) (o := o) (f := f) hI hst (xs (i + 1))
  have hQ : ze_QE l yL_stop wsL_stop fr lo mc ms D c (ze_wC c a n A B E ++ [(o, .inl (c 6, 1, .inr (.inl f)))]) [.ref (a 0), .int (xs (i + 1)), .ref o] k1 (fun q => ze_wC c (a2 q) n2 A2 B2 E2 ++ [(o, .inl (c 6, 1, .inr (.inl f2)))]) := hQ
  have hR : ze_I l yX9_stop wsX9_stop fr2 lo2 mc2 ms2 D c (ze_wR c d n A B mk th) [.ref (d 0), .int (xs (i + 1))] v (ze_wR c d n2 A2 B2 mk2 k1) := hR
  have hl : lv_has ls 8 [(0, .ref b), (1, .ref (a 0)), (2, .ref (d 0)), (3, .ref o), (4, .ref od), (5, .int (nI i))] := hl
  refine lv_aload_n hX_ hB_ dL_law_1017 rfl (lv_at hl 1 rfl) ?_
  refine zy_arg (q := 1) C hW hi (by decide) (lv_at hl 0 rfl) (lv_at hl 5 rfl) dL_law_1018 dL_law_1019 dL_law_1021 rfl dL_law_1022 dL_law_1023 ?_
  refine lv_aload_n hX_ hB_ dL_law_1024 rfl (lv_at hl 3 rfl) ?_
  refine ze_FQe (As := [.ref (a 0), .int (xs (i + 1)), .ref o]) (rest := []) S hQ (vx_cwSW 3 hts gL_law_L_stop_n rfl rfl rfl (by decide +kernel) ⟨by show fr + 1 ≤ 13; omega, by show 8 + (_ + 11) + lo ≤ 476; omega⟩) hXB hNc hK hW hA rfl hl.1 rfl (lv_room (Nat.le_of_ble_eq_true rfl)) dL_law_1025 ⟨by show k + mc ≤ 601024; omega, by show j + ms ≤ 7293034; omega⟩ (fun q9 H locs hW => ?_)
  refine lv_istore (lv' := [(6, .int k1), (0, .ref b), (1, .ref (a 0)), (2, .ref (d 0)), (3, .ref o), (4, .ref od), (5, .int (nI i))]) hX_ hB_ dL_law_1028 hl (by decide) rfl (fun ls hl => ?_)
  refine lv_aload_n hX_ hB_ dL_law_1030 rfl (lv_at hl 3 rfl) ?_
  refine zy_arg (q := 1) C hW hi (by decide) (lv_at hl 1 rfl) (lv_at hl 6 rfl) dL_law_1031 dL_law_1032 dL_law_1034 rfl dL_law_1035 dL_law_1036 ?_
  have hW := zy_wA hW
  refine ze_FVi (As := [.int (xs (i + 1))]) (rest := []) (ci := 9) (q0 := 0) (k := (RX9, TX9, 39)) S hR (cwV 1 hts gL_law_X9_stop_n rfl rfl rfl (by decide +kernel) ⟨by show fr2 + 1 ≤ 13; omega, by show 8 + (_ + 11) + lo2 ≤ 476; omega⟩) hK hW hA rfl rfl rfl hl.1 rfl (lv_room (Nat.le_of_ble_eq_true rfl)) dL_law_1037 ⟨by show k + mc + mc2 ≤ 601024; omega, by show j + ms + ms2 ≤ 7293034; omega⟩ (fun H locs hW => ?_)
  refine lv_istore (lv' := [(7, .int v), (6, .int k1), (0, .ref b), (1, .ref (a 0)), (2, .ref (d 0)), (3, .ref o), (4, .ref od), (5, .int (nI i))]) hX_ hB_ dL_law_1040 hl (by decide) rfl (fun ls hl => ?_)
  refine lv_aload_n hX_ hB_ dL_law_1042 rfl (lv_at hl 4 rfl) ?_
  refine ze_FVi (As := []) (rest := []) (ci := 9) (q0 := 0) (k := (RX9, TX9, 39)) S (zr_thrown l D c d n2 A2 B2 mk2 k1) (cwV 0 hts gL_law_X9_thrown_n rfl rfl rfl (by decide +kernel) ⟨Nat.le_of_ble_eq_true rfl, Nat.le_of_ble_eq_true rfl⟩) hK hW hA rfl rfl rfl hl.1 rfl (lv_room (Nat.le_of_ble_eq_true rfl)) dL_law_1043 ⟨by show k + mc + mc2 + 0 ≤ 601024; omega, by show j + ms + ms2 + 0 ≤ 7293034; omega⟩ (fun H locs hW => ?_)
  have hW := zy_wB hW
  refine lv_iload hX_ hB_ dL_law_1046 (lv_at hl 1 rfl) ?_
  refine lv_icmp_eq (tgt := 1053) hX_ hB_ dL_law_1048 (by decide) (fun _ => ?_) (fun q => absurd rfl q)
  refine lv_iload hX_ hB_ dL_law_1053 (lv_at hl 1 rfl) ?_
  have gg : ∀ (ls : Array Slot), lv_has ls 8 [(7, .int v), (6, .int k1), (0, .ref b), (1, .ref (a 0)), (2, .ref (d 0)), (3, .ref o), (4, .ref od), (5, .int (nI i))] → W p l e room_1 s m #[Value.ref b] below meth cd H locs (k + mc + mc2 + 0) (j + ms + ms2 + 0) Q (F0 m 1070 ls []) := fun ls hl => by
    refine lv_goto (tgt := 2642) hX_ hB_ dL_law_1070 (by decide) ?_
    refine W.widen (k := k + 2) (n := j + 14) (by omega) (by omega) ?_
    exact G (a2 q9) n2 A2 B2 E2 mk2 k1 f2 g H locs ls (ha2 q9) hI2 hW (lv_sub hl [2, 3, 4, 5, 6, 7] rfl)
  refine lv_if_ne (tgt := 1070) hX_ hB_ dL_law_1055 (by decide) (fun _ => gg ls hl) (fun hk0 => ?_)
  have hf2 : f2 (0 : Int32).toNatClampNeg = v.toInt64 := hkv hk0
  refine lv_aload_n hX_ hB_ dL_law_1058 rfl (lv_at hl 5 rfl) ?_
  refine lv_iconst (v := 0) hX_ hB_ dL_law_1059 (by decide) ?_
  refine va_lald (f := f2) hX_ hB_ hK hW.1 ((ze_wC c (a2 q9) n2 A2 B2 E2).length + 0) 6 (ze_appget0 (ze_appL (k := 0) rfl)) rfl (vp_in_nI (n := 0) (N := 1) (by decide) (by decide)) dL_law_1060 ?_
  refine lv_iload hX_ hB_ dL_law_1061 (lv_at hl 0 rfl) ?_
  refine lv_i2l (v := v.toInt64) hX_ hB_ dL_law_1063 rfl ?_
  refine W.lcmp hX_ hB_ dL_law_1064 ?_
  rw [hf2, zy_cmp]
  exact lv_if_eq (tgt := 1070) hX_ hB_ dL_law_1065 (by decide) (fun _ => gg ls hl) (fun q => absurd rfl q)
set_option maxHeartbeats 4000000 in
set_option maxRecDepth 100000 in
theorem zy_startNext (C : zy_C p l s m cd D c b L xs) {a d n : Nat → Nat} {A : Nat → Nat → Int32} {B : Nat → Int64} {E : Nat → Nat → Int32} {mk : Nat → Int32} {th : Int32} {o od : Nat} {f : Nat → Int64} {g : Nat → UInt64} {H : Heap} {locs : List Loc} {ls : Array Slot} {i k j : Nat} (hi : i + 6 ≤ L) (hb : k + 2 ≤ 601024 ∧ j + 14 ≤ 7293034) (hI : zv_I n A E mk) (hW : ze_W D (zy_W c a d n A B E mk th o od f g) (zy_F s) s.heap H locs) (hl : lv_has ls 8 (zy_L b (a 0) (d 0) o od i)) (G : zy_G p l e s m below meth cd D c b Q d o od (a 0) i (k + 2) (j + 14)) : W p l e room_1 s m #[Value.ref b] below meth cd H locs k j Q (F0 m 1073 ls []) := by
  obtain ⟨S, hst, hX, hbl, hXB, hNc, hK, hL⟩ := id C
  have hX_ := S.1
  have hB_ := S.2.1
  have hts := S.2.2.2.2
  have hA : ∀ q : Nat, s.heap.size ≤ q → zy_F s q := fun _ h => h
  obtain ⟨hb1, hb2⟩ := hb
  obtain ⟨k1, v, fr, lo, mc, ms, fr2, lo2, mc2, ms2, a2, n2, A2, B2, E2, mk2, f2, ⟨b1, b2, b3, b4, b5, b6, b7, b8⟩, hQ, hR, hkv, ha2, hG, hI2⟩ := zw_startNext_n (l := l) (D := D) (c := c) (a := a) (d := d) (B := B) (th := th) (o := o) (f := f) hI hst (xs (i + 1))
  have hQ : ze_QE l yL_startNext wsL_startNext_n fr lo mc ms D c (ze_wC c a n A B E ++ [(o, .inl (c 6, 1, .inr (.inl f)))]) [.ref (a 0), .int (xs (i + 1)), .ref o] k1 (fun q => ze_wC c (a2 q) n2 A2 B2 E2 ++ [(o, .inl (c 6, 1, .inr (.inl f2)))]) := hQ
  have hR : ze_I l yX9_startNext wsX9_startNext fr2 lo2 mc2 ms2 D c (ze_wR c d n A B mk th) [.ref (d 0), .int (xs (i + 1))] v (ze_wR c d n2 A2 B2 mk2 k1) := hR
  have hl : lv_has ls 8 [(0, .ref b), (1, .ref (a 0)), (2, .ref (d 0)), (3, .ref o), (4, .ref od), (5, .int (nI i))] := hl
  refine lv_aload_n hX_ hB_ dL_law_1073 rfl (lv_at hl 1 rfl) ?_
  refine zy_arg (q := 1) C hW hi (by decide) (lv_at hl 0 rfl) (lv_at hl 5 rfl) dL_law_1074 dL_law_1075 dL_law_1077 rfl dL_law_1078 dL_law_1079 ?_
  refine lv_aload_n hX_ hB_ dL_law_1080 rfl (lv_at hl 3 rfl) ?_
  refine ze_FQe (As := [.ref (a 0), .int (xs (i + 1)), .ref o]) (rest := []) S hQ (vx_cwSW 3 hts gL_law_L_startNext_n rfl rfl rfl (by decide +kernel) ⟨by show fr + 1 ≤ 13; omega, by show 8 + (_ + 11) + lo ≤ 476; omega⟩) hXB hNc hK hW hA rfl hl.1 rfl (lv_room (Nat.le_of_ble_eq_true rfl)) dL_law_1081 ⟨by show k + mc ≤ 601024; omega, by show j + ms ≤ 7293034; omega⟩ (fun q9 H locs hW => ?_)
  refine lv_istore (lv' := [(6, .int k1), (0, .ref b), (1, .ref (a 0)), (2, .ref (d 0)), (3, .ref o), (4, .ref od), (5, .int (nI i))]) hX_ hB_ dL_law_1084 hl (by decide) rfl (fun ls hl => ?_)
  refine lv_aload_n hX_ hB_ dL_law_1086 rfl (lv_at hl 3 rfl) ?_
  refine zy_arg (q := 1) C hW hi (by decide) (lv_at hl 1 rfl) (lv_at hl 6 rfl) dL_law_1087 dL_law_1088 dL_law_1090 rfl dL_law_1091 dL_law_1092 ?_
  have hW := zy_wA hW
  refine ze_FVi (As := [.int (xs (i + 1))]) (rest := []) (ci := 9) (q0 := 0) (k := (RX9, TX9, 39)) S hR (cwV 1 hts gL_law_X9_startNext_n rfl rfl rfl (by decide +kernel) ⟨by show fr2 + 1 ≤ 13; omega, by show 8 + (_ + 11) + lo2 ≤ 476; omega⟩) hK hW hA rfl rfl rfl hl.1 rfl (lv_room (Nat.le_of_ble_eq_true rfl)) dL_law_1093 ⟨by show k + mc + mc2 ≤ 601024; omega, by show j + ms + ms2 ≤ 7293034; omega⟩ (fun H locs hW => ?_)
  refine lv_istore (lv' := [(7, .int v), (6, .int k1), (0, .ref b), (1, .ref (a 0)), (2, .ref (d 0)), (3, .ref o), (4, .ref od), (5, .int (nI i))]) hX_ hB_ dL_law_1096 hl (by decide) rfl (fun ls hl => ?_)
  refine lv_aload_n hX_ hB_ dL_law_1098 rfl (lv_at hl 4 rfl) ?_
  refine ze_FVi (As := []) (rest := []) (ci := 9) (q0 := 0) (k := (RX9, TX9, 39)) S (zr_thrown l D c d n2 A2 B2 mk2 k1) (cwV 0 hts gL_law_X9_thrown_n rfl rfl rfl (by decide +kernel) ⟨Nat.le_of_ble_eq_true rfl, Nat.le_of_ble_eq_true rfl⟩) hK hW hA rfl rfl rfl hl.1 rfl (lv_room (Nat.le_of_ble_eq_true rfl)) dL_law_1099 ⟨by show k + mc + mc2 + 0 ≤ 601024; omega, by show j + ms + ms2 + 0 ≤ 7293034; omega⟩ (fun H locs hW => ?_)
  have hW := zy_wB hW
  refine lv_iload hX_ hB_ dL_law_1102 (lv_at hl 1 rfl) ?_
  refine lv_icmp_eq (tgt := 1109) hX_ hB_ dL_law_1104 (by decide) (fun _ => ?_) (fun q => absurd rfl q)
  refine lv_iload hX_ hB_ dL_law_1109 (lv_at hl 1 rfl) ?_
  have gg : ∀ (ls : Array Slot), lv_has ls 8 [(7, .int v), (6, .int k1), (0, .ref b), (1, .ref (a 0)), (2, .ref (d 0)), (3, .ref o), (4, .ref od), (5, .int (nI i))] → W p l e room_1 s m #[Value.ref b] below meth cd H locs (k + mc + mc2 + 0) (j + ms + ms2 + 0) Q (F0 m 1126 ls []) := fun ls hl => by
    refine lv_goto (tgt := 2642) hX_ hB_ dL_law_1126 (by decide) ?_
    refine W.widen (k := k + 2) (n := j + 14) (by omega) (by omega) ?_
    exact G (a2 q9) n2 A2 B2 E2 mk2 k1 f2 g H locs ls (ha2 q9) hI2 hW (lv_sub hl [2, 3, 4, 5, 6, 7] rfl)
  refine lv_if_ne (tgt := 1126) hX_ hB_ dL_law_1111 (by decide) (fun _ => gg ls hl) (fun hk0 => ?_)
  have hf2 : f2 (0 : Int32).toNatClampNeg = v.toInt64 := hkv hk0
  refine lv_aload_n hX_ hB_ dL_law_1114 rfl (lv_at hl 5 rfl) ?_
  refine lv_iconst (v := 0) hX_ hB_ dL_law_1115 (by decide) ?_
  refine va_lald (f := f2) hX_ hB_ hK hW.1 ((ze_wC c (a2 q9) n2 A2 B2 E2).length + 0) 6 (ze_appget0 (ze_appL (k := 0) rfl)) rfl (vp_in_nI (n := 0) (N := 1) (by decide) (by decide)) dL_law_1116 ?_
  refine lv_iload hX_ hB_ dL_law_1117 (lv_at hl 0 rfl) ?_
  refine lv_i2l (v := v.toInt64) hX_ hB_ dL_law_1119 rfl ?_
  refine W.lcmp hX_ hB_ dL_law_1120 ?_
  rw [hf2, zy_cmp]
  exact lv_if_eq (tgt := 1126) hX_ hB_ dL_law_1121 (by decide) (fun _ => gg ls hl) (fun q => absurd rfl q)
set_option maxHeartbeats 4000000 in
set_option maxRecDepth 100000 in
theorem zy_refuel (C : zy_C p l s m cd D c b L xs) {a d n : Nat → Nat} {A : Nat → Nat → Int32} {B : Nat → Int64} {E : Nat → Nat → Int32} {mk : Nat → Int32} {th : Int32} {o od : Nat} {f : Nat → Int64} {g : Nat → UInt64} {H : Heap} {locs : List Loc} {ls : Array Slot} {i k j : Nat} (hi : i + 6 ≤ L) (hb : k + 2 ≤ 601024 ∧ j + 14 ≤ 7293034) (hI : zv_I n A E mk) (hW : ze_W D (zy_W c a d n A B E mk th o od f g) (zy_F s) s.heap H locs) (hl : lv_has ls 8 (zy_L b (a 0) (d 0) o od i)) (G : zy_G p l e s m below meth cd D c b Q d o od (a 0) i (k + 2) (j + 14)) : W p l e room_1 s m #[Value.ref b] below meth cd H locs k j Q (F0 m 1129 ls []) := by
  obtain ⟨S, hst, hX, hbl, hXB, hNc, hK, hL⟩ := id C
  have hX_ := S.1
  have hB_ := S.2.1
  have hts := S.2.2.2.2
  have hA : ∀ q : Nat, s.heap.size ≤ q → zy_F s q := fun _ h => h
  obtain ⟨hb1, hb2⟩ := hb
  obtain ⟨k1, v, fr, lo, mc, ms, fr2, lo2, mc2, ms2, a2, n2, A2, B2, E2, mk2, f2, ⟨b1, b2, b3, b4, b5, b6, b7, b8⟩, hQ, hR, hkv, ha2, hG, hI2⟩ := zw_refuel (l := l) (D := D) (c := c) (a := a) (d := d) (B := B) (th := th) (o := o) (f := f) hI hst (xs (i + 1)) (xs (i + 2))
  have hQ : ze_QE l yL_refuel wsL_refuel fr lo mc ms D c (ze_wC c a n A B E ++ [(o, .inl (c 6, 1, .inr (.inl f)))]) [.ref (a 0), .int (xs (i + 1)), .int (xs (i + 2)), .ref o] k1 (fun q => ze_wC c (a2 q) n2 A2 B2 E2 ++ [(o, .inl (c 6, 1, .inr (.inl f2)))]) := hQ
  have hR : ze_I l yX9_refuel wsX9_refuel fr2 lo2 mc2 ms2 D c (ze_wR c d n A B mk th) [.ref (d 0), .int (xs (i + 1)), .int (xs (i + 2))] v (ze_wR c d n2 A2 B2 mk2 k1) := hR
  have hl : lv_has ls 8 [(0, .ref b), (1, .ref (a 0)), (2, .ref (d 0)), (3, .ref o), (4, .ref od), (5, .int (nI i))] := hl
  refine lv_aload_n hX_ hB_ dL_law_1129 rfl (lv_at hl 1 rfl) ?_
  refine zy_arg (q := 1) C hW hi (by decide) (lv_at hl 0 rfl) (lv_at hl 5 rfl) dL_law_1130 dL_law_1131 dL_law_1133 rfl dL_law_1134 dL_law_1135 ?_
  refine zy_arg (q := 2) C hW hi (by decide) (lv_at hl 0 rfl) (lv_at hl 5 rfl) dL_law_1136 dL_law_1137 dL_law_1139 rfl dL_law_1140 dL_law_1141 ?_
  refine lv_aload_n hX_ hB_ dL_law_1142 rfl (lv_at hl 3 rfl) ?_
  refine ze_FQe (As := [.ref (a 0), .int (xs (i + 1)), .int (xs (i + 2)), .ref o]) (rest := []) S hQ (vx_cwSW 4 hts gL_law_L_refuel_n rfl rfl rfl (by decide +kernel) ⟨by show fr + 1 ≤ 13; omega, by show 8 + (_ + 11) + lo ≤ 476; omega⟩) hXB hNc hK hW hA rfl hl.1 rfl (lv_room (Nat.le_of_ble_eq_true rfl)) dL_law_1143 ⟨by show k + mc ≤ 601024; omega, by show j + ms ≤ 7293034; omega⟩ (fun q9 H locs hW => ?_)
  refine lv_istore (lv' := [(6, .int k1), (0, .ref b), (1, .ref (a 0)), (2, .ref (d 0)), (3, .ref o), (4, .ref od), (5, .int (nI i))]) hX_ hB_ dL_law_1146 hl (by decide) rfl (fun ls hl => ?_)
  refine lv_aload_n hX_ hB_ dL_law_1148 rfl (lv_at hl 3 rfl) ?_
  refine zy_arg (q := 1) C hW hi (by decide) (lv_at hl 1 rfl) (lv_at hl 6 rfl) dL_law_1149 dL_law_1150 dL_law_1152 rfl dL_law_1153 dL_law_1154 ?_
  refine zy_arg (q := 2) C hW hi (by decide) (lv_at hl 1 rfl) (lv_at hl 6 rfl) dL_law_1155 dL_law_1156 dL_law_1158 rfl dL_law_1159 dL_law_1160 ?_
  have hW := zy_wA hW
  refine ze_FVi (As := [.int (xs (i + 1)), .int (xs (i + 2))]) (rest := []) (ci := 9) (q0 := 0) (k := (RX9, TX9, 39)) S hR (cwV 2 hts gL_law_X9_refuel_n rfl rfl rfl (by decide +kernel) ⟨by show fr2 + 1 ≤ 13; omega, by show 8 + (_ + 11) + lo2 ≤ 476; omega⟩) hK hW hA rfl rfl rfl hl.1 rfl (lv_room (Nat.le_of_ble_eq_true rfl)) dL_law_1161 ⟨by show k + mc + mc2 ≤ 601024; omega, by show j + ms + ms2 ≤ 7293034; omega⟩ (fun H locs hW => ?_)
  refine lv_istore (lv' := [(7, .int v), (6, .int k1), (0, .ref b), (1, .ref (a 0)), (2, .ref (d 0)), (3, .ref o), (4, .ref od), (5, .int (nI i))]) hX_ hB_ dL_law_1164 hl (by decide) rfl (fun ls hl => ?_)
  refine lv_aload_n hX_ hB_ dL_law_1166 rfl (lv_at hl 4 rfl) ?_
  refine ze_FVi (As := []) (rest := []) (ci := 9) (q0 := 0) (k := (RX9, TX9, 39)) S (zr_thrown l D c d n2 A2 B2 mk2 k1) (cwV 0 hts gL_law_X9_thrown_n rfl rfl rfl (by decide +kernel) ⟨Nat.le_of_ble_eq_true rfl, Nat.le_of_ble_eq_true rfl⟩) hK hW hA rfl rfl rfl hl.1 rfl (lv_room (Nat.le_of_ble_eq_true rfl)) dL_law_1167 ⟨by show k + mc + mc2 + 0 ≤ 601024; omega, by show j + ms + ms2 + 0 ≤ 7293034; omega⟩ (fun H locs hW => ?_)
  have hW := zy_wB hW
  refine lv_iload hX_ hB_ dL_law_1170 (lv_at hl 1 rfl) ?_
  refine lv_icmp_eq (tgt := 1177) hX_ hB_ dL_law_1172 (by decide) (fun _ => ?_) (fun q => absurd rfl q)
  refine lv_iload hX_ hB_ dL_law_1177 (lv_at hl 1 rfl) ?_
  have gg : ∀ (ls : Array Slot), lv_has ls 8 [(7, .int v), (6, .int k1), (0, .ref b), (1, .ref (a 0)), (2, .ref (d 0)), (3, .ref o), (4, .ref od), (5, .int (nI i))] → W p l e room_1 s m #[Value.ref b] below meth cd H locs (k + mc + mc2 + 0) (j + ms + ms2 + 0) Q (F0 m 1194 ls []) := fun ls hl => by
    refine lv_goto (tgt := 2642) hX_ hB_ dL_law_1194 (by decide) ?_
    refine W.widen (k := k + 2) (n := j + 14) (by omega) (by omega) ?_
    exact G (a2 q9) n2 A2 B2 E2 mk2 k1 f2 g H locs ls (ha2 q9) hI2 hW (lv_sub hl [2, 3, 4, 5, 6, 7] rfl)
  refine lv_if_ne (tgt := 1194) hX_ hB_ dL_law_1179 (by decide) (fun _ => gg ls hl) (fun hk0 => ?_)
  have hf2 : f2 (0 : Int32).toNatClampNeg = v.toInt64 := hkv hk0
  refine lv_aload_n hX_ hB_ dL_law_1182 rfl (lv_at hl 5 rfl) ?_
  refine lv_iconst (v := 0) hX_ hB_ dL_law_1183 (by decide) ?_
  refine va_lald (f := f2) hX_ hB_ hK hW.1 ((ze_wC c (a2 q9) n2 A2 B2 E2).length + 0) 6 (ze_appget0 (ze_appL (k := 0) rfl)) rfl (vp_in_nI (n := 0) (N := 1) (by decide) (by decide)) dL_law_1184 ?_
  refine lv_iload hX_ hB_ dL_law_1185 (lv_at hl 0 rfl) ?_
  refine lv_i2l (v := v.toInt64) hX_ hB_ dL_law_1187 rfl ?_
  refine W.lcmp hX_ hB_ dL_law_1188 ?_
  rw [hf2, zy_cmp]
  exact lv_if_eq (tgt := 1194) hX_ hB_ dL_law_1189 (by decide) (fun _ => gg ls hl) (fun q => absurd rfl q)
set_option maxHeartbeats 4000000 in
set_option maxRecDepth 100000 in
theorem zy_state (C : zy_C p l s m cd D c b L xs) {a d n : Nat → Nat} {A : Nat → Nat → Int32} {B : Nat → Int64} {E : Nat → Nat → Int32} {mk : Nat → Int32} {th : Int32} {o od : Nat} {f : Nat → Int64} {g : Nat → UInt64} {H : Heap} {locs : List Loc} {ls : Array Slot} {i k j : Nat} (hi : i + 6 ≤ L) (hb : k + 2 ≤ 601024 ∧ j + 14 ≤ 7293034) (hI : zv_I n A E mk) (hW : ze_W D (zy_W c a d n A B E mk th o od f g) (zy_F s) s.heap H locs) (hl : lv_has ls 8 (zy_L b (a 0) (d 0) o od i)) (G : zy_G p l e s m below meth cd D c b Q d o od (a 0) i (k + 2) (j + 14)) : W p l e room_1 s m #[Value.ref b] below meth cd H locs k j Q (F0 m 1197 ls []) := by
  obtain ⟨S, hst, hX, hbl, hXB, hNc, hK, hL⟩ := id C
  have hX_ := S.1
  have hB_ := S.2.1
  have hts := S.2.2.2.2
  have hA : ∀ q : Nat, s.heap.size ≤ q → zy_F s q := fun _ h => h
  obtain ⟨hb1, hb2⟩ := hb
  obtain ⟨k1, v, fr, lo, mc, ms, fr2, lo2, mc2, ms2, a2, n2, A2, B2, E2, mk2, f2, ⟨b1, b2, b3, b4, b5, b6, b7, b8⟩, hQ, hR, hkv, ha2, hG, hI2⟩ := zw_state (l := l) (D := D) (c := c) (a := a) (d := d) (B := B) (th := th) (o := o) (f := f) hI hst (xs (i + 1))
  have hQ : ze_QE l yL_state wsL_state fr lo mc ms D c (ze_wC c a n A B E ++ [(o, .inl (c 6, 1, .inr (.inl f)))]) [.ref (a 0), .int (xs (i + 1)), .ref o] k1 (fun q => ze_wC c (a2 q) n2 A2 B2 E2 ++ [(o, .inl (c 6, 1, .inr (.inl f2)))]) := hQ
  have hR : ze_I l yX9_state wsX9_state fr2 lo2 mc2 ms2 D c (ze_wR c d n A B mk th) [.ref (d 0), .int (xs (i + 1))] v (ze_wR c d n2 A2 B2 mk2 k1) := hR
  have hl : lv_has ls 8 [(0, .ref b), (1, .ref (a 0)), (2, .ref (d 0)), (3, .ref o), (4, .ref od), (5, .int (nI i))] := hl
  refine lv_aload_n hX_ hB_ dL_law_1197 rfl (lv_at hl 1 rfl) ?_
  refine zy_arg (q := 1) C hW hi (by decide) (lv_at hl 0 rfl) (lv_at hl 5 rfl) dL_law_1198 dL_law_1199 dL_law_1201 rfl dL_law_1202 dL_law_1203 ?_
  refine lv_aload_n hX_ hB_ dL_law_1204 rfl (lv_at hl 3 rfl) ?_
  refine ze_FQe (As := [.ref (a 0), .int (xs (i + 1)), .ref o]) (rest := []) S hQ (vx_cwSW 3 hts gL_law_L_state_n rfl rfl rfl (by decide +kernel) ⟨by show fr + 1 ≤ 13; omega, by show 8 + (_ + 11) + lo ≤ 476; omega⟩) hXB hNc hK hW hA rfl hl.1 rfl (lv_room (Nat.le_of_ble_eq_true rfl)) dL_law_1205 ⟨by show k + mc ≤ 601024; omega, by show j + ms ≤ 7293034; omega⟩ (fun q9 H locs hW => ?_)
  refine lv_istore (lv' := [(6, .int k1), (0, .ref b), (1, .ref (a 0)), (2, .ref (d 0)), (3, .ref o), (4, .ref od), (5, .int (nI i))]) hX_ hB_ dL_law_1208 hl (by decide) rfl (fun ls hl => ?_)
  refine lv_aload_n hX_ hB_ dL_law_1210 rfl (lv_at hl 3 rfl) ?_
  refine zy_arg (q := 1) C hW hi (by decide) (lv_at hl 1 rfl) (lv_at hl 6 rfl) dL_law_1211 dL_law_1212 dL_law_1214 rfl dL_law_1215 dL_law_1216 ?_
  have hW := zy_wA hW
  refine ze_FVi (As := [.int (xs (i + 1))]) (rest := []) (ci := 9) (q0 := 0) (k := (RX9, TX9, 39)) S hR (cwV 1 hts gL_law_X9_state_n rfl rfl rfl (by decide +kernel) ⟨by show fr2 + 1 ≤ 13; omega, by show 8 + (_ + 11) + lo2 ≤ 476; omega⟩) hK hW hA rfl rfl rfl hl.1 rfl (lv_room (Nat.le_of_ble_eq_true rfl)) dL_law_1217 ⟨by show k + mc + mc2 ≤ 601024; omega, by show j + ms + ms2 ≤ 7293034; omega⟩ (fun H locs hW => ?_)
  refine lv_istore (lv' := [(7, .int v), (6, .int k1), (0, .ref b), (1, .ref (a 0)), (2, .ref (d 0)), (3, .ref o), (4, .ref od), (5, .int (nI i))]) hX_ hB_ dL_law_1220 hl (by decide) rfl (fun ls hl => ?_)
  refine lv_aload_n hX_ hB_ dL_law_1222 rfl (lv_at hl 4 rfl) ?_
  refine ze_FVi (As := []) (rest := []) (ci := 9) (q0 := 0) (k := (RX9, TX9, 39)) S (zr_thrown l D c d n2 A2 B2 mk2 k1) (cwV 0 hts gL_law_X9_thrown_n rfl rfl rfl (by decide +kernel) ⟨Nat.le_of_ble_eq_true rfl, Nat.le_of_ble_eq_true rfl⟩) hK hW hA rfl rfl rfl hl.1 rfl (lv_room (Nat.le_of_ble_eq_true rfl)) dL_law_1223 ⟨by show k + mc + mc2 + 0 ≤ 601024; omega, by show j + ms + ms2 + 0 ≤ 7293034; omega⟩ (fun H locs hW => ?_)
  have hW := zy_wB hW
  refine lv_iload hX_ hB_ dL_law_1226 (lv_at hl 1 rfl) ?_
  refine lv_icmp_eq (tgt := 1233) hX_ hB_ dL_law_1228 (by decide) (fun _ => ?_) (fun q => absurd rfl q)
  refine lv_iload hX_ hB_ dL_law_1233 (lv_at hl 1 rfl) ?_
  have gg : ∀ (ls : Array Slot), lv_has ls 8 [(7, .int v), (6, .int k1), (0, .ref b), (1, .ref (a 0)), (2, .ref (d 0)), (3, .ref o), (4, .ref od), (5, .int (nI i))] → W p l e room_1 s m #[Value.ref b] below meth cd H locs (k + mc + mc2 + 0) (j + ms + ms2 + 0) Q (F0 m 1250 ls []) := fun ls hl => by
    refine lv_goto (tgt := 2642) hX_ hB_ dL_law_1250 (by decide) ?_
    refine W.widen (k := k + 2) (n := j + 14) (by omega) (by omega) ?_
    exact G (a2 q9) n2 A2 B2 E2 mk2 k1 f2 g H locs ls (ha2 q9) hI2 hW (lv_sub hl [2, 3, 4, 5, 6, 7] rfl)
  refine lv_if_ne (tgt := 1250) hX_ hB_ dL_law_1235 (by decide) (fun _ => gg ls hl) (fun hk0 => ?_)
  have hf2 : f2 (0 : Int32).toNatClampNeg = v.toInt64 := hkv hk0
  refine lv_aload_n hX_ hB_ dL_law_1238 rfl (lv_at hl 5 rfl) ?_
  refine lv_iconst (v := 0) hX_ hB_ dL_law_1239 (by decide) ?_
  refine va_lald (f := f2) hX_ hB_ hK hW.1 ((ze_wC c (a2 q9) n2 A2 B2 E2).length + 0) 6 (ze_appget0 (ze_appL (k := 0) rfl)) rfl (vp_in_nI (n := 0) (N := 1) (by decide) (by decide)) dL_law_1240 ?_
  refine lv_iload hX_ hB_ dL_law_1241 (lv_at hl 0 rfl) ?_
  refine lv_i2l (v := v.toInt64) hX_ hB_ dL_law_1243 rfl ?_
  refine W.lcmp hX_ hB_ dL_law_1244 ?_
  rw [hf2, zy_cmp]
  exact lv_if_eq (tgt := 1250) hX_ hB_ dL_law_1245 (by decide) (fun _ => gg ls hl) (fun q => absurd rfl q)
set_option maxHeartbeats 4000000 in
set_option maxRecDepth 100000 in
theorem zy_fuel (C : zy_C p l s m cd D c b L xs) {a d n : Nat → Nat} {A : Nat → Nat → Int32} {B : Nat → Int64} {E : Nat → Nat → Int32} {mk : Nat → Int32} {th : Int32} {o od : Nat} {f : Nat → Int64} {g : Nat → UInt64} {H : Heap} {locs : List Loc} {ls : Array Slot} {i k j : Nat} (hi : i + 6 ≤ L) (hb : k + 2 ≤ 601024 ∧ j + 14 ≤ 7293034) (hI : zv_I n A E mk) (hW : ze_W D (zy_W c a d n A B E mk th o od f g) (zy_F s) s.heap H locs) (hl : lv_has ls 8 (zy_L b (a 0) (d 0) o od i)) (G : zy_G p l e s m below meth cd D c b Q d o od (a 0) i (k + 2) (j + 14)) : W p l e room_1 s m #[Value.ref b] below meth cd H locs k j Q (F0 m 1253 ls []) := by
  obtain ⟨S, hst, hX, hbl, hXB, hNc, hK, hL⟩ := id C
  have hX_ := S.1
  have hB_ := S.2.1
  have hts := S.2.2.2.2
  have hA : ∀ q : Nat, s.heap.size ≤ q → zy_F s q := fun _ h => h
  obtain ⟨hb1, hb2⟩ := hb
  obtain ⟨k1, v, fr, lo, mc, ms, fr2, lo2, mc2, ms2, a2, n2, A2, B2, E2, mk2, f2, ⟨b1, b2, b3, b4, b5, b6, b7, b8⟩, hQ, hR, hkv, ha2, hG, hI2⟩ := zw_fuel (l := l) (D := D) (c := c) (a := a) (d := d) (B := B) (th := th) (o := o) (f := f) hI hst (xs (i + 1))
  have hQ : ze_QE l yL_fuel wsL_fuel fr lo mc ms D c (ze_wC c a n A B E ++ [(o, .inl (c 6, 1, .inr (.inl f)))]) [.ref (a 0), .int (xs (i + 1)), .ref o] k1 (fun q => ze_wC c (a2 q) n2 A2 B2 E2 ++ [(o, .inl (c 6, 1, .inr (.inl f2)))]) := hQ
  have hR : ze_I l yX9_fuel wsX9_fuel fr2 lo2 mc2 ms2 D c (ze_wR c d n A B mk th) [.ref (d 0), .int (xs (i + 1))] v (ze_wR c d n2 A2 B2 mk2 k1) := hR
  have hl : lv_has ls 8 [(0, .ref b), (1, .ref (a 0)), (2, .ref (d 0)), (3, .ref o), (4, .ref od), (5, .int (nI i))] := hl
  refine lv_aload_n hX_ hB_ dL_law_1253 rfl (lv_at hl 1 rfl) ?_
  refine zy_arg (q := 1) C hW hi (by decide) (lv_at hl 0 rfl) (lv_at hl 5 rfl) dL_law_1254 dL_law_1255 dL_law_1257 rfl dL_law_1258 dL_law_1259 ?_
  refine lv_aload_n hX_ hB_ dL_law_1260 rfl (lv_at hl 3 rfl) ?_
  refine ze_FQe (As := [.ref (a 0), .int (xs (i + 1)), .ref o]) (rest := []) S hQ (vx_cwSW 3 hts gL_law_L_fuel_n rfl rfl rfl (by decide +kernel) ⟨by show fr + 1 ≤ 13; omega, by show 8 + (_ + 11) + lo ≤ 476; omega⟩) hXB hNc hK hW hA rfl hl.1 rfl (lv_room (Nat.le_of_ble_eq_true rfl)) dL_law_1261 ⟨by show k + mc ≤ 601024; omega, by show j + ms ≤ 7293034; omega⟩ (fun q9 H locs hW => ?_)
  refine lv_istore (lv' := [(6, .int k1), (0, .ref b), (1, .ref (a 0)), (2, .ref (d 0)), (3, .ref o), (4, .ref od), (5, .int (nI i))]) hX_ hB_ dL_law_1264 hl (by decide) rfl (fun ls hl => ?_)
  refine lv_aload_n hX_ hB_ dL_law_1266 rfl (lv_at hl 3 rfl) ?_
  refine zy_arg (q := 1) C hW hi (by decide) (lv_at hl 1 rfl) (lv_at hl 6 rfl) dL_law_1267 dL_law_1268 dL_law_1270 rfl dL_law_1271 dL_law_1272 ?_
  have hW := zy_wA hW
  refine ze_FVi (As := [.int (xs (i + 1))]) (rest := []) (ci := 9) (q0 := 0) (k := (RX9, TX9, 39)) S hR (cwV 1 hts gL_law_X9_fuel_n rfl rfl rfl (by decide +kernel) ⟨by show fr2 + 1 ≤ 13; omega, by show 8 + (_ + 11) + lo2 ≤ 476; omega⟩) hK hW hA rfl rfl rfl hl.1 rfl (lv_room (Nat.le_of_ble_eq_true rfl)) dL_law_1273 ⟨by show k + mc + mc2 ≤ 601024; omega, by show j + ms + ms2 ≤ 7293034; omega⟩ (fun H locs hW => ?_)
  refine lv_istore (lv' := [(7, .int v), (6, .int k1), (0, .ref b), (1, .ref (a 0)), (2, .ref (d 0)), (3, .ref o), (4, .ref od), (5, .int (nI i))]) hX_ hB_ dL_law_1276 hl (by decide) rfl (fun ls hl => ?_)
  refine lv_aload_n hX_ hB_ dL_law_1278 rfl (lv_at hl 4 rfl) ?_
  refine ze_FVi (As := []) (rest := []) (ci := 9) (q0 := 0) (k := (RX9, TX9, 39)) S (zr_thrown l D c d n2 A2 B2 mk2 k1) (cwV 0 hts gL_law_X9_thrown_n rfl rfl rfl (by decide +kernel) ⟨Nat.le_of_ble_eq_true rfl, Nat.le_of_ble_eq_true rfl⟩) hK hW hA rfl rfl rfl hl.1 rfl (lv_room (Nat.le_of_ble_eq_true rfl)) dL_law_1279 ⟨by show k + mc + mc2 + 0 ≤ 601024; omega, by show j + ms + ms2 + 0 ≤ 7293034; omega⟩ (fun H locs hW => ?_)
  have hW := zy_wB hW
  refine lv_iload hX_ hB_ dL_law_1282 (lv_at hl 1 rfl) ?_
  refine lv_icmp_eq (tgt := 1289) hX_ hB_ dL_law_1284 (by decide) (fun _ => ?_) (fun q => absurd rfl q)
  refine lv_iload hX_ hB_ dL_law_1289 (lv_at hl 1 rfl) ?_
  have gg : ∀ (ls : Array Slot), lv_has ls 8 [(7, .int v), (6, .int k1), (0, .ref b), (1, .ref (a 0)), (2, .ref (d 0)), (3, .ref o), (4, .ref od), (5, .int (nI i))] → W p l e room_1 s m #[Value.ref b] below meth cd H locs (k + mc + mc2 + 0) (j + ms + ms2 + 0) Q (F0 m 1306 ls []) := fun ls hl => by
    refine lv_goto (tgt := 2642) hX_ hB_ dL_law_1306 (by decide) ?_
    refine W.widen (k := k + 2) (n := j + 14) (by omega) (by omega) ?_
    exact G (a2 q9) n2 A2 B2 E2 mk2 k1 f2 g H locs ls (ha2 q9) hI2 hW (lv_sub hl [2, 3, 4, 5, 6, 7] rfl)
  refine lv_if_ne (tgt := 1306) hX_ hB_ dL_law_1291 (by decide) (fun _ => gg ls hl) (fun hk0 => ?_)
  have hf2 : f2 (0 : Int32).toNatClampNeg = v.toInt64 := hkv hk0
  refine lv_aload_n hX_ hB_ dL_law_1294 rfl (lv_at hl 5 rfl) ?_
  refine lv_iconst (v := 0) hX_ hB_ dL_law_1295 (by decide) ?_
  refine va_lald (f := f2) hX_ hB_ hK hW.1 ((ze_wC c (a2 q9) n2 A2 B2 E2).length + 0) 6 (ze_appget0 (ze_appL (k := 0) rfl)) rfl (vp_in_nI (n := 0) (N := 1) (by decide) (by decide)) dL_law_1296 ?_
  refine lv_iload hX_ hB_ dL_law_1297 (lv_at hl 0 rfl) ?_
  refine lv_i2l (v := v.toInt64) hX_ hB_ dL_law_1299 rfl ?_
  refine W.lcmp hX_ hB_ dL_law_1300 ?_
  rw [hf2, zy_cmp]
  exact lv_if_eq (tgt := 1306) hX_ hB_ dL_law_1301 (by decide) (fun _ => gg ls hl) (fun q => absurd rfl q)
set_option maxHeartbeats 4000000 in
set_option maxRecDepth 100000 in
theorem zy_toGo (C : zy_C p l s m cd D c b L xs) {a d n : Nat → Nat} {A : Nat → Nat → Int32} {B : Nat → Int64} {E : Nat → Nat → Int32} {mk : Nat → Int32} {th : Int32} {o od : Nat} {f : Nat → Int64} {g : Nat → UInt64} {H : Heap} {locs : List Loc} {ls : Array Slot} {i k j : Nat} (hi : i + 6 ≤ L) (hb : k + 2 ≤ 601024 ∧ j + 14 ≤ 7293034) (hI : zv_I n A E mk) (hW : ze_W D (zy_W c a d n A B E mk th o od f g) (zy_F s) s.heap H locs) (hl : lv_has ls 8 (zy_L b (a 0) (d 0) o od i)) (G : zy_G p l e s m below meth cd D c b Q d o od (a 0) i (k + 2) (j + 14)) : W p l e room_1 s m #[Value.ref b] below meth cd H locs k j Q (F0 m 1309 ls []) := by
  obtain ⟨S, hst, hX, hbl, hXB, hNc, hK, hL⟩ := id C
  have hX_ := S.1
  have hB_ := S.2.1
  have hts := S.2.2.2.2
  have hA : ∀ q : Nat, s.heap.size ≤ q → zy_F s q := fun _ h => h
  obtain ⟨hb1, hb2⟩ := hb
  obtain ⟨k1, v, fr, lo, mc, ms, fr2, lo2, mc2, ms2, a2, n2, A2, B2, E2, mk2, f2, ⟨b1, b2, b3, b4, b5, b6, b7, b8⟩, hQ, hR, hkv, ha2, hG, hI2⟩ := zw_toGo_n (l := l) (D := D) (c := c) (a := a) (d := d) (B := B) (th := th) (o := o) (f := f) hI hst (xs (i + 1))
  have hQ : ze_QE l yL_toGo wsL_toGo_n fr lo mc ms D c (ze_wC c a n A B E ++ [(o, .inl (c 6, 1, .inr (.inl f)))]) [.ref (a 0), .int (xs (i + 1)), .ref o] k1 (fun q => ze_wC c (a2 q) n2 A2 B2 E2 ++ [(o, .inl (c 6, 1, .inr (.inl f2)))]) := hQ
  have hR : ze_I l yX9_toGo wsX9_toGo fr2 lo2 mc2 ms2 D c (ze_wR c d n A B mk th) [.ref (d 0), .int (xs (i + 1))] v (ze_wR c d n2 A2 B2 mk2 k1) := hR
  have hl : lv_has ls 8 [(0, .ref b), (1, .ref (a 0)), (2, .ref (d 0)), (3, .ref o), (4, .ref od), (5, .int (nI i))] := hl
  refine lv_aload_n hX_ hB_ dL_law_1309 rfl (lv_at hl 1 rfl) ?_
  refine zy_arg (q := 1) C hW hi (by decide) (lv_at hl 0 rfl) (lv_at hl 5 rfl) dL_law_1310 dL_law_1311 dL_law_1313 rfl dL_law_1314 dL_law_1315 ?_
  refine lv_aload_n hX_ hB_ dL_law_1316 rfl (lv_at hl 3 rfl) ?_
  refine ze_FQe (As := [.ref (a 0), .int (xs (i + 1)), .ref o]) (rest := []) S hQ (vx_cwSW 3 hts gL_law_L_toGo_n rfl rfl rfl (by decide +kernel) ⟨by show fr + 1 ≤ 13; omega, by show 8 + (_ + 11) + lo ≤ 476; omega⟩) hXB hNc hK hW hA rfl hl.1 rfl (lv_room (Nat.le_of_ble_eq_true rfl)) dL_law_1317 ⟨by show k + mc ≤ 601024; omega, by show j + ms ≤ 7293034; omega⟩ (fun q9 H locs hW => ?_)
  refine lv_istore (lv' := [(6, .int k1), (0, .ref b), (1, .ref (a 0)), (2, .ref (d 0)), (3, .ref o), (4, .ref od), (5, .int (nI i))]) hX_ hB_ dL_law_1320 hl (by decide) rfl (fun ls hl => ?_)
  refine lv_aload_n hX_ hB_ dL_law_1322 rfl (lv_at hl 3 rfl) ?_
  refine zy_arg (q := 1) C hW hi (by decide) (lv_at hl 1 rfl) (lv_at hl 6 rfl) dL_law_1323 dL_law_1324 dL_law_1326 rfl dL_law_1327 dL_law_1328 ?_
  have hW := zy_wA hW
  refine ze_FVi (As := [.int (xs (i + 1))]) (rest := []) (ci := 9) (q0 := 0) (k := (RX9, TX9, 39)) S hR (cwV 1 hts gL_law_X9_toGo_n rfl rfl rfl (by decide +kernel) ⟨by show fr2 + 1 ≤ 13; omega, by show 8 + (_ + 11) + lo2 ≤ 476; omega⟩) hK hW hA rfl rfl rfl hl.1 rfl (lv_room (Nat.le_of_ble_eq_true rfl)) dL_law_1329 ⟨by show k + mc + mc2 ≤ 601024; omega, by show j + ms + ms2 ≤ 7293034; omega⟩ (fun H locs hW => ?_)
  refine lv_istore (lv' := [(7, .int v), (6, .int k1), (0, .ref b), (1, .ref (a 0)), (2, .ref (d 0)), (3, .ref o), (4, .ref od), (5, .int (nI i))]) hX_ hB_ dL_law_1332 hl (by decide) rfl (fun ls hl => ?_)
  refine lv_aload_n hX_ hB_ dL_law_1334 rfl (lv_at hl 4 rfl) ?_
  refine ze_FVi (As := []) (rest := []) (ci := 9) (q0 := 0) (k := (RX9, TX9, 39)) S (zr_thrown l D c d n2 A2 B2 mk2 k1) (cwV 0 hts gL_law_X9_thrown_n rfl rfl rfl (by decide +kernel) ⟨Nat.le_of_ble_eq_true rfl, Nat.le_of_ble_eq_true rfl⟩) hK hW hA rfl rfl rfl hl.1 rfl (lv_room (Nat.le_of_ble_eq_true rfl)) dL_law_1335 ⟨by show k + mc + mc2 + 0 ≤ 601024; omega, by show j + ms + ms2 + 0 ≤ 7293034; omega⟩ (fun H locs hW => ?_)
  have hW := zy_wB hW
  refine lv_iload hX_ hB_ dL_law_1338 (lv_at hl 1 rfl) ?_
  refine lv_icmp_eq (tgt := 1345) hX_ hB_ dL_law_1340 (by decide) (fun _ => ?_) (fun q => absurd rfl q)
  refine lv_iload hX_ hB_ dL_law_1345 (lv_at hl 1 rfl) ?_
  have gg : ∀ (ls : Array Slot), lv_has ls 8 [(7, .int v), (6, .int k1), (0, .ref b), (1, .ref (a 0)), (2, .ref (d 0)), (3, .ref o), (4, .ref od), (5, .int (nI i))] → W p l e room_1 s m #[Value.ref b] below meth cd H locs (k + mc + mc2 + 0) (j + ms + ms2 + 0) Q (F0 m 1362 ls []) := fun ls hl => by
    refine lv_goto (tgt := 2642) hX_ hB_ dL_law_1362 (by decide) ?_
    refine W.widen (k := k + 2) (n := j + 14) (by omega) (by omega) ?_
    exact G (a2 q9) n2 A2 B2 E2 mk2 k1 f2 g H locs ls (ha2 q9) hI2 hW (lv_sub hl [2, 3, 4, 5, 6, 7] rfl)
  refine lv_if_ne (tgt := 1362) hX_ hB_ dL_law_1347 (by decide) (fun _ => gg ls hl) (fun hk0 => ?_)
  have hf2 : f2 (0 : Int32).toNatClampNeg = v.toInt64 := hkv hk0
  refine lv_aload_n hX_ hB_ dL_law_1350 rfl (lv_at hl 5 rfl) ?_
  refine lv_iconst (v := 0) hX_ hB_ dL_law_1351 (by decide) ?_
  refine va_lald (f := f2) hX_ hB_ hK hW.1 ((ze_wC c (a2 q9) n2 A2 B2 E2).length + 0) 6 (ze_appget0 (ze_appL (k := 0) rfl)) rfl (vp_in_nI (n := 0) (N := 1) (by decide) (by decide)) dL_law_1352 ?_
  refine lv_iload hX_ hB_ dL_law_1353 (lv_at hl 0 rfl) ?_
  refine lv_i2l (v := v.toInt64) hX_ hB_ dL_law_1355 rfl ?_
  refine W.lcmp hX_ hB_ dL_law_1356 ?_
  rw [hf2, zy_cmp]
  exact lv_if_eq (tgt := 1362) hX_ hB_ dL_law_1357 (by decide) (fun _ => gg ls hl) (fun q => absurd rfl q)
set_option maxHeartbeats 4000000 in
set_option maxRecDepth 100000 in
theorem zy_addStore (C : zy_C p l s m cd D c b L xs) {a d n : Nat → Nat} {A : Nat → Nat → Int32} {B : Nat → Int64} {E : Nat → Nat → Int32} {mk : Nat → Int32} {th : Int32} {o od : Nat} {f : Nat → Int64} {g : Nat → UInt64} {H : Heap} {locs : List Loc} {ls : Array Slot} {i k j : Nat} (hi : i + 6 ≤ L) (hb : k + 2 ≤ 601024 ∧ j + 14 ≤ 7293034) (hI : zv_I n A E mk) (hW : ze_W D (zy_W c a d n A B E mk th o od f g) (zy_F s) s.heap H locs) (hl : lv_has ls 8 (zy_L b (a 0) (d 0) o od i)) (G : zy_G p l e s m below meth cd D c b Q d o od (a 0) i (k + 2) (j + 14)) : W p l e room_1 s m #[Value.ref b] below meth cd H locs k j Q (F0 m 1365 ls []) := by
  obtain ⟨S, hst, hX, hbl, hXB, hNc, hK, hL⟩ := id C
  have hX_ := S.1
  have hB_ := S.2.1
  have hts := S.2.2.2.2
  have hA : ∀ q : Nat, s.heap.size ≤ q → zy_F s q := fun _ h => h
  obtain ⟨hb1, hb2⟩ := hb
  obtain ⟨k1, v, fr, lo, mc, ms, fr2, lo2, mc2, ms2, a2, n2, A2, B2, E2, mk2, f2, ⟨b1, b2, b3, b4, b5, b6, b7, b8⟩, hQ, hR, hkv, ha2, hG, hI2⟩ := zw_addStore (l := l) (D := D) (c := c) (a := a) (d := d) (B := B) (th := th) (o := o) (f := f) hI hst (xs (i + 1)) (xs (i + 2)) (xs (i + 3))
  have hQ : ze_QE l yL_addStore wsL_addStore fr lo mc ms D c (ze_wC c a n A B E ++ [(o, .inl (c 6, 1, .inr (.inl f)))]) [.ref (a 0), .int (xs (i + 1)), .int (xs (i + 2)), .int (xs (i + 3)), .ref o] k1 (fun q => ze_wC c (a2 q) n2 A2 B2 E2 ++ [(o, .inl (c 6, 1, .inr (.inl f2)))]) := hQ
  have hR : ze_I l yX9_addStore wsX9_addStore fr2 lo2 mc2 ms2 D c (ze_wR c d n A B mk th) [.ref (d 0), .int (xs (i + 1)), .int (xs (i + 2)), .int (xs (i + 3))] v (ze_wR c d n2 A2 B2 mk2 k1) := hR
  have hl : lv_has ls 8 [(0, .ref b), (1, .ref (a 0)), (2, .ref (d 0)), (3, .ref o), (4, .ref od), (5, .int (nI i))] := hl
  refine lv_aload_n hX_ hB_ dL_law_1365 rfl (lv_at hl 1 rfl) ?_
  refine zy_arg (q := 1) C hW hi (by decide) (lv_at hl 0 rfl) (lv_at hl 5 rfl) dL_law_1366 dL_law_1367 dL_law_1369 rfl dL_law_1370 dL_law_1371 ?_
  refine zy_arg (q := 2) C hW hi (by decide) (lv_at hl 0 rfl) (lv_at hl 5 rfl) dL_law_1372 dL_law_1373 dL_law_1375 rfl dL_law_1376 dL_law_1377 ?_
  refine zy_arg (q := 3) C hW hi (by decide) (lv_at hl 0 rfl) (lv_at hl 5 rfl) dL_law_1378 dL_law_1379 dL_law_1381 rfl dL_law_1382 dL_law_1383 ?_
  refine lv_aload_n hX_ hB_ dL_law_1384 rfl (lv_at hl 3 rfl) ?_
  refine ze_FQe (As := [.ref (a 0), .int (xs (i + 1)), .int (xs (i + 2)), .int (xs (i + 3)), .ref o]) (rest := []) S hQ (vx_cwSW 5 hts gL_law_L_addStore_n rfl rfl rfl (by decide +kernel) ⟨by show fr + 1 ≤ 13; omega, by show 8 + (_ + 11) + lo ≤ 476; omega⟩) hXB hNc hK hW hA rfl hl.1 rfl (lv_room (Nat.le_of_ble_eq_true rfl)) dL_law_1385 ⟨by show k + mc ≤ 601024; omega, by show j + ms ≤ 7293034; omega⟩ (fun q9 H locs hW => ?_)
  refine lv_istore (lv' := [(6, .int k1), (0, .ref b), (1, .ref (a 0)), (2, .ref (d 0)), (3, .ref o), (4, .ref od), (5, .int (nI i))]) hX_ hB_ dL_law_1388 hl (by decide) rfl (fun ls hl => ?_)
  refine lv_aload_n hX_ hB_ dL_law_1390 rfl (lv_at hl 3 rfl) ?_
  refine zy_arg (q := 1) C hW hi (by decide) (lv_at hl 1 rfl) (lv_at hl 6 rfl) dL_law_1391 dL_law_1392 dL_law_1394 rfl dL_law_1395 dL_law_1396 ?_
  refine zy_arg (q := 2) C hW hi (by decide) (lv_at hl 1 rfl) (lv_at hl 6 rfl) dL_law_1397 dL_law_1398 dL_law_1400 rfl dL_law_1401 dL_law_1402 ?_
  refine zy_arg (q := 3) C hW hi (by decide) (lv_at hl 1 rfl) (lv_at hl 6 rfl) dL_law_1403 dL_law_1404 dL_law_1406 rfl dL_law_1407 dL_law_1408 ?_
  have hW := zy_wA hW
  refine ze_FVi (As := [.int (xs (i + 1)), .int (xs (i + 2)), .int (xs (i + 3))]) (rest := []) (ci := 9) (q0 := 0) (k := (RX9, TX9, 39)) S hR (cwV 3 hts gL_law_X9_addStore_n rfl rfl rfl (by decide +kernel) ⟨by show fr2 + 1 ≤ 13; omega, by show 8 + (_ + 11) + lo2 ≤ 476; omega⟩) hK hW hA rfl rfl rfl hl.1 rfl (lv_room (Nat.le_of_ble_eq_true rfl)) dL_law_1409 ⟨by show k + mc + mc2 ≤ 601024; omega, by show j + ms + ms2 ≤ 7293034; omega⟩ (fun H locs hW => ?_)
  refine lv_istore (lv' := [(7, .int v), (6, .int k1), (0, .ref b), (1, .ref (a 0)), (2, .ref (d 0)), (3, .ref o), (4, .ref od), (5, .int (nI i))]) hX_ hB_ dL_law_1412 hl (by decide) rfl (fun ls hl => ?_)
  refine lv_aload_n hX_ hB_ dL_law_1414 rfl (lv_at hl 4 rfl) ?_
  refine ze_FVi (As := []) (rest := []) (ci := 9) (q0 := 0) (k := (RX9, TX9, 39)) S (zr_thrown l D c d n2 A2 B2 mk2 k1) (cwV 0 hts gL_law_X9_thrown_n rfl rfl rfl (by decide +kernel) ⟨Nat.le_of_ble_eq_true rfl, Nat.le_of_ble_eq_true rfl⟩) hK hW hA rfl rfl rfl hl.1 rfl (lv_room (Nat.le_of_ble_eq_true rfl)) dL_law_1415 ⟨by show k + mc + mc2 + 0 ≤ 601024; omega, by show j + ms + ms2 + 0 ≤ 7293034; omega⟩ (fun H locs hW => ?_)
  have hW := zy_wB hW
  refine lv_iload hX_ hB_ dL_law_1418 (lv_at hl 1 rfl) ?_
  refine lv_icmp_eq (tgt := 1425) hX_ hB_ dL_law_1420 (by decide) (fun _ => ?_) (fun q => absurd rfl q)
  refine lv_iload hX_ hB_ dL_law_1425 (lv_at hl 1 rfl) ?_
  have gg : ∀ (ls : Array Slot), lv_has ls 8 [(7, .int v), (6, .int k1), (0, .ref b), (1, .ref (a 0)), (2, .ref (d 0)), (3, .ref o), (4, .ref od), (5, .int (nI i))] → W p l e room_1 s m #[Value.ref b] below meth cd H locs (k + mc + mc2 + 0) (j + ms + ms2 + 0) Q (F0 m 1442 ls []) := fun ls hl => by
    refine lv_goto (tgt := 2642) hX_ hB_ dL_law_1442 (by decide) ?_
    refine W.widen (k := k + 2) (n := j + 14) (by omega) (by omega) ?_
    exact G (a2 q9) n2 A2 B2 E2 mk2 k1 f2 g H locs ls (ha2 q9) hI2 hW (lv_sub hl [2, 3, 4, 5, 6, 7] rfl)
  refine lv_if_ne (tgt := 1442) hX_ hB_ dL_law_1427 (by decide) (fun _ => gg ls hl) (fun hk0 => ?_)
  have hf2 : f2 (0 : Int32).toNatClampNeg = v.toInt64 := hkv hk0
  refine lv_aload_n hX_ hB_ dL_law_1430 rfl (lv_at hl 5 rfl) ?_
  refine lv_iconst (v := 0) hX_ hB_ dL_law_1431 (by decide) ?_
  refine va_lald (f := f2) hX_ hB_ hK hW.1 ((ze_wC c (a2 q9) n2 A2 B2 E2).length + 0) 6 (ze_appget0 (ze_appL (k := 0) rfl)) rfl (vp_in_nI (n := 0) (N := 1) (by decide) (by decide)) dL_law_1432 ?_
  refine lv_iload hX_ hB_ dL_law_1433 (lv_at hl 0 rfl) ?_
  refine lv_i2l (v := v.toInt64) hX_ hB_ dL_law_1435 rfl ?_
  refine W.lcmp hX_ hB_ dL_law_1436 ?_
  rw [hf2, zy_cmp]
  exact lv_if_eq (tgt := 1442) hX_ hB_ dL_law_1437 (by decide) (fun _ => gg ls hl) (fun q => absurd rfl q)
set_option maxHeartbeats 4000000 in
set_option maxRecDepth 100000 in
theorem zy_charge (C : zy_C p l s m cd D c b L xs) {a d n : Nat → Nat} {A : Nat → Nat → Int32} {B : Nat → Int64} {E : Nat → Nat → Int32} {mk : Nat → Int32} {th : Int32} {o od : Nat} {f : Nat → Int64} {g : Nat → UInt64} {H : Heap} {locs : List Loc} {ls : Array Slot} {i k j : Nat} (hi : i + 6 ≤ L) (hb : k + 2 ≤ 601024 ∧ j + 14 ≤ 7293034) (hI : zv_I n A E mk) (hW : ze_W D (zy_W c a d n A B E mk th o od f g) (zy_F s) s.heap H locs) (hl : lv_has ls 8 (zy_L b (a 0) (d 0) o od i)) (G : zy_G p l e s m below meth cd D c b Q d o od (a 0) i (k + 2) (j + 14)) : W p l e room_1 s m #[Value.ref b] below meth cd H locs k j Q (F0 m 1445 ls []) := by
  obtain ⟨S, hst, hX, hbl, hXB, hNc, hK, hL⟩ := id C
  have hX_ := S.1
  have hB_ := S.2.1
  have hts := S.2.2.2.2
  have hA : ∀ q : Nat, s.heap.size ≤ q → zy_F s q := fun _ h => h
  obtain ⟨hb1, hb2⟩ := hb
  obtain ⟨k1, v, fr, lo, mc, ms, fr2, lo2, mc2, ms2, a2, n2, A2, B2, E2, mk2, f2, ⟨b1, b2, b3, b4, b5, b6, b7, b8⟩, hQ, hR, hkv, ha2, hG, hI2⟩ := zw_charge (l := l) (D := D) (c := c) (a := a) (d := d) (B := B) (th := th) (o := o) (f := f) hI hst (xs (i + 1))
  have hQ : ze_QE l yL_charge wsL_charge fr lo mc ms D c (ze_wC c a n A B E ++ [(o, .inl (c 6, 1, .inr (.inl f)))]) [.ref (a 0), .int (xs (i + 1)), .ref o] k1 (fun q => ze_wC c (a2 q) n2 A2 B2 E2 ++ [(o, .inl (c 6, 1, .inr (.inl f2)))]) := hQ
  have hR : ze_I l yX9_charge wsX9_charge fr2 lo2 mc2 ms2 D c (ze_wR c d n A B mk th) [.ref (d 0), .int (xs (i + 1))] v (ze_wR c d n2 A2 B2 mk2 k1) := hR
  have hl : lv_has ls 8 [(0, .ref b), (1, .ref (a 0)), (2, .ref (d 0)), (3, .ref o), (4, .ref od), (5, .int (nI i))] := hl
  refine lv_aload_n hX_ hB_ dL_law_1445 rfl (lv_at hl 1 rfl) ?_
  refine zy_arg (q := 1) C hW hi (by decide) (lv_at hl 0 rfl) (lv_at hl 5 rfl) dL_law_1446 dL_law_1447 dL_law_1449 rfl dL_law_1450 dL_law_1451 ?_
  refine lv_aload_n hX_ hB_ dL_law_1452 rfl (lv_at hl 3 rfl) ?_
  refine ze_FQe (As := [.ref (a 0), .int (xs (i + 1)), .ref o]) (rest := []) S hQ (vx_cwSW 3 hts gL_law_L_charge_n rfl rfl rfl (by decide +kernel) ⟨by show fr + 1 ≤ 13; omega, by show 8 + (_ + 11) + lo ≤ 476; omega⟩) hXB hNc hK hW hA rfl hl.1 rfl (lv_room (Nat.le_of_ble_eq_true rfl)) dL_law_1453 ⟨by show k + mc ≤ 601024; omega, by show j + ms ≤ 7293034; omega⟩ (fun q9 H locs hW => ?_)
  refine lv_istore (lv' := [(6, .int k1), (0, .ref b), (1, .ref (a 0)), (2, .ref (d 0)), (3, .ref o), (4, .ref od), (5, .int (nI i))]) hX_ hB_ dL_law_1456 hl (by decide) rfl (fun ls hl => ?_)
  refine lv_aload_n hX_ hB_ dL_law_1458 rfl (lv_at hl 3 rfl) ?_
  refine zy_arg (q := 1) C hW hi (by decide) (lv_at hl 1 rfl) (lv_at hl 6 rfl) dL_law_1459 dL_law_1460 dL_law_1462 rfl dL_law_1463 dL_law_1464 ?_
  have hW := zy_wA hW
  refine ze_FVi (As := [.int (xs (i + 1))]) (rest := []) (ci := 9) (q0 := 0) (k := (RX9, TX9, 39)) S hR (cwV 1 hts gL_law_X9_charge_n rfl rfl rfl (by decide +kernel) ⟨by show fr2 + 1 ≤ 13; omega, by show 8 + (_ + 11) + lo2 ≤ 476; omega⟩) hK hW hA rfl rfl rfl hl.1 rfl (lv_room (Nat.le_of_ble_eq_true rfl)) dL_law_1465 ⟨by show k + mc + mc2 ≤ 601024; omega, by show j + ms + ms2 ≤ 7293034; omega⟩ (fun H locs hW => ?_)
  refine lv_istore (lv' := [(7, .int v), (6, .int k1), (0, .ref b), (1, .ref (a 0)), (2, .ref (d 0)), (3, .ref o), (4, .ref od), (5, .int (nI i))]) hX_ hB_ dL_law_1468 hl (by decide) rfl (fun ls hl => ?_)
  refine lv_aload_n hX_ hB_ dL_law_1470 rfl (lv_at hl 4 rfl) ?_
  refine ze_FVi (As := []) (rest := []) (ci := 9) (q0 := 0) (k := (RX9, TX9, 39)) S (zr_thrown l D c d n2 A2 B2 mk2 k1) (cwV 0 hts gL_law_X9_thrown_n rfl rfl rfl (by decide +kernel) ⟨Nat.le_of_ble_eq_true rfl, Nat.le_of_ble_eq_true rfl⟩) hK hW hA rfl rfl rfl hl.1 rfl (lv_room (Nat.le_of_ble_eq_true rfl)) dL_law_1471 ⟨by show k + mc + mc2 + 0 ≤ 601024; omega, by show j + ms + ms2 + 0 ≤ 7293034; omega⟩ (fun H locs hW => ?_)
  have hW := zy_wB hW
  refine lv_iload hX_ hB_ dL_law_1474 (lv_at hl 1 rfl) ?_
  refine lv_icmp_eq (tgt := 1481) hX_ hB_ dL_law_1476 (by decide) (fun _ => ?_) (fun q => absurd rfl q)
  refine lv_iload hX_ hB_ dL_law_1481 (lv_at hl 1 rfl) ?_
  have gg : ∀ (ls : Array Slot), lv_has ls 8 [(7, .int v), (6, .int k1), (0, .ref b), (1, .ref (a 0)), (2, .ref (d 0)), (3, .ref o), (4, .ref od), (5, .int (nI i))] → W p l e room_1 s m #[Value.ref b] below meth cd H locs (k + mc + mc2 + 0) (j + ms + ms2 + 0) Q (F0 m 1498 ls []) := fun ls hl => by
    refine lv_goto (tgt := 2642) hX_ hB_ dL_law_1498 (by decide) ?_
    refine W.widen (k := k + 2) (n := j + 14) (by omega) (by omega) ?_
    exact G (a2 q9) n2 A2 B2 E2 mk2 k1 f2 g H locs ls (ha2 q9) hI2 hW (lv_sub hl [2, 3, 4, 5, 6, 7] rfl)
  refine lv_if_ne (tgt := 1498) hX_ hB_ dL_law_1483 (by decide) (fun _ => gg ls hl) (fun hk0 => ?_)
  have hf2 : f2 (0 : Int32).toNatClampNeg = v.toInt64 := hkv hk0
  refine lv_aload_n hX_ hB_ dL_law_1486 rfl (lv_at hl 5 rfl) ?_
  refine lv_iconst (v := 0) hX_ hB_ dL_law_1487 (by decide) ?_
  refine va_lald (f := f2) hX_ hB_ hK hW.1 ((ze_wC c (a2 q9) n2 A2 B2 E2).length + 0) 6 (ze_appget0 (ze_appL (k := 0) rfl)) rfl (vp_in_nI (n := 0) (N := 1) (by decide) (by decide)) dL_law_1488 ?_
  refine lv_iload hX_ hB_ dL_law_1489 (lv_at hl 0 rfl) ?_
  refine lv_i2l (v := v.toInt64) hX_ hB_ dL_law_1491 rfl ?_
  refine W.lcmp hX_ hB_ dL_law_1492 ?_
  rw [hf2, zy_cmp]
  exact lv_if_eq (tgt := 1498) hX_ hB_ dL_law_1493 (by decide) (fun _ => gg ls hl) (fun q => absurd rfl q)
set_option maxHeartbeats 4000000 in
set_option maxRecDepth 100000 in
theorem zy_addLoad (C : zy_C p l s m cd D c b L xs) {a d n : Nat → Nat} {A : Nat → Nat → Int32} {B : Nat → Int64} {E : Nat → Nat → Int32} {mk : Nat → Int32} {th : Int32} {o od : Nat} {f : Nat → Int64} {g : Nat → UInt64} {H : Heap} {locs : List Loc} {ls : Array Slot} {i k j : Nat} (hi : i + 6 ≤ L) (hb : k + 2 ≤ 601024 ∧ j + 14 ≤ 7293034) (hI : zv_I n A E mk) (hW : ze_W D (zy_W c a d n A B E mk th o od f g) (zy_F s) s.heap H locs) (hl : lv_has ls 8 (zy_L b (a 0) (d 0) o od i)) (G : zy_G p l e s m below meth cd D c b Q d o od (a 0) i (k + 2) (j + 14)) : W p l e room_1 s m #[Value.ref b] below meth cd H locs k j Q (F0 m 1501 ls []) := by
  obtain ⟨S, hst, hX, hbl, hXB, hNc, hK, hL⟩ := id C
  have hX_ := S.1
  have hB_ := S.2.1
  have hts := S.2.2.2.2
  have hA : ∀ q : Nat, s.heap.size ≤ q → zy_F s q := fun _ h => h
  obtain ⟨hb1, hb2⟩ := hb
  obtain ⟨k1, v, fr, lo, mc, ms, fr2, lo2, mc2, ms2, a2, n2, A2, B2, E2, mk2, f2, ⟨b1, b2, b3, b4, b5, b6, b7, b8⟩, hQ, hR, hkv, ha2, hG, hI2⟩ := zw_addLoad (l := l) (D := D) (c := c) (a := a) (d := d) (B := B) (th := th) (o := o) (f := f) hI hst (xs (i + 1)) (xs (i + 2)) (xs (i + 3))
  have hQ : ze_QE l yL_addLoad wsL_addLoad fr lo mc ms D c (ze_wC c a n A B E ++ [(o, .inl (c 6, 1, .inr (.inl f)))]) [.ref (a 0), .int (xs (i + 1)), .int (xs (i + 2)), .int (xs (i + 3)), .ref o] k1 (fun q => ze_wC c (a2 q) n2 A2 B2 E2 ++ [(o, .inl (c 6, 1, .inr (.inl f2)))]) := hQ
  have hR : ze_I l yX9_addLoad wsX9_addLoad fr2 lo2 mc2 ms2 D c (ze_wR c d n A B mk th) [.ref (d 0), .int (xs (i + 1)), .int (xs (i + 2)), .int (xs (i + 3))] v (ze_wR c d n2 A2 B2 mk2 k1) := hR
  have hl : lv_has ls 8 [(0, .ref b), (1, .ref (a 0)), (2, .ref (d 0)), (3, .ref o), (4, .ref od), (5, .int (nI i))] := hl
  refine lv_aload_n hX_ hB_ dL_law_1501 rfl (lv_at hl 1 rfl) ?_
  refine zy_arg (q := 1) C hW hi (by decide) (lv_at hl 0 rfl) (lv_at hl 5 rfl) dL_law_1502 dL_law_1503 dL_law_1505 rfl dL_law_1506 dL_law_1507 ?_
  refine zy_arg (q := 2) C hW hi (by decide) (lv_at hl 0 rfl) (lv_at hl 5 rfl) dL_law_1508 dL_law_1509 dL_law_1511 rfl dL_law_1512 dL_law_1513 ?_
  refine zy_arg (q := 3) C hW hi (by decide) (lv_at hl 0 rfl) (lv_at hl 5 rfl) dL_law_1514 dL_law_1515 dL_law_1517 rfl dL_law_1518 dL_law_1519 ?_
  refine lv_aload_n hX_ hB_ dL_law_1520 rfl (lv_at hl 3 rfl) ?_
  refine ze_FQe (As := [.ref (a 0), .int (xs (i + 1)), .int (xs (i + 2)), .int (xs (i + 3)), .ref o]) (rest := []) S hQ (vx_cwSW 5 hts gL_law_L_addLoad_n rfl rfl rfl (by decide +kernel) ⟨by show fr + 1 ≤ 13; omega, by show 8 + (_ + 11) + lo ≤ 476; omega⟩) hXB hNc hK hW hA rfl hl.1 rfl (lv_room (Nat.le_of_ble_eq_true rfl)) dL_law_1521 ⟨by show k + mc ≤ 601024; omega, by show j + ms ≤ 7293034; omega⟩ (fun q9 H locs hW => ?_)
  refine lv_istore (lv' := [(6, .int k1), (0, .ref b), (1, .ref (a 0)), (2, .ref (d 0)), (3, .ref o), (4, .ref od), (5, .int (nI i))]) hX_ hB_ dL_law_1524 hl (by decide) rfl (fun ls hl => ?_)
  refine lv_aload_n hX_ hB_ dL_law_1526 rfl (lv_at hl 3 rfl) ?_
  refine zy_arg (q := 1) C hW hi (by decide) (lv_at hl 1 rfl) (lv_at hl 6 rfl) dL_law_1527 dL_law_1528 dL_law_1530 rfl dL_law_1531 dL_law_1532 ?_
  refine zy_arg (q := 2) C hW hi (by decide) (lv_at hl 1 rfl) (lv_at hl 6 rfl) dL_law_1533 dL_law_1534 dL_law_1536 rfl dL_law_1537 dL_law_1538 ?_
  refine zy_arg (q := 3) C hW hi (by decide) (lv_at hl 1 rfl) (lv_at hl 6 rfl) dL_law_1539 dL_law_1540 dL_law_1542 rfl dL_law_1543 dL_law_1544 ?_
  have hW := zy_wA hW
  refine ze_FVi (As := [.int (xs (i + 1)), .int (xs (i + 2)), .int (xs (i + 3))]) (rest := []) (ci := 9) (q0 := 0) (k := (RX9, TX9, 39)) S hR (cwV 3 hts gL_law_X9_addLoad_n rfl rfl rfl (by decide +kernel) ⟨by show fr2 + 1 ≤ 13; omega, by show 8 + (_ + 11) + lo2 ≤ 476; omega⟩) hK hW hA rfl rfl rfl hl.1 rfl (lv_room (Nat.le_of_ble_eq_true rfl)) dL_law_1545 ⟨by show k + mc + mc2 ≤ 601024; omega, by show j + ms + ms2 ≤ 7293034; omega⟩ (fun H locs hW => ?_)
  refine lv_istore (lv' := [(7, .int v), (6, .int k1), (0, .ref b), (1, .ref (a 0)), (2, .ref (d 0)), (3, .ref o), (4, .ref od), (5, .int (nI i))]) hX_ hB_ dL_law_1548 hl (by decide) rfl (fun ls hl => ?_)
  refine lv_aload_n hX_ hB_ dL_law_1550 rfl (lv_at hl 4 rfl) ?_
  refine ze_FVi (As := []) (rest := []) (ci := 9) (q0 := 0) (k := (RX9, TX9, 39)) S (zr_thrown l D c d n2 A2 B2 mk2 k1) (cwV 0 hts gL_law_X9_thrown_n rfl rfl rfl (by decide +kernel) ⟨Nat.le_of_ble_eq_true rfl, Nat.le_of_ble_eq_true rfl⟩) hK hW hA rfl rfl rfl hl.1 rfl (lv_room (Nat.le_of_ble_eq_true rfl)) dL_law_1551 ⟨by show k + mc + mc2 + 0 ≤ 601024; omega, by show j + ms + ms2 + 0 ≤ 7293034; omega⟩ (fun H locs hW => ?_)
  have hW := zy_wB hW
  refine lv_iload hX_ hB_ dL_law_1554 (lv_at hl 1 rfl) ?_
  refine lv_icmp_eq (tgt := 1561) hX_ hB_ dL_law_1556 (by decide) (fun _ => ?_) (fun q => absurd rfl q)
  refine lv_iload hX_ hB_ dL_law_1561 (lv_at hl 1 rfl) ?_
  have gg : ∀ (ls : Array Slot), lv_has ls 8 [(7, .int v), (6, .int k1), (0, .ref b), (1, .ref (a 0)), (2, .ref (d 0)), (3, .ref o), (4, .ref od), (5, .int (nI i))] → W p l e room_1 s m #[Value.ref b] below meth cd H locs (k + mc + mc2 + 0) (j + ms + ms2 + 0) Q (F0 m 1578 ls []) := fun ls hl => by
    refine lv_goto (tgt := 2642) hX_ hB_ dL_law_1578 (by decide) ?_
    refine W.widen (k := k + 2) (n := j + 14) (by omega) (by omega) ?_
    exact G (a2 q9) n2 A2 B2 E2 mk2 k1 f2 g H locs ls (ha2 q9) hI2 hW (lv_sub hl [2, 3, 4, 5, 6, 7] rfl)
  refine lv_if_ne (tgt := 1578) hX_ hB_ dL_law_1563 (by decide) (fun _ => gg ls hl) (fun hk0 => ?_)
  have hf2 : f2 (0 : Int32).toNatClampNeg = v.toInt64 := hkv hk0
  refine lv_aload_n hX_ hB_ dL_law_1566 rfl (lv_at hl 5 rfl) ?_
  refine lv_iconst (v := 0) hX_ hB_ dL_law_1567 (by decide) ?_
  refine va_lald (f := f2) hX_ hB_ hK hW.1 ((ze_wC c (a2 q9) n2 A2 B2 E2).length + 0) 6 (ze_appget0 (ze_appL (k := 0) rfl)) rfl (vp_in_nI (n := 0) (N := 1) (by decide) (by decide)) dL_law_1568 ?_
  refine lv_iload hX_ hB_ dL_law_1569 (lv_at hl 0 rfl) ?_
  refine lv_i2l (v := v.toInt64) hX_ hB_ dL_law_1571 rfl ?_
  refine W.lcmp hX_ hB_ dL_law_1572 ?_
  rw [hf2, zy_cmp]
  exact lv_if_eq (tgt := 1578) hX_ hB_ dL_law_1573 (by decide) (fun _ => gg ls hl) (fun q => absurd rfl q)
end ZY
