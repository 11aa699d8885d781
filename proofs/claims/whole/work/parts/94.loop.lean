/-! ===== the law's loop ===== -/
section ZY
variable {p : Program} {l : Launch} {e : Env} {s : State} {m : MethodId} {below : List Frame} {meth : Method} {cd : Code} {D : va_G} {c : Nat → ClassId} {b L : Nat} {xs : Nat → Int32} {Q : State → Prop}
set_option maxHeartbeats 4000000 in
set_option maxRecDepth 100000 in
theorem zy_loop {meth : Method} (C : zy_C p l s m cd D c b L xs) (hr : meth.sig.returnType = ret) (hlocks : meth.locks = false) (d : Nat → Nat) (o od a0 : Nat) : ∀ (t i : Nat), i ≤ L → L < i + 6 * (t + 1) → ∀ (a n : Nat → Nat) (A : Nat → Nat → Int32) (B : Nat → Int64) (E : Nat → Nat → Int32) (mk : Nat → Int32) (th : Int32) (f : Nat → Int64) (g : Nat → UInt64) (H : Heap) (locs : List Loc) (ls : Array Slot) (k j : Nat), k ≤ 100 + i → j ≤ 400 + 14 * i → a 0 = a0 → zv_I n A E mk → ze_W D (zy_W c a d n A B E mk th o od f g) (zy_F s) s.heap H locs → lv_has ls 8 (zy_L b a0 (d 0) o od i) →
    W p l e room_1 s m #[Value.ref b] below meth cd H locs k j (lw_Z below #[Value.ref b] s) (F0 m 28 ls []) := by
  obtain ⟨S, hst, hX, hbl, hXB, hNc, hK, hL⟩ := id C
  have hX_ := S.1
  have hB_ := S.2.1
  have hbA : ¬ zy_F s b := Nat.not_le.mpr hbl
  intro t
  induction t with
  | zero =>
    intro i hi ht a n A B E mk th f g H locs ls k j hk hj ha hI hW hl
    have hl : lv_has ls 8 [(0, .ref b), (1, .ref a0), (2, .ref (d 0)), (3, .ref o), (4, .ref od), (5, .int (nI i))] := hl
    refine lv_iload hX_ hB_ dL_law_28 (lv_at hl 5 rfl) ?_
    refine lv_aload_n hX_ hB_ dL_law_30 rfl (lv_at hl 0 rfl) ?_
    refine va_slen hX_ hB_ hX hbl hbA hW.2.2 dL_law_31 ?_
    refine lv_bipush (v := 6) hX_ hB_ dL_law_32 (by decide) ?_
    refine lv_isub hX_ hB_ dL_law_34 ?_
    refine lv_icmp_gt (tgt := 2648) hX_ hB_ dL_law_35 (by decide) (fun _ => ?_) (fun q => ?_)
    · refine lv_iconst (v := 1) hX_ hB_ dL_law_2648 (by decide) ?_
      refine va_forget (fun q hq => hW.2.2.2.2 q hq) ?_
      refine W.widen (k := 601024) (n := 7293034) (by omega) (by omega) ?_
      exact lw_ret (Drawn.sameBut.refl s.drawn lw_cs) hX_ hB_ hr hlocks dL_law_2649
    · exact absurd (zy_lt hL hi q) (by omega)
  | succ t ih =>
    intro i hi ht a n A B E mk th f g H locs ls k j hk hj ha hI hW hl
    have hl : lv_has ls 8 [(0, .ref b), (1, .ref a0), (2, .ref (d 0)), (3, .ref o), (4, .ref od), (5, .int (nI i))] := hl
    refine lv_iload hX_ hB_ dL_law_28 (lv_at hl 5 rfl) ?_
    refine lv_aload_n hX_ hB_ dL_law_30 rfl (lv_at hl 0 rfl) ?_
    refine va_slen hX_ hB_ hX hbl hbA hW.2.2 dL_law_31 ?_
    refine lv_bipush (v := 6) hX_ hB_ dL_law_32 (by decide) ?_
    refine lv_isub hX_ hB_ dL_law_34 ?_
    refine lv_icmp_gt (tgt := 2648) hX_ hB_ dL_law_35 (by decide) (fun _ => ?_) (fun q => ?_)
    · refine lv_iconst (v := 1) hX_ hB_ dL_law_2648 (by decide) ?_
      refine va_forget (fun q hq => hW.2.2.2.2 q hq) ?_
      refine W.widen (k := 601024) (n := 7293034) (by omega) (by omega) ?_
      exact lw_ret (Drawn.sameBut.refl s.drawn lw_cs) hX_ hB_ hr hlocks dL_law_2649
    · have hi6 : i + 6 ≤ L := zy_lt hL hi q
      have G : zy_G p l e s m below meth cd D c b (lw_Z below #[Value.ref b] s) d o od a0 i (k + 2) (j + 14) := by
        intro a n A B E mk th f g H locs ls ha hI hW hl
        have hl : lv_has ls 8 [(0, .ref b), (1, .ref a0), (2, .ref (d 0)), (3, .ref o), (4, .ref od), (5, .int (nI i))] := hl
        refine lv_iinc (v := nI (i + 6)) (k := 5) (lv' := [(5, .int (nI (i + 6))), (0, .ref b), (1, .ref a0), (2, .ref (d 0)), (3, .ref o), (4, .ref od)]) hX_ hB_ dL_law_2642 hl rfl (nI_add i 6) (by decide) rfl (fun ls hl => ?_)
        refine lv_goto (tgt := 28) hX_ hB_ dL_law_2645 (by decide) ?_
        exact ih (i + 6) hi6 (by omega) a n A B E mk th f g H locs ls (k + 2) (j + 14) (by omega) (by omega) ha hI hW (lv_sub hl [1, 2, 3, 4, 5, 0] rfl)
      subst ha
      refine lv_aload_n hX_ hB_ dL_law_38 rfl (lv_at hl 0 rfl) ?_
      refine lv_iload hX_ hB_ dL_law_39 (lv_at hl 5 rfl) ?_
      refine va_sld hX_ hB_ hX hbl hbA hW.2.2 (vp_in_nI (by omega) (by omega)) dL_law_41 ?_
      refine lv_bipush (v := 63) hX_ hB_ dL_law_42 (by decide) ?_
      refine lv_iand hX_ hB_ dL_law_44 ?_
      generalize xs (nI i).toNatClampNeg &&& 63 = x
      have hb : k + 2 ≤ 601024 ∧ j + 14 ≤ 7293034 := ⟨by omega, by omega⟩
      by_cases hx : 0 ≤ x.toInt ∧ x.toInt ≤ 44
      · obtain ⟨q, rfl, hq⟩ : ∃ q : Nat, x = nI q ∧ q ≤ 44 := ⟨x.toInt.toNat, by
          apply Int32.toInt_inj.mp
          rw [nI_toInt (by omega)]
          omega, by omega⟩
        clear hx
        have hq : q = 0 ∨ q = 1 ∨ q = 2 ∨ q = 3 ∨ q = 4 ∨ q = 5 ∨ q = 6 ∨ q = 7 ∨ q = 8 ∨ q = 9 ∨ q = 10 ∨ q = 11 ∨ q = 12 ∨ q = 13 ∨ q = 14 ∨ q = 15 ∨ q = 16 ∨ q = 17 ∨ q = 18 ∨ q = 19 ∨ q = 20 ∨ q = 21 ∨ q = 22 ∨ q = 23 ∨ q = 24 ∨ q = 25 ∨ q = 26 ∨ q = 27 ∨ q = 28 ∨ q = 29 ∨ q = 30 ∨ q = 31 ∨ q = 32 ∨ q = 33 ∨ q = 34 ∨ q = 35 ∨ q = 36 ∨ q = 37 ∨ q = 38 ∨ q = 39 ∨ q = 40 ∨ q = 41 ∨ q = 42 ∨ q = 43 ∨ q = 44 := by omega
        rcases hq with rfl | rfl | rfl | rfl | rfl | rfl | rfl | rfl | rfl | rfl | rfl | rfl | rfl | rfl | rfl | rfl | rfl | rfl | rfl | rfl | rfl | rfl | rfl | rfl | rfl | rfl | rfl | rfl | rfl | rfl | rfl | rfl | rfl | rfl | rfl | rfl | rfl | rfl | rfl | rfl | rfl | rfl | rfl | rfl | rfl
        · exact lv_tableIn (off := 195) (tgt := 240) hX_ hB_ dL_law_45 (by decide) (by decide) (by decide +kernel) (by decide) (zy_addSite C hi6 hb hI hW hl G)
        · exact lv_tableIn (off := 239) (tgt := 284) hX_ hB_ dL_law_45 (by decide) (by decide) (by decide +kernel) (by decide) (zy_setPhase C hi6 hb hI hW hl G)
        · exact lv_tableIn (off := 307) (tgt := 352) hX_ hB_ dL_law_45 (by decide) (by decide) (by decide +kernel) (by decide) (zy_addLine C hi6 hb hI hW hl G)
        · exact lv_tableIn (off := 375) (tgt := 420) hX_ hB_ dL_law_45 (by decide) (by decide) (by decide +kernel) (by decide) (zy_close C hi6 hb hI hW hl G)
        · exact lv_tableIn (off := 431) (tgt := 476) hX_ hB_ dL_law_45 (by decide) (by decide) (by decide +kernel) (by decide) (zy_open C hi6 hb hI hW hl G)
        · exact lv_tableIn (off := 487) (tgt := 532) hX_ hB_ dL_law_45 (by decide) (by decide) (by decide +kernel) (by decide) (zy_tie C hi6 hb hI hW hl G)
        · exact lv_tableIn (off := 531) (tgt := 576) hX_ hB_ dL_law_45 (by decide) (by decide) (by decide +kernel) (by decide) (zy_untie C hi6 hb hI hW hl G)
        · exact lv_tableIn (off := 575) (tgt := 620) hX_ hB_ dL_law_45 (by decide) (by decide) (by decide +kernel) (by decide) (zy_island C hi6 hb hI hW hl G)
        · exact lv_tableIn (off := 631) (tgt := 676) hX_ hB_ dL_law_45 (by decide) (by decide) (by decide +kernel) (by decide) (zy_islandByRounds C hi6 hb hI hW hl G)
        · exact lv_tableIn (off := 687) (tgt := 732) hX_ hB_ dL_law_45 (by decide) (by decide) (by decide +kernel) (by decide) (zy_islands C hi6 hb hI hW hl G)
        · exact lv_tableIn (off := 700) (tgt := 745) hX_ hB_ dL_law_45 (by decide) (by decide) (by decide +kernel) (by decide) (zy_phase C hi6 hb hI hW hl G)
        · exact lv_tableIn (off := 756) (tgt := 801) hX_ hB_ dL_law_45 (by decide) (by decide) (by decide +kernel) (by decide) (zy_gap C hi6 hb hI hW hl G)
        · exact lv_tableIn (off := 812) (tgt := 857) hX_ hB_ dL_law_45 (by decide) (by decide) (by decide +kernel) (by decide) (zy_addGenerator C hi6 hb hI hW hl G)
        · exact lv_tableIn (off := 916) (tgt := 961) hX_ hB_ dL_law_45 (by decide) (by decide) (by decide +kernel) (by decide) (zy_start C hi6 hb hI hW hl G)
        · exact lv_tableIn (off := 972) (tgt := 1017) hX_ hB_ dL_law_45 (by decide) (by decide) (by decide +kernel) (by decide) (zy_stop C hi6 hb hI hW hl G)
        · exact lv_tableIn (off := 1028) (tgt := 1073) hX_ hB_ dL_law_45 (by decide) (by decide) (by decide +kernel) (by decide) (zy_startNext C hi6 hb hI hW hl G)
        · exact lv_tableIn (off := 1084) (tgt := 1129) hX_ hB_ dL_law_45 (by decide) (by decide) (by decide +kernel) (by decide) (zy_refuel C hi6 hb hI hW hl G)
        · exact lv_tableIn (off := 1152) (tgt := 1197) hX_ hB_ dL_law_45 (by decide) (by decide) (by decide +kernel) (by decide) (zy_state C hi6 hb hI hW hl G)
        · exact lv_tableIn (off := 1208) (tgt := 1253) hX_ hB_ dL_law_45 (by decide) (by decide) (by decide +kernel) (by decide) (zy_fuel C hi6 hb hI hW hl G)
        · exact lv_tableIn (off := 1264) (tgt := 1309) hX_ hB_ dL_law_45 (by decide) (by decide) (by decide +kernel) (by decide) (zy_toGo C hi6 hb hI hW hl G)
        · exact lv_tableIn (off := 1320) (tgt := 1365) hX_ hB_ dL_law_45 (by decide) (by decide) (by decide +kernel) (by decide) (zy_addStore C hi6 hb hI hW hl G)
        · exact lv_tableIn (off := 1400) (tgt := 1445) hX_ hB_ dL_law_45 (by decide) (by decide) (by decide +kernel) (by decide) (zy_charge C hi6 hb hI hW hl G)
        · exact lv_tableIn (off := 1456) (tgt := 1501) hX_ hB_ dL_law_45 (by decide) (by decide) (by decide +kernel) (by decide) (zy_addLoad C hi6 hb hI hW hl G)
        · exact lv_tableIn (off := 1536) (tgt := 1581) hX_ hB_ dL_law_45 (by decide) (by decide) (by decide +kernel) (by decide) (zy_setRank C hi6 hb hI hW hl G)
        · exact lv_tableIn (off := 1604) (tgt := 1649) hX_ hB_ dL_law_45 (by decide) (by decide) (by decide +kernel) (by decide) (zy_isLit C hi6 hb hI hW hl G)
        · exact lv_tableIn (off := 1667) (tgt := 1712) hX_ hB_ dL_law_45 (by decide) (by decide) (by decide +kernel) (by decide) (zy_waits C hi6 hb hI hW hl G)
        · exact lv_tableIn (off := 1723) (tgt := 1768) hX_ hB_ dL_law_45 (by decide) (by decide) (by decide +kernel) (by decide) (zy_setReserve C hi6 hb hI hW hl G)
        · exact lv_tableIn (off := 1779) (tgt := 1824) hX_ hB_ dL_law_45 (by decide) (by decide) (by decide +kernel) (by decide) (zy_setDelay C hi6 hb hI hW hl G)
        · exact lv_tableIn (off := 1835) (tgt := 1880) hX_ hB_ dL_law_45 (by decide) (by decide) (by decide +kernel) (by decide) (zy_bound C hi6 hb hI hW hl G)
        · exact lv_tableIn (off := 1891) (tgt := 1936) hX_ hB_ dL_law_45 (by decide) (by decide) (by decide +kernel) (by decide) (zy_demand C hi6 hb hI hW hl G)
        · exact lv_tableIn (off := 1947) (tgt := 1992) hX_ hB_ dL_law_45 (by decide) (by decide) (by decide +kernel) (by decide) (zy_isKept C hi6 hb hI hW hl G)
        · exact lv_tableIn (off := 2010) (tgt := 2055) hX_ hB_ dL_law_45 (by decide) (by decide) (by decide +kernel) (by decide) (zy_barrier C hi6 hb hI hW hl G)
        · exact lv_tableIn (off := 2066) (tgt := 2111) hX_ hB_ dL_law_45 (by decide) (by decide) (by decide +kernel) (by decide) (zy_behind C hi6 hb hI hW hl G)
        · exact lv_tableIn (off := 2122) (tgt := 2167) hX_ hB_ dL_law_45 (by decide) (by decide) (by decide +kernel) (by decide) (zy_share C hi6 hb hI hW hl G)
        · exact lv_tableIn (off := 2202) (tgt := 2247) hX_ hB_ dL_law_45 (by decide) (by decide) (by decide +kernel) (by decide) (zy_shareBySteps C hi6 hb hI hW hl G)
        · exact lv_tableIn (off := 2282) (tgt := 2327) hX_ hB_ dL_law_45 (by decide) (by decide) (by decide +kernel) (by decide) (zy_pass C hi6 hb hI hW hl G)
        · exact lv_tableIn (off := 2338) (tgt := 2383) hX_ hB_ dL_law_45 (by decide) (by decide) (by decide +kernel) (by decide) (zy_now C hi6 hb hI hW hl G)
        · exact lv_tableIn (off := 2351) (tgt := 2396) hX_ hB_ dL_law_45 (by decide) (by decide) (by decide +kernel) (by decide) (zy_given C hi6 hb hI hW hl G)
        · exact lv_tableIn (off := 2407) (tgt := 2452) hX_ hB_ dL_law_45 (by decide) (by decide) (by decide +kernel) (by decide) (zy_flow C hi6 hb hI hW hl G)
        · exact lv_tableIn (off := 2463) (tgt := 2508) hX_ hB_ dL_law_45 (by decide) (by decide) (by decide +kernel) (by decide) (zy_grid C hi6 hb hI hW hl G)
        · exact lv_tableIn (off := 2476) (tgt := 2521) hX_ hB_ dL_law_45 (by decide) (by decide) (by decide +kernel) (by decide) (zy_burnt C hi6 hb hI hW hl G)
        · exact lv_tableIn (off := 2490) (tgt := 2535) hX_ hB_ dL_law_45 (by decide) (by decide) (by decide +kernel) (by decide) (zy_served C hi6 hb hI hW hl G)
        · exact lv_tableIn (off := 2504) (tgt := 2549) hX_ hB_ dL_law_45 (by decide) (by decide) (by decide +kernel) (by decide) (zy_lost C hi6 hb hI hW hl G)
        · exact lv_tableIn (off := 2518) (tgt := 2563) hX_ hB_ dL_law_45 (by decide) (by decide) (by decide +kernel) (by decide) (zy_isBalanced C hi6 hb hI hW hl G)
        · exact lv_tableIn (off := 2531) (tgt := 2576) hX_ hB_ dL_law_45 (by decide) (by decide) (by decide +kernel) (by decide) (zy_litShare C hi6 hb hI hW hl G)
      · refine lv_tableOut (tgt := 2642) hX_ hB_ dL_law_45 (by omega) (by decide) ?_
        refine W.widen (k := k + 2) (n := j + 14) (by omega) (by omega) ?_
        exact G a n A B E mk th f g H locs ls rfl hI hW hl
end ZY
