/-! ===== the net in the law's own words ===== -/
def xa_sv (n : Nat → Nat) (N : Nat → Int32) (k : Nat) : Prop := N k = nI (ze_ix (N k)) ∧ ze_ix (N k) < n 0
def xa_H (n : Nat → Nat) (N : Nat → Int32) : Prop := zf_N n ∧ (N 0 = nI (n 0) ∧ N 1 = nI (n 1) ∧ N 2 = nI (n 2) ∧ N 3 = nI (n 3) ∧ N 4 = nI (n 4)) ∧ (∀ i, i < n 1 → xa_sv n N (3 * i + 20) ∧ xa_sv n N (3 * i + 21)) ∧ (∀ g, g < n 2 → xa_sv n N (9 * g + 50)) ∧ (∀ k, k < n 3 → xa_sv n N (6 * k + 110)) ∧ (∀ k, k < n 4 → xa_sv n N (5 * k + 140))
/-- the places that say how many there are, and who is where -/
def xa_st (k : Nat) : Prop := k < 5 ∨ (20 ≤ k ∧ k < 44 ∧ (k - 20) % 3 ≠ 2) ∨ (50 ≤ k ∧ k < 104 ∧ (k - 50) % 9 = 0) ∨ (110 ≤ k ∧ k < 134 ∧ (k - 110) % 6 = 0) ∨ (140 ≤ k ∧ k < 190 ∧ (k - 140) % 5 = 0)
theorem xa_Hc {n : Nat → Nat} {N N2 : Nat → Int32} (h : xa_H n N) (e : ∀ k, xa_st k → N2 k = N k) : xa_H n N2 := by
  obtain ⟨hN, ⟨h0, h1, h2, h3, h4⟩, hl, hg, ht, hd⟩ := h
  obtain ⟨n0, n1, n2, n3, n4⟩ := id hN
  have key : ∀ k, xa_st k → xa_sv n N k → xa_sv n N2 k := fun k hk z => by
    unfold xa_sv at z ⊢
    rw [e k hk]
    exact z
  refine ⟨hN, ⟨(e 0 (by unfold xa_st; omega)).trans h0, (e 1 (by unfold xa_st; omega)).trans h1, (e 2 (by unfold xa_st; omega)).trans h2, (e 3 (by unfold xa_st; omega)).trans h3, (e 4 (by unfold xa_st; omega)).trans h4⟩, fun i hi => ⟨key _ (by unfold xa_st; omega) (hl i hi).1, key _ (by unfold xa_st; omega) (hl i hi).2⟩, fun g h => key _ (by unfold xa_st; omega) (hg g h), fun k h => key _ (by unfold xa_st; omega) (ht k h), fun k h => key _ (by unfold xa_st; omega) (hd k h)⟩
theorem xa_Hu {n : Nat → Nat} {N : Nat → Int32} (h : xa_H n N) {k : Nat} {v : Int32} (hk : ¬ xa_st k) : xa_H n (upd N k v) := xa_Hc h (fun j hj => xb_un (fun e => hk (e ▸ hj)))
/-- the set of the sites that are joined: one round over the lines -/
def xa_in (N : Nat → Int32) (t : Nat) : Nat → Nat
  | 0 => t
  | l + 1 => if N (3 * l + 22) = 1 ∧ ((xa_in N t l).testBit (ze_ix (N (3 * l + 20))) || (xa_in N t l).testBit (ze_ix (N (3 * l + 21)))) = true then xa_in N t l ||| (2 ^ ze_ix (N (3 * l + 20)) ||| 2 ^ ze_ix (N (3 * l + 21))) else xa_in N t l
def xa_rs (N : Nat → Int32) (L t : Nat) : Nat → Nat
  | 0 => t
  | r + 1 => xa_in N (xa_rs N L t r) L
def xa_lb (t : Nat) : Nat := if t.testBit 0 then 0 else if t.testBit 1 then 1 else if t.testBit 2 then 2 else if t.testBit 3 then 3 else if t.testBit 4 then 4 else 5
def xa_isl (N : Nat → Int32) (L s : Nat) : Nat := xa_lb (xa_rs N L (2 ^ s) 6)
theorem xa_o0 {t a b : Nat} (ht : t < 64) (ha : a < 6) (hb : b < 6) : t ||| (2 ^ a ||| 2 ^ b) < 64 := by
  have key : ∀ (t : Fin 64) (a b : Fin 6), t.val ||| (2 ^ a.val ||| 2 ^ b.val) < 64 := by decide +kernel
  exact key ⟨t, ht⟩ ⟨a, ha⟩ ⟨b, hb⟩
theorem xa_o1 {t a b : Nat} (ht : t < 64) (ha : a < 6) (hb : b < 6) : ((nI t >>> (nI a &&& 31)) ||| (nI t >>> (nI b &&& 31))) &&& 1 = ze_b ((t.testBit a || t.testBit b) = true) := by
  have key : ∀ (t : Fin 64) (a b : Fin 6), ((nI t.val >>> (nI a.val &&& 31)) ||| (nI t.val >>> (nI b.val &&& 31))) &&& 1 = ze_b ((t.val.testBit a.val || t.val.testBit b.val) = true) := by decide +kernel
  exact key ⟨t, ht⟩ ⟨a, ha⟩ ⟨b, hb⟩
theorem xa_o2 {t a b : Nat} (ht : t < 64) (ha : a < 6) (hb : b < 6) : nI t ||| ((1 <<< (nI a &&& 31)) ||| (1 <<< (nI b &&& 31))) = nI (t ||| (2 ^ a ||| 2 ^ b)) := by
  have key : ∀ (t : Fin 64) (a b : Fin 6), nI t.val ||| ((1 <<< (nI a.val &&& 31)) ||| (1 <<< (nI b.val &&& 31))) = nI (t.val ||| (2 ^ a.val ||| 2 ^ b.val)) := by decide +kernel
  exact key ⟨t, ht⟩ ⟨a, ha⟩ ⟨b, hb⟩
theorem xa_o3 {t : Nat} (ht : t < 64) : nI t ||| 0 = nI t := by
  have key : ∀ (t : Fin 64), nI t.val ||| 0 = nI t.val := by decide +kernel
  exact key ⟨t, ht⟩
theorem xa_o4 {a : Nat} (ha : a < 6) : (1 : Int32) <<< (nI a &&& 31) = nI (2 ^ a) := by
  have key : ∀ (a : Fin 6), (1 : Int32) <<< (nI a.val &&& 31) = nI (2 ^ a.val) := by decide +kernel
  exact key ⟨a, ha⟩
theorem xa_o5 {t k : Nat} (ht : t < 64) (hk : k < 6) : (nI t >>> (nI k &&& 31)) &&& 1 = ze_b (t.testBit k = true) := by
  have key : ∀ (t : Fin 64) (k : Fin 6), (nI t.val >>> (nI k.val &&& 31)) &&& 1 = ze_b (t.val.testBit k.val = true) := by decide +kernel
  exact key ⟨t, ht⟩ ⟨k, hk⟩
theorem xa_o6 {t s k : Nat} (ht : t < 64) (hs : s < 6) (h : t.testBit s = true) (hk : k ≤ xa_lb t) : xa_lb t ≤ s ∧ (t.testBit k = true → k = xa_lb t) ∧ (¬ t.testBit k = true → k + 1 ≤ xa_lb t) := by
  have key : ∀ (t : Fin 64) (s k : Fin 6), t.val.testBit s.val = true → k.val ≤ xa_lb t.val → xa_lb t.val ≤ s.val ∧ (t.val.testBit k.val = true → k.val = xa_lb t.val) ∧ (¬ t.val.testBit k.val = true → k.val + 1 ≤ xa_lb t.val) := by decide +kernel
  have h5 : xa_lb t ≤ 5 := by
    have key2 : ∀ t : Fin 64, xa_lb t.val ≤ 5 := by decide +kernel
    exact key2 ⟨t, ht⟩
  exact key ⟨t, ht⟩ ⟨s, hs⟩ ⟨k, by omega⟩ h hk
theorem xa_o7 {t s : Nat} (ht : t < 64) (hs : s < 6) (h : t.testBit s = true) : t.testBit (xa_lb t) = true := by
  have key : ∀ (t : Fin 64) (s : Fin 6), t.val.testBit s.val = true → t.val.testBit (xa_lb t.val) = true := by decide +kernel
  exact key ⟨t, ht⟩ ⟨s, hs⟩ h
theorem xa_o8 {a : Nat} (ha : a < 6) : 2 ^ a < 64 ∧ (2 ^ a).testBit a = true := by
  have key : ∀ a : Fin 6, 2 ^ a.val < 64 ∧ (2 ^ a.val).testBit a.val = true := by decide +kernel
  exact key ⟨a, ha⟩
section XA
variable {n : Nat → Nat} {N : Nat → Int32}
theorem xa_ends (h : xa_H n N) {i : Nat} (hi : i < n 1) : ze_ix (N (3 * i + 20)) < 6 ∧ ze_ix (N (3 * i + 21)) < 6 := by
  obtain ⟨hN, -, hl, -⟩ := h
  have h0 := hN.1
  exact ⟨by have := (hl i hi).1.2; omega, by have := (hl i hi).2.2; omega⟩
theorem xa_inI (h : xa_H n N) {t s : Nat} (ht : t < 64 ∧ t.testBit s = true) : ∀ {i : Nat}, i ≤ n 1 → xa_in N t i < 64 ∧ (xa_in N t i).testBit s = true := by
  intro i
  induction i with
  | zero => exact fun _ => ht
  | succ i ih =>
    intro hi
    have hh := ih (by omega)
    have he := xa_ends h (i := i) (by omega)
    simp only [xa_in]
    split
    · exact ⟨xa_o0 hh.1 he.1 he.2, by rw [Nat.testBit_or, hh.2]; rfl⟩
    · exact hh
theorem xa_rsI (h : xa_H n N) {s : Nat} (hs : s < n 0) (r : Nat) : xa_rs N (n 1) (2 ^ s) r < 64 ∧ (xa_rs N (n 1) (2 ^ s) r).testBit s = true := by
  have h0 := h.1.1
  induction r with
  | zero => exact xa_o8 (by omega)
  | succ r ih => exact xa_inI h ih (Nat.le_refl _)
theorem xa_isle (h : xa_H n N) {s : Nat} (hs : s < n 0) : xa_isl N (n 1) s ≤ s := by
  have h0 := h.1.1
  have z := xa_rsI h hs 6
  exact (xa_o6 z.1 (by omega) z.2 (Nat.zero_le _)).1
theorem xa_islt (h : xa_H n N) {s : Nat} (hs : s < n 0) : xa_isl N (n 1) s < n 0 := Nat.lt_of_le_of_lt (xa_isle h hs) hs
end XA
theorem xb_bt {P : Prop} [Decidable P] (h : ze_b P = 1) : P := by
  unfold ze_b at h
  split at h
  · assumption
  · exact absurd h (by decide)
theorem xb_bf {P : Prop} [Decidable P] (h : ¬ ze_b P = 1) : ¬ P := fun p => h (by unfold ze_b; rw [if_pos p])
/-- how many islands, sites of the first one -/
def xa_many (N : Nat → Int32) (L : Nat) : Nat → Int32 := ze_sum 0 (fun k => if xa_isl N L k = k then 1 else 0)
def xa_size (N : Nat → Int32) (L : Nat) : Nat → Int32 := ze_sum 0 (fun k => if xa_isl N L k = 0 then 1 else 0)
def xa_ph (N : Nat → Int32) (L s : Nat) : Int32 := if xa_isl N L s = 0 ∧ N 8 = 1 then 0 else N (xa_isl N L s + 10)
def xa_off (N : Nat → Int32) (L a b : Nat) : Int32 := xa_ph N L a - xa_ph N L b + 360 - (xa_ph N L a - xa_ph N L b + 360) / 360 * 360
def xa_gap (N : Nat → Int32) (L i : Nat) : Int32 := if xa_isl N L (ze_ix (N (3 * i + 20))) = xa_isl N L (ze_ix (N (3 * i + 21))) then 0 else if xa_off N L (ze_ix (N (3 * i + 20))) (ze_ix (N (3 * i + 21))) ≤ 180 then xa_off N L (ze_ix (N (3 * i + 20))) (ze_ix (N (3 * i + 21))) else 360 - xa_off N L (ze_ix (N (3 * i + 20))) (ze_ix (N (3 * i + 21)))
abbrev xa_rn (N : Nat → Int32) (L m g : Nat) : Prop := N (9 * g + 55) = 2 ∧ xa_isl N L (ze_ix (N (9 * g + 50))) = m
def xa_can (N : Nat → Int32) (L m g : Nat) : Int32 := if xa_rn N L m g then ze_mn (N (9 * g + 52)) (N (9 * g + 54)) else 0
def xa_bg (N : Nat → Int32) (L m : Nat) : Nat → Int32 := ze_sum (-N 5) (fun g => xa_can N L m g)
def xa_bt (N : Nat → Int32) (L m : Nat) (x : Int32) : Nat → Int32 := ze_sum x (fun k => if xa_isl N L (ze_ix (N (6 * k + 110))) = m then ze_mn (N (6 * k + 112)) (N (6 * k + 113)) else 0)
def xa_bnd (n : Nat → Nat) (N : Nat → Int32) (m : Nat) : Int32 := if m = 0 ∧ N 8 = 1 then 1000000 else ze_mx 0 (xa_bt N (n 1) m (xa_bg N (n 1) m (n 2)) (n 3))
abbrev xa_ah (N : Nat → Int32) (L k o : Nat) : Prop := xa_isl N L (ze_ix (N (5 * k + 140))) = xa_isl N L (ze_ix (N (5 * o + 140))) ∧ (N (5 * k + 142) < N (5 * o + 142) ∨ N (5 * k + 142) = N (5 * o + 142) ∧ k < o)
def xa_up (N : Nat → Int32) (L o : Nat) : Nat → Int32 := ze_sum (N (5 * o + 141)) (fun k => if xa_ah N L k o then N (5 * k + 141) else 0)
abbrev xa_kp (n : Nat → Nat) (N : Nat → Int32) (o : Nat) : Prop := ¬ xa_bnd n N (xa_isl N (n 1) (ze_ix (N (5 * o + 140)))) < xa_up N (n 1) o (n 4)
def xa_dm (N : Nat → Int32) (L m : Nat) : Nat → Int32 := ze_sum 0 (fun k => if N (5 * k + 143) = 0 ∧ xa_isl N L (ze_ix (N (5 * k + 140))) = m then N (5 * k + 141) else 0)
/-- the shares: the least powers first -/
def xa_s0 (N : Nat → Int32) (L m : Nat) : Nat → Int32 := fun g => if xa_rn N L m g then N (9 * g + 51) else 0
def xa_lf (N : Nat → Int32) (L m : Nat) (d : Int32) : Nat → Int32
  | 0 => d
  | g + 1 => xa_lf N L m d g - xa_s0 N L m g
def xa_bt1 (N : Nat → Int32) (L m : Nat) (sh : Nat → Int32) (g : Nat) : Option Nat → Bool
  | none => true
  | some b => decide (¬ (sh b - N (9 * b + 51)) * (xa_can N L m g - N (9 * g + 51)) ≤ (sh g - N (9 * g + 51)) * (xa_can N L m b - N (9 * b + 51)))
def xa_pk (N : Nat → Int32) (L m : Nat) (sh : Nat → Int32) : Nat → Option Nat
  | 0 => none
  | g + 1 => if ¬ xa_can N L m g - N (9 * g + 51) ≤ 0 ∧ ¬ xa_can N L m g - N (9 * g + 51) ≤ sh g - N (9 * g + 51) ∧ xa_bt1 N L m sh g (xa_pk N L m sh g) = true then some g else xa_pk N L m sh g
def xa_sl (N : Nat → Int32) (L m G : Nat) : Nat → (Nat → Int32) → Nat → Int32
  | 0, sh => sh
  | k + 1, sh => match xa_pk N L m sh G with
    | none => sh
    | some b => xa_sl N L m G k (upd sh b (sh b + 1))
def xa_sh (n : Nat → Nat) (N : Nat → Int32) (m : Nat) (d : Int32) : Nat → Int32 := xa_sl N (n 1) m (n 2) (xa_lf N (n 1) m d (n 2)).toInt.toNat (ze_up (xa_s0 N (n 1) m) (fun _ => 0) (n 2))
theorem xa_pklt {N : Nat → Int32} {L m : Nat} {sh : Nat → Int32} {G : Nat} : ∀ {i b : Nat}, i ≤ G → xa_pk N L m sh i = some b → b < G := by
  intro i
  induction i with
  | zero =>
    intro b _ h
    simp [xa_pk] at h
  | succ i ih =>
    intro b hi h
    simp only [xa_pk] at h
    split at h
    · cases h
      omega
    · exact ih (by omega) h
/-- the shedding -/
def xa_d1 (n : Nat → Nat) (N : Nat → Int32) (k : Nat) : Int32 := if ¬ xa_kp n N k ∨ N (5 * k + 143) = 1 ∧ ¬ N (5 * k + 144) ≤ 0 then 1 else 0
def xa_w1 (n : Nat → Nat) (N : Nat → Int32) (k : Nat) : Int32 := if xa_kp n N k then ze_mx 0 (N (5 * k + 144) - ze_b (N (5 * k + 143) = 1)) else N 6
def xa_sd (n : Nat → Nat) (N : Nat → Int32) (m : Nat) : Nat → Nat → Int32
  | 0 => N
  | k + 1 => if xa_isl (xa_sd n N m k) (n 1) (ze_ix (xa_sd n N m k (5 * k + 140))) = m then upd (upd (xa_sd n N m k) (5 * k + 143) (xa_d1 n (xa_sd n N m k) k)) (5 * k + 144) (xa_w1 n (xa_sd n N m k) k) else xa_sd n N m k
/-- the generators give -/
def xa_gv (L m : Nat) (sh : Nat → Int32) (N : Nat → Int32) (g : Nat) : Nat → Int32 :=
  if xa_rn N L m g then upd (upd (upd N (9 * g + 57) (sh g)) (9 * g + 54) (N (9 * g + 54) - sh g)) 200 (N 200 + sh g)
  else upd (upd (upd N (9 * g + 57) (N (9 * g + 57))) (9 * g + 54) (N (9 * g + 54) - 0)) 200 (N 200 + 0)
def xa_gN (L m : Nat) (sh N : Nat → Int32) : Nat → Nat → Int32
  | 0 => N
  | g + 1 => xa_gv L m sh (xa_gN L m sh N g) g
def xa_gL (L m : Nat) (sh N : Nat → Int32) (d : Int32) : Nat → Int32
  | 0 => d
  | g + 1 => xa_gL L m sh N d g - (if xa_rn (xa_gN L m sh N g) L m g then sh g else 0)
/-- the stores -/
def xa_out (N : Nat → Int32) (left : Int32) (k : Nat) : Int32 := if left ≤ 0 then -ze_mn (-left) (ze_mn (N (6 * k + 112)) (N (6 * k + 111) - N (6 * k + 113))) else ze_mn left (ze_mn (N (6 * k + 112)) (N (6 * k + 113)))
def xa_tS (L m : Nat) (N : Nat → Int32) (left : Int32) : Nat → (Nat → Int32) × Int32
  | 0 => (N, left)
  | k + 1 => if xa_isl (xa_tS L m N left k).1 L (ze_ix ((xa_tS L m N left k).1 (6 * k + 110))) = m then (upd (upd (xa_tS L m N left k).1 (6 * k + 113) ((xa_tS L m N left k).1 (6 * k + 113) - xa_out (xa_tS L m N left k).1 (xa_tS L m N left k).2 k)) (6 * k + 114) (xa_out (xa_tS L m N left k).1 (xa_tS L m N left k).2 k), (xa_tS L m N left k).2 - xa_out (xa_tS L m N left k).1 (xa_tS L m N left k).2 k) else xa_tS L m N left k
def xa_fin (m : Nat) (q : (Nat → Int32) × Int32) : Nat → Int32 := if m = 0 ∧ q.1 8 = 1 then upd (upd q.1 9 (q.1 9 + q.2)) 202 (q.1 202 + 0) else upd (upd q.1 9 (q.1 9 + 0)) 202 (q.1 202 + -q.2)
def xa_bD (n : Nat → Nat) (N : Nat → Int32) (m : Nat) : Int32 := xa_dm (xa_sd n N m (n 4)) (n 1) m (n 4)
def xa_bS (n : Nat → Nat) (N : Nat → Int32) (m : Nat) : Nat → Int32 := xa_sh n (xa_sd n N m (n 4)) m (xa_bD n N m)
def xa_bN (n : Nat → Nat) (N : Nat → Int32) (m : Nat) : Nat → Int32 := xa_gN (n 1) m (xa_bS n N m) (xa_sd n N m (n 4)) (n 2)
def xa_bL (n : Nat → Nat) (N : Nat → Int32) (m : Nat) : Int32 := xa_gL (n 1) m (xa_bS n N m) (xa_sd n N m (n 4)) (xa_bD n N m) (n 2)
def xa_bal (n : Nat → Nat) (N : Nat → Int32) (m : Nat) : Nat → Int32 := xa_fin m (xa_tS (n 1) m (upd (xa_bN n N m) 201 (xa_bN n N m 201 + xa_bD n N m)) (xa_bL n N m) (n 3))
/-- a tick -/
def xa_tg (N : Nat → Int32) (g : Nat) : Int32 := N (9 * g + 56) - ze_b (N (9 * g + 55) = 1)
def xa_ts (N : Nat → Int32) (g : Nat) : Int32 := if N (9 * g + 55) = 1 ∧ xa_tg N g = 0 then 2 else N (9 * g + 55)
def xa_tu (N : Nat → Int32) (g : Nat) : Int32 := if xa_ts N g = 2 ∧ ¬ N (9 * g + 51) ≤ N (9 * g + 54) then 0 else xa_ts N g
def xa_tN (N : Nat → Int32) : Nat → Nat → Int32
  | 0 => upd (upd N 7 (N 7 + 1)) 9 0
  | g + 1 => upd (upd (upd (upd (xa_tN N g) (9 * g + 57) 0) (9 * g + 56) (xa_tg (xa_tN N g) g)) (9 * g + 55) (xa_ts (xa_tN N g) g)) (9 * g + 55) (xa_tu (xa_tN N g) g)
def xa_tI (n : Nat → Nat) (N : Nat → Int32) : Nat → Nat → Int32
  | 0 => xa_tN N (n 2)
  | k + 1 => if xa_isl (xa_tI n N k) (n 1) k = k then xa_bal n (xa_tI n N k) k else xa_tI n N k
def xa_tick (n : Nat → Nat) (N : Nat → Int32) : Nat → Int32 := xa_tI n N (n 0)
/-! what says who is where stays -/
section XS
variable {n : Nat → Nat} {N : Nat → Int32}
theorem xa_sdk (m i : Nat) (hi : i ≤ 10) {k : Nat} (hk : xa_st k) : xa_sd n N m i k = N k := by
  induction i with
  | zero => rfl
  | succ i ih =>
    simp only [xa_sd]
    split
    · rw [xb_un (by unfold xa_st at hk; omega), xb_un (by unfold xa_st at hk; omega)]
      exact ih (by omega)
    · exact ih (by omega)
theorem xa_sdH (h : xa_H n N) (m : Nat) {i : Nat} (hi : i ≤ n 4) : xa_H n (xa_sd n N m i) := xa_Hc h (fun _ hk => xa_sdk m i (by have := h.1.2.2.2.2; omega) hk)
theorem xa_gNk (L m : Nat) (sh : Nat → Int32) (i : Nat) (hi : i ≤ 6) {k : Nat} (hk : xa_st k) : xa_gN L m sh N i k = N k := by
  induction i with
  | zero => rfl
  | succ i ih =>
    simp only [xa_gN, xa_gv]
    split
    · rw [xb_un (by unfold xa_st at hk; omega), xb_un (by unfold xa_st at hk; omega), xb_un (by unfold xa_st at hk; omega)]
      exact ih (by omega)
    · rw [xb_un (by unfold xa_st at hk; omega), xb_un (by unfold xa_st at hk; omega), xb_un (by unfold xa_st at hk; omega)]
      exact ih (by omega)
theorem xa_gNH (h : xa_H n N) (L m : Nat) (sh : Nat → Int32) {i : Nat} (hi : i ≤ n 2) : xa_H n (xa_gN L m sh N i) := xa_Hc h (fun _ hk => xa_gNk L m sh i (by have := h.1.2.2.1; omega) hk)
theorem xa_tSk (L m : Nat) (left : Int32) (i : Nat) (hi : i ≤ 4) {k : Nat} (hk : xa_st k) : (xa_tS L m N left i).1 k = N k := by
  induction i with
  | zero => rfl
  | succ i ih =>
    simp only [xa_tS]
    split
    · show upd (upd (xa_tS L m N left i).1 _ _) _ _ k = N k
      rw [xb_un (by unfold xa_st at hk; omega), xb_un (by unfold xa_st at hk; omega)]
      exact ih (by omega)
    · exact ih (by omega)
theorem xa_tSH (h : xa_H n N) (L m : Nat) (left : Int32) {i : Nat} (hi : i ≤ n 3) : xa_H n (xa_tS L m N left i).1 := xa_Hc h (fun _ hk => xa_tSk L m left i (by have := h.1.2.2.2.1; omega) hk)
theorem xa_fink (m : Nat) (q : (Nat → Int32) × Int32) {k : Nat} (hk : xa_st k) : xa_fin m q k = q.1 k := by
  unfold xa_fin
  split <;> rw [xb_un (by unfold xa_st at hk; omega), xb_un (by unfold xa_st at hk; omega)]
theorem xa_balk (hN : zf_N n) (m : Nat) {k : Nat} (hk : xa_st k) : xa_bal n N m k = N k := by
  obtain ⟨h0, h1, h2, h3, h4⟩ := hN
  unfold xa_bal
  rw [xa_fink m _ hk, xa_tSk _ m _ (n 3) h3 hk, xb_un (by unfold xa_st at hk; omega)]
  unfold xa_bN
  rw [xa_gNk _ m _ (n 2) h2 hk, xa_sdk m (n 4) h4 hk]
theorem xa_balH (h : xa_H n N) (m : Nat) : xa_H n (xa_bal n N m) := xa_Hc h (fun _ hk => xa_balk h.1 m hk)
theorem xa_tNk (i : Nat) (hi : i ≤ 6) {k : Nat} (hk : xa_st k) : xa_tN N i k = N k := by
  induction i with
  | zero =>
    show upd (upd N 7 _) 9 _ k = N k
    rw [xb_un (by unfold xa_st at hk; omega), xb_un (by unfold xa_st at hk; omega)]
  | succ i ih =>
    simp only [xa_tN]
    rw [xb_un (by unfold xa_st at hk; omega), xb_un (by unfold xa_st at hk; omega), xb_un (by unfold xa_st at hk; omega), xb_un (by unfold xa_st at hk; omega)]
    exact ih (by omega)
theorem xa_tNH (h : xa_H n N) {i : Nat} (hi : i ≤ n 2) : xa_H n (xa_tN N i) := xa_Hc h (fun _ hk => xa_tNk i (by have := h.1.2.2.1; omega) hk)
theorem xa_tIH (h : xa_H n N) : ∀ i : Nat, xa_H n (xa_tI n N i) := by
  intro i
  induction i with
  | zero => exact xa_tNH h (Nat.le_refl _)
  | succ i ih =>
    simp only [xa_tI]
    split
    · exact xa_balH ih i
    · exact ih
end XS
theorem xa_dec {x : Int32} (h : ¬ x ≤ 0) : x.toInt.toNat = (x + (-1)).toInt.toNat + 1 := by
  have h1 : ¬ x.toInt ≤ 0 := fun z => h (Int32.le_iff_toInt_le.mpr (by simpa using z))
  have e : (-1 : Int32).toInt = -1 := by decide
  have b := Int32.toInt_lt x
  have e1 : (x + (-1)).toInt = x.toInt - 1 := by
    rw [Int32.toInt_add, e]
    apply Int.bmod_eq_of_le <;> omega
  omega
theorem xa_sl0 {N : Nat → Int32} {L m G : Nat} {lf : Int32} {sh R : Nat → Int32} (h : xa_sl N L m G lf.toInt.toNat sh = R) (h0 : lf ≤ 0) : sh = R := by
  have h1 : lf.toInt ≤ 0 := by simpa using Int32.le_iff_toInt_le.mp h0
  have e : lf.toInt.toNat = 0 := by omega
  rw [e] at h
  exact h
theorem xa_slk (N : Nat → Int32) (L m G k : Nat) (sh : Nat → Int32) : xa_sl N L m G (k + 1) sh = match xa_pk N L m sh G with
    | none => sh
    | some b => xa_sl N L m G k (upd sh b (sh b + 1)) := rfl
theorem xa_sln {N : Nat → Int32} {L m G : Nat} {lf : Int32} {sh R : Nat → Int32} (h : xa_sl N L m G lf.toInt.toNat sh = R) (h0 : ¬ lf ≤ 0) (hb : xa_pk N L m sh G = none) : sh = R := by
  have e := xa_dec h0
  generalize (lf + (-1)).toInt.toNat = k at e
  rw [e, xa_slk, hb] at h
  exact h
theorem xa_sls {N : Nat → Int32} {L m G b : Nat} {lf : Int32} {sh R : Nat → Int32} (h : xa_sl N L m G lf.toInt.toNat sh = R) (h0 : ¬ lf ≤ 0) (hb : xa_pk N L m sh G = some b) : xa_sl N L m G (lf + (-1)).toInt.toNat (upd sh b (sh b + 1)) = R := by
  have e := xa_dec h0
  generalize (lf + (-1)).toInt.toNat = k at e ⊢
  rw [e, xa_slk, hb] at h
  exact h
theorem xa_dlt {x : Int32} {k : Nat} (h : ¬ x ≤ 0) (hk : x.toInt.toNat < k + 1) : (x + (-1)).toInt.toNat < k := by
  have e := xa_dec h
  generalize (x + (-1)).toInt.toNat = z at e ⊢
  rw [e] at hk
  omega
