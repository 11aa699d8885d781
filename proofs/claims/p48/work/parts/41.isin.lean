theorem zf_isInM {x : Int32} {N : Nat} (h1 : ¬ x < 0) (h2 : x < nI N) (hN : N < 2 ^ 31) : zf_isIn x 0 (nI N - 1) := by
  have a1 : ¬ x.toInt < 0 := fun q => h1 (Int32.lt_iff_toInt_lt.mpr (by simpa using q))
  have a2 : x.toInt < N := by
    have q := Int32.lt_iff_toInt_lt.mp h2
    rwa [nI_toInt hN] at q
  have e : x = nI x.toInt.toNat := by
    apply Int32.toInt_inj.mp
    rw [nI_toInt (by omega)]
    omega
  rw [e]
  exact zf_isInN (by omega) hN
