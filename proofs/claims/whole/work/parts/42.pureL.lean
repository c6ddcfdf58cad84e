theorem zl_inc (j : Nat) : nI (7 * j) + Int32.ofInt 7 = nI (7 * (j + 1)) := by
  have h : Int32.ofInt 7 = nI 7 := by decide
  rw [h, nI_add, show 7 * j + 7 = 7 * (j + 1) by omega]
theorem zl_in {j L : Nat} (hj : 7 * j ≤ L) (hL : L ≤ 3584) (g : ¬ Int32.ofNat L - 7 < nI (7 * j)) : 7 * j + 7 ≤ L := by
  by_cases h : 7 * j + 7 ≤ L
  · exact h
  · exfalso
    apply g
    have e1 : (Int32.ofNat L - 7 : Int32).toInt = (L : Int) - 7 := pk_sub_toInt (a := L) (b := 7) (by omega) (by omega)
    rw [Int32.lt_iff_toInt_lt, e1, nI_toInt (by omega)]
    omega
theorem zl_ix0 {j L : Nat} (h : 7 * j < L) (hL : L ≤ 3584) : vp_in (nI (7 * j)) L := vp_in_nI h (by omega)
theorem zl_ix {j L : Nat} (t : Nat) {T : Int32} (h : 7 * j + t < L) (hL : L ≤ 3584) (hT : T = nI t := by decide) : vp_in (nI (7 * j) + T) L := by
  rw [hT, nI_add]
  exact vp_in_nI h (by omega)
theorem zh_n0 {k : Nat} (h : zh_n k = 0) : k = 0 := by
  unfold zh_n at h
  by_cases h0 : k = 0
  · exact h0
  · rw [if_neg h0] at h
    split at h
    · exact absurd h (by decide)
    · split at h
      · exact absurd h (by decide)
      · split at h
        · exact absurd h (by decide)
        · exact absurd h (by decide)
theorem zl_cmp (x : Int32) {o : LO} : lg_cmp (vp_updL o 0 x.toInt64 (0 : Int32).toNatClampNeg) x.toInt64 = 0 := by
  have h : vp_updL o 0 x.toInt64 (0 : Int32).toNatClampNeg = x.toInt64 := if_pos rfl
  rw [h]
  simp [lg_cmp]
