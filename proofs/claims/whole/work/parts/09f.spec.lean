theorem gtL {i L : Nat} (hi : i ≤ 4000) (hL : L ≤ 3072) : (nI L - nI 6 < nI i) ↔ L < i + 6 := by
  rw [Int32.lt_iff_toInt_lt, Int32.toInt_sub, nI_toInt (by omega), nI_toInt (by omega), nI_toInt (by omega)]
  have h : Int.bmod ((L : Int) - 6) (2 ^ 32) = (L : Int) - 6 := Int.bmod_eq_of_le (by omega) (by omega)
  have h2 : ((6 : Nat) : Int) = 6 := rfl
  rw [h2, h]
  omega
