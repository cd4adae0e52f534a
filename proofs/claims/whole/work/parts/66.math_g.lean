/-! WHOLE AMOUNTS -/
theorem nat_cutk {a : Int64} {k : Nat} (hk : k < 64) : nat (a &&& jshl (-1) (nI k)) = nat a / 2 ^ k * 2 ^ k := by
  rw [nat_and, jshl_nat hk]
  have hn : nat (-1 : Int64) = 2 ^ 64 - 1 := by decide
  have ha : nat a < 2 ^ 64 := a.toBitVec.isLt
  apply Nat.eq_of_testBit_eq
  intro i
  rw [Nat.testBit_and, Nat.testBit_mod_two_pow, hn, Nat.testBit_mul_two_pow, Nat.testBit_mul_two_pow, Nat.testBit_two_pow_sub_one, Nat.testBit_div_two_pow]
  by_cases h1 : k ≤ i
  · by_cases h2 : i < 64
    · simp [h1, h2, Nat.sub_add_cancel h1]; omega
    · have h3 : (nat a).testBit i = false := Nat.testBit_lt_two_pow (Nat.lt_of_lt_of_le ha (Nat.pow_le_pow_right (by decide) (by omega)))
      simp [h1, h2, h3, Nat.sub_add_cancel h1]
  · simp [h1]
