/-! A NUMBER AND ITS AMOUNT -/
theorem nat_neg {v : Int64} (h : ¬ 0 ≤ v) : (nat v : Int) = v.toInt + 2 ^ 64 ∧ 2 ^ 63 ≤ nat v := by
  have h3 : v.toInt = v.toBitVec.toInt := rfl
  have h1 : v.toBitVec.toNat = nat v := rfl
  have hl := v.toBitVec.isLt
  rw [Int64.le_iff_toInt_le, h3, BitVec.toInt_eq_toNat_cond, h1] at h
  rw [h3, BitVec.toInt_eq_toNat_cond, h1]
  have h0 : (0 : Int64).toInt = 0 := by decide
  rw [h0] at h
  rw [h1] at hl
  split at h
  · omega
  · rename_i q; rw [if_neg q]; omega
theorem self_sgn {so : Int32} {z : Bool} (h : rl so z) {v : Int64} (hv : vld so v) : fX0_withSignOf z v (fX0_amount z v) = v := by
  unfold fX0_withSignOf
  by_cases h0 : 0 ≤ v
  · rw [if_pos h0]; exact rl_pos h hv h0
  · rw [if_neg h0]
    obtain ⟨n1, n2⟩ := nat_neg h0
    have hl : nat v < 2 ^ 64 := v.toBitVec.isLt
    rcases h with ⟨rfl, rfl⟩ | ⟨rfl, rfl⟩
    · have h1 : v.toInt32.toInt64 = v := hv.1
      have hr : -2 ^ 31 ≤ v.toInt := by rw [← h1, Int32.toInt_toInt64]; exact Int32.le_toInt _
      apply nat_inj
      show nat ((v &&& 2147483647) ||| (-2147483648)) = nat v
      rw [nat_or, nat_mask (k := 31) (by decide), show nat (-2147483648 : Int64) = 2 ^ 31 * (2 ^ 33 - 1) by decide, or_31 (Nat.mod_lt _ (by decide))]
      omega
    · apply nat_inj
      show nat ((v &&& 9223372036854775807) ||| (-9223372036854775808)) = nat v
      rw [nat_or, nat_mask (k := 63) (by decide), show nat (-9223372036854775808 : Int64) = 2 ^ 63 * 1 by decide, Nat.or_comm, ← Nat.two_pow_add_eq_or_of_lt (Nat.mod_lt _ (by decide))]
      omega
