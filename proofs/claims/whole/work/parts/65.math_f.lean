/-! THE FORMS: places behind the point, bias; amounts as naturals -/
def pP (z : Bool) : Nat := if z = true then 52 else 23
def pB (z : Bool) : Nat := if z = true then 1023 else 127
theorem pP_lt (z : Bool) : pP z < 64 ∧ 23 ≤ pP z ∧ pP z ≤ 52 := by cases z <;> decide
theorem pB_lt (z : Bool) : 127 ≤ pB z ∧ pB z ≤ 1023 := by cases z <;> decide
theorem ffb_n (z : Bool) : ffb z = nI (pP z) := by cases z <;> decide
theorem fbi_n (z : Bool) : fbi z = nI (pB z) := by cases z <;> decide
theorem fhi_n (z : Bool) : nat (fhi z) = 2 ^ pP z := by cases z <;> decide
theorem fon_n (z : Bool) : nat (fon z) = pB z * 2 ^ pP z := by cases z <;> decide
theorem fhf_n (z : Bool) : nat (fhf z) = (pB z - 1) * 2 ^ pP z := by cases z <;> decide
theorem finf_n (z : Bool) : nat (finf z) = (2 * pB z + 1) * 2 ^ pP z := by cases z <;> decide
theorem finf_lt (z : Bool) : nat (finf z) < 2 ^ 63 := by cases z <;> decide
theorem toI32_n {a : Int64} {k : Nat} (h : nat a = k) (hk : k < 2 ^ 31) : a.toInt32 = nI k := by
  apply Int32.toInt_inj.mp
  have h1 := nat_pos (a := a) (by omega)
  rw [Int64.toInt_toInt32, h1.2, h, nI_toInt hk, Int.bmod_eq_of_le (by omega) (by omega)]
/-- the exponent of an amount -/
theorem exp_n {z : Bool} {a : Int64} (ha : nat a ≤ nat (finf z)) : fX0_exponentOf z a = nI (max 1 (nat a / 2 ^ pP z)) := by
  have hp := pP_lt z
  have hb := pB_lt z
  have hq : nat a / 2 ^ pP z ≤ 2 * pB z + 1 := by
    rw [finf_n] at ha
    exact Nat.div_le_of_le_mul (by rw [Nat.mul_comm]; exact ha)
  have hs : nat (jushr a (ffb z)) = nat a / 2 ^ pP z := by rw [ffb_n, jushr_nat hp.1]
  have hh : fhi z ≤ a ↔ 1 ≤ nat a / 2 ^ pP z := by
    rw [nat_le (by cases z <;> decide) (Nat.lt_of_le_of_lt ha (finf_lt z)), fhi_n, Nat.le_div_iff_mul_le (Nat.two_pow_pos _), Nat.one_mul]
  unfold fX0_exponentOf
  by_cases h : fhi z ≤ a
  · rw [if_pos h]
    rw [hh] at h
    rw [toI32_n hs (by omega), show max 1 (nat a / 2 ^ pP z) = nat a / 2 ^ pP z by omega]
  · rw [if_neg h]
    rw [hh] at h
    rw [show max 1 (nat a / 2 ^ pP z) = 1 by omega]
    rfl
theorem or_31 {m : Nat} (h : m < 2 ^ 31) (a : Nat) : m ||| 2 ^ 31 * a = 2 ^ 31 * a + m := by
  rw [Nat.or_comm, ← Nat.two_pow_add_eq_or_of_lt h]
theorem sgn_eq {so : Int32} {z : Bool} (h : rl so z) {m v : Int64} (hm : nat m ≤ nat (finf z)) : fX5_signed so m (fX5_isMinus so v) = fX0_withSignOf z v m := by
  unfold fX5_signed fX5_isMinus fX0_withSignOf
  rcases h with ⟨rfl, rfl⟩ | ⟨rfl, rfl⟩
  · have hf : nat (finf false) = 2139095040 := by decide
    have hl : nat m < 2 ^ 31 := by omega
    have hp := nat_pos (a := m) (by omega)
    by_cases h0 : 0 ≤ v
    · rw [if_pos h0, if_pos h0, if_pos rfl]
      exact cut32 (by omega) (by omega)
    · rw [if_neg h0, if_neg h0, if_neg (by decide)]
      show (m ||| 2147483648).toInt32.toInt64 = m ||| (-2147483648)
      have e1 : nat (m ||| 2147483648) = 2 ^ 31 * 1 + nat m := by
        rw [nat_or, show nat (2147483648 : Int64) = 2 ^ 31 * 1 by decide, or_31 hl]
      have e2 : nat (m ||| (-2147483648)) = 2 ^ 31 * (2 ^ 33 - 1) + nat m := by
        rw [nat_or, show nat (-2147483648 : Int64) = 2 ^ 31 * (2 ^ 33 - 1) by decide, or_31 hl]
      have i1 := nat_pos (a := m ||| 2147483648) (by omega)
      have i2 : (m ||| (-2147483648)).toInt = (nat m : Int) - 2 ^ 31 := by
        have h3 : (m ||| (-2147483648)).toInt = (m ||| (-2147483648)).toBitVec.toInt := rfl
        have h4 : (m ||| (-2147483648)).toBitVec.toNat = nat (m ||| (-2147483648)) := rfl
        rw [h3, BitVec.toInt_eq_toNat_cond, h4, e2, if_neg (by omega)]
        omega
      apply Int64.toInt_inj.mp
      rw [Int32.toInt_toInt64, Int64.toInt_toInt32, i1.2, e1, i2]
      rw [show ((2 ^ 31 * 1 + nat m : Nat) : Int) = ((nat m : Int) - 2 ^ 31) + 2 ^ 32 by omega, show ((nat m : Int) - 2 ^ 31) + 2 ^ 32 = ((nat m : Int) - 2 ^ 31) + ((2 ^ 32 : Nat) : Int) by omega, Int.add_bmod_right, Int.bmod_eq_of_le (by omega) (by omega)]
  · by_cases h0 : 0 ≤ v
    · rw [if_pos h0, if_pos h0, if_pos rfl]; rfl
    · rw [if_neg h0, if_neg h0, if_neg (by decide)]; rfl
