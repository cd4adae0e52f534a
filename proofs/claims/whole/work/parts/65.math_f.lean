/-! THE FORMS: places behind the point, bias; amounts as naturals -/
def pP (z : Bool) : Nat := if z = true then 52 else 23
def pB (z : Bool) : Nat := if z = true then 1023 else 127
theorem pP_lt (z : Bool) : pP z < 64 ∧ 23 ≤ pP z ∧ pP z ≤ 52 := by cases z <;> decide
theorem pB_lt (z : Bool) : 127 ≤ pB z ∧ pB z ≤ 1023 := by cases z <;> decide
theorem ffb_n (z : Bool) : ffb z = nI (pP z) := by cases z <;> decide
theorem fbi_n (z : Bool) : fbi z = nI (pB z) := by cases z <;> decide
theorem fhi_n (z : Bool) : nat (fhi z) = 2 ^ pP z := by cases z <;> decide
theorem fon_n (z : Bool) : nat (fon z) = pB z * 2 ^ pP z := by cases z <;> decide
theorem fhf_n (z : Bool) : nat (fhf z) = (pB z - 1) * 2 ^ pP z := by cases z <;> decide
theorem finf_n (z : Bool) : nat (finf z) = (2 * pB z + 1) * 2 ^ pP z := by cases z <;> decide
theorem finf_lt (z : Bool) : nat (finf z) < 2 ^ 63 := by cases z <;> decide
theorem toI32_n {a : Int64} {k : Nat} (h : nat a = k) (hk : k < 2 ^ 31) : a.toInt32 = nI k := by
  apply Int32.toInt_inj.mp
  have h1 := nat_pos (a := a) (by omega)
  rw [Int64.toInt_toInt32, h1.2, h, nI_toInt hk, Int.bmod_eq_of_le (by omega) (by omega)]
/-- the exponent of an amount -/
theorem exp_n {z : Bool} {a : Int64} (ha : nat a ≤ nat (finf z)) : fX0_exponentOf z a = nI (max 1 (nat a / 2 ^ pP z)) := by
  have hp := pP_lt z
  have hb := pB_lt z
  have hq : nat a / 2 ^ pP z ≤ 2 * pB z + 1 := by
    rw [finf_n] at ha
    exact Nat.div_le_of_le_mul (by rw [Nat.mul_comm]; exact ha)
  have hs : nat (jushr a (ffb z)) = nat a / 2 ^ pP z := by rw [ffb_n, jushr_nat hp.1]
  have h1 : nat (1 : Int64) = 1 := by decide
  unfold fX0_exponentOf
  by_cases h : jushr a (ffb z) < 1
  · rw [if_pos h]
    rw [nat_lt (by omega) (by omega), hs, h1] at h
    rw [show max 1 (nat a / 2 ^ pP z) = 1 by omega]
    rfl
  · rw [if_neg h]
    rw [nat_lt (by omega) (by omega), hs, h1] at h
    rw [toI32_n hs (by omega), show max 1 (nat a / 2 ^ pP z) = nat a / 2 ^ pP z by omega]
