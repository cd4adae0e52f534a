/-! WHOLE AMOUNTS -/
theorem nat_cutk {a : Int64} {k : Nat} (hk : k < 64) : nat (a &&& jshl (-1) (nI k)) = nat a / 2 ^ k * 2 ^ k := by
  rw [nat_and, jshl_nat hk]
  have hn : nat (-1 : Int64) = 2 ^ 64 - 1 := by decide
  have ha : nat a < 2 ^ 64 := a.toBitVec.isLt
  apply Nat.eq_of_testBit_eq
  intro i
  rw [Nat.testBit_and, Nat.testBit_mod_two_pow, hn, Nat.testBit_mul_two_pow, Nat.testBit_mul_two_pow, Nat.testBit_two_pow_sub_one, Nat.testBit_div_two_pow]
  by_cases h1 : k ≤ i
  · by_cases h2 : i < 64
    · simp [h1, h2, Nat.sub_add_cancel h1]; omega
    · have h3 : (nat a).testBit i = false := Nat.testBit_lt_two_pow (Nat.lt_of_lt_of_le ha (Nat.pow_le_pow_right (by decide) (by omega)))
      simp [h1, h2, h3, Nat.sub_add_cancel h1]
  · simp [h1]
/-- an amount, as a natural -/
theorem am_n {z : Bool} {m : Int64} (hm : nat m ≤ nat (finf z)) : nat m < 2 ^ 63 := Nat.lt_of_le_of_lt hm (finf_lt z)
theorem on_le {z : Bool} {m : Int64} (hm : nat m ≤ nat (finf z)) : fon z ≤ m ↔ pB z ≤ nat m / 2 ^ pP z := by
  have h1 : nat (fon z) < 2 ^ 63 := by cases z <;> decide
  rw [nat_le h1 (am_n hm), fon_n, Nat.le_div_iff_mul_le (Nat.two_pow_pos _)]
/-- the bits behind the point of an amount of at least one -/
theorem bbp_n {z : Bool} {m : Int64} (hm : nat m ≤ nat (finf z)) (h1 : pB z ≤ nat m / 2 ^ pP z) : (fX0_bitsBehindPoint z m).toInt = (pP z : Int) + pB z - (nat m / 2 ^ pP z : Nat) := by
  have hp := pP_lt z
  have hb := pB_lt z
  have hq : nat m / 2 ^ pP z ≤ 2 * pB z + 1 := by
    rw [finf_n] at hm
    exact Nat.div_le_of_le_mul (by rw [Nat.mul_comm]; exact hm)
  unfold fX0_bitsBehindPoint
  rw [toI32_n (show nat (jushr m (ffb z)) = nat m / 2 ^ pP z by rw [ffb_n, jushr_nat hp.1]) (by omega), ffb_n, fbi_n, nI_add, Int32.toInt_sub, nI_toInt (by omega), nI_toInt (by omega), Int.bmod_eq_of_le (by omega) (by omega)]
  omega
theorem bbp_nI {z : Bool} {m : Int64} (hm : nat m ≤ nat (finf z)) (h1 : pB z ≤ nat m / 2 ^ pP z) (h2 : nat m / 2 ^ pP z ≤ pP z + pB z) : fX0_bitsBehindPoint z m = nI (pP z + pB z - nat m / 2 ^ pP z) := by
  have hp := pP_lt z
  have hb := pB_lt z
  apply Int32.toInt_inj.mp
  rw [bbp_n hm h1, nI_toInt (by omega)]
  omega
/-- the greatest whole amount that isn't above -/
theorem cut_lo {z : Bool} {m : Int64} (hm : nat m ≤ nat (finf z)) (h1 : nat m / 2 ^ pP z < pB z) : fX0_cut z m = 0 := by
  unfold fX0_cut
  rw [if_neg (fun q => by rw [on_le hm] at q; omega)]
theorem cut_hi {z : Bool} {m : Int64} (hm : nat m ≤ nat (finf z)) (h1 : pP z + pB z ≤ nat m / 2 ^ pP z) : fX0_cut z m = m := by
  unfold fX0_cut fX0_cut_s2
  rw [if_pos ((on_le hm).mpr (by omega)), if_neg]
  intro q
  rw [Int32.lt_iff_toInt_lt, bbp_n hm (by omega), Int32.toInt_zero] at q
  omega
theorem cut_mid {z : Bool} {m : Int64} (hm : nat m ≤ nat (finf z)) (h1 : pB z ≤ nat m / 2 ^ pP z) (h2 : nat m / 2 ^ pP z < pP z + pB z) : nat (fX0_cut z m) = nat m / 2 ^ (pP z + pB z - nat m / 2 ^ pP z) * 2 ^ (pP z + pB z - nat m / 2 ^ pP z) := by
  have hp := pP_lt z
  unfold fX0_cut fX0_cut_s2
  rw [if_pos ((on_le hm).mpr h1), if_pos]
  · rw [bbp_nI hm h1 (by omega), nat_cutk (by omega)]
  · rw [Int32.lt_iff_toInt_lt, bbp_n hm h1, Int32.toInt_zero]
    omega
theorem nw_lo {z : Bool} {m b : Int64} (hm : nat m ≤ nat (finf z)) (h1 : nat m / 2 ^ pP z < pB z) : fX0_nextWhole z b m = fon z := by
  unfold fX0_nextWhole
  rw [if_neg (fun q => by rw [on_le hm] at q; omega)]
theorem nw_mid {z : Bool} {m b : Int64} (hm : nat m ≤ nat (finf z)) (h1 : pB z ≤ nat m / 2 ^ pP z) (h2 : nat m / 2 ^ pP z < pP z + pB z) : fX0_nextWhole z b m = b + jshl 1 (nI (pP z + pB z - nat m / 2 ^ pP z)) := by
  unfold fX0_nextWhole
  rw [if_pos ((on_le hm).mpr h1), bbp_nI hm h1 (by omega)]
theorem ra_eq {z : Bool} {m : Int64} (h : fX0_cut z m = m) : fX0_raised z m = m := by
  unfold fX0_raised fX0_raised_s1; rw [if_pos h]
theorem ra_ne {z : Bool} {m : Int64} (h : ¬ fX0_cut z m = m) : fX0_raised z m = fX0_nextWhole z (fX0_cut z m) m := by
  unfold fX0_raised fX0_raised_s1; rw [if_neg h]
theorem ne_eq {z : Bool} {m : Int64} (hm : nat m ≤ nat (finf z)) (h1 : pB z ≤ nat m / 2 ^ pP z) (h : fX0_cut z m = m) : fX0_nearest z m = m := by
  unfold fX0_nearest fX0_nearest_s2; rw [if_pos ((on_le hm).mpr h1), if_pos h]
theorem ne_lo {z : Bool} {m : Int64} (hm : nat m ≤ nat (finf z)) (h1 : nat m / 2 ^ pP z < pB z) : fX0_nearest z m = if nat m ≤ (pB z - 1) * 2 ^ pP z then 0 else fon z := by
  unfold fX0_nearest
  have h2 : nat (fhf z) < 2 ^ 63 := by cases z <;> decide
  rw [if_neg (fun q => by rw [on_le hm] at q; omega)]
  simp only [nat_le (am_n hm) h2, fhf_n]
