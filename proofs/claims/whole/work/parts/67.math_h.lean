/-! A NUMBER AND ITS AMOUNT -/
theorem nat_neg {v : Int64} (h : ¬ 0 ≤ v) : (nat v : Int) = v.toInt + 2 ^ 64 ∧ 2 ^ 63 ≤ nat v := by
  have h3 : v.toInt = v.toBitVec.toInt := rfl
  have h1 : v.toBitVec.toNat = nat v := rfl
  have hl := v.toBitVec.isLt
  rw [Int64.le_iff_toInt_le, h3, BitVec.toInt_eq_toNat_cond, h1] at h
  rw [h3, BitVec.toInt_eq_toNat_cond, h1]
  have h0 : (0 : Int64).toInt = 0 := by decide
  rw [h0] at h
  rw [h1] at hl
  split at h
  · omega
  · rename_i q; rw [if_neg q]; omega
theorem self_sgn {so : Int32} {z : Bool} (h : rl so z) {v : Int64} (hv : vld so v) : fX0_withSignOf z v (fX0_amount z v) = v := by
  unfold fX0_withSignOf
  by_cases h0 : 0 ≤ v
  · rw [if_pos h0]; exact rl_pos h hv h0
  · rw [if_neg h0]
    obtain ⟨n1, n2⟩ := nat_neg h0
    have hl : nat v < 2 ^ 64 := v.toBitVec.isLt
    rcases h with ⟨rfl, rfl⟩ | ⟨rfl, rfl⟩
    · have h1 : v.toInt32.toInt64 = v := hv.1
      have hr : -2 ^ 31 ≤ v.toInt := by rw [← h1, Int32.toInt_toInt64]; exact Int32.le_toInt _
      apply nat_inj
      show nat ((v &&& 2147483647) ||| (-2147483648)) = nat v
      rw [nat_or, nat_mask (k := 31) (by decide), show nat (-2147483648 : Int64) = 2 ^ 31 * (2 ^ 33 - 1) by decide, or_31 (Nat.mod_lt _ (by decide))]
      omega
    · apply nat_inj
      show nat ((v &&& 9223372036854775807) ||| (-9223372036854775808)) = nat v
      rw [nat_or, nat_mask (k := 63) (by decide), show nat (-9223372036854775808 : Int64) = 2 ^ 63 * 1 by decide, Nat.or_comm, ← Nat.two_pow_add_eq_or_of_lt (Nat.mod_lt _ (by decide))]
      omega
/-! THE REFERENCE's toWhole, on an amount m = amountBits so v -/
theorem pl_n {so : Int32} {z : Bool} (h : rl so z) : fX5_places so = nI (pP z) ∧ (if so = 2 then 127 else 1023 : Int32) = nI (pB z) ∧ fX5_one so = fon z := by
  rcases h with ⟨rfl, rfl⟩ | ⟨rfl, rfl⟩ <;> exact ⟨by decide, by decide, by decide⟩
theorem jshr_nat {a : Int64} {k : Nat} (ha : nat a < 2 ^ 63) (hk : k < 64) : nat (jshr a (nI k)) = nat a / 2 ^ k := by
  unfold jshr
  rw [sh_i k hk]
  have h : ∀ k, k < 64 → (a >>> Int64.ofNat k).toBitVec = a.toBitVec.sshiftRight k := fun k hk => by
    rw [Int64.toBitVec_shiftRight]
    have : ((Int64.ofNat k).toBitVec.smod 64) = BitVec.ofNat 64 k := by
      revert k; decide +kernel
    rw [this, BitVec.sshiftRight_eq', BitVec.toNat_ofNat, Nat.mod_eq_of_lt (by omega)]
  have hm : a.toBitVec.msb = false := by
    rw [BitVec.msb_eq_decide]
    have : a.toBitVec.toNat = nat a := rfl
    simp only [decide_eq_false_iff_not]
    omega
  show (a >>> Int64.ofNat k).toBitVec.toNat = _
  rw [h k hk, BitVec.sshiftRight_eq_of_msb_false hm, BitVec.toNat_ushiftRight, Nat.shiftRight_eq_div_pow]
  rfl
theorem th_e {so : Int32} {z : Bool} (h : rl so z) {m : Int64} (hm : nat m ≤ nat (finf z)) : ((jshr m (fX5_places so)).toInt32 - (if so = 2 then 127 else 1023 : Int32)).toInt = (nat m / 2 ^ pP z : Nat) - (pB z : Int) := by
  have hp := pP_lt z
  have hb := pB_lt z
  have hq : nat m / 2 ^ pP z ≤ 2 * pB z + 1 := by
    rw [finf_n] at hm
    exact Nat.div_le_of_le_mul (by rw [Nat.mul_comm]; exact hm)
  rw [(pl_n h).1, (pl_n h).2.1, toI32_n (jshr_nat (am_n hm) hp.1) (by omega)]
  generalize nat m / 2 ^ pP z = E at hq ⊢
  rw [Int32.toInt_sub, nI_toInt (by omega), nI_toInt (by omega), Int.bmod_eq_of_le (by omega) (by omega)]
