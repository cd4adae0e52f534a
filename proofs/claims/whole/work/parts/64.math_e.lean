/-! SHIFTS OF NUMBERS THAT AREN'T NEGATIVE -/
def nat (a : Int64) : Nat := a.toBitVec.toNat
theorem nat_int {a : Int64} (h : 0 ≤ a.toInt) : a.toInt = (nat a : Int) ∧ nat a < 2 ^ 63 := by
  have h3 : a.toInt = a.toBitVec.toInt := rfl
  have h4 := h
  rw [h3, BitVec.toInt_eq_toNat_cond] at h
  unfold nat
  rw [h3, BitVec.toInt_eq_toNat_cond]
  split at h
  · rename_i q; rw [if_pos q]; exact ⟨rfl, by omega⟩
  · have := a.toBitVec.isLt; omega
theorem nat_inj {a b : Int64} (h : nat a = nat b) : a = b := Int64.toBitVec_inj.mp (BitVec.eq_of_toNat_eq h)
theorem sh_u : ∀ k, k < 64 → ((nI k).toInt64.toUInt64 &&& Int64.toUInt64 63) = UInt64.ofNat k := by decide +kernel
theorem sh_i : ∀ k, k < 64 → ((nI k).toInt64 &&& 63) = Int64.ofNat k := by decide +kernel
theorem jushr_nat {a : Int64} {k : Nat} (hk : k < 64) : nat (jushr a (nI k)) = nat a / 2 ^ k := by
  unfold nat jushr
  rw [sh_u k hk]
  show (a.toUInt64 >>> UInt64.ofNat k).toNat = a.toUInt64.toNat / 2 ^ k
  rw [UInt64.toNat_shiftRight, Nat.shiftRight_eq_div_pow]
  congr 2
  rw [UInt64.toNat_ofNat']
  omega
theorem jshl_nat {a : Int64} {k : Nat} (hk : k < 64) : nat (jshl a (nI k)) = nat a * 2 ^ k % 2 ^ 64 := by
  unfold nat jshl
  rw [sh_i k hk]
  have h : ∀ k, k < 64 → (a <<< Int64.ofNat k).toBitVec = a.toBitVec <<< k := fun k hk => by
    rw [Int64.toBitVec_shiftLeft]
    have : ((Int64.ofNat k).toBitVec.smod 64) = BitVec.ofNat 64 k := by
      revert k; decide +kernel
    rw [this, BitVec.shiftLeft_eq', BitVec.toNat_ofNat, Nat.mod_eq_of_lt (by omega)]
  rw [h k hk, BitVec.toNat_shiftLeft, Nat.shiftLeft_eq]
theorem nat_add {a b : Int64} (h : nat a + nat b < 2 ^ 64) : nat (a + b) = nat a + nat b := by
  show (a.toBitVec + b.toBitVec).toNat = _
  rw [BitVec.toNat_add]; exact Nat.mod_eq_of_lt h
theorem nat_sub {a b : Int64} (h : nat b ≤ nat a) : nat (a - b) = nat a - nat b := by
  show (a.toBitVec - b.toBitVec).toNat = _
  have h1 : a.toBitVec.toNat = nat a := rfl
  have h2 : b.toBitVec.toNat = nat b := rfl
  have h3 := a.toBitVec.isLt
  rw [BitVec.toNat_sub, h1, h2]
  rw [h1] at h3
  omega
theorem nat_and {a b : Int64} : nat (a &&& b) = nat a &&& nat b := BitVec.toNat_and ..
theorem nat_or {a b : Int64} : nat (a ||| b) = nat a ||| nat b := BitVec.toNat_or ..
theorem nat_pos {a : Int64} (h : nat a < 2 ^ 63) : 0 ≤ a.toInt ∧ a.toInt = (nat a : Int) := by
  have h3 : a.toInt = a.toBitVec.toInt := rfl
  have h1 : a.toBitVec.toNat = nat a := rfl
  rw [h3, BitVec.toInt_eq_toNat_of_lt (by omega), h1]
  exact ⟨by omega, rfl⟩
theorem nat_le {a b : Int64} (ha : nat a < 2 ^ 63) (hb : nat b < 2 ^ 63) : a ≤ b ↔ nat a ≤ nat b := by
  rw [Int64.le_iff_toInt_le, (nat_pos ha).2, (nat_pos hb).2]; omega
theorem nat_lt {a b : Int64} (ha : nat a < 2 ^ 63) (hb : nat b < 2 ^ 63) : a < b ↔ nat a < nat b := by
  rw [Int64.lt_iff_toInt_lt, (nat_pos ha).2, (nat_pos hb).2]; omega
theorem nat_eq {a b : Int64} : a = b ↔ nat a = nat b := ⟨fun h => by rw [h], nat_inj⟩
theorem nat_mask {a b : Int64} {k : Nat} (hb : nat b = 2 ^ k - 1) : nat (a &&& b) = nat a % 2 ^ k := by
  rw [nat_and, hb, Nat.and_two_pow_sub_one_eq_mod]
