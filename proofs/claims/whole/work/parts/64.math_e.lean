/-! SHIFTS OF NUMBERS THAT AREN'T NEGATIVE -/
def nat (a : Int64) : Nat := a.toBitVec.toNat
theorem nat_int {a : Int64} (h : 0 ≤ a.toInt) : a.toInt = (nat a : Int) ∧ nat a < 2 ^ 63 := by
  have h3 : a.toInt = a.toBitVec.toInt := rfl
  have h4 := h
  rw [h3, BitVec.toInt_eq_toNat_cond] at h
  unfold nat
  rw [h3, BitVec.toInt_eq_toNat_cond]
  split at h
  · rename_i q; rw [if_pos q]; exact ⟨rfl, by omega⟩
  · have := a.toBitVec.isLt; omega
theorem nat_inj {a b : Int64} (h : nat a = nat b) : a = b := Int64.toBitVec_inj.mp (BitVec.eq_of_toNat_eq h)
