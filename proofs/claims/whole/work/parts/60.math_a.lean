/-! THE MATHEMATICS, the easy part -/
theorem ff_0 : ff 0 = false := by decide
theorem ff_1 : ff 1 = false := by decide
theorem ff_2 : ff 2 = true := by decide
theorem ff_3 : ff 3 = true := by decide
theorem zz_0 : zz 0 = false := by decide
theorem zz_1 : zz 1 = true := by decide
theorem zz_2 : zz 2 = false := by decide
theorem zz_3 : zz 3 = true := by decide
theorem ma_W : maW := by
  rintro so (rfl | rfl | rfl | rfl) k
  · rw [ff_0, zz_0]; rfl
  · rw [ff_1, zz_1]; rfl
  · rw [ff_2, zz_2]; rfl
  · rw [ff_3, zz_3]; rfl
theorem le_lt32 {a b c : Int32} (h : b.toInt + 1 = c.toInt) : a ≤ b ↔ ¬ c ≤ a := by
  rw [Int32.le_iff_toInt_le, Int32.le_iff_toInt_le]; omega
/-- the amount's bits, on both sides -/
theorem amt2 (v : Int64) : fX5_amountBits 2 v = fX0_amount false v := by
  show (v &&& 4294967295) &&& (2147483648 ^^^ (-1)) = v &&& ((-2147483648) ^^^ (-1))
  rw [Int64.and_assoc]; rfl
theorem amt3 (v : Int64) : fX5_amountBits 3 v = fX0_amount true v := rfl
theorem ma_N : maN := by
  rintro so (rfl | rfl | rfl | rfl) k
  · rw [ff_0, zz_0]; exact ⟨fun h => absurd h (show ¬ (1 : Int32) = 0 by decide), fun h => absurd rfl h⟩
  · rw [ff_1, zz_1]; exact ⟨fun h => absurd h (show ¬ (1 : Int32) = 0 by decide), fun h => absurd rfl h⟩
  · rw [ff_2, zz_2]
    show fX0_isNumber false (fX5_cut 2 k) = 0 ↔ ¬ (if fX5_amountBits 2 (fX5_cut 2 k) ≤ 2139095040 then (0 : Int32) else 1) = 0
    rw [amt2]
    show (if (2139095040 : Int64) < fX0_amount false (fX5_cut 2 k) then (0 : Int32) else 1) = 0 ↔ _
    by_cases h : fX0_amount false (fX5_cut 2 k) ≤ 2139095040
    · rw [if_pos h, if_neg (Int64.not_lt.mpr h)]; decide
    · rw [if_neg h, if_pos (Int64.not_le.mp h)]; decide
  · rw [ff_3, zz_3]
    show fX0_isNumber true (fX5_cut 3 k) = 0 ↔ ¬ (if fX5_amountBits 3 (fX5_cut 3 k) ≤ 9218868437227405312 then (0 : Int32) else 1) = 0
    rw [amt3]
    show (if (9218868437227405312 : Int64) < fX0_amount true (fX5_cut 3 k) then (0 : Int32) else 1) = 0 ↔ _
    by_cases h : fX0_amount true (fX5_cut 3 k) ≤ 9218868437227405312
    · rw [if_pos h, if_neg (Int64.not_lt.mpr h)]; decide
    · rw [if_neg h, if_pos (Int64.not_le.mp h)]; decide
theorem ma_S : maS := by
  have h3 : ∀ st : Int32, 2 < st ↔ 3 ≤ st := fun st => by rw [Int32.lt_iff_toInt_lt, Int32.le_iff_toInt_le, show (2 : Int32).toInt = 2 by decide, show (3 : Int32).toInt = 3 by decide]; omega
  have h8 : ∀ st : Int32, 7 < st ↔ 8 ≤ st := fun st => by rw [Int32.lt_iff_toInt_lt, Int32.le_iff_toInt_le, show (7 : Int32).toInt = 7 by decide, show (8 : Int32).toInt = 8 by decide]; omega
  have w : ∀ z st, fX2_hasStep_w z st = if st < 0 then 0 else (if 3 ≤ st then 0 else 1) := fun z st => by unfold fX2_hasStep_w; simp only [h3]
  have f : ∀ z st, fX2_hasStep_f z st = if st < 0 then 0 else (if 8 ≤ st then 0 else 1) := fun z st => by unfold fX2_hasStep_f; simp only [h8]
  rintro so (rfl | rfl | rfl | rfl) st
  · rw [ff_0, zz_0]; exact w false st
  · rw [ff_1, zz_1]; exact w true st
  · rw [ff_2, zz_2]; exact f false st
  · rw [ff_3, zz_3]; exact f true st
/-- a valid number that isn't negative is its amount -/
theorem amt_pos2 {v : Int64} (h : vld 2 v) (h0 : 0 ≤ v) : fX0_amount false v = v := by
  have h1 : v.toInt32.toInt64 = v := h.1
  have h2 : (v &&& 2147483647) = v := by
    apply Int64.toBitVec_inj.mp
    show v.toBitVec &&& 2147483647#64 = v.toBitVec
    have hn : v.toInt < 2 ^ 31 := by rw [← h1, Int32.toInt_toInt64]; exact Int32.toInt_lt _
    have hp : 0 ≤ v.toInt := by rw [Int64.le_iff_toInt_le] at h0; exact h0
    have hb : v.toBitVec.toNat < 2 ^ 31 := by
      have h3 : v.toInt = v.toBitVec.toInt := rfl
      rw [h3, BitVec.toInt_eq_toNat_cond] at hn hp
      split at hn <;> split at hp <;> omega
    apply BitVec.eq_of_toNat_eq
    rw [BitVec.toNat_and]
    show v.toBitVec.toNat &&& 2 ^ 31 - 1 = v.toBitVec.toNat
    rw [Nat.and_two_pow_sub_one_eq_mod, Nat.mod_eq_of_lt hb]
  exact h2
theorem amt_pos3 {v : Int64} (h0 : 0 ≤ v) : fX0_amount true v = v := by
  show v &&& 9223372036854775807 = v
  apply Int64.toBitVec_inj.mp
  show v.toBitVec &&& 9223372036854775807#64 = v.toBitVec
  have hp : 0 ≤ v.toInt := by rw [Int64.le_iff_toInt_le] at h0; exact h0
  have hb : v.toBitVec.toNat < 2 ^ 63 := by
    have h3 : v.toInt = v.toBitVec.toInt := rfl
    rw [h3, BitVec.toInt_eq_toNat_cond] at hp
    split at hp <;> omega
  apply BitVec.eq_of_toNat_eq
  rw [BitVec.toNat_and]
  show v.toBitVec.toNat &&& 2 ^ 63 - 1 = v.toBitVec.toNat
  rw [Nat.and_two_pow_sub_one_eq_mod, Nat.mod_eq_of_lt hb]
