/-! THE ORDER -/
theorem am_nn (z : Bool) (v : Int64) : 0 ≤ (fX0_amount z v).toInt ∧ (fX0_amount z v).toInt < 2 ^ 63 := by
  refine ⟨?_, Int64.toInt_lt _⟩
  have key : ∀ m : Nat, m < 2 ^ 63 → 0 ≤ (v.toBitVec &&& BitVec.ofNat 64 m).toInt := fun m hm => by
    rw [BitVec.toInt_eq_toNat_of_lt]
    · omega
    · rw [BitVec.toNat_and]
      have := Nat.and_le_right (n := v.toBitVec.toNat) (m := (BitVec.ofNat 64 m).toNat)
      rw [BitVec.toNat_ofNat] at this
      rw [BitVec.toNat_ofNat]
      omega
  cases z
  · exact key 2147483647 (by decide)
  · exact key 9223372036854775807 (by decide)
theorem neg_int {a : Int64} (h : 0 ≤ a.toInt) : (-a).toInt = - a.toInt := by
  have := Int64.toInt_lt a
  rw [Int64.toInt_neg, Int.bmod_eq_of_le (by omega) (by omega)]
theorem m1_int {a : Int64} (h : 0 ≤ a.toInt) : ((-1) - a).toInt = -1 - a.toInt := by
  have := Int64.toInt_lt a
  rw [Int64.toInt_sub, show (-1 : Int64).toInt = -1 by decide, Int.bmod_eq_of_le (by omega) (by omega)]
/-- a real sort -/
def rl (so : Int32) (z : Bool) : Prop := (so = 2 ∧ z = false) ∨ (so = 3 ∧ z = true)
theorem rl_amt {so : Int32} {z : Bool} (h : rl so z) (v : Int64) : fX5_amountBits so v = fX0_amount z v := by
  rcases h with ⟨rfl, rfl⟩ | ⟨rfl, rfl⟩
  · exact amt2 v
  · exact amt3 v
theorem rl_pos {so : Int32} {z : Bool} (h : rl so z) {v : Int64} (hv : vld so v) (h0 : 0 ≤ v) : fX0_amount z v = v := by
  rcases h with ⟨rfl, rfl⟩ | ⟨rfl, rfl⟩
  · exact amt_pos2 hv h0
  · exact amt_pos3 h0
theorem rl_real {so : Int32} {z : Bool} (h : rl so z) : ¬ fX5_isReal so = 0 := by
  rcases h with ⟨rfl, rfl⟩ | ⟨rfl, rfl⟩ <;> decide
theorem rl_rank {so : Int32} {z : Bool} (h : rl so z) {v : Int64} (hv : vld so v) : fX5_rank so v = fX0_rank z v := by
  unfold fX5_rank fX0_rank fX5_isMinus
  rw [if_neg (rl_real h), rl_amt h]
  by_cases h0 : 0 ≤ v
  · rw [if_pos h0, if_pos h0, if_pos rfl, rl_pos h hv h0]
  · rw [if_neg h0, if_neg h0, if_neg (by decide)]
theorem rl_level {so : Int32} {z : Bool} (h : rl so z) {v : Int64} (hv : vld so v) : (fX5_height so v).toInt = if 0 ≤ (fX0_level z v).toInt then (fX0_level z v).toInt else (fX0_level z v).toInt - 1 := by
  unfold fX5_height
  rw [if_neg (rl_real h), rl_amt h, rl_rank h hv]
  unfold fX0_rank fX0_level
  have ha := am_nn z v
  by_cases h0 : 0 ≤ v
  · rw [if_pos h0, if_pos h0, rl_pos h hv h0]
    have h1 : 0 ≤ v.toInt := by rw [Int64.le_iff_toInt_le] at h0; exact h0
    rw [if_pos h1]
    split
    · rename_i e; rw [e]
    · rfl
  · rw [if_neg h0, if_neg h0, neg_int ha.1]
    split
    · rename_i e
      rw [e]; rfl
    · rename_i e
      have h2 : (fX0_amount z v).toInt ≠ 0 := fun q => e (Int64.toInt_inj.mp q)
      rw [m1_int ha.1, if_neg (by omega)]
      omega
theorem rl_above {so : Int32} {z : Bool} (h : rl so z) {a b : Int64} (ha : vld so a) (hb : vld so b) : (fX5_height so a ≤ fX5_height so b) ↔ fX0_level z a ≤ fX0_level z b := by
  rw [Int64.le_iff_toInt_le, Int64.le_iff_toInt_le, rl_level h ha, rl_level h hb]
  split <;> split <;> omega
theorem ma_O : maO := by
  have w : ∀ z a b, gn_greater false z a b = (if b ≤ a then a else b) ∧ gn_lesser false z a b = (if a ≤ b then a else b) ∧ gn_isAbove false z a b = (if a ≤ b then 0 else 1) := fun z a b => by
    refine ⟨?_, ?_, rfl⟩
    · show (if a < b then b else a) = _
      by_cases h : b ≤ a
      · rw [if_pos h, if_neg (Int64.not_lt.mpr h)]
      · rw [if_neg h, if_pos (Int64.not_le.mp h)]
    · show (if b < a then b else a) = _
      by_cases h : a ≤ b
      · rw [if_pos h, if_neg (Int64.not_lt.mpr h)]
      · rw [if_neg h, if_pos (Int64.not_le.mp h)]
  have f : ∀ so z, rl so z → ∀ a b, vld so a → vld so b → gn_greater true z a b = fX5_greater so a b ∧ gn_lesser true z a b = fX5_lesser so a b ∧ gn_isAbove true z a b = fX5_isAbove so a b := by
    intro so z h a b ha hb
    refine ⟨?_, ?_, ?_⟩
    · show (if fX0_rank z a < fX0_rank z b then b else a) = if fX5_rank so b ≤ fX5_rank so a then a else b
      rw [rl_rank h ha, rl_rank h hb]
      by_cases h : fX0_rank z b ≤ fX0_rank z a
      · rw [if_pos h, if_neg (Int64.not_lt.mpr h)]
      · rw [if_neg h, if_pos (Int64.not_le.mp h)]
    · show (if fX0_rank z b < fX0_rank z a then b else a) = if fX5_rank so a ≤ fX5_rank so b then a else b
      rw [rl_rank h ha, rl_rank h hb]
      by_cases h : fX0_rank z a ≤ fX0_rank z b
      · rw [if_pos h, if_neg (Int64.not_lt.mpr h)]
      · rw [if_neg h, if_pos (Int64.not_le.mp h)]
    · show (if fX0_level z a ≤ fX0_level z b then (0 : Int32) else 1) = if fX5_height so a ≤ fX5_height so b then 0 else 1
      simp only [rl_above h ha hb]
  rintro so (rfl | rfl | rfl | rfl) a b ha hb
  · rw [ff_0, zz_0]; exact w false a b
  · rw [ff_1, zz_1]; exact w true a b
  · rw [ff_2, zz_2]; exact f 2 false (Or.inl ⟨rfl, rfl⟩) a b ha hb
  · rw [ff_3, zz_3]; exact f 3 true (Or.inr ⟨rfl, rfl⟩) a b ha hb
