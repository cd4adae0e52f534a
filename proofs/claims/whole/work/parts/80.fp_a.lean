/-! STICKY SHIFTS, over naturals: the last bit set where a bit was cut off -/
def sr (X d : Nat) : Nat := if X % 2 ^ d = 0 then X / 2 ^ d else X / 2 ^ d / 2 * 2 + 1
theorem sr_le {X d j : Nat} : 2 ^ (j + 1) ≤ sr X d ↔ 2 ^ (j + 1) * 2 ^ d ≤ X := by
  rw [← Nat.le_div_iff_mul_le (Nat.two_pow_pos d), Nat.pow_succ]
  unfold sr
  generalize 2 ^ j = J
  generalize X / 2 ^ d = Q
  split <;> omega
theorem sr_lt {X d j : Nat} : sr X d < 2 ^ (j + 1) ↔ X < 2 ^ (j + 1) * 2 ^ d := by
  rw [← Nat.not_le, ← Nat.not_le, sr_le]
theorem sr_near {X d j : Nat} : FP.Core.nearest (sr X d) (4 * 2 ^ j) = FP.Core.nearest X (4 * 2 ^ j * 2 ^ d) := by
  have hD := Nat.two_pow_pos d
  have hJ := Nat.two_pow_pos j
  have hX := Nat.div_add_mod X (2 ^ d)
  have hR := Nat.mod_lt X hD
  by_cases h0 : X % 2 ^ d = 0
  · have e : sr X d = X / 2 ^ d := if_pos h0
    rw [e, ← FP.Core.nearest_scale (X / 2 ^ d) (4 * 2 ^ j) (2 ^ d) hD]
    congr 1
    rw [Nat.mul_comm]; omega
  · have e : sr X d = X / 2 ^ d / 2 * 2 + 1 := if_neg h0
    have m1 : X % (4 * 2 ^ j * 2 ^ d) = X % 2 ^ d + 2 ^ d * (X / 2 ^ d % (4 * 2 ^ j)) := by rw [Nat.mul_comm (4 * 2 ^ j), Nat.mod_mul]
    have m2 : X / (4 * 2 ^ j * 2 ^ d) = X / 2 ^ d / (4 * 2 ^ j) := by rw [Nat.mul_comm (4 * 2 ^ j), Nat.div_div_eq_div_mul]
    unfold FP.Core.nearest
    rw [m1, m2, e]
    clear m1 m2 e
    generalize X % 2 ^ d = R at *
    generalize X / 2 ^ d = Q at *
    generalize 2 ^ d = D at *
    generalize 2 ^ j = J at *
    have hQ := Nat.div_add_mod Q (4 * J)
    have hw := Nat.mod_lt Q (show 0 < 4 * J by omega)
    generalize Q % (4 * J) = w at *
    generalize Q / (4 * J) = u at *
    have e1 : Q / 2 * 2 + 1 = 4 * J * u + (w / 2 * 2 + 1) := by
      rw [← hQ, Nat.mul_assoc]
      generalize J * u = t
      omega
    have e2 : (4 * J * u + (w / 2 * 2 + 1)) / (4 * J) = u := by
      rw [Nat.mul_add_div (by omega), Nat.div_eq_of_lt (by omega)]; rfl
    have e3 : (4 * J * u + (w / 2 * 2 + 1)) % (4 * J) = w / 2 * 2 + 1 := by
      rw [Nat.mul_add_mod, Nat.mod_eq_of_lt (by omega)]
    rw [e1, e2, e3]
    by_cases hc : w < 2 * J
    · have h1 := Nat.mul_le_mul_left D (show w + 1 ≤ 2 * J by omega)
      rw [Nat.mul_add, Nat.mul_one] at h1
      have h2 : 4 * J * D = 2 * (D * (2 * J)) := by rw [Nat.mul_comm D, ← Nat.mul_assoc, ← Nat.mul_assoc]
      rw [if_pos (by omega), if_pos (by rw [h2]; omega)]
    · have h1 := Nat.mul_le_mul_left D (show 2 * J ≤ w by omega)
      have h2 : 4 * J * D = 2 * (D * (2 * J)) := by rw [Nat.mul_comm D, ← Nat.mul_assoc, ← Nat.mul_assoc]
      rw [if_neg (by omega), if_pos (by omega), if_neg (by rw [h2]; omega), if_pos (by rw [h2]; omega)]
theorem sr_add {M L d : Nat} : 8 * M + sr (8 * L) d = sr (8 * M * 2 ^ d + 8 * L) d := by
  have hD := Nat.two_pow_pos d
  unfold sr
  rw [Nat.add_comm (8 * M * 2 ^ d), Nat.add_mul_mod_self_right, Nat.add_mul_div_right _ _ hD]
  generalize 8 * L / 2 ^ d = Q
  split <;> omega
theorem sr_sub {M L d : Nat} (h : 8 * L ≤ 8 * M * 2 ^ d) : sr (8 * M * 2 ^ d - 8 * L) d = 8 * M - sr (8 * L) d ∧ sr (8 * L) d ≤ 8 * M := by
  have hD := Nat.two_pow_pos d
  have hX := Nat.div_add_mod (8 * L) (2 ^ d)
  have hR := Nat.mod_lt (8 * L) hD
  have hq : 8 * L / 2 ^ d ≤ 8 * M := Nat.div_le_of_le_mul (by rw [Nat.mul_comm (2 ^ d)]; exact h)
  by_cases h0 : 8 * L % 2 ^ d = 0
  · have e : sr (8 * L) d = 8 * L / 2 ^ d := if_pos h0
    have e2 : 8 * M * 2 ^ d - 8 * L = (8 * M - 8 * L / 2 ^ d) * 2 ^ d := by
      rw [Nat.sub_mul, Nat.mul_comm (8 * L / 2 ^ d)]; omega
    rw [e, e2]
    refine ⟨?_, hq⟩
    unfold sr
    rw [Nat.mul_mod_left, if_pos rfl, Nat.mul_div_cancel _ hD]
  · have e : sr (8 * L) d = 8 * L / 2 ^ d / 2 * 2 + 1 := if_neg h0
    have hq2 : 8 * L / 2 ^ d + 1 ≤ 8 * M := by
      rcases Nat.lt_or_ge (8 * L / 2 ^ d) (8 * M) with h1 | h1
      · exact h1
      · have h2 := Nat.mul_le_mul_left (2 ^ d) h1
        rw [Nat.mul_comm _ (8 * M)] at h2
        omega
    have e2 : 8 * M * 2 ^ d - 8 * L = (2 ^ d - 8 * L % 2 ^ d) + (8 * M - 8 * L / 2 ^ d - 1) * 2 ^ d := by
      have h3 : 8 * M * 2 ^ d = (8 * M - 8 * L / 2 ^ d - 1) * 2 ^ d + (2 ^ d * (8 * L / 2 ^ d) + 2 ^ d) := by
        rw [Nat.mul_comm (2 ^ d) (8 * L / 2 ^ d), ← Nat.succ_mul, ← Nat.add_mul]
        congr 1
        omega
      omega
    rw [e, e2]
    refine ⟨?_, by omega⟩
    unfold sr
    rw [Nat.add_mul_mod_self_right, Nat.add_mul_div_right _ _ hD, Nat.mod_eq_of_lt (by omega), Nat.div_eq_of_lt (by omega), if_neg (by omega)]
    generalize 8 * L / 2 ^ d = Q at *
    omega
theorem sr_sr {X a : Nat} : sr (sr X a) 1 = sr X (a + 1) := by
  have hA := Nat.two_pow_pos a
  have m1 : X % 2 ^ (a + 1) = X % 2 ^ a + 2 ^ a * (X / 2 ^ a % 2) := by rw [Nat.pow_succ, Nat.mod_mul]
  have m2 : X / 2 ^ (a + 1) = X / 2 ^ a / 2 := by rw [Nat.pow_succ, Nat.div_div_eq_div_mul]
  unfold sr
  rw [m1, m2, Nat.pow_one]
  generalize X / 2 ^ a = Q at *
  generalize 2 ^ a = A at *
  by_cases h0 : X % A = 0
  · rw [if_pos h0, h0, Nat.zero_add]
    have h2 : Q % 2 = 0 ∨ Q % 2 = 1 := by omega
    rcases h2 with h | h
    · rw [h, if_pos rfl, if_pos (Nat.mul_zero _)]
    · rw [h, if_neg (by decide), if_neg (by omega)]
  · rw [if_neg h0, if_neg (by omega), if_neg (by omega)]
    omega
/-- in units of which a part is cut off: rounding sees the same -/
theorem sr_shift {X Y d k : Nat} (hY : Y = sr X d) (hk : Y * 2 ^ d = X ∨ k = 0 ∨ k = 1) : FP.Core.nearest (X * 2 ^ k) (8 * 2 ^ d) = FP.Core.nearest (Y * 2 ^ k) 8 := by
  rcases hk with h | rfl | rfl
  · rw [← h, Nat.mul_right_comm]; exact FP.Core.nearest_scale _ _ _ (Nat.two_pow_pos d)
  · rw [Nat.pow_zero, Nat.mul_one, Nat.mul_one, hY]; exact (sr_near (j := 1)).symm
  · have e1 := FP.Core.nearest_scale X (4 * 2 ^ d) 2 (by decide)
    have e2 := FP.Core.nearest_scale Y 4 2 (by decide)
    have e3 := sr_near (X := X) (d := d) (j := 0)
    rw [Nat.pow_zero, Nat.mul_one] at e3
    rw [Nat.pow_one, show 8 * 2 ^ d = 4 * 2 ^ d * 2 by omega, e1, ← e3, ← hY, ← e2]
theorem sr_shift_lt {X Y d k j : Nat} (hY : Y = sr X d) (hk : Y * 2 ^ d = X ∨ k = 0 ∨ k = 1) (hj : 2 ≤ j) : Y * 2 ^ k < 2 ^ j ↔ X * 2 ^ k < 2 ^ j * 2 ^ d := by
  obtain ⟨i, rfl⟩ : ∃ i, j = i + 1 + 1 := ⟨j - 2, by omega⟩
  rcases hk with h | rfl | rfl
  · rw [← h, Nat.mul_right_comm]; exact (Nat.mul_lt_mul_right (Nat.two_pow_pos d)).symm
  · rw [Nat.pow_zero, Nat.mul_one, Nat.mul_one, hY]; exact sr_lt
  · have h1 := sr_lt (X := X) (d := d) (j := i)
    rw [← hY] at h1
    rw [Nat.pow_one, Nat.pow_succ 2 (i + 1), Nat.mul_right_comm (2 ^ (i + 1))]
    generalize 2 ^ (i + 1) * 2 ^ d = t at *
    omega
