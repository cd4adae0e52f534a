/-! toWhole, case by case; m: the amount of v -/
section TW
variable {so how : Int32} {z : Bool} {v m : Int64}
def upw (so how : Int32) (v : Int64) : Int32 := if how = 3 then fX5_isMinus so v else (if fX5_isMinus so v = 0 then 1 else 0)
theorem th_hi (h : rl so z) (hm : nat m ≤ nat (finf z)) (he : fX5_amountBits so v = m) (h1 : pP z + pB z ≤ nat m / 2 ^ pP z) : fX5_toWhole so v how = v := by
  have hp := pP_lt z
  have hx := th_e h hm
  unfold fX5_toWhole fX5_toWhole_s1 fX5_toWhole_s2 fX5_toWhole_s3 fX5_toWhole_s5
  rw [he, if_pos]
  rw [Int32.le_iff_toInt_le, hx, (pl_n h).1, nI_toInt (by omega)]
  generalize nat m / 2 ^ pP z = E at *
  omega
theorem th_0 (he : fX5_amountBits so v = 0) : fX5_toWhole so v how = v := by
  unfold fX5_toWhole fX5_toWhole_s1 fX5_toWhole_s2 fX5_toWhole_s3 fX5_toWhole_s5
  rw [he, if_pos (rfl : (0 : Int64) = 0), ite_self]
theorem th_lo (h : rl so z) (hm : nat m ≤ nat (finf z)) (he : fX5_amountBits so v = m) (h0 : ¬ m = 0) (h1 : nat m / 2 ^ pP z < pB z) : fX5_toWhole so v how = fX5_signed so (if (if how = 5 then (if nat m / 2 ^ pP z = pB z - 1 then (if nat m % 2 ^ pP z = 0 then 0 else 1) else 0) else upw so how v : Int32) = 0 then 0 else fon z) (fX5_isMinus so v) := by
  have hp := pP_lt z
  have hb := pB_lt z
  have hx := th_e h hm
  unfold fX5_toWhole fX5_toWhole_s1 fX5_toWhole_s2 fX5_toWhole_s3 fX5_toWhole_s5
  rw [he]
  generalize hX : ((jshr m (fX5_places so)).toInt32 - (if so = 2 then 127 else 1023 : Int32)) = X at hx ⊢
  have c1 : ¬ fX5_places so ≤ X := by
    rw [Int32.le_iff_toInt_le, hx, (pl_n h).1, nI_toInt (by omega)]
    generalize nat m / 2 ^ pP z = E at *
    omega
  have c2 : ¬ 0 ≤ X := by
    rw [Int32.le_iff_toInt_le, hx, Int32.toInt_zero]
    generalize nat m / 2 ^ pP z = E at *
    omega
  rw [if_neg c1, if_neg h0]
  unfold fX5_toWhole_s10
  rw [if_neg c2]
  unfold fX5_toWhole_s27
  rw [(pl_n h).2.2]
  have c3 : X = -1 ↔ nat m / 2 ^ pP z = pB z - 1 := by
    rw [← Int32.toInt_inj, hx, show (-1 : Int32).toInt = -1 by decide]
    generalize nat m / 2 ^ pP z = E at *
    omega
  have c4 : (m &&& (jshl 1 (fX5_places so) - 1)) ≤ 0 ↔ nat m % 2 ^ pP z = 0 := by
    have k1 : nat (jshl 1 (fX5_places so)) = 2 ^ pP z := by
      rw [(pl_n h).1, jshl_nat hp.1, show nat (1 : Int64) = 1 by decide, Nat.one_mul, Nat.mod_eq_of_lt (Nat.pow_lt_pow_right (by decide) hp.1)]
    have k2 : nat (jshl 1 (fX5_places so) - 1) = 2 ^ pP z - 1 := by
      rw [nat_sub (by rw [k1, show nat (1 : Int64) = 1 by decide]; exact Nat.two_pow_pos _), k1]; rfl
    have k3 := nat_mask (a := m) k2
    have k4 : nat m % 2 ^ pP z < 2 ^ 63 := Nat.lt_of_le_of_lt (Nat.mod_le _ _) (am_n hm)
    rw [nat_le (by rw [k3]; exact k4) (by decide), k3, show nat (0 : Int64) = 0 by decide]
    omega
  simp only [c3, c4]
  rfl
end TW
