section TM
variable {so how : Int32} {z : Bool} {v m : Int64}
theorem one_sh {k : Nat} (hk : k < 63) : nat (jshl 1 (nI k)) = 2 ^ k ∧ nat (jshl 1 (nI k) - 1) = 2 ^ k - 1 := by
  have k1 : nat (jshl 1 (nI k)) = 2 ^ k := by
    rw [jshl_nat (by omega), show nat (1 : Int64) = 1 by decide, Nat.one_mul, Nat.mod_eq_of_lt (Nat.pow_lt_pow_right (by decide) (by omega))]
  refine ⟨k1, ?_⟩
  rw [nat_sub (by rw [k1, show nat (1 : Int64) = 1 by decide]; exact Nat.two_pow_pos _), k1]; rfl
theorem th_mid (h : rl so z) (hm : nat m ≤ nat (finf z)) (he : fX5_amountBits so v = m) (h0 : ¬ m = 0) (h1 : pB z ≤ nat m / 2 ^ pP z) (h2 : nat m / 2 ^ pP z < pP z + pB z) {k : Nat} (hk : k = pP z + pB z - nat m / 2 ^ pP z) {u r : Int64} (hu : u = jshl 1 (nI k)) (hr : r = m &&& (u - 1)) :
    fX5_toWhole so v how = if r = 0 then v else fX5_signed so (if (if how = 5 then (if u / 2 < r then 1 else (if r = u / 2 then (if (if nat m / 2 ^ pP z = pB z then 1 else (if (m &&& u) = 0 then 0 else 1) : Int32) = 0 then 0 else 1) else 0)) else upw so how v : Int32) = 0 then m - r else (m - r) + u) (fX5_isMinus so v) := by
  have hp := pP_lt z
  have hb := pB_lt z
  have hx := th_e h hm
  unfold fX5_toWhole fX5_toWhole_s1 fX5_toWhole_s2 fX5_toWhole_s3 fX5_toWhole_s5
  rw [he]
  generalize hX : ((jshr m (fX5_places so)).toInt32 - (if so = 2 then 127 else 1023 : Int32)) = X at hx ⊢
  have c1 : ¬ fX5_places so ≤ X := by
    rw [Int32.le_iff_toInt_le, hx, (pl_n h).1, nI_toInt (by omega)]
    generalize nat m / 2 ^ pP z = E at *
    omega
  have c2 : 0 ≤ X := by
    rw [Int32.le_iff_toInt_le, hx, Int32.toInt_zero]
    generalize nat m / 2 ^ pP z = E at *
    omega
  have c3 : X = 0 ↔ nat m / 2 ^ pP z = pB z := by
    rw [← Int32.toInt_inj, hx, Int32.toInt_zero]
    generalize nat m / 2 ^ pP z = E at *
    omega
  have c4 : fX5_places so - X = nI k := by
    apply Int32.toInt_inj.mp
    rw [(pl_n h).1, Int32.toInt_sub, nI_toInt (by omega), hx, nI_toInt (by omega), hk]
    generalize nat m / 2 ^ pP z = E at *
    rw [Int.bmod_eq_of_le (by omega) (by omega)]
    omega
  rw [if_neg c1, if_neg h0]
  unfold fX5_toWhole_s10
  rw [if_pos c2]
  unfold fX5_toWhole_s12 fX5_toWhole_s13 fX5_toWhole_s17 fX5_toWhole_s22
  rw [c4, ← hu, ← hr]
  simp only [c3]
  rfl
end TM
