section TN
variable {so how : Int32} {z : Bool} {v m : Int64}
/-- between: the class's and the reference's pieces -/
theorem mid_n (hm : nat m ≤ nat (finf z)) (h1 : pB z ≤ nat m / 2 ^ pP z) (h2 : nat m / 2 ^ pP z < pP z + pB z) {k : Nat} (hk : k = pP z + pB z - nat m / 2 ^ pP z) {u r : Int64} (hu : u = jshl 1 (nI k)) (hr : r = m &&& (u - 1)) :
    (1 ≤ k ∧ k ≤ pP z) ∧ nat u = 2 ^ k ∧ nat r = nat m % 2 ^ k ∧ fX0_cut z m = m - r ∧ (fX0_cut z m = m ↔ r = 0) ∧ nat (u / 2) = 2 ^ (k - 1) := by
  have hp := pP_lt z
  have hkk : 1 ≤ k ∧ k ≤ pP z := by
    generalize nat m / 2 ^ pP z = E at *
    omega
  have ho := one_sh (k := k) (by omega)
  have e1 : nat u = 2 ^ k := by rw [hu]; exact ho.1
  have e2 : nat r = nat m % 2 ^ k := by rw [hr, hu]; exact nat_mask ho.2
  have e3 : nat (m - r) = nat m / 2 ^ k * 2 ^ k := by
    rw [nat_sub (by rw [e2]; exact Nat.mod_le _ _), e2]
    have := Nat.div_add_mod (nat m) (2 ^ k)
    rw [Nat.mul_comm] at this
    omega
  have e4 : fX0_cut z m = m - r := nat_inj (by rw [cut_mid hm h1 h2, e3, hk])
  have e5 : fX0_cut z m = m ↔ r = 0 := by
    rw [e4, nat_eq, nat_eq, nat_sub (by rw [e2]; exact Nat.mod_le _ _), show nat (0 : Int64) = 0 by decide]
    have : nat r ≤ nat m := by rw [e2]; exact Nat.mod_le _ _
    omega
  refine ⟨hkk, e1, e2, e4, e5, ?_⟩
  have hu63 : nat u < 2 ^ 63 := by rw [e1]; exact Nat.pow_lt_pow_right (by decide) (by omega)
  have i1 := nat_pos hu63
  have i2 : (u / 2).toInt = (2 ^ (k - 1) : Nat) := by
    rw [Int64.toInt_div, show (2 : Int64).toInt = 2 by decide, i1.2, e1]
    obtain ⟨q, rfl⟩ : ∃ q, k = q + 1 := ⟨k - 1, by omega⟩
    have h3 : ((2 ^ (q + 1) : Nat) : Int).tdiv 2 = ((2 ^ q : Nat) : Int) := by
      rw [Nat.pow_succ, show ((2 ^ q * 2 : Nat) : Int) = ((2 ^ q : Nat) : Int) * 2 by omega, Int.mul_tdiv_cancel _ (by decide)]
    have h4 : 2 ^ q < 2 ^ 62 := Nat.pow_lt_pow_right (by decide) (by omega)
    rw [h3, Nat.add_sub_cancel]
    exact Int.bmod_eq_of_le (by omega) (by omega)
  have i3 := nat_int (a := u / 2) (by rw [i2]; exact Int.natCast_nonneg _)
  have : ((nat (u / 2) : Nat) : Int) = ((2 ^ (k - 1) : Nat) : Int) := by rw [← i3.1, i2]
  exact Int.ofNat.inj this
end TN
