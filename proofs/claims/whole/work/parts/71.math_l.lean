/-! SIGNED AMOUNTS ARE NUMBERS -/
theorem am_of {z : Bool} {x : Int64} (hx : nat x ≤ nat (finf z)) : fX0_amount z x = x := by
  cases z
  · have hf : nat (finf false) = 2139095040 := by decide
    apply nat_inj
    show nat (x &&& 2147483647) = nat x
    rw [nat_mask (k := 31) (by decide), Nat.mod_eq_of_lt (by omega)]
  · have hf := finf_lt true
    apply nat_inj
    show nat (x &&& 9223372036854775807) = nat x
    rw [nat_mask (k := 63) (by decide), Nat.mod_eq_of_lt (by omega)]
theorem am_sgn {z : Bool} {v x : Int64} (hx : nat x ≤ nat (finf z)) : fX0_amount z (fX0_withSignOf z v x) = x := by
  unfold fX0_withSignOf
  split
  · exact am_of hx
  · cases z
    · have hf : nat (finf false) = 2139095040 := by decide
      apply nat_inj
      show nat ((x ||| (-2147483648)) &&& 2147483647) = nat x
      rw [nat_mask (k := 31) (by decide), nat_or, show nat (-2147483648 : Int64) = 2 ^ 31 * (2 ^ 33 - 1) by decide, or_31 (by omega)]
      omega
    · have hf := finf_lt true
      apply nat_inj
      show nat ((x ||| (-9223372036854775808)) &&& 9223372036854775807) = nat x
      rw [nat_mask (k := 63) (by decide), nat_or, show nat (-9223372036854775808 : Int64) = 2 ^ 63 * 1 by decide, Nat.or_comm, ← Nat.two_pow_add_eq_or_of_lt (by omega)]
      omega
theorem vld_sgn {so : Int32} {z : Bool} (h : rl so z) {v x : Int64} (hx : nat x ≤ nat (finf z)) : vld so (fX0_withSignOf z v x) := by
  have hc : fX5_cut so (fX0_withSignOf z v x) = fX0_withSignOf z v x := by
    rw [← sgn_eq h hx]
    unfold fX5_signed
    rw [cut_cut]
  refine ⟨hc, ?_⟩
  rw [rl_none h, hc, am_sgn hx]
  exact (nat_le (am_n hx) (finf_lt z)).mpr hx
/-- the amount of a number -/
theorem amv {so : Int32} {z : Bool} (h : rl so z) {v : Int64} (hv : vld so v) : nat (fX0_amount z v) ≤ nat (finf z) := by
  have h1 := (rl_none h v).mp hv.2
  rw [hv.1] at h1
  have h2 := am_nn z v
  exact (nat_le (nat_int h2.1).2 (finf_lt z)).mp h1
