/-! AMOUNTS -/
theorem cut32 {x : Int64} (h1 : -2 ^ 31 ≤ x.toInt) (h2 : x.toInt < 2 ^ 31) : x.toInt32.toInt64 = x := by
  apply Int64.toInt_inj.mp
  rw [Int32.toInt_toInt64, Int64.toInt_toInt32, Int.bmod_eq_of_le (by omega) (by omega)]
theorem am_lt (v : Int64) : (fX0_amount false v).toInt < 2 ^ 31 := by
  show (v.toBitVec &&& BitVec.ofNat 64 2147483647).toInt < 2 ^ 31
  have h : (v.toBitVec &&& BitVec.ofNat 64 2147483647).toNat ≤ 2147483647 := by
    rw [BitVec.toNat_and]
    exact Nat.and_le_right (n := v.toBitVec.toNat) (m := (BitVec.ofNat 64 2147483647).toNat)
  rw [BitVec.toInt_eq_toNat_of_lt (by omega)]
  omega
theorem rl_cutamt {so : Int32} {z : Bool} (h : rl so z) (v : Int64) : fX5_cut so (fX0_amount z v) = fX0_amount z v := by
  rcases h with ⟨rfl, rfl⟩ | ⟨rfl, rfl⟩
  · have h1 := am_nn false v
    exact cut32 (by omega) (am_lt v)
  · rfl
theorem am_am (z : Bool) (v : Int64) : fX0_amount z (fX0_amount z v) = fX0_amount z v := by
  unfold fX0_amount
  rw [Int64.and_assoc, Int64.and_self]
theorem rl_none {so : Int32} {z : Bool} (h : rl so z) (v : Int64) : fX5_isNone so v = 0 ↔ fX0_amount z (fX5_cut so v) ≤ finf z := by
  unfold fX5_isNone
  rw [if_neg (rl_real h), rl_amt h]
  have e : fX5_endless so = finf z := by rcases h with ⟨rfl, rfl⟩ | ⟨rfl, rfl⟩ <;> decide
  rw [e]
  split
  · rename_i h1; exact ⟨fun _ => h1, fun _ => rfl⟩
  · rename_i h1; exact ⟨fun q => absurd q (by decide), fun q => absurd q h1⟩
/-- an amount of a real sort -/
theorem rl_amt_of {so : Int32} {z : Bool} (h : rl so z) {v : Int64} (hv : vld so v) : amt so (fX0_amount z v) := by
  refine ⟨⟨rl_cutamt h v, ?_⟩, fun _ => ?_⟩
  · rw [rl_none h, rl_cutamt h, am_am]
    have := (rl_none h v).mp hv.2
    rw [hv.1] at this
    exact this
  · rw [Int64.le_iff_toInt_le]; exact (am_nn z v).1
theorem wr_vld0 (v : Int64) : vld 0 (fX5_cut 0 v) := ⟨cut_cut 0 v, rfl⟩
theorem wr_vld1 (v : Int64) : vld 1 v := ⟨rfl, rfl⟩
theorem wr_amt0 (v : Int64) : amt 0 (fX5_cut 0 v) := ⟨wr_vld0 v, fun h => absurd h (by decide)⟩
theorem wr_amt1 (v : Int64) : amt 1 v := ⟨wr_vld1 v, fun h => absurd h (by decide)⟩
theorem wr_am0 {v : Int64} (h : vld 0 v) : fX3_amount false v = fX5_amount 0 v := by
  show (if 0 ≤ v then v else fX5_cut 0 (-v)) = fX5_cut 0 (if 0 ≤ v then v else -v)
  split
  · exact h.1.symm
  · rfl
theorem ma_A : maA := by
  have f : ∀ so z, rl so z → ∀ v, vld so v → gn_amount true z v = fX5_amount so v ∧ amt so (fX5_amount so v) := by
    intro so z h v hv
    have e : fX5_amount so v = fX0_amount z v := by
      unfold fX5_amount
      rw [if_neg (rl_real h), rl_amt h, rl_cutamt h]
    rw [e]
    exact ⟨rfl, rl_amt_of h hv⟩
  rintro so (rfl | rfl | rfl | rfl) v hv
  · rw [ff_0, zz_0]; exact ⟨wr_am0 hv, wr_amt0 _⟩
  · rw [ff_1, zz_1]; exact ⟨rfl, wr_amt1 _⟩
  · rw [ff_2, zz_2]; exact f 2 false (Or.inl ⟨rfl, rfl⟩) v hv
  · rw [ff_3, zz_3]; exact f 3 true (Or.inr ⟨rfl, rfl⟩) v hv
