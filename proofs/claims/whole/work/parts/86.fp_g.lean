/-! BITS THAT COME AND GO -/
def sb (v : Int64) : Bool := !decide (0 ≤ v)
theorem fw_0 : fw false = 2 ^ 31 := by decide
theorem fw_1 : fw true = 2 ^ 63 := by decide
theorem in_0 : inN false = 2139095040 := by decide
theorem in_1 : inN true = 9218868437227405312 := by decide
theorem inN_n (z : Bool) : nat (finf z) = inN z := finf_n z
theorem amn_0 (v : Int64) : nat (fX0_amount false v) = nat v % 2 ^ 31 := nat_mask (k := 31) (by decide)
theorem amn_1 (v : Int64) : nat (fX0_amount true v) = nat v % 2 ^ 63 := nat_mask (k := 63) (by decide)
theorem nn_lt {v : Int64} (h : 0 ≤ v) : nat v < 2 ^ 63 := by
  rw [Int64.le_iff_toInt_le] at h
  exact (nat_int h).2
theorem sgl_n (v : Int64) : (fX5_single v).toNat = nat v % 2 ^ 32 := by
  show (v.toBitVec.signExtend 32).toNat = v.toBitVec.toNat % 2 ^ 32
  rw [BitVec.signExtend_eq_setWidth_of_le _ (by decide), BitVec.toNat_setWidth]
theorem bits2 {v : Int64} (hv : vld 2 v) : (fX5_single v).toNat = (sb v).toNat * fw false + nat (fX0_amount false v) := by
  rw [sgl_n, amn_0, fw_0]
  unfold sb
  have h1 : v.toInt32.toInt64 = v := hv.1
  have hr : -2 ^ 31 ≤ v.toInt := by rw [← h1, Int32.toInt_toInt64]; exact Int32.le_toInt _
  have hn : v.toInt < 2 ^ 31 := by rw [← h1, Int32.toInt_toInt64]; exact Int32.toInt_lt _
  by_cases h0 : 0 ≤ v
  · have h2 := h0
    rw [Int64.le_iff_toInt_le] at h2
    have h3 := (nat_int h2).1
    simp only [h0, decide_true, Bool.not_true, Bool.toNat_false]
    omega
  · have h3 := nat_neg h0
    have hl : nat v < 2 ^ 64 := v.toBitVec.isLt
    simp only [h0, decide_false, Bool.not_false, Bool.toNat_true]
    omega
theorem bits3 (v : Int64) : (fX5_real v).toNat = (sb v).toNat * fw true + nat (fX0_amount true v) := by
  rw [show (fX5_real v).toNat = nat v from rfl, amn_1, fw_1]
  unfold sb
  have hl : nat v < 2 ^ 64 := v.toBitVec.isLt
  by_cases h0 : 0 ≤ v
  · have h2 := nn_lt h0
    simp only [h0, decide_true, Bool.not_true, Bool.toNat_false]
    omega
  · have h3 := nat_neg h0
    simp only [h0, decide_false, Bool.not_false, Bool.toNat_true]
    omega
theorem ok32 {r : UInt32} {s : Bool} {n : Nat} (h : r.toNat = s.toNat * fw false + n) (hn : n ≤ inN false) : vf_n32 r ∧ okf r := by
  refine ⟨?_, ?_⟩
  · show r &&& 0x7fffffff ≤ 0x7f800000
    rw [UInt32.le_iff_toNat_le, UInt32.toNat_and]
    show r.toNat &&& 2 ^ 31 - 1 ≤ 2139095040
    rw [Nat.and_two_pow_sub_one_eq_mod, h, fw_0]
    rw [in_0] at hn
    omega
  · show FP.Core.decode (fm false) r.toNat ≠ .nan
    rw [h, dec_c hn]
    split <;> exact fun q => by cases q
theorem ok64 {r : UInt64} {s : Bool} {n : Nat} (h : r.toNat = s.toNat * fw true + n) (hn : n ≤ inN true) : vf_n64 r ∧ okd r := by
  refine ⟨?_, ?_⟩
  · show r &&& 0x7fffffffffffffff ≤ 0x7ff0000000000000
    rw [UInt64.le_iff_toNat_le, UInt64.toNat_and]
    show r.toNat &&& 2 ^ 63 - 1 ≤ 9218868437227405312
    rw [Nat.and_two_pow_sub_one_eq_mod, h, fw_1]
    rw [in_1] at hn
    omega
  · show FP.Core.decode (fm true) r.toNat ≠ .nan
    rw [h, dec_c hn]
    split <;> exact fun q => by cases q
theorem sn32 {v : Int64} (h : vf_n32 (fX5_single v)) : vn_sni2f v.toInt32 = false := by
  unfold vn_sni2f
  have e : decide (v.toInt32.toUInt32 &&& 2147483647 > 2139095040) = false := decide_eq_false (UInt32.not_lt.mpr h)
  rw [e]; rfl
theorem sn64 {v : Int64} (h : vf_n64 (fX5_real v)) : vn_snl2d v = false := by
  unfold vn_snl2d
  have e : decide (v.toUInt64 &&& 9223372036854775807 > 9218868437227405312) = false := decide_eq_false (UInt64.not_lt.mpr h)
  rw [e]; rfl
theorem num32 {v : Int64} (hv : vld 2 v) : vn_sni2f v.toInt32 = false := sn32 (ok32 (bits2 hv) (by rw [← inN_n]; exact amv (Or.inl ⟨rfl, rfl⟩) hv)).1
theorem num64 {v : Int64} (hv : vld 3 v) : vn_snl2d v = false := sn64 (ok64 (bits3 v) (by rw [← inN_n]; exact amv (Or.inr ⟨rfl, rfl⟩) hv)).1
/-- what comes back of a result -/
theorem back2 {r : UInt32} {s : Bool} {n : Nat} (h : r.toNat = s.toNat * fw false + n) (hn : n ≤ inN false) : nat (fX0_amount false (r.toInt32.toInt64)) = n ∧ (s = false → nat (r.toInt32.toInt64) = n) := by
  have e : nat (r.toInt32.toInt64) = r.toNat + if r.toBitVec.msb then 2 ^ 64 - 2 ^ 32 else 0 := by
    show (r.toBitVec.signExtend 64).toNat = r.toBitVec.toNat + _
    rw [BitVec.toNat_signExtend, BitVec.toNat_setWidth, Nat.mod_eq_of_lt (by have := r.toBitVec.isLt; omega)]
  rw [in_0] at hn
  rw [fw_0] at h
  refine ⟨?_, fun hs => ?_⟩
  · rw [amn_0, e, h]
    split <;> omega
  · subst hs
    have hm : r.toBitVec.msb = false := by
      rw [BitVec.msb_eq_decide]
      have : r.toBitVec.toNat = r.toNat := rfl
      simp only [decide_eq_false_iff_not]
      simp only [Bool.toNat_false] at h
      omega
    rw [e, hm, h]
    simp
theorem back3 {r : UInt64} {s : Bool} {n : Nat} (h : r.toNat = s.toNat * fw true + n) (hn : n ≤ inN true) : nat (fX0_amount true r.toInt64) = n ∧ (s = false → nat r.toInt64 = n) := by
  have e : nat r.toInt64 = r.toNat := rfl
  rw [in_1] at hn
  rw [fw_1] at h
  refine ⟨?_, fun hs => ?_⟩
  · rw [amn_1, e, h]; omega
  · subst hs; rw [e, h]; simp
theorem ofn32 {s : Bool} {n : Nat} (hn : n ≤ inN false) : (UInt32.ofNat (s.toNat * fw false + n)).toNat = s.toNat * fw false + n := by
  rw [UInt32.toNat_ofNat', fw_0, Nat.mod_eq_of_lt]
  rw [in_0] at hn
  cases s
  · rw [Bool.toNat_false]; omega
  · rw [Bool.toNat_true]; omega
theorem ofn64 {s : Bool} {n : Nat} (hn : n ≤ inN true) : (UInt64.ofNat (s.toNat * fw true + n)).toNat = s.toNat * fw true + n := by
  rw [UInt64.toNat_ofNat', fw_1, Nat.mod_eq_of_lt]
  rw [in_1] at hn
  cases s
  · rw [Bool.toNat_false]; omega
  · rw [Bool.toNat_true]; omega
/-! SUMS -/
theorem sb_pos {v : Int64} (h : 0 ≤ v) : sb v = false := by unfold sb; rw [decide_eq_true h]; rfl
theorem sb_neg {v : Int64} (h : ¬ 0 ≤ v) : sb v = true := by unfold sb; rw [decide_eq_false h]; rfl
theorem rl_2 {so : Int32} {z : Bool} (h : rl so z) : 2 ≤ so := by
  rcases h with ⟨rfl, rfl⟩ | ⟨rfl, rfl⟩ <;> decide
theorem vld_am {so : Int32} {z : Bool} (h : rl so z) {x : Int64} (hx : nat x ≤ nat (finf z)) : amt so x := by
  have h1 := vld_sgn (v := 0) h hx
  have e : fX0_withSignOf z 0 x = x := if_pos (by decide)
  rw [e] at h1
  refine ⟨h1, fun _ => ?_⟩
  rw [Int64.le_iff_toInt_le]; exact (nat_pos (am_n hx)).1
theorem am_id {so : Int32} {z : Bool} (h : rl so z) {s : Int64} (hs : amt so s) : fX0_amount z s = s ∧ nat s ≤ inN z ∧ sb s = false := by
  have h1 := rl_pos h hs.1 (hs.2 (rl_2 h))
  refine ⟨h1, ?_, sb_pos (hs.2 (rl_2 h))⟩
  have := amv h hs.1
  rw [h1, inN_n] at this
  exact this
theorem rl_P {so : Int32} {z : Bool} (h : rl so z) {s a : Int64} (hs : amt so s) (ha : amt so a) : fX0_plus z s a = fX5_sum so s a ∧ okSum so s a ∧ amt so (fX5_sum so s a) := by
  obtain ⟨s1, s2, s3⟩ := am_id h hs
  obtain ⟨a1, a2, a3⟩ := am_id h ha
  have hp := pl_n2 (z := z) (a := s) (b := a) (by rw [inN_n]; exact s2) (by rw [inN_n]; exact a2)
  obtain ⟨g1, g2⟩ := add_c s2 a2
  rw [← hp] at g1 g2
  have key : fX0_plus z s a = fX5_sum so s a ∧ okSum so s a := by
    rcases h with ⟨rfl, rfl⟩ | ⟨rfl, rfl⟩
    · have es : (fX5_single s).toNat = nat s := by rw [bits2 hs.1, s1, s3]; simp
      have ea : (fX5_single a).toNat = nat a := by rw [bits2 ha.1, a1, a3]; simp
      have er : (FP.fadd (fX5_single s) (fX5_single a)).toNat = false.toNat * fw false + nat (fX0_plus false s a) := by
        show (UInt32.ofNat (FP.Core.add (fm false) (fX5_single s).toNat (fX5_single a).toNat)).toNat = _
        rw [es, ea, g1, ← ofn32 (s := false) g2]
        simp
      refine ⟨?_, fun _ => ⟨num32 hs.1, num32 ha.1, ok32 er g2⟩, fun q => absurd q (by decide)⟩
      apply nat_inj
      rw [show fX5_sum 2 s a = (FP.fadd (fX5_single s) (fX5_single a)).toInt32.toInt64 from rfl]
      exact ((back2 er g2).2 rfl).symm
    · have es : (fX5_real s).toNat = nat s := rfl
      have ea : (fX5_real a).toNat = nat a := rfl
      have er : (FP.dadd (fX5_real s) (fX5_real a)).toNat = false.toNat * fw true + nat (fX0_plus true s a) := by
        show (UInt64.ofNat (FP.Core.add (fm true) (fX5_real s).toNat (fX5_real a).toNat)).toNat = _
        rw [es, ea, g1, ← ofn64 (s := false) g2]
        simp
      refine ⟨?_, fun q => absurd q (by decide), fun _ => ⟨num64 hs.1, num64 ha.1, ok64 er g2⟩⟩
      apply nat_inj
      rw [show fX5_sum 3 s a = (FP.dadd (fX5_real s) (fX5_real a)).toInt64 from rfl]
      exact ((back3 er g2).2 rfl).symm
  exact ⟨key.1, key.2, by rw [← key.1]; exact vld_am h (by rw [inN_n]; exact g2)⟩
theorem rl_Z {so : Int32} {z : Bool} (h : rl so z) {a : Int64} (ha : amt so a) : fX5_sum so 0 a = a := by
  have h0 : amt so 0 := ⟨vld0 (rl_srt h).1, fun _ => by decide⟩
  obtain ⟨a1, a2, a3⟩ := am_id h ha
  have hn0 : nat (0 : Int64) = 0 := by decide
  rw [← (rl_P h h0 ha).1]
  apply nat_inj
  rw [pl_n2 (by rw [hn0]; exact Nat.zero_le _) (by rw [inN_n]; exact a2), hn0, Nat.max_eq_right (Nat.zero_le _), Nat.min_eq_left (Nat.zero_le _)]
  unfold plN
  by_cases c : nat a = inN z
  · rw [if_pos c, c]
  · rw [if_neg c]
    obtain ⟨x1, x2, x3, x4⟩ := xp_spec z (nat a)
    have y1 : xp_s z 0 = 0 := Nat.zero_sub _
    have y2 : sr (8 * xp_s z 0) (xp_e z (nat a) - xp_e z 0) = 0 := by rw [y1]; unfold sr; rw [Nat.mul_zero, Nat.zero_mod, if_pos rfl, Nat.zero_div]
    have h16 : 2 ^ (pP z + 4) = 8 * 2 ^ (pP z + 1) := by rw [show pP z + 4 = 3 + (pP z + 1) by omega, Nat.pow_add 2 3]
    rw [y2, Nat.add_zero, if_pos (by omega)]
    unfold rd
    have hT : 0 < 2 ^ pP z := Nat.two_pow_pos _
    have hE : xp_e z (nat a) < 2 * pB z + 1 := by
      have hb := pB_lt z
      have hq : nat a / 2 ^ pP z < 2 * pB z + 1 := (Nat.div_lt_iff_lt_mul hT).mpr (show nat a < inN z by omega)
      unfold xp_e
      exact Nat.max_lt.mpr ⟨by omega, hq⟩
    rw [if_pos hE, Nat.mul_comm 8, FP.Core.nearest_exact _ (by decide)]
    exact x2.symm
