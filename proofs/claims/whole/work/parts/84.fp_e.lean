/-! THE CLASS's SUM AND DIFFERENCE, as naturals -/
theorem or_one (n : Nat) : n ||| 1 = n / 2 * 2 + 1 := by
  have h1 := Nat.two_pow_add_eq_or_of_lt (b := n % 2) (i := 1) (by omega) (n / 2)
  have h2 := Nat.two_pow_add_eq_or_of_lt (b := 1) (i := 1) (by omega) (n / 2)
  have h3 : n % 2 ||| 1 = 1 := by
    have : n % 2 = 0 ∨ n % 2 = 1 := by omega
    rcases this with h | h <;> rw [h] <;> rfl
  have h4 : n = 2 ^ 1 * (n / 2) ||| n % 2 := by rw [← h1]; omega
  rw [h4, Nat.or_assoc, h3, ← h2, ← h4]
  omega
theorem shr_n {a : Int64} {d : Nat} (ha : nat a < 2 ^ 63) (hd : d < 2 ^ 31) : nat (fX0_shiftedRight a (nI d)) = sr (nat a) d := by
  have key : ∀ k, k < 64 → nat (fX0_shiftedRight_s1 a (nI d) (nI k)) = sr (nat a) k := fun k hk => by
    unfold fX0_shiftedRight_s1 fX0_shiftedRight_s2
    have h1 := jushr_nat (a := a) hk
    have h2 : jshl (jushr a (nI k)) (nI k) = a ↔ nat a % 2 ^ k = 0 := by
      have hd := Nat.div_add_mod (nat a) (2 ^ k)
      rw [nat_eq, jshl_nat hk, h1, Nat.mod_eq_of_lt (by rw [Nat.mul_comm]; omega), Nat.mul_comm]
      omega
    unfold sr
    by_cases h3 : nat a % 2 ^ k = 0
    · rw [if_pos (h2.mpr h3), if_pos h3, h1]
    · rw [if_neg (fun q => h3 (h2.mp q)), if_neg h3, nat_or, h1, show nat (1 : Int64) = 1 by decide, or_one]
  unfold fX0_shiftedRight
  by_cases h : (63 : Int32) < nI d
  · rw [if_pos h]
    have h1 : 63 < d := by
      rw [Int32.lt_iff_toInt_lt, nI_toInt hd, show (63 : Int32).toInt = 63 by decide] at h
      omega
    rw [show (63 : Int32) = nI 63 by decide, key 63 (by decide)]
    have h2 : nat a < 2 ^ d := Nat.lt_trans ha (Nat.pow_lt_pow_right (by decide) h1)
    unfold sr
    rw [Nat.mod_eq_of_lt ha, Nat.mod_eq_of_lt h2, Nat.div_eq_of_lt ha, Nat.div_eq_of_lt h2]
  · rw [if_neg h]
    have h1 : d < 64 := by
      rw [Int32.lt_iff_toInt_lt, nI_toInt hd, show (63 : Int32).toInt = 63 by decide] at h
      omega
    exact key d h1
theorem sig_n {z : Bool} {a : Int64} (ha : nat a ≤ nat (finf z)) : nat (fX0_significandOf z a) = 8 * xp_s z (nat a) := by
  have hp := pP_lt z
  have hb := pB_lt z
  have hT : 0 < 2 ^ pP z := Nat.two_pow_pos _
  have hm := Nat.mod_lt (nat a) hT
  have hP52 : 2 ^ pP z ≤ 2 ^ 52 := Nat.pow_le_pow_right (by decide) hp.2.2
  have hfh : nat (fhi z - 1) = 2 ^ pP z - 1 := by
    rw [nat_sub (by rw [fhi_n, show nat (1 : Int64) = 1 by decide]; exact hT), fhi_n]; rfl
  have e1 : nat (a &&& (fhi z - 1)) = nat a % 2 ^ pP z := nat_mask hfh
  obtain ⟨x1, x2, x3, x4⟩ := xp_spec z (nat a)
  have e3 : nat (if fhi z ≤ a then (a &&& (fhi z - 1)) ||| fhi z else a &&& (fhi z - 1)) = xp_s z (nat a) := by
    have hd := Nat.div_add_mod (nat a) (2 ^ pP z)
    by_cases h : fhi z ≤ a
    · rw [if_pos h]
      rw [nat_le (by rw [fhi_n]; omega) (am_n ha), fhi_n] at h
      rw [nat_or, e1, fhi_n, Nat.or_comm]
      have h2 := Nat.two_pow_add_eq_or_of_lt hm 1
      rw [Nat.mul_one] at h2
      rw [← h2]
      have h3 : 1 ≤ nat a / 2 ^ pP z := (Nat.le_div_iff_mul_le hT).mpr (by omega)
      have h4 : xp_e z (nat a) = nat a / 2 ^ pP z := Nat.max_eq_right h3
      rw [h4] at x2
      obtain ⟨F, hF⟩ : ∃ F, nat a / 2 ^ pP z = F + 1 := ⟨nat a / 2 ^ pP z - 1, by omega⟩
      rw [hF, Nat.add_sub_cancel] at x2
      rw [hF, Nat.mul_add, Nat.mul_one, Nat.mul_comm] at hd
      omega
    · rw [if_neg h]
      rw [nat_le (by rw [fhi_n]; omega) (am_n ha), fhi_n] at h
      have h3 : nat a / 2 ^ pP z = 0 := Nat.div_eq_of_lt (by omega)
      have h4 : xp_e z (nat a) = 1 := by unfold xp_e; rw [h3]; rfl
      rw [h4, Nat.sub_self, Nat.zero_mul, Nat.zero_add] at x2
      rw [h3, Nat.mul_zero, Nat.zero_add] at hd
      rw [e1, hd]; exact x2
  unfold fX0_significandOf
  rw [show (3 : Int32) = nI 3 by decide, jshl_nat (by decide), e3]
  rw [Nat.pow_succ] at x3
  omega
theorem rd_n {z : Bool} {Y : Int64} {e : Nat} (hY : nat Y < 2 ^ (pP z + 4)) (h1 : 1 ≤ e) (h2 : e < 2 ^ 31) : nat (fX0_rounded z Y (nI e)) = rd z (nat Y) e := by
  have hp := pP_lt z
  have hb := pB_lt z
  have hT : 0 < 2 ^ pP z := Nat.two_pow_pos _
  have hP52 : 2 ^ pP z ≤ 2 ^ 52 := Nat.pow_le_pow_right (by decide) hp.2.2
  have h16 : 2 ^ (pP z + 4) = 16 * 2 ^ pP z := by rw [show pP z + 4 = 4 + pP z by omega, Nat.pow_add]
  have hE : fX0_exponentOf z (finf z) = nI (2 * pB z + 1) := by
    rw [exp_n (Nat.le_refl _), finf_n, Nat.mul_div_cancel _ hT]
    congr 1
  unfold fX0_rounded rd
  rw [hE]
  by_cases c : e < 2 * pB z + 1
  · rw [if_pos c, if_pos (by rw [Int32.lt_iff_toInt_lt, nI_toInt h2, nI_toInt (by omega)]; omega)]
    unfold fX0_rounded_s2 fX0_rounded_s3 fX0_rounded_s5 fX0_rounded_s8
    have hu : nat (jushr Y 3) = nat Y / 8 := by rw [show (3 : Int32) = nI 3 by decide, jushr_nat (by decide)]
    have hs : nat (Y &&& 7) = nat Y % 8 := nat_mask (k := 3) (by decide)
    have ho : nat (jushr Y 3 &&& 1) = nat Y / 8 % 2 := by rw [nat_mask (k := 1) (by decide), hu, Nat.pow_one]
    have he1 : nat ((nI e - 1).toInt64) = e - 1 := by
      have g1 : (nI e - 1).toInt = (e : Int) - 1 := by
        rw [Int32.toInt_sub, nI_toInt h2, show (1 : Int32).toInt = 1 by decide, Int.bmod_eq_of_le (by omega) (by omega)]
      have g2 := nat_int (a := (nI e - 1).toInt64) (by rw [Int32.toInt_toInt64, g1]; omega)
      have g3 := g2.1
      rw [Int32.toInt_toInt64, g1] at g3
      omega
    have hbb : (e - 1) * 2 ^ pP z ≤ 2046 * 2 ^ 52 := Nat.mul_le_mul (by omega) hP52
    have hx : nat (jshl ((nI e - 1).toInt64) (ffb z)) = (e - 1) * 2 ^ pP z := by
      rw [ffb_n, jshl_nat hp.1, he1, Nat.mod_eq_of_lt (by omega)]
    have h1n : nat (1 : Int64) = 1 := by decide
    have h4n : nat (4 : Int64) = 4 := by decide
    have u1 : nat (jushr Y 3 + 1) = nat Y / 8 + 1 := by rw [nat_add (by rw [hu, h1n]; omega), hu, h1n]
    have fin : ∀ w : Int64, nat w ≤ nat Y / 8 + 1 → nat (jshl ((nI e - 1).toInt64) (ffb z) + w) = (e - 1) * 2 ^ pP z + nat w := fun w hw => by
      rw [nat_add (by rw [hx]; omega), hx]
    have c4 : (4 : Int64) < (Y &&& 7) ↔ 4 < nat Y % 8 := by rw [nat_lt (by decide) (by rw [hs]; omega), h4n, hs]
    have c5 : (Y &&& 7) = (4 : Int64) ↔ nat Y % 8 = 4 := by rw [nat_eq, hs, h4n]
    have c6 : (jushr Y 3 &&& 1) = 1 ↔ nat Y / 8 % 2 = 1 := by rw [nat_eq, ho, h1n]
    unfold FP.Core.nearest
    by_cases d1 : 4 < nat Y % 8
    · rw [if_pos (c4.mpr d1), fin _ (by omega), u1, if_neg (by omega), if_pos (by omega)]
    · rw [if_neg (fun q => d1 (c4.mp q))]
      by_cases d2 : nat Y % 8 = 4
      · rw [if_pos (c5.mpr d2), if_neg (show ¬ 2 * (nat Y % 8) < 8 by omega), if_neg (show ¬ 8 < 2 * (nat Y % 8) by omega)]
        by_cases d3 : nat Y / 8 % 2 = 1
        · rw [if_pos (c6.mpr d3), fin _ (by omega), u1, d3]
        · rw [if_neg (fun q => d3 (c6.mp q)), fin _ (by omega), hu]
          omega
      · rw [if_neg (fun q => d2 (c5.mp q)), fin _ (by omega), hu, if_pos (by omega)]
  · rw [if_neg c, if_neg (by rw [Int32.lt_iff_toInt_lt, nI_toInt h2, nI_toInt (by omega)]; omega), finf_n]
