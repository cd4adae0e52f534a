/-! AS INTS -/
def tiV (z : Bool) (n : Nat) : Nat := xp_s z n * 2 ^ (n / 2 ^ pP z - (pP z + pB z)) / 2 ^ (pP z + pB z - n / 2 ^ pP z)
theorem ti_lt {z : Bool} {n : Nat} (h2 : n / 2 ^ pP z ≤ pB z + 30) : tiV z n < 2 ^ 31 := by
  obtain ⟨x1, x2, x3, x4⟩ := xp_spec z n
  unfold tiV
  generalize n / 2 ^ pP z = E at *
  rw [Nat.div_lt_iff_lt_mul (Nat.two_pow_pos _)]
  refine Nat.lt_of_lt_of_le (Nat.mul_lt_mul_of_pos_right x3 (Nat.two_pow_pos _)) ?_
  rw [← Nat.pow_add, ← Nat.pow_add]
  exact Nat.pow_le_pow_right (by decide) (by omega)
theorem ti_ge {z : Bool} {n : Nat} (h2 : pB z + 30 < n / 2 ^ pP z) : 2 ^ 31 ≤ tiV z n := by
  obtain ⟨x1, x2, x3, x4⟩ := xp_spec z n
  have hb := pB_lt z
  have e1 : xp_e z n = n / 2 ^ pP z := Nat.max_eq_right (by omega)
  have x5 : 2 ^ pP z ≤ xp_s z n := x4.resolve_left (by omega)
  unfold tiV
  generalize n / 2 ^ pP z = E at *
  rw [Nat.le_div_iff_mul_le (Nat.two_pow_pos _)]
  refine Nat.le_trans ?_ (Nat.mul_le_mul_right _ x5)
  rw [← Nat.pow_add, ← Nat.pow_add]
  exact Nat.pow_le_pow_right (by decide) (by omega)
theorem fm_q (z : Bool) : (fm z).qmin = 1 - (pB z : Int) - (pP z : Int) := by
  unfold FP.Core.Fmt.qmin
  rw [fm_emax, fm_p]; omega
theorem sg_f (V : Nat) : FP.Core.signed false V = (V : Int) := rfl
theorem sg_t (V : Nat) : FP.Core.signed true V = -(V : Int) := rfl
theorem ti_core {z s : Bool} {n : Nat} : FP.Core.toI (if n = inN z then .inf s else .fin s (xp_s z n) ((fm z).qmin + ((xp_e z n : Int) - 1))) = if n / 2 ^ pP z < pB z then 0 else (if pB z + 30 < n / 2 ^ pP z then (if s = true then (-2147483648) else 2147483647) else (if s = true then - nI (tiV z n) else nI (tiV z n))) := by
  have hb := pB_lt z
  have hT : 0 < 2 ^ pP z := Nat.two_pow_pos _
  obtain ⟨x1, x2, x3, x4⟩ := xp_spec z n
  by_cases c : n = inN z
  · have hE : n / 2 ^ pP z = 2 * pB z + 1 := by rw [c]; exact Nat.mul_div_cancel _ hT
    rw [if_pos c, hE, if_neg (by omega), if_pos (by omega)]
    cases s <;> decide
  · rw [if_neg c, fm_q]
    show Int32.ofInt (max (-2 ^ 31) (min (2 ^ 31 - 1) (FP.Core.signed s (xp_s z n * 2 ^ (1 - (pB z : Int) - (pP z : Int) + ((xp_e z n : Int) - 1)).toNat / 2 ^ (-(1 - (pB z : Int) - (pP z : Int) + ((xp_e z n : Int) - 1))).toNat)))) = _
    by_cases h1 : n / 2 ^ pP z < pB z
    · rw [if_pos h1]
      have e1 : xp_e z n < pB z := Nat.max_lt.mpr ⟨by omega, h1⟩
      have e2 : xp_s z n * 2 ^ (1 - (pB z : Int) - (pP z : Int) + ((xp_e z n : Int) - 1)).toNat / 2 ^ (-(1 - (pB z : Int) - (pP z : Int) + ((xp_e z n : Int) - 1))).toNat = 0 := by
        rw [show (1 - (pB z : Int) - (pP z : Int) + ((xp_e z n : Int) - 1)).toNat = 0 by omega, Nat.pow_zero, Nat.mul_one]
        exact Nat.div_eq_of_lt (Nat.lt_of_lt_of_le x3 (Nat.pow_le_pow_right (by decide) (by omega)))
      rw [e2]
      cases s <;> decide
    · rw [if_neg h1]
      have e1 : xp_e z n = n / 2 ^ pP z := Nat.max_eq_right (by omega)
      have e2 : xp_s z n * 2 ^ (1 - (pB z : Int) - (pP z : Int) + ((xp_e z n : Int) - 1)).toNat / 2 ^ (-(1 - (pB z : Int) - (pP z : Int) + ((xp_e z n : Int) - 1))).toNat = tiV z n := by
        unfold tiV
        rw [e1]
        generalize n / 2 ^ pP z = E at *
        rw [show (1 - (pB z : Int) - (pP z : Int) + ((E : Int) - 1)).toNat = E - (pP z + pB z) by omega, show (-(1 - (pB z : Int) - (pP z : Int) + ((E : Int) - 1))).toNat = pP z + pB z - E by omega]
      rw [e2]
      by_cases h2 : pB z + 30 < n / 2 ^ pP z
      · rw [if_pos h2]
        have h3 := ti_ge h2
        generalize tiV z n = V at *
        cases s
        · rw [sg_f, show max (-2 ^ 31) (min (2 ^ 31 - 1) (V : Int)) = 2147483647 by omega]; decide
        · rw [sg_t, show max (-2 ^ 31) (min (2 ^ 31 - 1) (-(V : Int))) = -2147483648 by omega]; decide
      · rw [if_neg h2]
        have h3 := ti_lt (Nat.not_lt.mp h2)
        generalize tiV z n = V at *
        cases s
        · rw [sg_f, show max (-2 ^ 31) (min (2 ^ 31 - 1) (V : Int)) = (V : Int) by omega, if_neg (by decide)]
          apply Int32.toInt_inj.mp
          rw [Int32.toInt_ofInt, nI_toInt h3, show Int32.size = 2 ^ 32 from rfl, Int.bmod_eq_of_le (by omega) (by omega)]
        · rw [sg_t, show max (-2 ^ 31) (min (2 ^ 31 - 1) (-(V : Int))) = -(V : Int) by omega, if_pos rfl]
          apply Int32.toInt_inj.mp
          rw [Int32.toInt_ofInt, Int32.toInt_neg, nI_toInt h3, show Int32.size = 2 ^ 32 from rfl]
theorem ti_n {so : Int32} {z : Bool} (h : rl so z) {v : Int64} (hv : vld so v) : fX0_toInt z v = FP.Core.toI (if nat (fX0_amount z v) = inN z then .inf (sb v) else .fin (sb v) (xp_s z (nat (fX0_amount z v))) ((fm z).qmin + ((xp_e z (nat (fX0_amount z v)) : Int) - 1))) := by
  have hp := pP_lt z
  have hb := pB_lt z
  have hT : 0 < 2 ^ pP z := Nat.two_pow_pos _
  have hP52 : 2 ^ pP z ≤ 2 ^ 52 := Nat.pow_le_pow_right (by decide) hp.2.2
  have hm := amv h hv
  rw [ti_core]
  unfold fX0_toInt fX0_toInt_s1
  generalize fX0_amount z v = m at *
  have hon := on_le hm
  by_cases h1 : nat m / 2 ^ pP z < pB z
  · rw [if_pos h1, if_neg (fun q => by rw [hon] at q; omega)]
  · rw [if_neg h1, if_pos (hon.mpr (by omega))]
    have hq : nat m / 2 ^ pP z ≤ 2 * pB z + 1 := by
      rw [finf_n] at hm
      exact Nat.div_le_of_le_mul (by rw [Nat.mul_comm]; exact hm)
    obtain ⟨x1, x2, x3, x4⟩ := xp_spec z (nat m)
    have e1 : xp_e z (nat m) = nat m / 2 ^ pP z := Nat.max_eq_right (by omega)
    have ex : fX0_exponentOf z m - fbi z = nI (nat m / 2 ^ pP z - pB z) := by
      rw [show fX0_exponentOf z m = nI (xp_e z (nat m)) from exp_n hm, e1, fbi_n, nI_sub (by omega)]
    have hfh : nat (fhi z - 1) = 2 ^ pP z - 1 := by
      rw [nat_sub (by rw [fhi_n, show nat (1 : Int64) = 1 by decide]; exact hT), fhi_n]; rfl
    have hsg : nat (fhi z ||| (m &&& (fhi z - 1))) = xp_s z (nat m) := by
      have hd := Nat.div_add_mod (nat m) (2 ^ pP z)
      have hml := Nat.mod_lt (nat m) hT
      rw [nat_or, fhi_n, nat_mask hfh]
      have h2 := Nat.two_pow_add_eq_or_of_lt hml 1
      rw [Nat.mul_one] at h2
      rw [← h2]
      rw [e1] at x2
      obtain ⟨F, hF⟩ : ∃ F, nat m / 2 ^ pP z = F + 1 := ⟨nat m / 2 ^ pP z - 1, by omega⟩
      rw [hF, Nat.add_sub_cancel] at x2
      rw [hF, Nat.mul_add, Nat.mul_one, Nat.mul_comm] at hd
      omega
    have hsv : (0 ≤ v) ↔ ¬ (sb v = true) := by
      by_cases h0 : 0 ≤ v
      · rw [sb_pos h0]; simp [h0]
      · rw [sb_neg h0]; simp [h0]
    unfold fX0_toInt_s3
    rw [ex]
    have c1 : nI (nat m / 2 ^ pP z - pB z) ≤ 30 ↔ ¬ pB z + 30 < nat m / 2 ^ pP z := by
      rw [Int32.le_iff_toInt_le, nI_toInt (by omega), show (30 : Int32).toInt = 30 by decide]
      generalize nat m / 2 ^ pP z = E at *
      omega
    by_cases h2 : pB z + 30 < nat m / 2 ^ pP z
    · rw [if_pos h2, if_neg (fun q => c1.mp q h2)]
      by_cases h0 : 0 ≤ v
      · rw [if_pos h0, if_neg (hsv.mp h0)]
      · rw [if_neg h0, if_pos (Decidable.not_not.mp (fun q => h0 (hsv.mpr q)))]
    · rw [if_neg h2, if_pos (c1.mpr h2)]
      have h3 := ti_lt (Nat.not_lt.mp h2)
      unfold fX0_toInt_s5 fX0_toInt_s7
      have hw : (if ffb z < nI (nat m / 2 ^ pP z - pB z) then jshl (fhi z ||| (m &&& (fhi z - 1))) (nI (nat m / 2 ^ pP z - pB z) - ffb z) else jushr (fhi z ||| (m &&& (fhi z - 1))) (ffb z - nI (nat m / 2 ^ pP z - pB z))).toInt32 = nI (tiV z (nat m)) := by
        apply toI32_n _ h3
        rw [ffb_n]
        have c2 : nI (pP z) < nI (nat m / 2 ^ pP z - pB z) ↔ pP z < nat m / 2 ^ pP z - pB z := by
          rw [Int32.lt_iff_toInt_lt, nI_toInt (by omega), nI_toInt (by omega)]
          omega
        unfold tiV at h3 ⊢
        generalize fhi z ||| (m &&& (fhi z - 1)) = g at *
        rw [← hsg] at h3 ⊢
        generalize nat m / 2 ^ pP z = E at *
        by_cases c3 : pP z < E - pB z
        · rw [if_pos (c2.mpr c3), nI_sub (by omega), jshl_nat (by omega), show pP z + pB z - E = 0 by omega, Nat.pow_zero, Nat.div_one, show E - pB z - pP z = E - (pP z + pB z) by omega]
          rw [show pP z + pB z - E = 0 by omega, Nat.pow_zero, Nat.div_one] at h3
          exact Nat.mod_eq_of_lt (by omega)
        · rw [if_neg (fun q => c3 (c2.mp q)), nI_sub (by omega), jushr_nat (by omega), show E - (pP z + pB z) = 0 by omega, Nat.pow_zero, Nat.mul_one, show pP z - (E - pB z) = pP z + pB z - E by omega]
      rw [hw]
      by_cases h0 : 0 ≤ v
      · rw [if_pos h0, if_neg (hsv.mp h0)]
      · rw [if_neg h0, if_pos (Decidable.not_not.mp (fun q => h0 (hsv.mpr q)))]
theorem rl_I {so : Int32} {z : Bool} (h : rl so z) {v : Int64} (hv : vld so v) : fX0_toInt z v = toI so v := by
  rw [ti_n h hv]
  have hm := amv h hv
  rw [inN_n] at hm
  rw [← dec_c hm]
  unfold toI
  rcases h with ⟨rfl, rfl⟩ | ⟨rfl, rfl⟩
  · rw [if_pos (rfl : (2 : Int32) = 2), ← bits2 hv]; rfl
  · rw [if_neg (by decide : ¬ (3 : Int32) = 2), if_pos (rfl : (3 : Int32) = 3), ← bits3]; rfl
/-! ALL OF IT -/
theorem ma_C : maC := by
  intro so hso kd v k h1 h2 h3
  rcases srt_cases hso with ⟨z, h⟩ | ⟨z, h⟩
  · rw [(wr_srt h).2.1, (wr_srt h).2.2]; exact wr_C h h1 h2 h3
  · rw [(rl_srt h).2.1, (rl_srt h).2.2]; exact rl_C h h1 h2 h3
theorem ma_D : maD := by
  intro so hso v w h1 h2
  rcases srt_cases hso with ⟨z, h⟩ | ⟨z, h⟩
  · rw [(wr_srt h).2.1, (wr_srt h).2.2]; exact wr_D h
  · rw [(rl_srt h).2.1, (rl_srt h).2.2]; exact rl_D h h1 h2
theorem ma_P : maP := by
  intro so hso s a h1 h2
  rcases srt_cases hso with ⟨z, h⟩ | ⟨z, h⟩
  · rw [(wr_srt h).2.1, (wr_srt h).2.2]; exact wr_P h s a
  · rw [(rl_srt h).2.1, (rl_srt h).2.2]; exact rl_P h h1 h2
theorem ma_Z : maZ := by
  intro so hso a h1
  rcases srt_cases hso with ⟨z, h⟩ | ⟨z, h⟩
  · exact wr_Z h h1
  · exact rl_Z h h1
theorem ma_I : maI := by
  intro so hso v h1
  rcases srt_cases hso with ⟨z, h⟩ | ⟨z, h⟩
  · rw [(wr_srt h).2.1, (wr_srt h).2.2]; exact wr_I h v
  · rw [(rl_srt h).2.1, (rl_srt h).2.2]; exact rl_I h h1
theorem ma_all : MATH := ⟨ma_W, ma_S, ma_N, ma_O, ma_A, ma_C, ma_D, ma_P, ma_Z, ma_I⟩
