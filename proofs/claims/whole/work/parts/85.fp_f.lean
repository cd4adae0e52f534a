theorem pl_n2 {z : Bool} {a b : Int64} (ha : nat a ≤ nat (finf z)) (hb : nat b ≤ nat (finf z)) : nat (fX0_plus z a b) = plN z (max (nat a) (nat b)) (min (nat a) (nat b)) := by
  have hp := pP_lt z
  have hB := pB_lt z
  have hP52 : 2 ^ pP z ≤ 2 ^ 52 := Nat.pow_le_pow_right (by decide) hp.2.2
  have hT : 0 < 2 ^ pP z := Nat.two_pow_pos _
  have h16 : 2 ^ (pP z + 4) = 16 * 2 ^ pP z := by rw [show pP z + 4 = 4 + pP z by omega, Nat.pow_add]
  have key : ∀ x y : Int64, nat x ≤ nat (finf z) → nat y ≤ nat x → nat (fX0_plus_s2 z a b x y) = plN z (nat x) (nat y) := by
    intro x y hx hy
    have hy2 : nat y ≤ nat (finf z) := Nat.le_trans hy hx
    unfold fX0_plus_s2 plN
    have c0 : x = finf z ↔ nat x = inN z := by rw [nat_eq, finf_n]; rfl
    by_cases c : nat x = inN z
    · rw [if_pos (c0.mpr c), if_pos c, finf_n]; rfl
    · rw [if_neg (fun q => c (c0.mp q)), if_neg c]
      obtain ⟨a1, a2, a3, a4⟩ := xp_spec z (nat y)
      obtain ⟨b1, b2, b3, b4⟩ := xp_spec z (nat x)
      obtain ⟨v1, v2, -⟩ := val_le (z := z) hy
      have hE : xp_e z (nat x) ≤ 2 * pB z + 1 := by
        have hq : nat x / 2 ^ pP z ≤ 2 * pB z + 1 := by
          rw [finf_n] at hx
          exact Nat.div_le_of_le_mul (by rw [Nat.mul_comm]; exact hx)
        unfold xp_e
        exact Nat.max_le.mpr ⟨by omega, hq⟩
      have ex : fX0_exponentOf z x = nI (xp_e z (nat x)) := exp_n hx
      have ey : fX0_exponentOf z y = nI (xp_e z (nat y)) := exp_n hy2
      rw [Nat.pow_succ] at a3 b3
      have hs : nat (fX0_shiftedRight (fX0_significandOf z y) (fX0_exponentOf z x - fX0_exponentOf z y)) = sr (8 * xp_s z (nat y)) (xp_e z (nat x) - xp_e z (nat y)) := by
        rw [ex, ey, nI_sub v1, shr_n (by rw [sig_n hy2]; omega) (by omega), sig_n hy2]
      have hsl : sr (8 * xp_s z (nat y)) (xp_e z (nat x) - xp_e z (nat y)) < 16 * 2 ^ pP z := by
        rw [← h16, sr_lt]
        exact Nat.lt_of_lt_of_le (show _ < 2 ^ (pP z + 4) by omega) (Nat.le_mul_of_pos_right _ (Nat.two_pow_pos _))
      have ht : nat (fX0_significandOf z x + fX0_shiftedRight (fX0_significandOf z y) (fX0_exponentOf z x - fX0_exponentOf z y)) = 8 * xp_s z (nat x) + sr (8 * xp_s z (nat y)) (xp_e z (nat x) - xp_e z (nat y)) := by
        rw [nat_add (by rw [sig_n hx, hs]; omega), sig_n hx, hs]
      unfold fX0_plus_s4 fX0_plus_s5 fX0_plus_s7
      generalize fX0_significandOf z x + fX0_shiftedRight (fX0_significandOf z y) (fX0_exponentOf z x - fX0_exponentOf z y) = t at ht ⊢
      have htl : nat t < 2 ^ 63 := by omega
      have hj : nat (jshl (fhi z) 4) = 2 ^ (pP z + 4) := by
        rw [show (4 : Int32) = nI 4 by decide, jshl_nat (by decide), fhi_n, Nat.mod_eq_of_lt (by omega), ← Nat.pow_add]
      have c1 : t < jshl (fhi z) 4 ↔ nat t < 2 ^ (pP z + 4) := by rw [nat_lt htl (by rw [hj]; omega), hj]
      rw [← ht]
      by_cases c2 : nat t < 2 ^ (pP z + 4)
      · rw [if_pos (c1.mpr c2), if_pos c2, ex, rd_n c2 b1 (by omega)]
      · rw [if_neg (fun q => c2 (c1.mp q)), if_neg c2]
        have e1 : nat (fX0_shiftedRight t 1) = sr (nat t) 1 := by
          rw [show (1 : Int32) = nI 1 by decide, shr_n htl (by decide)]
        have e2 : sr (nat t) 1 < 2 ^ (pP z + 4) := sr_lt.mpr (show nat t < 2 ^ (pP z + 4) * 2 ^ 1 by rw [h16]; omega)
        rw [ex, show nI (xp_e z (nat x)) + 1 = nI (xp_e z (nat x) + 1) from nI_add _ 1, rd_n (by rw [e1]; exact e2) (by omega) (by omega), e1]
  unfold fX0_plus fX0_plus_s1
  by_cases c : b < a
  · have c' := c
    rw [nat_lt (am_n hb) (am_n ha)] at c'
    rw [if_pos c, if_pos c, key a b ha (Nat.le_of_lt c'), Nat.max_eq_left (Nat.le_of_lt c'), Nat.min_eq_right (Nat.le_of_lt c')]
  · have c' := c
    rw [nat_lt (am_n hb) (am_n ha)] at c'
    rw [if_neg c, if_neg c, key b a hb (by omega), Nat.max_eq_right (by omega), Nat.min_eq_left (by omega)]
theorem nm_n {z : Bool} : ∀ (n : Nat) (r : Int64) (e : Nat), nat r < 2 ^ (pP z + 4) → 1 ≤ e → e < 2 ^ 31 → nat (fX0_norm z n r (nI e)) = nmN z n (nat r) e := by
  have hp := pP_lt z
  have hP52 : 2 ^ pP z ≤ 2 ^ 52 := Nat.pow_le_pow_right (by decide) hp.2.2
  have h16 : 2 ^ (pP z + 4) = 16 * 2 ^ pP z := by rw [show pP z + 4 = 4 + pP z by omega, Nat.pow_add]
  have h8 : 2 ^ (pP z + 3) = 8 * 2 ^ pP z := by rw [show pP z + 3 = 3 + pP z by omega, Nat.pow_add]
  have hj : nat (jshl (fhi z) 3) = 2 ^ (pP z + 3) := by
    rw [show (3 : Int32) = nI 3 by decide, jshl_nat (by decide), fhi_n, Nat.mod_eq_of_lt (by omega), ← Nat.pow_add]
  intro n
  induction n with
  | zero => intro r e h1 h2 h3; exact rd_n h1 h2 h3
  | succ n ih =>
    intro r e h1 h2 h3
    rw [fX0_norm_s]
    show _ = if e ≤ 1 then rd z (nat r) e else if 2 ^ (pP z + 3) ≤ nat r then rd z (nat r) e else nmN z n (2 * nat r) (e - 1)
    have c1 : nI e ≤ 1 ↔ e ≤ 1 := by rw [Int32.le_iff_toInt_le, nI_toInt h3, show (1 : Int32).toInt = 1 by decide]; omega
    have c2 : jshl (fhi z) 3 ≤ r ↔ 2 ^ (pP z + 3) ≤ nat r := by rw [nat_le (by rw [hj]; omega) (by omega), hj]
    by_cases d1 : e ≤ 1
    · rw [if_pos (c1.mpr d1), if_pos d1, rd_n h1 h2 h3]
    · rw [if_neg (fun q => d1 (c1.mp q)), if_neg d1]
      by_cases d2 : 2 ^ (pP z + 3) ≤ nat r
      · rw [if_pos (c2.mpr d2), if_pos d2, rd_n h1 h2 h3]
      · rw [if_neg (fun q => d2 (c2.mp q)), if_neg d2]
        have e1 : nat (jshl r 1) = 2 * nat r := by
          rw [show (1 : Int32) = nI 1 by decide, jshl_nat (by decide)]; omega
        have e2 : nI e + (-1) = nI (e - 1) := by
          apply Int32.toInt_inj.mp
          rw [mw_dec (fun q => d1 (c1.mp q)), nI_toInt h3, nI_toInt (by omega)]; omega
        rw [e2, ih _ _ (by rw [e1]; omega) (by omega) (by omega), e1]
theorem mi_n {z : Bool} {a b : Int64} (ha : nat a ≤ nat (finf z)) (hy : nat b ≤ nat a) : nat (fX0_minus z a b) = miN z (nat a) (nat b) := by
  have hp := pP_lt z
  have hB := pB_lt z
  have hP52 : 2 ^ pP z ≤ 2 ^ 52 := Nat.pow_le_pow_right (by decide) hp.2.2
  have hT : 0 < 2 ^ pP z := Nat.two_pow_pos _
  have h16 : 2 ^ (pP z + 4) = 16 * 2 ^ pP z := by rw [show pP z + 4 = 4 + pP z by omega, Nat.pow_add]
  have hb : nat b ≤ nat (finf z) := Nat.le_trans hy ha
  unfold fX0_minus miN
  have c00 : a = b ↔ nat a = nat b := nat_eq
  by_cases c9 : nat a = nat b
  · rw [if_pos (c00.mpr c9), if_pos c9]; decide
  · rw [if_neg (fun q => c9 (c00.mp q)), if_neg c9]
    have c0 : a = finf z ↔ nat a = inN z := by rw [nat_eq, finf_n]; rfl
    by_cases c : nat a = inN z
    · rw [if_pos (c0.mpr c), if_pos c, finf_n]; rfl
    · rw [if_neg (fun q => c (c0.mp q)), if_neg c]
      obtain ⟨a1, a2, a3, a4⟩ := xp_spec z (nat b)
      obtain ⟨b1, b2, b3, b4⟩ := xp_spec z (nat a)
      obtain ⟨v1, v2, -⟩ := val_le (z := z) hy
      have hE : xp_e z (nat a) ≤ 2 * pB z + 1 := by
        have hq : nat a / 2 ^ pP z ≤ 2 * pB z + 1 := by
          rw [finf_n] at ha
          exact Nat.div_le_of_le_mul (by rw [Nat.mul_comm]; exact ha)
        unfold xp_e
        exact Nat.max_le.mpr ⟨by omega, hq⟩
      have ex : fX0_exponentOf z a = nI (xp_e z (nat a)) := exp_n ha
      have ey : fX0_exponentOf z b = nI (xp_e z (nat b)) := exp_n hb
      rw [Nat.pow_succ] at a3 b3
      have hs : nat (fX0_shiftedRight (fX0_significandOf z b) (fX0_exponentOf z a - fX0_exponentOf z b)) = sr (8 * xp_s z (nat b)) (xp_e z (nat a) - xp_e z (nat b)) := by
        rw [ex, ey, nI_sub v1, shr_n (by rw [sig_n hb]; omega) (by omega), sig_n hb]
      have t2 := (sr_sub (M := xp_s z (nat a)) (L := xp_s z (nat b)) (d := xp_e z (nat a) - xp_e z (nat b)) (by rw [Nat.mul_assoc]; omega)).2
      have ht : nat (fX0_significandOf z a - fX0_shiftedRight (fX0_significandOf z b) (fX0_exponentOf z a - fX0_exponentOf z b)) = 8 * xp_s z (nat a) - sr (8 * xp_s z (nat b)) (xp_e z (nat a) - xp_e z (nat b)) := by
        rw [nat_sub (by rw [sig_n ha, hs]; exact t2), sig_n ha, hs]
      unfold fX0_minus_s3 fX0_minus_s4
      rw [← ht]
      generalize fX0_significandOf z a - fX0_shiftedRight (fX0_significandOf z b) (fX0_exponentOf z a - fX0_exponentOf z b) = t at ht ⊢
      rw [ex, nI_clamp (by omega), nm_n _ _ _ (by omega) b1 (by omega)]
