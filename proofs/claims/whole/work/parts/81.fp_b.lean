/-! ROUNDING, over naturals -/
def fm (z : Bool) : FP.Core.Fmt := if z = true then FP.Core.b64 else FP.Core.b32
theorem fm_good (z : Bool) : FP.Core.Good (fm z) := by
  cases z
  · exact FP.Core.good_b32
  · exact FP.Core.good_b64
theorem fm_p (z : Bool) : (fm z).p = pP z + 1 := by cases z <;> rfl
theorem fm_tails (z : Bool) : (fm z).tails = 2 ^ pP z := by cases z <;> decide
theorem fm_emax (z : Bool) : (fm z).emax = pB z := by cases z <;> decide
theorem fm_exps (z : Bool) : (fm z).exps = 2 * pB z + 2 := by cases z <;> decide
/-- the weight of the sign -/
def fw (z : Bool) : Nat := (2 * pB z + 2) * 2 ^ pP z
def rd (z : Bool) (Y e : Nat) : Nat := if e < 2 * pB z + 1 then (e - 1) * 2 ^ pP z + FP.Core.nearest Y 8 else (2 * pB z + 1) * 2 ^ pP z
theorem as_n {z s : Bool} {e t : Nat} : FP.Core.assemble (fm z) s e t = s.toNat * fw z + (e * 2 ^ pP z + t) := by
  unfold FP.Core.assemble fw
  rw [fm_tails, fm_exps, Nat.add_mul, Nat.mul_assoc, Nat.add_assoc]
theorem enc_settle {z s : Bool} {c e : Nat} (he : 1 ≤ e) (h1 : c ≤ 2 ^ (pP z + 1)) (h2 : e = 1 ∨ 2 ^ pP z ≤ c) : FP.Core.encode (fm z) (FP.Core.settle (fm z) s c ((fm z).qmin + ((e : Int) - 1))) = s.toNat * fw z + (if e < 2 * pB z + 1 then (e - 1) * 2 ^ pP z + c else (2 * pB z + 1) * 2 ^ pP z) := by
  have hq := FP.Core.qmax_qmin (fm z)
  have hb := pB_lt z
  rw [fm_emax] at hq
  have hT : 0 < 2 ^ pP z := Nat.two_pow_pos _
  have hi : FP.Core.encode (fm z) (.inf s) = s.toNat * fw z + (2 * pB z + 1) * 2 ^ pP z := by
    show FP.Core.assemble (fm z) s ((fm z).exps - 1) 0 = _
    rw [as_n, fm_exps]; rfl
  unfold FP.Core.settle FP.Core.bound
  rw [fm_p]
  by_cases hc : c < 2 ^ (pP z + 1)
  · rw [if_pos hc]
    by_cases he2 : e < 2 * pB z + 1
    · rw [if_pos (by omega), if_pos he2]
      show (if c < (fm z).tails then FP.Core.assemble (fm z) s 0 c else FP.Core.assemble (fm z) s (((fm z).qmin + ((e : Int) - 1) - (fm z).qmin).toNat + 1) (c - (fm z).tails)) = _
      rw [show ((fm z).qmin + ((e : Int) - 1) - (fm z).qmin).toNat + 1 = e by omega, fm_tails, as_n, as_n]
      by_cases h3 : c < 2 ^ pP z
      · have h4 : e = 1 := by omega
        subst h4
        rw [if_pos h3]
      · rw [if_neg h3]
        obtain ⟨e', rfl⟩ : ∃ e', e = e' + 1 := ⟨e - 1, by omega⟩
        rw [Nat.add_sub_cancel, Nat.add_mul, Nat.one_mul]
        omega
    · rw [if_neg (by omega), if_neg he2, hi]
  · have hc2 : c = 2 * 2 ^ pP z := by rw [Nat.pow_succ] at hc h1; omega
    rw [if_neg hc]
    by_cases he2 : e < 2 * pB z
    · rw [if_pos (by omega), if_pos (by omega)]
      show (if (fm z).tails < (fm z).tails then FP.Core.assemble (fm z) s 0 (fm z).tails else FP.Core.assemble (fm z) s (((fm z).qmin + ((e : Int) - 1) + 1 - (fm z).qmin).toNat + 1) ((fm z).tails - (fm z).tails)) = _
      rw [if_neg (Nat.lt_irrefl _), show ((fm z).qmin + ((e : Int) - 1) + 1 - (fm z).qmin).toNat + 1 = e + 1 by omega, as_n, Nat.sub_self, hc2]
      obtain ⟨e', rfl⟩ : ∃ e', e = e' + 1 := ⟨e - 1, by omega⟩
      rw [Nat.add_sub_cancel, Nat.add_assoc, Nat.add_mul e' (1 + 1)]
      omega
    · rw [if_neg (by omega), hi]
      by_cases he3 : e < 2 * pB z + 1
      · have h4 : e = 2 * pB z := by omega
        rw [if_pos he3, hc2, h4, ← Nat.add_mul]
        congr 2
        omega
      · rw [if_neg he3]
theorem enc_round {z s : Bool} {N d k el e Y : Nat} (hN : 0 < N) (hel : 1 ≤ el) (he : 1 ≤ e) (hek : e + k = el + d) (h1 : FP.Core.nearest (8 * N * 2 ^ k) (8 * 2 ^ d) = FP.Core.nearest Y 8) (h2 : 8 * N * 2 ^ k < 2 ^ (pP z + 4) * 2 ^ d) (h3 : e = 1 ∨ 2 ^ (pP z + 3) * 2 ^ d ≤ 8 * N * 2 ^ k) : FP.Core.encode (fm z) (FP.Core.roundRatio (fm z) s N 1 ((fm z).qmin + ((el : Int) - 1))) = s.toNat * fw z + rd z Y e := by
  have hA : 0 < N * 2 ^ k := Nat.mul_pos hN (Nat.two_pow_pos _)
  have hB := Nat.two_pow_pos d
  have hA2 : N * 2 ^ k < 2 ^ (pP z + 1) * 2 ^ d := by
    have h4 : 2 ^ (pP z + 4) * 2 ^ d = 8 * (2 ^ (pP z + 1) * 2 ^ d) := by
      rw [show pP z + 4 = 3 + (pP z + 1) by omega, Nat.pow_add 2 3, Nat.mul_assoc]
    rw [Nat.mul_assoc, h4] at h2
    omega
  have hA3 : e = 1 ∨ 2 ^ pP z * 2 ^ d ≤ N * 2 ^ k := by
    have h4 : 2 ^ (pP z + 3) * 2 ^ d = 8 * (2 ^ pP z * 2 ^ d) := by
      rw [show pP z + 3 = 3 + pP z by omega, Nat.pow_add 2 3, Nat.mul_assoc]
    rw [Nat.mul_assoc, h4] at h3
    omega
  have hc : FP.Core.nearest (N * 2 ^ k) (2 ^ d) = FP.Core.nearest Y 8 := by
    rw [← h1, Nat.mul_assoc, Nat.mul_comm 8, Nat.mul_comm 8, FP.Core.nearest_scale _ _ _ (by decide)]
  have hcg : N * 2 ^ d * 2 ^ (((fm z).qmin + ((el : Int) - 1)) - ((fm z).qmin + ((e : Int) - 1))).toNat = N * 2 ^ k * 1 * 2 ^ (((fm z).qmin + ((e : Int) - 1)) - ((fm z).qmin + ((el : Int) - 1))).toNat := by
    rw [Nat.mul_one, Nat.mul_assoc, Nat.mul_assoc, ← Nat.pow_add, ← Nat.pow_add]
    congr 2
    omega
  rw [FP.Core.roundRatio_congr (by decide) hB hcg]
  generalize hq : (fm z).qmin + ((e : Int) - 1) = q
  have hbl : ∀ j : Nat, FP.Core.Below (N * 2 ^ k) (2 ^ d) (q - q + (j : Int)) ↔ N * 2 ^ k < 2 ^ j * 2 ^ d := fun j => by
    rw [← FP.Core.units_below]
    simp only [FP.Core.unitsNum, FP.Core.unitsDen, Int.sub_self, Int.toNat_zero, Nat.pow_zero, Nat.mul_one]
  unfold FP.Core.roundRatio
  rw [if_neg (by omega), FP.Core.quantum_eq (q := q) hA hB (by omega) (by rw [fm_p, hbl]; exact hA2) (by
    rw [fm_p, show (((pP z + 1 : Nat) : Int) - 1) = ((pP z : Nat) : Int) by omega, hbl]
    rcases hA3 with h | h
    · exact Or.inl (by omega)
    · exact Or.inr (Nat.not_lt.mpr h))]
  unfold FP.Core.roundAt
  simp only [FP.Core.unitsNum, FP.Core.unitsDen, Int.sub_self, Int.toNat_zero, Nat.pow_zero, Nat.mul_one]
  rw [← hq, enc_settle he (FP.Core.nearest_le hB (Nat.le_of_lt hA2)) (hA3.imp id (fun h => FP.Core.nearest_ge hB h)), hc]
  rfl
/-! EXPONENT AND SIGNIFICAND OF AN AMOUNT, as naturals -/
def xp_e (z : Bool) (n : Nat) : Nat := max 1 (n / 2 ^ pP z)
def xp_s (z : Bool) (n : Nat) : Nat := n - (xp_e z n - 1) * 2 ^ pP z
theorem xp_spec (z : Bool) (n : Nat) : 1 ≤ xp_e z n ∧ n = (xp_e z n - 1) * 2 ^ pP z + xp_s z n ∧ xp_s z n < 2 ^ (pP z + 1) ∧ (xp_e z n = 1 ∨ 2 ^ pP z ≤ xp_s z n) := by
  have hT : 0 < 2 ^ pP z := Nat.two_pow_pos _
  have hd := Nat.div_add_mod n (2 ^ pP z)
  have hm := Nat.mod_lt n hT
  unfold xp_s xp_e
  rw [Nat.pow_succ]
  generalize n / 2 ^ pP z = E at *
  generalize n % 2 ^ pP z = R at *
  generalize 2 ^ pP z = T at *
  rcases Nat.lt_or_ge E 2 with h | h
  · have e1 : max 1 E = 1 := by omega
    rw [e1, Nat.sub_self, Nat.zero_mul]
    have h2 : E = 0 ∨ E = 1 := by omega
    rcases h2 with rfl | rfl
    · omega
    · omega
  · have e1 : max 1 E = E := by omega
    obtain ⟨F, rfl⟩ : ∃ F, E = F + 1 := ⟨E - 1, by omega⟩
    rw [e1, Nat.add_sub_cancel]
    rw [Nat.mul_add, Nat.mul_one, Nat.mul_comm] at hd
    omega
theorem dec_n {z s : Bool} {n : Nat} (h : n < (2 * pB z + 1) * 2 ^ pP z) : FP.Core.decode (fm z) (s.toNat * fw z + n) = .fin s (xp_s z n) ((fm z).qmin + ((xp_e z n : Int) - 1)) := by
  have hT : 0 < 2 ^ pP z := Nat.two_pow_pos _
  have hd := Nat.div_add_mod n (2 ^ pP z)
  have hm := Nat.mod_lt n hT
  have hE : n / 2 ^ pP z < 2 * pB z + 1 := (Nat.div_lt_iff_lt_mul hT).mpr h
  have e0 : s.toNat * fw z + n = FP.Core.assemble (fm z) s (n / 2 ^ pP z) (n % 2 ^ pP z) := by
    rw [as_n, Nat.mul_comm (n / 2 ^ pP z), hd]
  rw [e0, FP.Core.decode_assemble _ _ _ _ (by rw [fm_exps]; omega) (by rw [fm_tails]; exact hm), fm_exps, fm_tails, if_neg (by omega)]
  obtain ⟨x1, x2, x3, x4⟩ := xp_spec z n
  by_cases hz : n / 2 ^ pP z = 0
  · have e1 : xp_e z n = 1 := by unfold xp_e; omega
    rw [if_pos hz, e1]
    rw [e1, Nat.sub_self, Nat.zero_mul, Nat.zero_add] at x2
    rw [hz, Nat.mul_zero, Nat.zero_add] at hd
    rw [hd, ← x2]
    simp
  · have e1 : xp_e z n = n / 2 ^ pP z := Nat.max_eq_right (Nat.pos_of_ne_zero hz)
    rw [if_neg hz, ← e1]
    have e2 : 2 ^ pP z + n % 2 ^ pP z = xp_s z n := by
      rw [← e1] at hd
      obtain ⟨F, hF⟩ : ∃ F, xp_e z n = F + 1 := ⟨xp_e z n - 1, by omega⟩
      rw [hF, Nat.mul_add, Nat.mul_one, Nat.mul_comm] at hd
      rw [hF, Nat.add_sub_cancel] at x2
      omega
    rw [e2]
theorem dec_inf {z s : Bool} : FP.Core.decode (fm z) (s.toNat * fw z + (2 * pB z + 1) * 2 ^ pP z) = .inf s := by
  have e0 : s.toNat * fw z + (2 * pB z + 1) * 2 ^ pP z = FP.Core.assemble (fm z) s (2 * pB z + 1) 0 := by rw [as_n]; rfl
  rw [e0, FP.Core.decode_assemble _ _ _ _ (by rw [fm_exps]; omega) (by rw [fm_tails]; exact Nat.two_pow_pos _), fm_exps, if_pos (rfl : (0 : Nat) = 0), if_pos (by omega)]
