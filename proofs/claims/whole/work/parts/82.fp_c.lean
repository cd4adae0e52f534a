/-! SUMS AND DIFFERENCES OF AMOUNTS, as naturals, against the machine's own -/
def inN (z : Bool) : Nat := (2 * pB z + 1) * 2 ^ pP z
def plN (z : Bool) (mo le : Nat) : Nat := if mo = inN z then inN z else (if 8 * xp_s z mo + sr (8 * xp_s z le) (xp_e z mo - xp_e z le) < 2 ^ (pP z + 4) then rd z (8 * xp_s z mo + sr (8 * xp_s z le) (xp_e z mo - xp_e z le)) (xp_e z mo) else rd z (sr (8 * xp_s z mo + sr (8 * xp_s z le) (xp_e z mo - xp_e z le)) 1) (xp_e z mo + 1))
def nmN (z : Bool) : Nat → Nat → Nat → Nat
  | 0, r, e => rd z r e
  | n + 1, r, e => if e ≤ 1 then rd z r e else if 2 ^ (pP z + 3) ≤ r then rd z r e else nmN z n (2 * r) (e - 1)
def miN (z : Bool) (mo le : Nat) : Nat := if mo = le then 0 else (if mo = inN z then inN z else nmN z (xp_e z mo) (8 * xp_s z mo - sr (8 * xp_s z le) (xp_e z mo - xp_e z le)) (xp_e z mo))
theorem rd_le {z : Bool} {Y e : Nat} (hY : Y < 2 ^ (pP z + 4)) : rd z Y e ≤ inN z := by
  have h8 : FP.Core.nearest Y 8 ≤ 2 * 2 ^ pP z := FP.Core.nearest_le (by decide) (by rw [show pP z + 4 = 4 + pP z by omega, Nat.pow_add] at hY; omega)
  unfold rd inN
  split
  · have h1 := Nat.mul_le_mul_right (2 ^ pP z) (show e - 1 ≤ 2 * pB z - 1 by omega)
    have hb := pB_lt z
    have h2 : (2 * pB z + 1) * 2 ^ pP z = (2 * pB z - 1) * 2 ^ pP z + 2 * 2 ^ pP z := by rw [← Nat.add_mul]; congr 1; omega
    omega
  · exact Nat.le_refl _
theorem val_le {z : Bool} {le mo : Nat} (h : le ≤ mo) : xp_e z le ≤ xp_e z mo ∧ xp_s z le ≤ xp_s z mo * 2 ^ (xp_e z mo - xp_e z le) ∧ (le < mo → xp_s z le < xp_s z mo * 2 ^ (xp_e z mo - xp_e z le)) := by
  obtain ⟨a1, a2, a3, a4⟩ := xp_spec z le
  obtain ⟨b1, b2, b3, b4⟩ := xp_spec z mo
  have hE : xp_e z le ≤ xp_e z mo := by
    unfold xp_e
    have := Nat.div_le_div_right (c := 2 ^ pP z) h
    omega
  refine ⟨hE, ?_⟩
  rcases Nat.lt_or_ge (xp_e z le) (xp_e z mo) with h1 | h1
  · have h2 : 2 ^ pP z ≤ xp_s z mo := b4.resolve_left (by omega)
    have h3 : 2 ^ 1 ≤ 2 ^ (xp_e z mo - xp_e z le) := Nat.pow_le_pow_right (by decide) (by omega)
    have h4 := Nat.mul_le_mul h2 h3
    rw [← Nat.pow_add] at h4
    omega
  · have h2 : xp_e z mo = xp_e z le := by omega
    rw [h2, Nat.sub_self, Nat.pow_zero, Nat.mul_one]
    rw [h2] at b2
    omega
theorem pl_core {z s : Bool} {mo le : Nat} (hm : mo < inN z) (h : le ≤ mo) : FP.Core.encode (fm z) (FP.Core.roundRatio (fm z) s (xp_s z mo * 2 ^ (xp_e z mo - xp_e z le) + xp_s z le) 1 ((fm z).qmin + ((xp_e z le : Int) - 1))) = s.toNat * fw z + plN z mo le ∧ plN z mo le ≤ inN z := by
  obtain ⟨a1, a2, a3, a4⟩ := xp_spec z le
  obtain ⟨b1, b2, b3, b4⟩ := xp_spec z mo
  obtain ⟨v1, v2, -⟩ := val_le (z := z) h
  unfold plN
  rw [if_neg (by omega)]
  have hd : xp_e z mo = xp_e z le + (xp_e z mo - xp_e z le) := by omega
  generalize hdd : xp_e z mo - xp_e z le = d at *
  generalize hN : xp_s z mo * 2 ^ d + xp_s z le = N
  have hT : 8 * xp_s z mo + sr (8 * xp_s z le) d = sr (8 * N) d := by rw [sr_add, ← hN, Nat.mul_add, Nat.mul_assoc]
  have e4 : ∀ j, 2 ^ (pP z + (j + 1)) = 2 * 2 ^ (pP z + j) := fun j => by rw [← Nat.add_assoc, Nat.pow_succ]; omega
  have hN4 : 8 * N < 2 ^ (pP z + 4) * 2 ^ (d + 1) := by
    have h1 : xp_s z mo * 2 ^ d < 2 ^ (pP z + 1) * 2 ^ d := Nat.mul_lt_mul_of_pos_right b3 (Nat.two_pow_pos _)
    have h2 : 2 ^ (pP z + 1) * 1 ≤ 2 ^ (pP z + 1) * 2 ^ d := Nat.mul_le_mul_left _ (Nat.two_pow_pos _)
    have h3 : 2 ^ (pP z + 4) * 2 ^ (d + 1) = 16 * (2 ^ (pP z + 1) * 2 ^ d) := by
      rw [← Nat.pow_add, ← Nat.pow_add, show 16 * 2 ^ (pP z + 1 + d) = 2 ^ 4 * 2 ^ (pP z + 1 + d) from rfl, ← Nat.pow_add]
      congr 1
      omega
    omega
  rw [hT]
  by_cases hN0 : N = 0
  · have h1 : xp_s z le = 0 := by omega
    have h2 : xp_s z mo * 2 ^ d = 0 := by omega
    have h3 : xp_s z mo = 0 := (Nat.mul_eq_zero.mp h2).resolve_right (by have := Nat.two_pow_pos d; omega)
    have hT0 := Nat.two_pow_pos (pP z)
    have h4 : xp_e z mo = 1 := b4.resolve_right (by omega)
    have h5 : sr (8 * N) d = 0 := by rw [hN0]; unfold sr; rw [Nat.mul_zero, Nat.zero_mod, if_pos rfl, Nat.zero_div]
    have h6 : rd z 0 1 = 0 := by
      have hb := pB_lt z
      unfold rd; rw [if_pos (by omega), Nat.sub_self, Nat.zero_mul]; decide
    rw [h5, if_pos (Nat.two_pow_pos _), h4, h6, hN0]
    refine ⟨?_, Nat.zero_le _⟩
    unfold FP.Core.roundRatio
    rw [if_pos rfl]
    show (if 0 < (fm z).tails then FP.Core.assemble (fm z) s 0 0 else _) = _
    rw [if_pos (by rw [fm_tails]; exact hT0), as_n, Nat.zero_mul]
  · by_cases hc : sr (8 * N) d < 2 ^ (pP z + 4)
    · rw [if_pos hc]
      refine ⟨enc_round (k := 0) (d := d) (by omega) a1 b1 (by omega) (sr_shift rfl (Or.inr (Or.inl rfl)) |>.trans (by rw [Nat.pow_zero, Nat.mul_one])) ((sr_shift_lt (k := 0) rfl (Or.inr (Or.inl rfl)) (by omega)).mp (by rw [Nat.pow_zero, Nat.mul_one]; exact hc)) ?_, rd_le hc⟩
      rcases b4 with h1 | h1
      · exact Or.inl h1
      · refine Or.inr (Nat.not_lt.mp (fun h2 => ?_))
        rw [← sr_shift_lt (k := 0) rfl (Or.inr (Or.inl rfl)) (by omega), Nat.pow_zero, Nat.mul_one, ← hT, show pP z + 3 = 3 + pP z by omega, Nat.pow_add] at h2
        omega
    · rw [if_neg hc, sr_sr]
      have h1 : sr (8 * N) (d + 1) < 2 ^ (pP z + 4) := sr_lt.mpr hN4
      refine ⟨enc_round (k := 0) (d := d + 1) (by omega) a1 (by omega) (by omega) (sr_shift rfl (Or.inr (Or.inl rfl)) |>.trans (by rw [Nat.pow_zero, Nat.mul_one])) (by rw [Nat.pow_zero, Nat.mul_one]; exact hN4) (Or.inr ?_), rd_le h1⟩
      have h2 := sr_le.mp (Nat.not_lt.mp hc)
      rw [Nat.pow_zero, Nat.mul_one, Nat.pow_succ 2 d, Nat.mul_comm (2 ^ d), ← Nat.mul_assoc, ← Nat.pow_succ]
      exact h2
/-- the loop of a difference -/
theorem nm_core {z s : Bool} {N Y d el : Nat} (hN : 0 < N) (hY : Y = sr (8 * N) d) (hel : 1 ≤ el) : ∀ (n k e : Nat), e + k = el + d → 1 ≤ e → e ≤ n + 1 → (Y * 2 ^ d = 8 * N ∨ (2 ^ (pP z + 2) ≤ Y ∧ k ≤ 1)) → Y * 2 ^ k < 2 ^ (pP z + 4) → FP.Core.encode (fm z) (FP.Core.roundRatio (fm z) s N 1 ((fm z).qmin + ((el : Int) - 1))) = s.toNat * fw z + nmN z n (Y * 2 ^ k) e ∧ nmN z n (Y * 2 ^ k) e ≤ inN z := by
  have stop : ∀ (k e : Nat), e + k = el + d → 1 ≤ e → (Y * 2 ^ d = 8 * N ∨ (2 ^ (pP z + 2) ≤ Y ∧ k ≤ 1)) → Y * 2 ^ k < 2 ^ (pP z + 4) → (e = 1 ∨ 2 ^ (pP z + 3) ≤ Y * 2 ^ k) → FP.Core.encode (fm z) (FP.Core.roundRatio (fm z) s N 1 ((fm z).qmin + ((el : Int) - 1))) = s.toNat * fw z + rd z (Y * 2 ^ k) e ∧ rd z (Y * 2 ^ k) e ≤ inN z := by
    intro k e h1 h2 h3 h4 h5
    have h6 : Y * 2 ^ d = 8 * N ∨ k = 0 ∨ k = 1 := h3.imp id (fun h => by omega)
    refine ⟨enc_round hN hel h2 h1 (sr_shift hY h6) ((sr_shift_lt hY h6 (by omega)).mp h4) (h5.imp id (fun h => Nat.not_lt.mp (fun h7 => ?_))), rd_le h4⟩
    have := (sr_shift_lt hY h6 (by omega)).mpr h7
    omega
  intro n
  induction n with
  | zero => intro k e h1 h2 h3 h4 h5; exact stop k e h1 h2 h4 h5 (Or.inl (by omega))
  | succ n ih =>
    intro k e h1 h2 h3 h4 h5
    show FP.Core.encode (fm z) _ = s.toNat * fw z + (if e ≤ 1 then rd z (Y * 2 ^ k) e else if 2 ^ (pP z + 3) ≤ Y * 2 ^ k then rd z (Y * 2 ^ k) e else nmN z n (2 * (Y * 2 ^ k)) (e - 1)) ∧ (if e ≤ 1 then rd z (Y * 2 ^ k) e else if 2 ^ (pP z + 3) ≤ Y * 2 ^ k then rd z (Y * 2 ^ k) e else nmN z n (2 * (Y * 2 ^ k)) (e - 1)) ≤ inN z
    by_cases c1 : e ≤ 1
    · rw [if_pos c1]; exact stop k e h1 h2 h4 h5 (Or.inl (by omega))
    · rw [if_neg c1]
      by_cases c2 : 2 ^ (pP z + 3) ≤ Y * 2 ^ k
      · rw [if_pos c2]; exact stop k e h1 h2 h4 h5 (Or.inr c2)
      · rw [if_neg c2]
        have e1 : 2 * (Y * 2 ^ k) = Y * 2 ^ (k + 1) := by rw [Nat.pow_succ, ← Nat.mul_assoc Y, Nat.mul_comm]
        have e3 : 2 ^ (pP z + 3) = 2 * 2 ^ (pP z + 2) := by rw [Nat.pow_succ]; omega
        have e4 : 2 ^ (pP z + 4) = 2 * 2 ^ (pP z + 3) := by rw [Nat.pow_succ]; omega
        have := ih (k + 1) (e - 1) (by omega) (by omega) (by omega) (h4.imp id (fun h => ⟨h.1, by
          have hk : k = 0 ∨ k = 1 := by omega
          rcases hk with rfl | rfl
          · omega
          · rw [Nat.pow_one] at c2; omega⟩)) (by omega)
        rw [← e1] at this
        exact this
theorem mi_core {z s : Bool} {mo le : Nat} (hm : mo < inN z) (h : le < mo) : FP.Core.encode (fm z) (FP.Core.roundRatio (fm z) s (xp_s z mo * 2 ^ (xp_e z mo - xp_e z le) - xp_s z le) 1 ((fm z).qmin + ((xp_e z le : Int) - 1))) = s.toNat * fw z + miN z mo le ∧ miN z mo le ≤ inN z := by
  obtain ⟨a1, a2, a3, a4⟩ := xp_spec z le
  obtain ⟨b1, b2, b3, b4⟩ := xp_spec z mo
  obtain ⟨v1, v2, v3⟩ := val_le (z := z) (Nat.le_of_lt h)
  have v3 := v3 h
  unfold miN
  rw [if_neg (by omega), if_neg (by omega)]
  generalize hdd : xp_e z mo - xp_e z le = d at *
  generalize hN : xp_s z mo * 2 ^ d - xp_s z le = N
  have e8 : 8 * xp_s z mo * 2 ^ d = 8 * (xp_s z mo * 2 ^ d) := Nat.mul_assoc _ _ _
  obtain ⟨t1, t2⟩ := sr_sub (M := xp_s z mo) (L := xp_s z le) (d := d) (by omega)
  have hX : 8 * xp_s z mo * 2 ^ d - 8 * xp_s z le = 8 * N := by omega
  rw [hX] at t1
  have e1 : 2 ^ (pP z + 1) = 2 * 2 ^ pP z := by rw [Nat.pow_succ]; omega
  have e2 : 2 ^ (pP z + 2) = 4 * 2 ^ pP z := by rw [show pP z + 2 = 2 + pP z by omega, Nat.pow_add]
  have e4 : 2 ^ (pP z + 4) = 16 * 2 ^ pP z := by rw [show pP z + 4 = 4 + pP z by omega, Nat.pow_add]
  have hY4 : sr (8 * N) d < 2 ^ (pP z + 4) := by rw [t1]; omega
  have key := nm_core (s := s) (z := z) (N := N) (Y := sr (8 * N) d) (d := d) (el := xp_e z le) (by omega) rfl a1 (xp_e z mo) 0 (xp_e z mo) (by omega) b1 (by omega) ?_ (by rw [Nat.pow_zero, Nat.mul_one]; exact hY4)
  · rw [Nat.pow_zero, Nat.mul_one, t1] at key
    exact key
  · rcases Nat.lt_or_ge d 4 with h4 | h4
    · left
      have hdiv : 8 * N % 2 ^ d = 0 := by
        have h5 : d = 0 ∨ d = 1 ∨ d = 2 ∨ d = 3 := by omega
        rcases h5 with rfl | rfl | rfl | rfl <;> omega
      unfold sr
      rw [if_pos hdiv]
      exact Nat.div_mul_cancel (Nat.dvd_of_mod_eq_zero hdiv)
    · right
      refine ⟨?_, by omega⟩
      have h5 : 2 ^ pP z ≤ xp_s z mo := b4.resolve_left (by omega)
      have h6 : sr (8 * xp_s z le) d < 2 ^ (pP z + 1) := by
        rw [sr_lt]
        have h7 : 2 ^ 4 ≤ 2 ^ d := Nat.pow_le_pow_right (by decide) h4
        have h8 := Nat.mul_le_mul_left (2 ^ (pP z + 1)) h7
        omega
      rw [t1]
      omega
