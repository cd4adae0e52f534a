/-! DOWN, UP, NEAREST -/
def gD (z : Bool) (how : Int32) (v m : Int64) : Int64 := if how = 3 then (if 0 ≤ v then fX0_cut z m else fX0_raised z m) else (if how = 4 then (if 0 ≤ v then fX0_raised z m else fX0_cut z m) else fX0_nearest z m)
theorem fs_gD {z : Bool} {how : Int32} {v k : Int64} (hh : how = 3 ∨ how = 4 ∨ how = 5) : fX0_furtherStepped z how v k = fX0_withSignOf z v (gD z how v (fX0_amount z v)) := by
  unfold fX0_furtherStepped fX0_furtherStepped_s1 gD
  rcases hh with rfl | rfl | rfl
  · rw [if_pos (rfl : (3 : Int32) = 3), if_pos (rfl : (3 : Int32) = 3)]
  · rw [if_neg (by decide : ¬ (4 : Int32) = 3), if_neg (by decide : ¬ (4 : Int32) = 3), if_pos (rfl : (4 : Int32) = 4), if_pos (rfl : (4 : Int32) = 4)]
  · rw [if_neg (by decide : ¬ (5 : Int32) = 3), if_neg (by decide : ¬ (5 : Int32) = 3), if_neg (by decide : ¬ (5 : Int32) = 4), if_neg (by decide : ¬ (5 : Int32) = 4), if_pos (rfl : (5 : Int32) = 5)]
theorem gD_same {z : Bool} {how : Int32} {v m x : Int64} (h1 : fX0_cut z m = x) (h2 : fX0_raised z m = x) (h3 : fX0_nearest z m = x) : gD z how v m = x := by
  unfold gD; rw [h1, h2, h3]; simp
theorem gD_up {so : Int32} {z : Bool} {how : Int32} {v m lo hi : Int64} {w : Int32} (hh : how = 3 ∨ how = 4 ∨ how = 5) (h1 : fX0_cut z m = lo) (h2 : fX0_raised z m = hi) (h3 : fX0_nearest z m = if w = 0 then lo else hi) : gD z how v m = if (if how = 5 then w else upw so how v) = 0 then lo else hi := by
  unfold gD upw fX5_isMinus
  rw [h1, h2, h3]
  rcases hh with rfl | rfl | rfl
  · by_cases h0 : 0 ≤ v
    · simp [h0]
    · simp [h0]
  · by_cases h0 : 0 ≤ v
    · simp [h0]
    · simp [h0]
  · simp
theorem wh_lo {so how : Int32} {z : Bool} (h : rl so z) {v m : Int64} (hh : how = 3 ∨ how = 4 ∨ how = 5) (hm : nat m ≤ nat (finf z)) (he : fX5_amountBits so v = m) (h0 : ¬ m = 0) (h1 : nat m / 2 ^ pP z < pB z) : fX5_toWhole so v how = fX0_withSignOf z v (gD z how v m) ∧ nat (gD z how v m) ≤ nat (finf z) := by
  have hp := pP_lt z
  have hb := pB_lt z
  have hc := cut_lo hm h1
  have hr : fX0_raised z m = fon z := by rw [ra_ne (by rw [hc]; exact fun q => h0 q.symm), nw_lo hm h1]
  have hw : (nat m ≤ (pB z - 1) * 2 ^ pP z) ↔ (if nat m / 2 ^ pP z = pB z - 1 then (if nat m % 2 ^ pP z = 0 then 0 else 1) else 0 : Int32) = 0 := by
    have hd := Nat.div_add_mod (nat m) (2 ^ pP z)
    have hml := Nat.mod_lt (nat m) (Nat.two_pow_pos (pP z))
    by_cases e : nat m / 2 ^ pP z = pB z - 1
    · rw [if_pos e]
      rw [e, Nat.mul_comm] at hd
      by_cases e2 : nat m % 2 ^ pP z = 0
      · rw [if_pos e2]; exact ⟨fun _ => rfl, fun _ => by omega⟩
      · rw [if_neg e2]; exact ⟨fun q => by omega, fun q => absurd q (by decide)⟩
    · rw [if_neg e]
      refine ⟨fun _ => rfl, fun _ => ?_⟩
      have h3 : nat m / 2 ^ pP z + 1 ≤ pB z - 1 := by omega
      have h4 := Nat.mul_le_mul_right (2 ^ pP z) h3
      rw [Nat.add_mul, Nat.one_mul, Nat.mul_comm] at h4
      omega
  have hn : fX0_nearest z m = if (if nat m / 2 ^ pP z = pB z - 1 then (if nat m % 2 ^ pP z = 0 then 0 else 1) else 0 : Int32) = 0 then 0 else fon z := by
    rw [ne_lo hm h1]; simp only [hw]
  have hg := gD_up (so := so) (v := v) hh hc hr hn
  have hX : nat (gD z how v m) ≤ nat (finf z) := by
    have hw2 : ∀ w : Int32, nat (if w = 0 then 0 else fon z) ≤ nat (finf z) := fun w => by
      by_cases e : w = 0
      · rw [if_pos e, show nat (0 : Int64) = 0 by decide]; exact Nat.zero_le _
      · rw [if_neg e]; cases z <;> decide
    rw [hg]
    exact hw2 _
  refine ⟨?_, hX⟩
  rw [th_lo h hm he h0 h1, ← sgn_eq h hX, hg]
