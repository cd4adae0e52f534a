/-! SWINGS -/
theorem ap_n {z : Bool} {a b : Int64} (ha : nat (fX0_amount z a) ≤ nat (finf z)) (hb : nat (fX0_amount z b) ≤ nat (finf z)) : nat (fX0_apart z a b) = if sb a = !sb b then plN z (max (nat (fX0_amount z a)) (nat (fX0_amount z b))) (min (nat (fX0_amount z a)) (nat (fX0_amount z b))) else miN z (max (nat (fX0_amount z a)) (nat (fX0_amount z b))) (min (nat (fX0_amount z a)) (nat (fX0_amount z b))) := by
  unfold fX0_apart fX0_apart_s1 fX0_apart_s2
  have hc : ((if 0 ≤ a then 0 else 1 : Int32) = (if 0 ≤ b then 0 else 1 : Int32)) ↔ ¬ (sb a = !sb b) := by
    by_cases h1 : 0 ≤ a <;> by_cases h2 : 0 ≤ b <;> simp [sb, h1, h2]
  generalize fX0_amount z a = x at *
  generalize fX0_amount z b = y at *
  by_cases c : sb a = !sb b
  · rw [if_neg (fun q => hc.mp q c), if_pos c]
    exact pl_n2 ha hb
  · rw [if_pos (hc.mpr c), if_neg c]
    by_cases d : y < x
    · have d' := d
      rw [nat_lt (am_n hb) (am_n ha)] at d'
      rw [if_pos d, if_pos d, Nat.max_eq_left (Nat.le_of_lt d'), Nat.min_eq_right (Nat.le_of_lt d')]
      exact mi_n ha (Nat.le_of_lt d')
    · have d' := d
      rw [nat_lt (am_n hb) (am_n ha)] at d'
      rw [if_neg d, if_neg d, Nat.max_eq_right (by omega), Nat.min_eq_left (by omega)]
      exact mi_n hb (by omega)
theorem lv_n {so : Int32} {z : Bool} (h : rl so z) {v : Int64} (hv : vld so v) : (fX0_level z v).toInt = if sb v = true then - (nat (fX0_amount z v) : Int) else (nat (fX0_amount z v) : Int) := by
  have hm := nat_pos (am_n (amv h hv))
  unfold fX0_level
  by_cases h0 : 0 ≤ v
  · rw [if_pos h0, sb_pos h0, if_neg (by decide), rl_pos h hv h0]
    rw [rl_pos h hv h0] at hm
    exact hm.2
  · rw [if_neg h0, sb_neg h0, if_pos rfl, neg_int hm.1, hm.2]
theorem ht_n {so : Int32} {z : Bool} (h : rl so z) {a b : Int64} (ha : vld so a) (hb : vld so b) : fX5_height so a = fX5_height so b ↔ (fX0_level z a).toInt = (fX0_level z b).toInt := by
  have h1 := rl_above h ha hb
  have h2 := rl_above h hb ha
  rw [Int64.le_iff_toInt_le, Int64.le_iff_toInt_le] at h1 h2
  rw [← Int64.toInt_inj]
  omega
theorem pl_00 (z : Bool) : fX0_plus z 0 0 = 0 := by cases z <;> decide +kernel
theorem rl_D {so : Int32} {z : Bool} (h : rl so z) {a b : Int64} (ha : vld so a) (hb : vld so b) : fX0_apart z a b = fX5_swing so a b ∧ okSwing so a b ∧ vld so (fX5_swing so a b) := by
  have a1 := amv h ha
  have b1 := amv h hb
  have la := lv_n h ha
  have lb := lv_n h hb
  have hap := ap_n a1 b1
  by_cases c : fX5_height so a = fX5_height so b
  · have hsw : fX5_swing so a b = 0 := by unfold fX5_swing; rw [if_pos c]
    rw [hsw]
    refine ⟨?_, ⟨fun q => absurd c q, fun q => absurd c q⟩, vld0 (rl_srt h).1⟩
    rw [ht_n h ha hb, la, lb] at c
    apply nat_inj
    rw [show nat (0 : Int64) = 0 by decide, hap]
    by_cases d : sb a = !sb b
    · have e : nat (fX0_amount z a) = 0 ∧ nat (fX0_amount z b) = 0 := by
        cases hb2 : sb b
        · rw [hb2] at d c; rw [d] at c; simp at c; omega
        · rw [hb2] at d c; rw [d] at c; simp at c; omega
      have h0 : nat (0 : Int64) = 0 := by decide
      rw [if_pos d, e.1, e.2]
      have := pl_n2 (z := z) (a := 0) (b := 0) (by rw [h0]; exact Nat.zero_le _) (by rw [h0]; exact Nat.zero_le _)
      rw [pl_00, h0] at this
      exact this.symm
    · have e : nat (fX0_amount z a) = nat (fX0_amount z b) := by
        have hs : sb a = sb b := by
          cases h1 : sb a <;> cases h2 : sb b <;> rw [h1, h2] at d <;> simp at d <;> rfl
        rw [hs] at c
        split at c <;> omega
      rw [if_neg d, e, Nat.max_self, Nat.min_self]
      unfold miN
      rw [if_pos rfl]
  · have hne : sb a = !sb b ∨ nat (fX0_amount z a) ≠ nat (fX0_amount z b) := by
      by_cases d : sb a = !sb b
      · exact Or.inl d
      · refine Or.inr (fun e => c ?_)
        have hs : sb a = sb b := by
          cases h1 : sb a <;> cases h2 : sb b <;> rw [h1, h2] at d <;> simp at d <;> rfl
        rw [ht_n h ha hb, la, lb, hs, e]
    rw [inN_n] at a1 b1
    obtain ⟨s', g1, g2⟩ := sub_c (s := sb a) (t := sb b) a1 b1 hne
    rw [← hap] at g1 g2
    have hx : amt so (fX0_apart z a b) := vld_am h (by rw [inN_n]; exact g2)
    have hcut : fX5_cut so (fX0_apart z a b) = fX0_apart z a b := hx.1.1
    have key : fX0_apart z a b = fX5_swing so a b ∧ okSwing so a b := by
      rcases h with ⟨rfl, rfl⟩ | ⟨rfl, rfl⟩
      · have er : (FP.fsub (fX5_single a) (fX5_single b)).toNat = s'.toNat * fw false + nat (fX0_apart false a b) := by
          show (UInt32.ofNat (FP.Core.sub (fm false) (fX5_single a).toNat (fX5_single b).toNat)).toNat = _
          rw [bits2 ha, bits2 hb, g1, ofn32 g2]
        refine ⟨?_, fun _ _ => ⟨num32 ha, num32 hb, ok32 er g2⟩, fun _ q => absurd q (by decide)⟩
        have e1 : fX5_swing 2 a b = fX5_amount 2 ((FP.fsub (fX5_single a) (fX5_single b)).toInt32.toInt64) := by
          unfold fX5_swing fJxf58ca_floatToIntBits_5c35a; rw [if_neg c, if_pos (rfl : (2 : Int32) = 2)]
        have e2 : fX0_amount false ((FP.fsub (fX5_single a) (fX5_single b)).toInt32.toInt64) = fX0_apart false a b := nat_inj (back2 er g2).1
        rw [e1]
        unfold fX5_amount
        rw [if_neg (by decide), amt2, e2, hcut]
      · have er : (FP.dsub (fX5_real a) (fX5_real b)).toNat = s'.toNat * fw true + nat (fX0_apart true a b) := by
          show (UInt64.ofNat (FP.Core.sub (fm true) (fX5_real a).toNat (fX5_real b).toNat)).toNat = _
          rw [bits3, bits3, g1, ofn64 g2]
        refine ⟨?_, fun _ q => absurd q (by decide), fun _ _ => ⟨num64 ha, num64 hb, ok64 er g2⟩⟩
        have e1 : fX5_swing 3 a b = fX5_amount 3 ((FP.dsub (fX5_real a) (fX5_real b)).toInt64) := by
          unfold fX5_swing fJxe99ae_doubleToLongBits_ccdee; rw [if_neg c, if_neg (by decide : ¬ (3 : Int32) = 2), if_pos (rfl : (3 : Int32) = 3)]
        have e2 : fX0_amount true ((FP.dsub (fX5_real a) (fX5_real b)).toInt64) = fX0_apart true a b := nat_inj (back3 er g2).1
        rw [e1]
        unfold fX5_amount
        rw [if_neg (by decide), amt3, e2, hcut]
    exact ⟨key.1, key.2, by rw [← key.1]; exact hx.1⟩
