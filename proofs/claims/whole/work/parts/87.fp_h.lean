/-! DOWN, UP, NEAREST: between one and the whole ones -/
theorem and_pow (n k : Nat) : n &&& 2 ^ k = 0 ↔ n / 2 ^ k % 2 = 0 := by
  have h : n.testBit k = decide (n / 2 ^ k % 2 = 1) := Nat.testBit_eq_decide_div_mod_eq
  constructor
  · intro h0
    have h1 : (n &&& 2 ^ k).testBit k = false := by rw [h0, Nat.zero_testBit]
    rw [Nat.testBit_and, Nat.testBit_two_pow_self, Bool.and_true, h, decide_eq_false_iff_not] at h1
    omega
  · intro h0
    apply Nat.eq_of_testBit_eq
    intro i
    rw [Nat.testBit_and, Nat.zero_testBit]
    by_cases e : k = i
    · subst e; rw [h, h0]; rfl
    · rw [Nat.testBit_two_pow_of_ne e, Bool.and_false]
theorem odd_n {z : Bool} {m u r : Int64} {k : Nat} (hk : k = pP z + pB z - nat m / 2 ^ pP z) (hk2 : k ≤ pP z) (h1 : pB z ≤ nat m / 2 ^ pP z) (hu : nat u = 2 ^ k) (hr : nat r = nat m % 2 ^ k) : (jushr (m - r) (nI k) &&& 1) = 1 ↔ ¬ ((if nat m / 2 ^ pP z = pB z then 1 else (if (m &&& u) = 0 then 0 else 1) : Int32) = 0) := by
  have hp := pP_lt z
  have e1 : nat (m - r) = 2 ^ k * (nat m / 2 ^ k) := by
    rw [nat_sub (by rw [hr]; exact Nat.mod_le _ _), hr]
    have := Nat.div_add_mod (nat m) (2 ^ k)
    omega
  have e2 : nat (jushr (m - r) (nI k) &&& 1) = nat m / 2 ^ k % 2 := by
    rw [nat_mask (k := 1) (by decide), jushr_nat (by omega), e1, Nat.mul_div_cancel_left _ (Nat.two_pow_pos k), Nat.pow_one]
  have e3 : (m &&& u) = 0 ↔ nat m / 2 ^ k % 2 = 0 := by
    rw [nat_eq, nat_and, hu, show nat (0 : Int64) = 0 by decide]
    exact and_pow _ _
  rw [nat_eq, e2, show nat (1 : Int64) = 1 by decide]
  by_cases c : nat m / 2 ^ pP z = pB z
  · have hkP : k = pP z := by omega
    rw [if_pos c, hkP, c]
    have : pB z % 2 = 1 := by cases z <;> decide
    exact ⟨fun _ => by decide, fun _ => this⟩
  · rw [if_neg c]
    have h3 : nat m / 2 ^ k % 2 = 0 ∨ nat m / 2 ^ k % 2 = 1 := by omega
    rcases h3 with h | h
    · rw [if_pos (e3.mpr h), h]; decide
    · rw [if_neg (fun q => by rw [e3] at q; omega), h]; decide
theorem wh_mid {so how : Int32} {z : Bool} (h : rl so z) {v m : Int64} (hh : how = 3 ∨ how = 4 ∨ how = 5) (hm : nat m ≤ nat (finf z)) (he : fX5_amountBits so v = m) (h0 : ¬ m = 0) (h1 : pB z ≤ nat m / 2 ^ pP z) (h2 : nat m / 2 ^ pP z < pP z + pB z) (hs : fX0_withSignOf z v m = v) : fX5_toWhole so v how = fX0_withSignOf z v (gD z how v m) ∧ nat (gD z how v m) ≤ nat (finf z) := by
  have hp := pP_lt z
  have hb := pB_lt z
  have hPB : pP z ≤ pB z := by cases z <;> decide
  obtain ⟨k, hk⟩ : ∃ k, k = pP z + pB z - nat m / 2 ^ pP z := ⟨_, rfl⟩
  obtain ⟨u, hu⟩ : ∃ u, u = jshl 1 (nI k) := ⟨_, rfl⟩
  obtain ⟨r, hr⟩ : ∃ r, r = m &&& (u - 1) := ⟨_, rfl⟩
  obtain ⟨⟨k1, k2⟩, u1, r1, c1, c2, u2⟩ := mid_n hm h1 h2 hk hu hr
  have hth := th_mid (how := how) h hm he h0 h1 h2 hk hu hr
  by_cases hr0 : r = 0
  · have hc := c2.mpr hr0
    have hg : gD z how v m = m := gD_same hc (ra_eq hc) (ne_eq hm h1 hc)
    rw [hth, if_pos hr0, hg, hs]
    exact ⟨rfl, hm⟩
  · have hcn : ¬ fX0_cut z m = m := fun q => hr0 (c2.mp q)
    have hnw : ∀ b, fX0_nextWhole z b m = b + u := fun b => by rw [nw_mid hm h1 h2, ← hk, ← hu]
    have hrs : fX0_raised z m = (m - r) + u := by rw [ra_ne hcn, hnw, c1]
    have hrm : nat r ≤ nat m := by rw [r1]; exact Nat.mod_le _ _
    have hodd := odd_n (u := u) hk k2 h1 u1 r1
    have hx5 : m - (m - r) = r := nat_inj (by rw [nat_sub (by rw [nat_sub hrm]; omega), nat_sub hrm]; omega)
    have hx6 : jshl 1 (nI k - 1) = u / 2 := nat_inj (by rw [show nI k - 1 = nI (k - 1) from nI_sub (b := 1) k1, (one_sh (by omega)).1, u2])
    have hbb : fX0_bitsBehindPoint z m = nI k := by rw [bbp_nI hm h1 (by omega), ← hk]
    have hn : fX0_nearest z m = if (if u / 2 < r then 1 else (if r = u / 2 then (if (if nat m / 2 ^ pP z = pB z then 1 else (if (m &&& u) = 0 then 0 else 1) : Int32) = 0 then 0 else 1) else 0) : Int32) = 0 then m - r else (m - r) + u := by
      unfold fX0_nearest fX0_nearest_s2 fX0_nearest_s4 fX0_nearest_s5 fX0_nearest_s6 fX0_nearest_s8
      rw [if_pos ((on_le hm).mpr h1), if_neg hcn, c1, hbb, hx5, hx6, hnw]
      by_cases d1 : u / 2 < r
      · rw [if_pos d1, if_pos d1, if_neg (by decide)]
      · rw [if_neg d1, if_neg d1]
        by_cases d2 : r = u / 2
        · rw [if_pos d2, if_pos d2]
          by_cases d3 : (jushr (m - r) (nI k) &&& 1) = 1
          · rw [if_pos d3, if_neg (by decide), if_neg (hodd.mp d3), if_neg (by decide)]
          · rw [if_neg d3, if_pos rfl, if_pos (Decidable.not_not.mp (fun q => d3 (hodd.mpr q))), if_pos rfl]
        · rw [if_neg d2, if_neg d2, if_pos rfl]
    have hg := gD_up (so := so) (v := v) hh c1 hrs hn
    have hX : nat (gD z how v m) ≤ nat (finf z) := by
      have hw2 : ∀ w : Int32, nat (if w = 0 then m - r else (m - r) + u) ≤ nat (finf z) := fun w => by
        have g1 : nat (m - r) ≤ nat m := by rw [nat_sub hrm]; omega
        by_cases e : w = 0
        · rw [if_pos e]; exact Nat.le_trans g1 hm
        · rw [if_neg e]
          have g2 : 2 ^ k ≤ 2 ^ pP z := Nat.pow_le_pow_right (by decide) k2
          have g3 : nat m < (nat m / 2 ^ pP z + 1) * 2 ^ pP z := by
            have := Nat.div_add_mod (nat m) (2 ^ pP z)
            have hml := Nat.mod_lt (nat m) (Nat.two_pow_pos (pP z))
            rw [Nat.add_mul, Nat.mul_comm (nat m / 2 ^ pP z), Nat.one_mul]
            omega
          have g4 := Nat.mul_le_mul_right (2 ^ pP z) (show nat m / 2 ^ pP z + 1 + 1 ≤ 2 * pB z + 1 by omega)
          rw [Nat.add_mul (nat m / 2 ^ pP z + 1), Nat.one_mul] at g4
          have hf := finf_lt z
          rw [finf_n] at hf ⊢
          rw [nat_add (by rw [u1]; omega), u1]
          omega
      rw [hg]
      exact hw2 _
    refine ⟨?_, hX⟩
    rw [hth, if_neg hr0, ← sgn_eq h hX, hg]
theorem wh_all {so how : Int32} {z : Bool} (h : rl so z) {v : Int64} (hh : how = 3 ∨ how = 4 ∨ how = 5) (hv : vld so v) : fX5_toWhole so v how = fX0_withSignOf z v (gD z how v (fX0_amount z v)) ∧ nat (gD z how v (fX0_amount z v)) ≤ nat (finf z) := by
  have hm := amv h hv
  have he := rl_amt h v
  have hs := self_sgn h hv
  have hb := pB_lt z
  generalize fX0_amount z v = m at *
  by_cases h0 : m = 0
  · have h1 : nat m / 2 ^ pP z < pB z := by
      rw [h0, show nat (0 : Int64) = 0 by decide, Nat.zero_div]; omega
    have hc := cut_lo hm h1
    have hn := ne_lo hm h1
    rw [if_pos (by rw [h0, show nat (0 : Int64) = 0 by decide]; exact Nat.zero_le _)] at hn
    have hg : gD z how v m = 0 := gD_same hc (by rw [ra_eq (by rw [hc, h0]), h0]) hn
    rw [hg, ← h0, hs]
    exact ⟨th_0 (by rw [he, h0]), hm⟩
  · rcases Nat.lt_or_ge (nat m / 2 ^ pP z) (pB z) with h1 | h1
    · exact wh_lo h hh hm he h0 h1
    · rcases Nat.lt_or_ge (nat m / 2 ^ pP z) (pP z + pB z) with h2 | h2
      · exact wh_mid h hh hm he h0 h1 h2 hs
      · have hc := cut_hi hm h2
        have hg : gD z how v m = m := gD_same hc (ra_eq hc) (ne_eq hm h1 hc)
        rw [hg, hs, th_hi h hm he h2]
        exact ⟨rfl, hm⟩
/-! the steps, one by one -/
theorem ch_3 (so : Int32) (v k : Int64) : fX5_changed so 3 v k = fX5_toWhole so v 3 := by
  unfold fX5_changed
  rw [if_neg (by decide : ¬ (3 : Int32) = 0), if_neg (by decide : ¬ (3 : Int32) = 1), if_neg (by decide : ¬ (3 : Int32) = 2), if_pos (rfl : (3 : Int32) = 3)]
theorem st_3 (z : Bool) (v k : Int64) : fX2_stepped_f z 3 v k = fX0_furtherStepped z 3 v k := by
  unfold fX2_stepped_f
  rw [if_neg (by decide : ¬ (3 : Int32) = 0), if_neg (by decide : ¬ (3 : Int32) = 1), if_neg (by decide : ¬ (3 : Int32) = 2)]
theorem ch_4 (so : Int32) (v k : Int64) : fX5_changed so 4 v k = fX5_toWhole so v 4 := by
  unfold fX5_changed
  rw [if_neg (by decide : ¬ (4 : Int32) = 0), if_neg (by decide : ¬ (4 : Int32) = 1), if_neg (by decide : ¬ (4 : Int32) = 2), if_neg (by decide : ¬ (4 : Int32) = 3), if_pos (rfl : (4 : Int32) = 4)]
theorem st_4 (z : Bool) (v k : Int64) : fX2_stepped_f z 4 v k = fX0_furtherStepped z 4 v k := by
  unfold fX2_stepped_f
  rw [if_neg (by decide : ¬ (4 : Int32) = 0), if_neg (by decide : ¬ (4 : Int32) = 1), if_neg (by decide : ¬ (4 : Int32) = 2)]
theorem ch_5 (so : Int32) (v k : Int64) : fX5_changed so 5 v k = fX5_toWhole so v 5 := by
  unfold fX5_changed
  rw [if_neg (by decide : ¬ (5 : Int32) = 0), if_neg (by decide : ¬ (5 : Int32) = 1), if_neg (by decide : ¬ (5 : Int32) = 2), if_neg (by decide : ¬ (5 : Int32) = 3), if_neg (by decide : ¬ (5 : Int32) = 4), if_pos (rfl : (5 : Int32) = 5)]
theorem st_5 (z : Bool) (v k : Int64) : fX2_stepped_f z 5 v k = fX0_furtherStepped z 5 v k := by
  unfold fX2_stepped_f
  rw [if_neg (by decide : ¬ (5 : Int32) = 0), if_neg (by decide : ¬ (5 : Int32) = 1), if_neg (by decide : ¬ (5 : Int32) = 2)]
theorem ch_6 (so : Int32) (v k : Int64) : fX5_changed so 6 v k = if fX5_amountBits so v = 0 then v else fX5_signed so (fX5_one so) (fX5_isMinus so v) := by
  unfold fX5_changed
  rw [if_neg (by decide : ¬ (6 : Int32) = 0), if_neg (by decide : ¬ (6 : Int32) = 1), if_neg (by decide : ¬ (6 : Int32) = 2), if_neg (by decide : ¬ (6 : Int32) = 3), if_neg (by decide : ¬ (6 : Int32) = 4), if_neg (by decide : ¬ (6 : Int32) = 5), if_pos (rfl : (6 : Int32) = 6)]
theorem ch_7 (so : Int32) (v k : Int64) : fX5_changed so 7 v k = fX5_signed so (fX5_amountBits so v) (fX5_isMinus so k) := by
  unfold fX5_changed
  rw [if_neg (by decide : ¬ (7 : Int32) = 0), if_neg (by decide : ¬ (7 : Int32) = 1), if_neg (by decide : ¬ (7 : Int32) = 2), if_neg (by decide : ¬ (7 : Int32) = 3), if_neg (by decide : ¬ (7 : Int32) = 4), if_neg (by decide : ¬ (7 : Int32) = 5), if_neg (by decide : ¬ (7 : Int32) = 6), if_pos (rfl : (7 : Int32) = 7)]
theorem st_6 (z : Bool) (v k : Int64) : fX2_stepped_f z 6 v k = if fX0_amount z v = 0 then v else fX0_withSignOf z v (fon z) := by
  unfold fX2_stepped_f fX0_furtherStepped fX0_furtherStepped_s1
  rw [if_neg (by decide : ¬ (6 : Int32) = 0), if_neg (by decide : ¬ (6 : Int32) = 1), if_neg (by decide : ¬ (6 : Int32) = 2), if_neg (by decide : ¬ (6 : Int32) = 3), if_neg (by decide : ¬ (6 : Int32) = 4), if_neg (by decide : ¬ (6 : Int32) = 5), if_pos (rfl : (6 : Int32) = 6)]
theorem st_7 (z : Bool) (v k : Int64) : fX2_stepped_f z 7 v k = fX0_withSignOf z k (fX0_amount z v) := by
  unfold fX2_stepped_f fX0_furtherStepped fX0_furtherStepped_s1
  rw [if_neg (by decide : ¬ (7 : Int32) = 0), if_neg (by decide : ¬ (7 : Int32) = 1), if_neg (by decide : ¬ (7 : Int32) = 2), if_neg (by decide : ¬ (7 : Int32) = 3), if_neg (by decide : ¬ (7 : Int32) = 4), if_neg (by decide : ¬ (7 : Int32) = 5), if_neg (by decide : ¬ (7 : Int32) = 6), if_pos (rfl : (7 : Int32) = 7)]
theorem rl_C {so : Int32} {z : Bool} (h : rl so z) {kd : Int32} {v k : Int64} (hs : ¬ fX5_isStep so kd = 0) (hv : vld so v) (hk : fX5_takes kd = 0 ∨ vld so k) : fX2_stepped_f z kd v k = fX5_changed so kd v k ∧ vld so (fX5_changed so kd v k) := by
  have hkd : kd = 0 ∨ kd = 1 ∨ kd = 2 ∨ kd = 3 ∨ kd = 4 ∨ kd = 5 ∨ kd = 6 ∨ kd = 7 := by
    unfold fX5_isStep at hs
    rw [if_neg (rl_real h)] at hs
    by_cases h0 : kd < 0
    · rw [if_pos h0] at hs; exact absurd rfl hs
    · rw [if_neg h0] at hs
      by_cases h3 : (8 : Int32) ≤ kd
      · rw [if_pos h3] at hs; exact absurd rfl hs
      · obtain ⟨q, hq, rfl⟩ := nI_of h0
        have h4 : q < 8 := by
          have : ¬ 8 ≤ q := fun c => h3 (nI_le (a := 8) c (by omega))
          omega
        have h5 : q = 0 ∨ q = 1 ∨ q = 2 ∨ q = 3 ∨ q = 4 ∨ q = 5 ∨ q = 6 ∨ q = 7 := by omega
        rcases h5 with rfl | rfl | rfl | rfl | rfl | rfl | rfl | rfl <;> decide
  have hO := fun (hk : vld so k) => ma_O so (rl_srt h).1 v k hv hk
  rw [(rl_srt h).2.1, (rl_srt h).2.2] at hO
  have hA := ma_A so (rl_srt h).1 v hv
  rw [(rl_srt h).2.1, (rl_srt h).2.2] at hA
  have hm := amv h hv
  have hW : ∀ how : Int32, (how = 3 ∨ how = 4 ∨ how = 5) → fX0_furtherStepped z how v k = fX5_toWhole so v how ∧ vld so (fX5_toWhole so v how) := fun how hh => by
    obtain ⟨g1, g2⟩ := wh_all h hh hv
    rw [fs_gD hh, g1]
    exact ⟨rfl, vld_sgn h g2⟩
  have hon : nat (fon z) ≤ nat (finf z) := by cases z <;> decide
  rcases hkd with rfl | rfl | rfl | rfl | rfl | rfl | rfl | rfl
  · exact ⟨hA.1, hA.2.1⟩
  · have hk' : vld so k := hk.resolve_left (by decide)
    refine ⟨(hO hk').1, ?_⟩
    show vld so (fX5_greater so v k)
    unfold fX5_greater; split; exact hv; exact hk'
  · have hk' : vld so k := hk.resolve_left (by decide)
    refine ⟨(hO hk').2.1, ?_⟩
    show vld so (fX5_lesser so v k)
    unfold fX5_lesser; split; exact hv; exact hk'
  · rw [ch_3, st_3]; exact hW 3 (Or.inl rfl)
  · rw [ch_4, st_4]; exact hW 4 (Or.inr (Or.inl rfl))
  · rw [ch_5, st_5]; exact hW 5 (Or.inr (Or.inr rfl))
  · rw [ch_6, st_6, rl_amt h, (pl_n h).2.2, sgn_eq h hon]
    refine ⟨rfl, ?_⟩
    split
    · exact hv
    · exact vld_sgn h hon
  · rw [ch_7, st_7, rl_amt h, sgn_eq h hm]
    exact ⟨rfl, vld_sgn h hm⟩
