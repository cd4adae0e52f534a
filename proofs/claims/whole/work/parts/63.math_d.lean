/-! COUNTS AND TALLIES -/
def wr (so : Int32) (z : Bool) : Prop := (so = 0 ∧ z = false) ∨ (so = 1 ∧ z = true)
theorem wr_cut {so : Int32} {z : Bool} (h : wr so z) (v : Int64) : fX2_ofWidth_w z v = fX5_cut so v := by
  rcases h with ⟨rfl, rfl⟩ | ⟨rfl, rfl⟩ <;> rfl
theorem wr_srt {so : Int32} {z : Bool} (h : wr so z) : srt so ∧ ff so = false ∧ zz so = z := by
  rcases h with ⟨rfl, rfl⟩ | ⟨rfl, rfl⟩
  · exact ⟨Or.inl rfl, ff_0, zz_0⟩
  · exact ⟨Or.inr (Or.inl rfl), ff_1, zz_1⟩
theorem rl_srt {so : Int32} {z : Bool} (h : rl so z) : srt so ∧ ff so = true ∧ zz so = z := by
  rcases h with ⟨rfl, rfl⟩ | ⟨rfl, rfl⟩
  · exact ⟨Or.inr (Or.inr (Or.inl rfl)), ff_2, zz_2⟩
  · exact ⟨Or.inr (Or.inr (Or.inr rfl)), ff_3, zz_3⟩
theorem srt_cases {so : Int32} (h : srt so) : (∃ z, wr so z) ∨ ∃ z, rl so z := by
  rcases h with rfl | rfl | rfl | rfl
  · exact Or.inl ⟨false, Or.inl ⟨rfl, rfl⟩⟩
  · exact Or.inl ⟨true, Or.inr ⟨rfl, rfl⟩⟩
  · exact Or.inr ⟨false, Or.inl ⟨rfl, rfl⟩⟩
  · exact Or.inr ⟨true, Or.inr ⟨rfl, rfl⟩⟩
theorem wr_amt {so : Int32} {z : Bool} (h : wr so z) (v : Int64) : amt so (fX5_cut so v) := by
  rcases h with ⟨rfl, rfl⟩ | ⟨rfl, rfl⟩
  · exact wr_amt0 v
  · exact wr_amt1 v
theorem wr_not {so : Int32} {z : Bool} (h : wr so z) : ¬ so = 2 ∧ ¬ so = 3 ∧ fX5_isReal so = 0 := by
  rcases h with ⟨rfl, rfl⟩ | ⟨rfl, rfl⟩ <;> exact ⟨by decide, by decide, by decide⟩
theorem wr_am {so : Int32} {z : Bool} (h : wr so z) {v : Int64} (hv : vld so v) : fX3_amount z v = fX5_amount so v := by
  have := (ma_A so (wr_srt h).1 v hv).1
  rw [(wr_srt h).2.1, (wr_srt h).2.2] at this
  exact this
theorem wr_height {so : Int32} {z : Bool} (h : wr so z) (v : Int64) : fX5_height so v = v := by
  unfold fX5_height fX5_rank; rw [if_pos (wr_not h).2.2, if_pos (wr_not h).2.2]
theorem wr_C {so : Int32} {z : Bool} (h : wr so z) {kd : Int32} {v k : Int64} (hs : ¬ fX5_isStep so kd = 0) (hv : vld so v) (hk : fX5_takes kd = 0 ∨ vld so k) : fX2_stepped_w z kd v k = fX5_changed so kd v k ∧ vld so (fX5_changed so kd v k) := by
  have hkd : kd = 0 ∨ kd = 1 ∨ kd = 2 := by
    unfold fX5_isStep at hs
    rw [if_pos (wr_not h).2.2] at hs
    by_cases h0 : kd < 0
    · rw [if_pos h0] at hs; exact absurd rfl hs
    · rw [if_neg h0] at hs
      by_cases h3 : (3 : Int32) ≤ kd
      · rw [if_pos h3] at hs; exact absurd rfl hs
      · obtain ⟨q, hq, rfl⟩ := nI_of h0
        have h4 : q < 3 := by
          have : ¬ 3 ≤ q := fun c => h3 (nI_le (a := 3) c (by omega))
          omega
        have h5 : q = 0 ∨ q = 1 ∨ q = 2 := by omega
        rcases h5 with rfl | rfl | rfl
        · exact Or.inl rfl
        · exact Or.inr (Or.inl rfl)
        · exact Or.inr (Or.inr rfl)
  have hO := fun (hk : vld so k) => ma_O so (wr_srt h).1 v k hv hk
  rw [(wr_srt h).2.1, (wr_srt h).2.2] at hO
  rcases hkd with rfl | rfl | rfl
  · exact ⟨wr_am h hv, (ma_A so (wr_srt h).1 v hv).2.1⟩
  · have hk' : vld so k := hk.resolve_left (by decide)
    refine ⟨(hO hk').1, ?_⟩
    show vld so (fX5_greater so v k)
    unfold fX5_greater; split; exact hv; exact hk'
  · have hk' : vld so k := hk.resolve_left (by decide)
    refine ⟨(hO hk').2.1, ?_⟩
    show vld so (fX5_lesser so v k)
    unfold fX5_lesser; split; exact hv; exact hk'
theorem wr_P {so : Int32} {z : Bool} (h : wr so z) (a b : Int64) : fX3_plus z a b = fX5_sum so a b ∧ okSum so a b ∧ amt so (fX5_sum so a b) := by
  have e : fX5_sum so a b = fX5_cut so (a + b) := by unfold fX5_sum; rw [if_neg (wr_not h).1, if_neg (wr_not h).2.1]
  refine ⟨?_, ⟨fun q => absurd q (wr_not h).1, fun q => absurd q (wr_not h).2.1⟩, by rw [e]; exact wr_amt h _⟩
  rw [e]; exact wr_cut h _
theorem wr_Z {so : Int32} {z : Bool} (h : wr so z) {a : Int64} (ha : amt so a) : fX5_sum so 0 a = a := by
  unfold fX5_sum; rw [if_neg (wr_not h).1, if_neg (wr_not h).2.1, Int64.zero_add]; exact ha.1.1
theorem wr_D {so : Int32} {z : Bool} (h : wr so z) {a b : Int64} : fX3_apart z a b = fX5_swing so a b ∧ okSwing so a b ∧ vld so (fX5_swing so a b) := by
  have e : fX5_swing so a b = if a = b then 0 else fX5_amount so (fX5_cut so (a - b)) := by
    unfold fX5_swing; rw [wr_height h, wr_height h, if_neg (wr_not h).1, if_neg (wr_not h).2.1]
  refine ⟨?_, ⟨fun _ q => absurd q (wr_not h).1, fun _ q => absurd q (wr_not h).2.1⟩, ?_⟩
  · unfold fX3_apart
    rw [e, wr_cut h, wr_am h (wr_amt h _).1]
    split
    · rename_i q; subst q; rw [Int64.sub_self]; rcases h with ⟨rfl, rfl⟩ | ⟨rfl, rfl⟩ <;> decide
    · rfl
  · rw [e]
    split
    · exact vld0 (wr_srt h).1
    · exact (ma_A so (wr_srt h).1 _ (wr_amt h _).1).2.1
theorem wr_I {so : Int32} {z : Bool} (h : wr so z) (v : Int64) : fX3_toInt z v = toI so v := by
  unfold toI fX3_toInt
  rw [if_neg (wr_not h).1, if_neg (wr_not h).2.1]
  congr 1
  have h1 : (2147483647 : Int64).toInt = 2147483647 := by decide
  have h2 : (-2147483648 : Int64).toInt = -2147483648 := by decide
  by_cases a : v < 2147483647
  · rw [if_pos a]
    by_cases b : v < -2147483648
    · rw [if_pos b, if_neg (Int64.not_le.mpr b)]
    · rw [if_neg b, if_pos (Int64.not_lt.mp b), if_pos (Int64.le_of_lt a)]
  · rw [if_neg a, if_neg (by decide)]
    have c : -2147483648 ≤ v := by
      rw [Int64.lt_iff_toInt_lt, h1] at a
      rw [Int64.le_iff_toInt_le, h2]; omega
    rw [if_pos c]
    split
    · rename_i d
      apply Int64.toInt_inj.mp
      rw [Int64.lt_iff_toInt_lt, h1] at a
      rw [Int64.le_iff_toInt_le, h1] at d
      rw [h1]; omega
    · rfl
