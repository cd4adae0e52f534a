/-! THE GROUND AT THE START -/
theorem m_gfD : ∀ x ∈ gfD, Cond.declares x ∈ lw_tbl := by decide +kernel
theorem m_gfC : ∀ x ∈ gfC, Cond.castable x.1 x.2 ∈ lw_tbl := by decide +kernel
theorem m_gfN : ∀ x ∈ gfN, Cond.not (.castable x.1 x.2) ∈ flatC (Jvm.Cond.and given_1 narrow_1) := by decide +kernel
theorem m_gfS : ∀ x ∈ gfS, Cond.stringRef RX4 x.1 x.2 ∈ lw_tbl := by decide +kernel
theorem gf_start {s : State} {av : Array Value} (hts : ∀ w ∈ lw_tbl, w.before av s = true) (hnar : ∀ w ∈ flatC (Jvm.Cond.and given_1 narrow_1), w.before av s = true) : ∃ D : mG, GF D s := by
  have hta : ∀ w ∈ aw, w.before av s = true := fun w h => hts w (aw_in h)
  obtain ⟨c0, i0, h0⟩ := u_known (C := RX0) (T := TX0) (N := 11) (n := 11) hta inX0 (hta _ qw1_177)
  obtain ⟨c1, i1, h1⟩ := u_known (C := RX1) (T := TX1) (N := 15) (n := 15) hta inX1 (hta _ qw1_147)
  obtain ⟨c2, i2, h2⟩ := u_known (C := RX3) (T := TX3) (N := 4) (n := 4) hta inX3 (hta _ qw1_152)
  obtain ⟨c3, i3, h3⟩ := u_known (C := RX4) (T := TX4) (N := 5) (n := 5) hta inX4 (hta _ qw1_20)
  obtain ⟨c4, i4, h4⟩ := u_known (C := RX5) (T := TX5) (N := 19) (n := 19) hta inX5 (hta _ qw3_157)
  obtain ⟨cI, kI, pI, a1, a2, a3⟩ := Cond.arrayClass_spec (hta _ qw2_32)
  obtain ⟨cJ, kJ, pJ, b1, b2, b3⟩ := Cond.arrayClass_spec (hta _ qw2_33)
  obtain ⟨pQ, cQ', kQ', q1, -, q3, q4, q5⟩ := Cond.arrayOver_spec (hts _ qt1_28)
  refine ⟨((fun k => if k = 0 then c0 else if k = 1 then c1 else if k = 2 then c2 else if k = 3 then c3 else c4, fun k => if k = 0 then i0 else if k = 1 then i1 else if k = 2 then i2 else if k = 3 then i3 else i4), cI, cJ, cQ'), ⟨?_, ?_⟩, va_AO.of (hts _ qt1_28), fun x h => va_Nw.of rfl (hts _ (m_gfD x h)), fun x h => va_Nw.of rfl (hts _ (m_gfC x h)), fun x h => va_Nc.of (hnar _ (m_gfN x h)), fun x h => ?_⟩
  · intro k q hq
    match k, hq with
    | 0, hq => cases hq; exact h0
    | 1, hq => cases hq; exact h1
    | 2, hq => cases hq; exact h2
    | 3, hq => cases hq; exact h3
    | 4, hq => cases hq; exact h4
    | k + 5, hq => cases hq
  · intro k q hq
    match k, hq with
    | 0, hq => cases hq; exact ⟨fun n z => ⟨(fun k h => by cases h), kI, a2, pI, a3⟩, a1⟩
    | 1, hq => cases hq; exact ⟨fun n z => ⟨(fun k h => by cases h), kJ, b2, pJ, b3⟩, b1⟩
    | 2, hq => cases hq; exact ⟨fun n z => ⟨(fun k h => by cases h), kQ', q3, pQ, q4⟩, kQ', pQ, q3, q4, q1, q5⟩
    | k + 3, hq => cases hq
  · have hs := hts _ (m_gfS x h)
    obtain ⟨-, -, -, a, -, -, -, -, -, he⟩ := Cond.stringRef_spec h3.2.1 hs
    exact ⟨a, vk_R.of hs he⟩
theorem za_start {s : State} {av : Array Value} (hts : ∀ w ∈ lw_tbl, w.before av s = true) (hnar : ∀ w ∈ flatC (Jvm.Cond.and given_1 narrow_1), w.before av s = true) : ZA (LA s) s :=
  ⟨vx_Zqof (hts _ qt1_88) (hts _ (aw_in qw1_3)) (hnar (.isRef (.static "java/lang/Throwable" "UNASSIGNED_STACK" "[Ljava/lang/StackTraceElement;")) (by decide +kernel)) (fun a h => Nat.not_le.mpr h), vx_Zqof (hts _ qt1_90) (hts _ (aw_in qw1_3)) (hnar (.isRef (.static "java/lang/Throwable" "SUPPRESSED_SENTINEL" "Ljava/util/List;")) (by decide +kernel)) (fun a h => Nat.not_le.mpr h)⟩
theorem inv_start : Inv mE0 0 0 := by
  refine ⟨⟨by decide, rfl, fun j _ => ⟨Nat.zero_le _, rfl⟩, fun j _ => ⟨Nat.zero_le _, rfl⟩, fun j h => absurd h (Nat.not_lt_zero _)⟩, ⟨fun j _ => ⟨rfl, rfl, rfl, rfl, rfl, rfl, rfl⟩, fun t _ => ⟨rfl, rfl⟩, fun t _ => rfl⟩, fun j => Nat.le_refl 0, by decide, fun j h => absurd h (Nat.not_lt_zero _), fun j h => absurd h (Nat.not_lt_zero _), fun j h => absurd h (Nat.not_lt_zero _), fun j h => absurd h (Nat.not_lt_zero _)⟩
theorem mIA_0 {I : Nat → Nat → Nat} : mIA I 0 = fun _ => none := funext fun i => if_neg (Nat.not_lt_zero _)
theorem ws_start {D : mG} {x xa oa : Nat} {ov : Nat → Int64} {I : Nat → Nat → Nat} : WS D x xa oa ov I 0 mE0 = [(x, .inr (3, [.ref xa, .int 0, .int 0, .int 0, .int 0])), (xa, .inl (D.2.2.2, 8, .inr (.inr (.inr (.inr (fun _ => none)))))), (oa, .inl (D.2.2.1, 1, .inr (.inl ov)))] := by
  show mMa x xa mE0 :: mAr D xa I 0 :: mOu D oa ov :: [] = _
  unfold mAr
  rw [mIA_0]
