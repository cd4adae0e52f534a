theorem cm_reading (l : Launch) (D : mG) (x xa oa : Nat) (ov : Nat → Int64) (I : Nat → Nat → Nat) (N : Nat) (M : MSt) (T : Nat) (hlt : l.stackTraces = false) (hI : Inv M N T) (hT : T < 512) {j : Nat} (hj : j < N) (w : Int32) : cmd l D x xa oa ov I N M T yL_reading cL_reading 5 [(0, 9, 12, 21), (0, 9, 16, 37)] [.ref x, .int (nI j), .int w, .ref oa] (hX5_reading M j w).2.1 (hX5_reading M j w).1 (hX5_reading M j w).2.2 := by
  obtain ⟨hc, hmn⟩ := hI.mn hj
  have hk : ∀ h : gi_keeps (M.1 7 j) w = 0, cmd l D x xa oa ov I N M T yL_reading cL_reading 5 [(0, 9, 12, 21), (0, 9, 16, 37)] [.ref x, .int (nI j), .int w, .ref oa] 2 ((0 : Int32).toInt64) M := fun h1 => by
    exact cmd_t (t1 := 2) hI hT (by decide) (ch_reading_t2 l D x xa oa ov I N M (nI j) w (by decide) ((ct_reading_1 l D x xa (M.1 14 0) (M.1 14 1) (M.1 14 2) (M.1 14 3) (mIA I N) (I j) (M.1 0 j) (M.2 5 j) (M.2 6 j) (M.1 13 j) (M.1 1 j) (M.2 9 j) (M.2 10 j) (M.2 11 j) (M.2 12 j) (M.1 7 j) (ff (M.1 0 j)) (zz (M.1 0 j)) (mKI M j) (mKJ M j) (mL I M j) (mKE M j) w hlt hI.n hI.N8 hj (mIA_at hj) h1).mono (fun H h => WS_sub hj h)))
  unfold hX5_reading
  by_cases h1 : w < 0
  · rw [if_pos h1]
    exact hk (if_pos h1)
  · rw [if_neg h1]
    by_cases h2 : nI (cnt M j) ≤ w
    · rw [if_pos h2]
      exact hk (by unfold gi_keeps; rw [if_neg h1]; split; rfl; rw [hmn, if_pos h2])
    · rw [if_neg h2]
      by_cases h3 : w < 16
      · rw [if_pos h3]
        obtain ⟨q, hq, rfl⟩ := nI_of h1
        have hqc : q < cnt M j := by rw [nI_leI (by omega) hq] at h2; omega
        have h4 : ¬ gi_keeps (M.1 7 j) (nI q) = 0 := by
          unfold gi_keeps
          rw [if_neg h1, if_neg (Int32.not_le.mpr h3), hmn, if_neg h2]; decide
        have hv : gi_latest (M.1 7 j) (mKE M j) (nI q) = M.2 8 (16 * j + (cnt M j - 1 - (nI q).toNatClampNeg) % 16) := by rw [hmn, latest_eq hqc hc, nI_clamp hq]
        exact cmd_v (hI.more hT) (ch_reading_ok l D x xa oa ov I N M (nI j) (nI q) (rm := rmP 1) ⟨by decide, by decide, by decide, by decide⟩ (S := Unit) (v := fun _ => M.2 8 (16 * j + (cnt M j - 1 - (nI q).toNatClampNeg) % 16)) (I1 := fun _ => I) (N1 := N) (M1 := M) (by rw [← hv]; exact (cv_reading l D x xa (M.1 14 0) (M.1 14 1) (M.1 14 2) (M.1 14 3) (mIA I N) (I j) (M.1 0 j) (M.2 5 j) (M.2 6 j) (M.1 13 j) (M.1 1 j) (M.2 9 j) (M.2 10 j) (M.2 11 j) (M.2 12 j) (M.1 7 j) (ff (M.1 0 j)) (zz (M.1 0 j)) (mKI M j) (mKJ M j) (mL I M j) (mKE M j) (nI q) hI.n hI.N8 hj (mIA_at hj) h4).toZ (fun H h _ => WS_sub hj h)))
      · rw [if_neg h3]
        exact hk (by unfold gi_keeps; rw [if_neg h1, if_pos (Int32.not_lt.mp h3)])
theorem cm_tell (l : Launch) (D : mG) (x xa oa : Nat) (ov : Nat → Int64) (I : Nat → Nat → Nat) (N : Nat) (M : MSt) (T : Nat) (hlt : l.stackTraces = false) (hI : Inv M N T) (hT : T < 512) {j : Nat} (hj : j < N) (w : Int32) : cmd l D x xa oa ov I N M T yL_tell cL_tell 5 [(0, 9, 12, 21), (0, 9, 16, 13), (0, 9, 20, 37)] [.ref x, .int (nI j), .int w, .ref oa] (hX5_tell M j w).2.1 (hX5_tell M j w).1 (hX5_tell M j w).2.2 := by
  unfold hX5_tell
  by_cases h1 : w < 0
  · rw [if_pos h1]
    exact cmd_t (t1 := 2) hI hT (by decide) (ch_tell_t2 l D x xa oa ov I N M (nI j) w (by decide) ((ct_tell_1 l D x xa (M.1 14 0) (M.1 14 1) (M.1 14 2) (M.1 14 3) (mIA I N) (I j) (M.1 0 j) (M.2 5 j) (M.2 6 j) (M.1 13 j) (M.1 1 j) (M.2 9 j) (M.2 10 j) (M.2 11 j) (M.2 12 j) (M.1 7 j) (ff (M.1 0 j)) (zz (M.1 0 j)) (mKI M j) (mKJ M j) (mL I M j) (mKE M j) w hlt hI.n hI.N8 hj (mIA_at hj) h1).mono (fun H h => WS_sub hj h)))
  · rw [if_neg h1]
    by_cases h2 : w ≤ 3
    · rw [if_pos h2]
      by_cases h3 : M.1 7 j = 0
      · rw [if_pos h3]
        exact cmd_t (t1 := 3) hI hT (by decide) (ch_tell_t3 l D x xa oa ov I N M (nI j) w (by decide) ((ct_tell_3 l D x xa (M.1 14 0) (M.1 14 1) (M.1 14 2) (M.1 14 3) (mIA I N) (I j) (M.1 0 j) (M.2 5 j) (M.2 6 j) (M.1 13 j) (M.1 1 j) (M.2 9 j) (M.2 10 j) (M.2 11 j) (M.2 12 j) (M.1 7 j) (ff (M.1 0 j)) (zz (M.1 0 j)) (mKI M j) (mKJ M j) (mL I M j) (mKE M j) w hlt hI.n hI.N8 hj (mIA_at hj) h1 h2 (hasRead0.mpr h3)).mono (fun H h => WS_sub hj h)))
      · rw [if_neg h3]
        have hz : ¬ gi_hasRead (M.1 7 j) = 0 := fun h => h3 (hasRead0.mp h)
        have hv : ∀ val : Int64, (if w = 0 then M.2 9 j else (if w = 1 then M.2 10 j else (if w = 2 then M.2 11 j else M.2 12 j))) = val → cmd l D x xa oa ov I N M T yL_tell cL_tell 5 [(0, 9, 12, 21), (0, 9, 16, 13), (0, 9, 20, 37)] [.ref x, .int (nI j), .int w, .ref oa] 0 val M := fun val hv => by
          exact cmd_v (hI.more hT) (ch_tell_ok l D x xa oa ov I N M (nI j) w (rm := rmP 1) ⟨by decide, by decide, by decide, by decide⟩ (S := Unit) (v := fun _ => val) (I1 := fun _ => I) (N1 := N) (M1 := M) (by rw [← hv]; exact (cv_tell l D x xa (M.1 14 0) (M.1 14 1) (M.1 14 2) (M.1 14 3) (mIA I N) (I j) (M.1 0 j) (M.2 5 j) (M.2 6 j) (M.1 13 j) (M.1 1 j) (M.2 9 j) (M.2 10 j) (M.2 11 j) (M.2 12 j) (M.1 7 j) (ff (M.1 0 j)) (zz (M.1 0 j)) (mKI M j) (mKJ M j) (mL I M j) (mKE M j) w hI.n hI.N8 hj (mIA_at hj) h1 h2 hz).toZ (fun H h _ => WS_sub hj h)))
        by_cases e0 : w = 0
        · rw [if_pos e0]; exact hv _ (if_pos e0)
        · rw [if_neg e0]
          by_cases e1 : w = 1
          · rw [if_pos e1]; exact hv _ (by rw [if_neg e0, if_pos e1])
          · rw [if_neg e1]
            by_cases e2 : w = 2
            · rw [if_pos e2]; exact hv _ (by rw [if_neg e0, if_neg e1, if_pos e2])
            · rw [if_neg e2]; exact hv _ (by rw [if_neg e0, if_neg e1, if_neg e2])
    · rw [if_neg h2]
      exact cmd_t (t1 := 2) hI hT (by decide) (ch_tell_t2 l D x xa oa ov I N M (nI j) w (by decide) ((ct_tell_2 l D x xa (M.1 14 0) (M.1 14 1) (M.1 14 2) (M.1 14 3) (mIA I N) (I j) (M.1 0 j) (M.2 5 j) (M.2 6 j) (M.1 13 j) (M.1 1 j) (M.2 9 j) (M.2 10 j) (M.2 11 j) (M.2 12 j) (M.1 7 j) (ff (M.1 0 j)) (zz (M.1 0 j)) (mKI M j) (mKJ M j) (mL I M j) (mKE M j) w hlt hI.n hI.N8 hj (mIA_at hj) h1 h2).mono (fun H h => WS_sub hj h)))
theorem cm_whole (l : Launch) (D : mG) (x xa oa : Nat) (ov : Nat → Int64) (I : Nat → Nat → Nat) (N : Nat) (M : MSt) (T : Nat) (hm : MATH) (hlt : l.stackTraces = false) (hI : Inv M N T) (hT : T < 512) {j : Nat} (hj : j < N) : cmd l D x xa oa ov I N M T yL_whole cL_whole 4 [(0, 9, 12, 21), (0, 9, 15, 37)] [.ref x, .int (nI j), .ref oa] (hX5_whole M j (M.1 0 j) (lat M j)).2.1 (hX5_whole M j (M.1 0 j) (lat M j)).1.toInt64 (hX5_whole M j (M.1 0 j) (lat M j)).2.2 := by
  unfold hX5_whole
  by_cases h3 : M.1 7 j = 0
  · rw [if_pos h3]
    exact cmd_t (t1 := 2) hI hT (by decide) (ch_whole_t2 l D x xa oa ov I N M (nI j)  (by decide) ((ct_whole_1 l D x xa (M.1 14 0) (M.1 14 1) (M.1 14 2) (M.1 14 3) (mIA I N) (I j) (M.1 0 j) (M.2 5 j) (M.2 6 j) (M.1 13 j) (M.1 1 j) (M.2 9 j) (M.2 10 j) (M.2 11 j) (M.2 12 j) (M.1 7 j) (ff (M.1 0 j)) (zz (M.1 0 j)) (mKI M j) (mKJ M j) (mL I M j) (mKE M j)  hlt hI.n hI.N8 hj (mIA_at hj) (hasRead0.mpr h3)).mono (fun H h => WS_sub hj h)))
  · rw [if_neg h3]
    have hz : ¬ gi_hasRead (M.1 7 j) = 0 := fun h => h3 (hasRead0.mp h)
    have hl := lat_eq hI hj h3
    have hI9 := hm.2.2.2.2.2.2.2.2.2 _ (hI.so hj) _ (hI.vlat hj)
    have hv : gn_toInt (ff (M.1 0 j)) (zz (M.1 0 j)) (gi_latest (M.1 7 j) (mKE M j) 0) = toI (M.1 0 j) (lat M j) := by rw [hl]; exact hI9
    have key : cmd l D x xa oa ov I N M T yL_whole cL_whole 4 [(0, 9, 12, 21), (0, 9, 15, 37)] [.ref x, .int (nI j), .ref oa] 0 (toI (M.1 0 j) (lat M j)).toInt64 M := by
      exact cmd_v (hI.more hT) (ch_whole_ok l D x xa oa ov I N M (nI j)  (rm := rmP 2) ⟨by decide, by decide, by decide, by decide⟩ (S := Unit) (v := fun _ => toI (M.1 0 j) (lat M j)) (I1 := fun _ => I) (N1 := N) (M1 := M) (by rw [← hv]; exact (cv_whole l D x xa (M.1 14 0) (M.1 14 1) (M.1 14 2) (M.1 14 3) (mIA I N) (I j) (M.1 0 j) (M.2 5 j) (M.2 6 j) (M.1 13 j) (M.1 1 j) (M.2 9 j) (M.2 10 j) (M.2 11 j) (M.2 12 j) (M.1 7 j) (ff (M.1 0 j)) (zz (M.1 0 j)) (mKI M j) (mKJ M j) (mL I M j) (mKE M j)  hI.n hI.N8 hj (mIA_at hj) hz).toZ (fun H h _ => WS_sub hj h)))
    unfold toI at key
    by_cases e2 : M.1 0 j = 2
    · rw [if_pos e2]; rw [if_pos e2] at key; exact key
    · rw [if_neg e2]; rw [if_neg e2] at key
      by_cases e3 : M.1 0 j = 3
      · rw [if_pos e3]; rw [if_pos e3] at key; exact key
      · rw [if_neg e3]; rw [if_neg e3] at key; exact key
theorem cm_alarms (l : Launch) (D : mG) (x xa oa : Nat) (ov : Nat → Int64) (I : Nat → Nat → Nat) (N : Nat) (M : MSt) (T : Nat) (hlt : l.stackTraces = false) (hI : Inv M N T) (hT : T < 512) {j : Nat} (hj : j < N) : cmd l D x xa oa ov I N M T yL_alarms cL_alarms 4 [(0, 9, 12, 21)] [.ref x, .int (nI j), .ref oa] (hX5_alarms M j).2.1 (hX5_alarms M j).1.toInt64 (hX5_alarms M j).2.2 := by
  have hv : M.1 13 j = M.1 13 j := rfl
  exact cmd_v (hI.more hT) (ch_alarms_ok l D x xa oa ov I N M (nI j) (rm := rmP 1) ⟨by decide, by decide, by decide, by decide⟩ (S := Unit) (v := fun _ => M.1 13 j) (I1 := fun _ => I) (N1 := N) (M1 := M) ((cv_alarms l D x xa (M.1 14 0) (M.1 14 1) (M.1 14 2) (M.1 14 3) (mIA I N) (I j) (M.1 0 j) (M.2 5 j) (M.2 6 j) (M.1 13 j) (M.1 1 j) (M.2 9 j) (M.2 10 j) (M.2 11 j) (M.2 12 j) (M.1 7 j) (ff (M.1 0 j)) (zz (M.1 0 j)) (mKI M j) (mKJ M j) (mL I M j) (mKE M j) hI.n hI.N8 hj (mIA_at hj)).toZ (fun H h _ => WS_sub hj h)))
