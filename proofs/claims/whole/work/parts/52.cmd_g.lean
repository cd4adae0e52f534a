theorem beyond_eq (hm : MATH) {so : Int32} (h : srt so) {lo hi v : Int64} (h1 : vld so lo) (h2 : vld so hi) (h3 : vld so v) : gi_isBeyondLimits lo hi (ff so) (zz so) v = if fX5_isAbove so lo v = 0 then (if fX5_isAbove so v hi = 0 then 0 else 1) else 1 := by
  unfold gi_isBeyondLimits
  rw [(hm.2.2.2.1 so h _ _ h1 h3).2.2, (hm.2.2.2.1 so h _ _ h3 h2).2.2]
theorem cm_readF (l : Launch) (D : mG) (x xa oa : Nat) (ov : Nat → Int64) (I : Nat → Nat → Nat) (N : Nat) (M : MSt) (T : Nat) (hm : MATH) (hlt : l.stackTraces = false) (hI : Inv M N T) (hT : T < 512) {j : Nat} (hj : j < N) (bits : Int64) (h0 : M.1 7 j = 0) : cmd l D x xa oa ov I N M T yL_read cL_read 6 [(0, 10, 13, 21), (0, 10, 17, 13)] [.ref x, .int (nI j), .long bits, .ref oa] (hX5_readF M j (M.1 0 j) (thr M j (chn M j) (fX5_cut (M.1 0 j) bits)) bits).2.1 (hX5_readF M j (M.1 0 j) (thr M j (chn M j) (fX5_cut (M.1 0 j) bits)) bits).1 (hX5_readF M j (M.1 0 j) (thr M j (chn M j) (fX5_cut (M.1 0 j) bits)) bits).2.2 := by
  have so := hI.so hj
  have ew := hm.1 _ so bits
  have en := hm.2.2.1 _ so bits
  rw [← ew] at en
  have hch := hI.ch hj
  obtain ⟨hc, hmn⟩ := hI.mn hj
  by_cases hn : fX5_isNone (M.1 0 j) bits = 0
  · have hthr := (thr_ok hm hI hj (vld_cut hn) (chn M j) (Nat.le_refl _))
    generalize hvv : (thr M j (chn M j) (fX5_cut (M.1 0 j) bits)) = v at hthr ⊢
    obtain ⟨hthr, hv⟩ := hthr
    rw [← ew] at hthr
    obtain ⟨-, hlo, hhi⟩ := hI.2.2.2.2.1 j hj
    have hbe := beyond_eq hm so hlo hhi hv
    have hnum : ¬ gn_isNumber (ff (M.1 0 j)) (zz (M.1 0 j)) (gn_ofWidth (ff (M.1 0 j)) (zz (M.1 0 j)) bits) = 0 := fun q => en.mp q hn
    have hA := hm.2.2.2.2.1 _ so v hv
    have hZ := hm.2.2.2.2.2.2.2.2.1 _ so _ hA.2
    have e1 : gn_amount (ff (M.1 0 j)) (zz (M.1 0 j)) v = (fX5_sum (M.1 0 j) 0 (fX5_amount (M.1 0 j) v)) := by rw [hA.1, hZ]
    have inv := inv_read hI hT hj hv (vld0 so) hv hv (su := (fX5_sum (M.1 0 j) 0 (fX5_amount (M.1 0 j) v))) (by rw [hZ]; exact hA.2)
    have hMa0 : mMa x xa (rdM M j v 0 v v (fX5_sum (M.1 0 j) 0 (fX5_amount (M.1 0 j) v))) = (x, .inr (3, [.ref xa, .int (M.1 14 0), .int (M.1 14 1 + 1), .int (M.1 14 2), .int (M.1 14 3 + M.1 1 j)])) := by
      rw [show M.1 14 3 + M.1 1 j = M.1 14 3 + nI (chn M j) by rw [← hch.2]]; rfl
    have hMa1 : mMa x xa (alM M j (rdM M j v 0 v v (fX5_sum (M.1 0 j) 0 (fX5_amount (M.1 0 j) v)))) = (x, .inr (3, [.ref xa, .int (M.1 14 0), .int (M.1 14 1 + 1), .int (M.1 14 2 + 1), .int (M.1 14 3 + M.1 1 j)])) := by
      rw [show M.1 14 3 + M.1 1 j = M.1 14 3 + nI (chn M j) by rw [← hch.2]]; rfl
    have hJ0 : wJ D I (rdM M j v 0 v v (fX5_sum (M.1 0 j) 0 (fX5_amount (M.1 0 j) v))) j = wI D (I j) (M.1 0 j) (M.2 5 j) (M.2 6 j) (M.1 13 j) (M.1 1 j) v v 0 (fX5_sum (M.1 0 j) 0 (fX5_amount (M.1 0 j) v)) (M.1 7 j + 1) (ff (M.1 0 j)) (zz (M.1 0 j)) (mKI M j) (mKJ M j) (mL I M j) (vp_updL (mKE M j) (M.1 7 j &&& 15).toNatClampNeg v) := wJ_of rfl rfl rfl rfl rfl (by show (rdM M j v 0 v v (fX5_sum (M.1 0 j) 0 (fX5_amount (M.1 0 j) v))).2 9 j = _; rw [rd9]; exact if_pos rfl) (by show (rdM M j v 0 v v (fX5_sum (M.1 0 j) 0 (fX5_amount (M.1 0 j) v))).2 10 j = _; rw [rd10]; exact if_pos rfl) (by show (rdM M j v 0 v v (fX5_sum (M.1 0 j) 0 (fX5_amount (M.1 0 j) v))).2 11 j = _; rw [rd11]; exact if_pos rfl) (by show (rdM M j v 0 v v (fX5_sum (M.1 0 j) 0 (fX5_amount (M.1 0 j) v))).2 12 j = _; rw [rd12]; exact if_pos rfl) (by show (rdM M j v 0 v v (fX5_sum (M.1 0 j) 0 (fX5_amount (M.1 0 j) v))).1 7 j = _; rw [rd7]; exact if_pos rfl) rfl rfl rfl (by show mKE (rdM M j v 0 v v (fX5_sum (M.1 0 j) 0 (fX5_amount (M.1 0 j) v))) j = _; exact rd_KE hmn hc)
    have hJ1 : wJ D I (alM M j (rdM M j v 0 v v (fX5_sum (M.1 0 j) 0 (fX5_amount (M.1 0 j) v)))) j = wI D (I j) (M.1 0 j) (M.2 5 j) (M.2 6 j) (M.1 13 j + 1) (M.1 1 j) v v 0 (fX5_sum (M.1 0 j) 0 (fX5_amount (M.1 0 j) v)) (M.1 7 j + 1) (ff (M.1 0 j)) (zz (M.1 0 j)) (mKI M j) (mKJ M j) (mL I M j) (vp_updL (mKE M j) (M.1 7 j &&& 15).toNatClampNeg v) := wJ_of rfl rfl rfl (by rw [al13]; exact if_pos rfl) rfl (by show (rdM M j v 0 v v (fX5_sum (M.1 0 j) 0 (fX5_amount (M.1 0 j) v))).2 9 j = _; rw [rd9]; exact if_pos rfl) (by show (rdM M j v 0 v v (fX5_sum (M.1 0 j) 0 (fX5_amount (M.1 0 j) v))).2 10 j = _; rw [rd10]; exact if_pos rfl) (by show (rdM M j v 0 v v (fX5_sum (M.1 0 j) 0 (fX5_amount (M.1 0 j) v))).2 11 j = _; rw [rd11]; exact if_pos rfl) (by show (rdM M j v 0 v v (fX5_sum (M.1 0 j) 0 (fX5_amount (M.1 0 j) v))).2 12 j = _; rw [rd12]; exact if_pos rfl) (by show (rdM M j v 0 v v (fX5_sum (M.1 0 j) 0 (fX5_amount (M.1 0 j) v))).1 7 j = _; rw [rd7]; exact if_pos rfl) rfl rfl rfl (by show mKE (rdM M j v 0 v v (fX5_sum (M.1 0 j) 0 (fX5_amount (M.1 0 j) v))) j = _; exact rd_KE hmn hc)
    have ok0 : gi_isBeyondLimits (M.2 5 j) (M.2 6 j) (ff (M.1 0 j)) (zz (M.1 0 j)) v = 0 → cmd l D x xa oa ov I N M T yL_read cL_read 6 [(0, 10, 13, 21), (0, 10, 17, 13)] [.ref x, .int (nI j), .long bits, .ref oa] 0 v (rdM M j v 0 v v (fX5_sum (M.1 0 j) 0 (fX5_amount (M.1 0 j) v))) := fun h2 =>
      cmd_v inv (ch_read_ok l D x xa oa ov I N M (nI j) bits (rm := rmP 6) ⟨by decide, by decide, by decide, by decide⟩ (S := Unit) (v := fun _ => v) (I1 := fun _ => I) (N1 := N) (M1 := rdM M j v 0 v v (fX5_sum (M.1 0 j) 0 (fX5_amount (M.1 0 j) v))) (lift_j hj (fun j' _ q => rd_oth q) (by rw [hJ0, hMa0]; rw [← e1]; exact cz_readF0 l D x xa (M.1 14 0) (M.1 14 1) (M.1 14 2) (M.1 14 3) (mIA I N) (I j) (M.1 0 j) (M.2 5 j) (M.2 6 j) (M.1 13 j) (M.1 1 j) (M.2 9 j) (M.2 10 j) (M.2 11 j) (M.2 12 j) (M.1 7 j) (ff (M.1 0 j)) (zz (M.1 0 j)) (mKI M j) (mKJ M j) (mL I M j) (mKE M j) (fun c => kof M (6 * j + c)) bits hI.n hI.N8 hj (mIA_at hj) hch.2 hch.1 hnum hthr h0 h2) (fun H h c hc => lead_ok hI hj h c hc)))
    have ok1 : ¬ gi_isBeyondLimits (M.2 5 j) (M.2 6 j) (ff (M.1 0 j)) (zz (M.1 0 j)) v = 0 → cmd l D x xa oa ov I N M T yL_read cL_read 6 [(0, 10, 13, 21), (0, 10, 17, 13)] [.ref x, .int (nI j), .long bits, .ref oa] 0 v (alM M j (rdM M j v 0 v v (fX5_sum (M.1 0 j) 0 (fX5_amount (M.1 0 j) v)))) := fun h2 =>
      cmd_v (inv_al inv hj) (ch_read_ok l D x xa oa ov I N M (nI j) bits (rm := rmP 6) ⟨by decide, by decide, by decide, by decide⟩ (S := Unit) (v := fun _ => v) (I1 := fun _ => I) (N1 := N) (M1 := alM M j (rdM M j v 0 v v (fX5_sum (M.1 0 j) 0 (fX5_amount (M.1 0 j) v)))) (lift_j hj (fun j' _ q => al_oth q (rd_oth q)) (by rw [hJ1, hMa1]; rw [← e1]; exact cz_readF1 l D x xa (M.1 14 0) (M.1 14 1) (M.1 14 2) (M.1 14 3) (mIA I N) (I j) (M.1 0 j) (M.2 5 j) (M.2 6 j) (M.1 13 j) (M.1 1 j) (M.2 9 j) (M.2 10 j) (M.2 11 j) (M.2 12 j) (M.1 7 j) (ff (M.1 0 j)) (zz (M.1 0 j)) (mKI M j) (mKJ M j) (mL I M j) (mKE M j) (fun c => kof M (6 * j + c)) bits hI.n hI.N8 hj (mIA_at hj) hch.2 hch.1 hnum hthr h0 h2) (fun H h c hc => lead_ok hI hj h c hc)))
    unfold hX5_readF
    rw [if_pos hn]
    by_cases b1 : fX5_isAbove (M.1 0 j) (M.2 5 j) v = 0
    · rw [if_pos b1]
      rw [if_pos b1] at hbe
      by_cases b2 : fX5_isAbove (M.1 0 j) v (M.2 6 j) = 0
      · rw [if_pos b2]
        rw [if_pos b2] at hbe
        exact ok0 hbe
      · rw [if_neg b2]
        rw [if_neg b2] at hbe
        exact ok1 (by rw [hbe]; decide)
    · rw [if_neg b1]
      rw [if_neg b1] at hbe
      exact ok1 (by rw [hbe]; decide)
  · unfold hX5_readF
    rw [if_neg hn]
    exact cmd_t (t1 := 2) hI hT (by decide) (ch_read_t2 l D x xa oa ov I N M (nI j) bits (by decide) ((ct_read_1 l D x xa (M.1 14 0) (M.1 14 1) (M.1 14 2) (M.1 14 3) (mIA I N) (I j) (M.1 0 j) (M.2 5 j) (M.2 6 j) (M.1 13 j) (M.1 1 j) (M.2 9 j) (M.2 10 j) (M.2 11 j) (M.2 12 j) (M.1 7 j) (ff (M.1 0 j)) (zz (M.1 0 j)) (mKI M j) (mKJ M j) (mL I M j) (mKE M j) bits hlt hI.n hI.N8 hj (mIA_at hj) (en.mpr hn)).mono (fun H h => WS_sub hj h)))
theorem cm_readN (l : Launch) (D : mG) (x xa oa : Nat) (ov : Nat → Int64) (I : Nat → Nat → Nat) (N : Nat) (M : MSt) (T : Nat) (hm : MATH) (hlt : l.stackTraces = false) (hI : Inv M N T) (hT : T < 512) {j : Nat} (hj : j < N) (bits : Int64) (h0 : ¬ M.1 7 j = 0) : cmd l D x xa oa ov I N M T yL_read cL_read 6 [(0, 10, 13, 21), (0, 10, 17, 13)] [.ref x, .int (nI j), .long bits, .ref oa] (hX5_readN M j (M.1 0 j) (thr M j (chn M j) (fX5_cut (M.1 0 j) bits)) bits (lat M j)).2.1 (hX5_readN M j (M.1 0 j) (thr M j (chn M j) (fX5_cut (M.1 0 j) bits)) bits (lat M j)).1 (hX5_readN M j (M.1 0 j) (thr M j (chn M j) (fX5_cut (M.1 0 j) bits)) bits (lat M j)).2.2 := by
  have so := hI.so hj
  have ew := hm.1 _ so bits
  have en := hm.2.2.1 _ so bits
  rw [← ew] at en
  have hch := hI.ch hj
  obtain ⟨hc, hmn⟩ := hI.mn hj
  by_cases hn : fX5_isNone (M.1 0 j) bits = 0
  · have hthr := (thr_ok hm hI hj (vld_cut hn) (chn M j) (Nat.le_refl _))
    generalize hvv : (thr M j (chn M j) (fX5_cut (M.1 0 j) bits)) = v at hthr ⊢
    obtain ⟨hthr, hv⟩ := hthr
    rw [← ew] at hthr
    obtain ⟨-, hlo, hhi⟩ := hI.2.2.2.2.1 j hj
    have hbe := beyond_eq hm so hlo hhi hv
    have hnum : ¬ gn_isNumber (ff (M.1 0 j)) (zz (M.1 0 j)) (gn_ofWidth (ff (M.1 0 j)) (zz (M.1 0 j)) bits) = 0 := fun q => en.mp q hn
    have h9 : cnt M j ≠ 0 := fun q => h0 (by rw [hmn, q]; rfl)
    obtain ⟨g1, g2, g3, g4⟩ := hI.2.2.2.2.2.1 j hj h9
    have hA := hm.2.2.2.2.1 _ so v hv
    have hO1 := hm.2.2.2.1 _ so _ _ g1 hv
    have hO2 := hm.2.2.2.1 _ so _ _ g2 hv
    have hD := hm.2.2.2.2.2.2.1 _ so _ _ hv (hI.vlat hj)
    have hP := hm.2.2.2.2.2.2.2.1 _ so _ _ g4 hA.2
    have e1 : gn_plus (ff (M.1 0 j)) (zz (M.1 0 j)) (M.2 12 j) (gn_amount (ff (M.1 0 j)) (zz (M.1 0 j)) v) = (fX5_sum (M.1 0 j) (M.2 12 j) (fX5_amount (M.1 0 j) v)) := by rw [hA.1, hP.1]
    have e2 : gn_apart (ff (M.1 0 j)) (zz (M.1 0 j)) v (gi_latest (M.1 7 j) (mKE M j) 0) = (fX5_swing (M.1 0 j) v (lat M j)) := by rw [lat_eq hI hj h0, hD.1]
    have hle : vld (M.1 0 j) (fX5_lesser (M.1 0 j) (M.2 9 j) v) := by unfold fX5_lesser; split; exact g1; exact hv
    have hgr : vld (M.1 0 j) (fX5_greater (M.1 0 j) (M.2 10 j) v) := by unfold fX5_greater; split; exact g2; exact hv
    have inv := inv_read hI hT hj hv hD.2.2 hle hgr hP.2.2
    have hMa0 : mMa x xa (rdM M j v (fX5_swing (M.1 0 j) v (lat M j)) (fX5_lesser (M.1 0 j) (M.2 9 j) v) (fX5_greater (M.1 0 j) (M.2 10 j) v) (fX5_sum (M.1 0 j) (M.2 12 j) (fX5_amount (M.1 0 j) v))) = (x, .inr (3, [.ref xa, .int (M.1 14 0), .int (M.1 14 1 + 1), .int (M.1 14 2), .int (M.1 14 3 + M.1 1 j)])) := by
      rw [show M.1 14 3 + M.1 1 j = M.1 14 3 + nI (chn M j) by rw [← hch.2]]; rfl
    have hMa1 : mMa x xa (alM M j (rdM M j v (fX5_swing (M.1 0 j) v (lat M j)) (fX5_lesser (M.1 0 j) (M.2 9 j) v) (fX5_greater (M.1 0 j) (M.2 10 j) v) (fX5_sum (M.1 0 j) (M.2 12 j) (fX5_amount (M.1 0 j) v)))) = (x, .inr (3, [.ref xa, .int (M.1 14 0), .int (M.1 14 1 + 1), .int (M.1 14 2 + 1), .int (M.1 14 3 + M.1 1 j)])) := by
      rw [show M.1 14 3 + M.1 1 j = M.1 14 3 + nI (chn M j) by rw [← hch.2]]; rfl
    have hJ0 : wJ D I (rdM M j v (fX5_swing (M.1 0 j) v (lat M j)) (fX5_lesser (M.1 0 j) (M.2 9 j) v) (fX5_greater (M.1 0 j) (M.2 10 j) v) (fX5_sum (M.1 0 j) (M.2 12 j) (fX5_amount (M.1 0 j) v))) j = wI D (I j) (M.1 0 j) (M.2 5 j) (M.2 6 j) (M.1 13 j) (M.1 1 j) (fX5_lesser (M.1 0 j) (M.2 9 j) v) (fX5_greater (M.1 0 j) (M.2 10 j) v) (fX5_swing (M.1 0 j) v (lat M j)) (fX5_sum (M.1 0 j) (M.2 12 j) (fX5_amount (M.1 0 j) v)) (M.1 7 j + 1) (ff (M.1 0 j)) (zz (M.1 0 j)) (mKI M j) (mKJ M j) (mL I M j) (vp_updL (mKE M j) (M.1 7 j &&& 15).toNatClampNeg v) := wJ_of rfl rfl rfl rfl rfl (by show (rdM M j v (fX5_swing (M.1 0 j) v (lat M j)) (fX5_lesser (M.1 0 j) (M.2 9 j) v) (fX5_greater (M.1 0 j) (M.2 10 j) v) (fX5_sum (M.1 0 j) (M.2 12 j) (fX5_amount (M.1 0 j) v))).2 9 j = _; rw [rd9]; exact if_pos rfl) (by show (rdM M j v (fX5_swing (M.1 0 j) v (lat M j)) (fX5_lesser (M.1 0 j) (M.2 9 j) v) (fX5_greater (M.1 0 j) (M.2 10 j) v) (fX5_sum (M.1 0 j) (M.2 12 j) (fX5_amount (M.1 0 j) v))).2 10 j = _; rw [rd10]; exact if_pos rfl) (by show (rdM M j v (fX5_swing (M.1 0 j) v (lat M j)) (fX5_lesser (M.1 0 j) (M.2 9 j) v) (fX5_greater (M.1 0 j) (M.2 10 j) v) (fX5_sum (M.1 0 j) (M.2 12 j) (fX5_amount (M.1 0 j) v))).2 11 j = _; rw [rd11]; exact if_pos rfl) (by show (rdM M j v (fX5_swing (M.1 0 j) v (lat M j)) (fX5_lesser (M.1 0 j) (M.2 9 j) v) (fX5_greater (M.1 0 j) (M.2 10 j) v) (fX5_sum (M.1 0 j) (M.2 12 j) (fX5_amount (M.1 0 j) v))).2 12 j = _; rw [rd12]; exact if_pos rfl) (by show (rdM M j v (fX5_swing (M.1 0 j) v (lat M j)) (fX5_lesser (M.1 0 j) (M.2 9 j) v) (fX5_greater (M.1 0 j) (M.2 10 j) v) (fX5_sum (M.1 0 j) (M.2 12 j) (fX5_amount (M.1 0 j) v))).1 7 j = _; rw [rd7]; exact if_pos rfl) rfl rfl rfl (by show mKE (rdM M j v (fX5_swing (M.1 0 j) v (lat M j)) (fX5_lesser (M.1 0 j) (M.2 9 j) v) (fX5_greater (M.1 0 j) (M.2 10 j) v) (fX5_sum (M.1 0 j) (M.2 12 j) (fX5_amount (M.1 0 j) v))) j = _; exact rd_KE hmn hc)
    have hJ1 : wJ D I (alM M j (rdM M j v (fX5_swing (M.1 0 j) v (lat M j)) (fX5_lesser (M.1 0 j) (M.2 9 j) v) (fX5_greater (M.1 0 j) (M.2 10 j) v) (fX5_sum (M.1 0 j) (M.2 12 j) (fX5_amount (M.1 0 j) v)))) j = wI D (I j) (M.1 0 j) (M.2 5 j) (M.2 6 j) (M.1 13 j + 1) (M.1 1 j) (fX5_lesser (M.1 0 j) (M.2 9 j) v) (fX5_greater (M.1 0 j) (M.2 10 j) v) (fX5_swing (M.1 0 j) v (lat M j)) (fX5_sum (M.1 0 j) (M.2 12 j) (fX5_amount (M.1 0 j) v)) (M.1 7 j + 1) (ff (M.1 0 j)) (zz (M.1 0 j)) (mKI M j) (mKJ M j) (mL I M j) (vp_updL (mKE M j) (M.1 7 j &&& 15).toNatClampNeg v) := wJ_of rfl rfl rfl (by rw [al13]; exact if_pos rfl) rfl (by show (rdM M j v (fX5_swing (M.1 0 j) v (lat M j)) (fX5_lesser (M.1 0 j) (M.2 9 j) v) (fX5_greater (M.1 0 j) (M.2 10 j) v) (fX5_sum (M.1 0 j) (M.2 12 j) (fX5_amount (M.1 0 j) v))).2 9 j = _; rw [rd9]; exact if_pos rfl) (by show (rdM M j v (fX5_swing (M.1 0 j) v (lat M j)) (fX5_lesser (M.1 0 j) (M.2 9 j) v) (fX5_greater (M.1 0 j) (M.2 10 j) v) (fX5_sum (M.1 0 j) (M.2 12 j) (fX5_amount (M.1 0 j) v))).2 10 j = _; rw [rd10]; exact if_pos rfl) (by show (rdM M j v (fX5_swing (M.1 0 j) v (lat M j)) (fX5_lesser (M.1 0 j) (M.2 9 j) v) (fX5_greater (M.1 0 j) (M.2 10 j) v) (fX5_sum (M.1 0 j) (M.2 12 j) (fX5_amount (M.1 0 j) v))).2 11 j = _; rw [rd11]; exact if_pos rfl) (by show (rdM M j v (fX5_swing (M.1 0 j) v (lat M j)) (fX5_lesser (M.1 0 j) (M.2 9 j) v) (fX5_greater (M.1 0 j) (M.2 10 j) v) (fX5_sum (M.1 0 j) (M.2 12 j) (fX5_amount (M.1 0 j) v))).2 12 j = _; rw [rd12]; exact if_pos rfl) (by show (rdM M j v (fX5_swing (M.1 0 j) v (lat M j)) (fX5_lesser (M.1 0 j) (M.2 9 j) v) (fX5_greater (M.1 0 j) (M.2 10 j) v) (fX5_sum (M.1 0 j) (M.2 12 j) (fX5_amount (M.1 0 j) v))).1 7 j = _; rw [rd7]; exact if_pos rfl) rfl rfl rfl (by show mKE (rdM M j v (fX5_swing (M.1 0 j) v (lat M j)) (fX5_lesser (M.1 0 j) (M.2 9 j) v) (fX5_greater (M.1 0 j) (M.2 10 j) v) (fX5_sum (M.1 0 j) (M.2 12 j) (fX5_amount (M.1 0 j) v))) j = _; exact rd_KE hmn hc)
    have ok0 : gi_isBeyondLimits (M.2 5 j) (M.2 6 j) (ff (M.1 0 j)) (zz (M.1 0 j)) v = 0 → cmd l D x xa oa ov I N M T yL_read cL_read 6 [(0, 10, 13, 21), (0, 10, 17, 13)] [.ref x, .int (nI j), .long bits, .ref oa] 0 v (rdM M j v (fX5_swing (M.1 0 j) v (lat M j)) (fX5_lesser (M.1 0 j) (M.2 9 j) v) (fX5_greater (M.1 0 j) (M.2 10 j) v) (fX5_sum (M.1 0 j) (M.2 12 j) (fX5_amount (M.1 0 j) v))) := fun h2 =>
      cmd_v inv (ch_read_ok l D x xa oa ov I N M (nI j) bits (rm := rmP 6) ⟨by decide, by decide, by decide, by decide⟩ (S := Unit) (v := fun _ => v) (I1 := fun _ => I) (N1 := N) (M1 := rdM M j v (fX5_swing (M.1 0 j) v (lat M j)) (fX5_lesser (M.1 0 j) (M.2 9 j) v) (fX5_greater (M.1 0 j) (M.2 10 j) v) (fX5_sum (M.1 0 j) (M.2 12 j) (fX5_amount (M.1 0 j) v))) (lift_j hj (fun j' _ q => rd_oth q) (by rw [hJ0, hMa0]; rw [← e1, ← e2, ← hO1.2.1, ← hO2.1]; exact cz_readN0 l D x xa (M.1 14 0) (M.1 14 1) (M.1 14 2) (M.1 14 3) (mIA I N) (I j) (M.1 0 j) (M.2 5 j) (M.2 6 j) (M.1 13 j) (M.1 1 j) (M.2 9 j) (M.2 10 j) (M.2 11 j) (M.2 12 j) (M.1 7 j) (ff (M.1 0 j)) (zz (M.1 0 j)) (mKI M j) (mKJ M j) (mL I M j) (mKE M j) (fun c => kof M (6 * j + c)) bits hI.n hI.N8 hj (mIA_at hj) hch.2 hch.1 hnum hthr h0 h2) (fun H h c hc => lead_ok hI hj h c hc)))
    have ok1 : ¬ gi_isBeyondLimits (M.2 5 j) (M.2 6 j) (ff (M.1 0 j)) (zz (M.1 0 j)) v = 0 → cmd l D x xa oa ov I N M T yL_read cL_read 6 [(0, 10, 13, 21), (0, 10, 17, 13)] [.ref x, .int (nI j), .long bits, .ref oa] 0 v (alM M j (rdM M j v (fX5_swing (M.1 0 j) v (lat M j)) (fX5_lesser (M.1 0 j) (M.2 9 j) v) (fX5_greater (M.1 0 j) (M.2 10 j) v) (fX5_sum (M.1 0 j) (M.2 12 j) (fX5_amount (M.1 0 j) v)))) := fun h2 =>
      cmd_v (inv_al inv hj) (ch_read_ok l D x xa oa ov I N M (nI j) bits (rm := rmP 6) ⟨by decide, by decide, by decide, by decide⟩ (S := Unit) (v := fun _ => v) (I1 := fun _ => I) (N1 := N) (M1 := alM M j (rdM M j v (fX5_swing (M.1 0 j) v (lat M j)) (fX5_lesser (M.1 0 j) (M.2 9 j) v) (fX5_greater (M.1 0 j) (M.2 10 j) v) (fX5_sum (M.1 0 j) (M.2 12 j) (fX5_amount (M.1 0 j) v)))) (lift_j hj (fun j' _ q => al_oth q (rd_oth q)) (by rw [hJ1, hMa1]; rw [← e1, ← e2, ← hO1.2.1, ← hO2.1]; exact cz_readN1 l D x xa (M.1 14 0) (M.1 14 1) (M.1 14 2) (M.1 14 3) (mIA I N) (I j) (M.1 0 j) (M.2 5 j) (M.2 6 j) (M.1 13 j) (M.1 1 j) (M.2 9 j) (M.2 10 j) (M.2 11 j) (M.2 12 j) (M.1 7 j) (ff (M.1 0 j)) (zz (M.1 0 j)) (mKI M j) (mKJ M j) (mL I M j) (mKE M j) (fun c => kof M (6 * j + c)) bits hI.n hI.N8 hj (mIA_at hj) hch.2 hch.1 hnum hthr h0 h2) (fun H h c hc => lead_ok hI hj h c hc)))
    unfold hX5_readN
    rw [if_pos hn]
    by_cases b1 : fX5_isAbove (M.1 0 j) (M.2 5 j) v = 0
    · rw [if_pos b1]
      rw [if_pos b1] at hbe
      by_cases b2 : fX5_isAbove (M.1 0 j) v (M.2 6 j) = 0
      · rw [if_pos b2]
        rw [if_pos b2] at hbe
        exact ok0 hbe
      · rw [if_neg b2]
        rw [if_neg b2] at hbe
        exact ok1 (by rw [hbe]; decide)
    · rw [if_neg b1]
      rw [if_neg b1] at hbe
      exact ok1 (by rw [hbe]; decide)
  · unfold hX5_readN
    rw [if_neg hn]
    exact cmd_t (t1 := 2) hI hT (by decide) (ch_read_t2 l D x xa oa ov I N M (nI j) bits (by decide) ((ct_read_1 l D x xa (M.1 14 0) (M.1 14 1) (M.1 14 2) (M.1 14 3) (mIA I N) (I j) (M.1 0 j) (M.2 5 j) (M.2 6 j) (M.1 13 j) (M.1 1 j) (M.2 9 j) (M.2 10 j) (M.2 11 j) (M.2 12 j) (M.1 7 j) (ff (M.1 0 j)) (zz (M.1 0 j)) (mKI M j) (mKJ M j) (mL I M j) (mKE M j) bits hlt hI.n hI.N8 hj (mIA_at hj) (en.mpr hn)).mono (fun H h => WS_sub hj h)))
