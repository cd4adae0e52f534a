/-! A READING -/
abbrev rdM (M : MSt) (j : Nat) (v sw le gr su : Int64) : MSt := sI (sI (sL (sL (sL (sL (sL (sI M 14 3 (M.1 14 3 + nI (chn M j))) 11 j sw) 9 j le) 10 j gr) 12 j su) 8 (16 * j + cnt M j % 16) v) 7 j ((M.1 7 j) + 1)) 14 1 ((M.1 14 1) + 1)
abbrev alM (M : MSt) (j : Nat) (X : MSt) : MSt := sI (sI X 13 j ((M.1 13 j) + 1)) 14 2 ((M.1 14 2) + 1)
section RD
variable {M X : MSt} {j j' t c : Nat} {v sw le gr su : Int64} {D : mG} {I : Nat → Nat → Nat} {N T : Nat} {a b : Int32}
theorem rd11 : (rdM M j v sw le gr su).2 11 j' = if j' = j then sw else M.2 11 j' := (show (sL (sI M 14 3 (M.1 14 3 + nI (chn M j))) 11 j sw).2 11 j' = _ from up2)
theorem rd9 : (rdM M j v sw le gr su).2 9 j' = if j' = j then le else M.2 9 j' := (show (sL (sL (sI M 14 3 (M.1 14 3 + nI (chn M j))) 11 j sw) 9 j le).2 9 j' = _ from up2)
theorem rd10 : (rdM M j v sw le gr su).2 10 j' = if j' = j then gr else M.2 10 j' := (show (sL (sL (sL (sI M 14 3 (M.1 14 3 + nI (chn M j))) 11 j sw) 9 j le) 10 j gr).2 10 j' = _ from up2)
theorem rd12 : (rdM M j v sw le gr su).2 12 j' = if j' = j then su else M.2 12 j' := (show (sL (sL (sL (sL (sI M 14 3 (M.1 14 3 + nI (chn M j))) 11 j sw) 9 j le) 10 j gr) 12 j su).2 12 j' = _ from up2)
theorem rd8 : (rdM M j v sw le gr su).2 8 t = if t = 16 * j + cnt M j % 16 then v else M.2 8 t := (show (sL (sL (sL (sL (sL (sI M 14 3 (M.1 14 3 + nI (chn M j))) 11 j sw) 9 j le) 10 j gr) 12 j su) 8 (16 * j + cnt M j % 16) v).2 8 t = _ from up2)
theorem rd7 : (rdM M j v sw le gr su).1 7 j' = if j' = j then (M.1 7 j) + 1 else M.1 7 j' := (show (sI (sL (sL (sL (sL (sL (sI M 14 3 (M.1 14 3 + nI (chn M j))) 11 j sw) 9 j le) 10 j gr) 12 j su) 8 (16 * j + cnt M j % 16) v) 7 j ((M.1 7 j) + 1)).1 7 j' = _ from up1)
theorem rdc (hm : M.1 7 j = nI (cnt M j)) (hc : cnt M j ≤ 512) : cnt (rdM M j v sw le gr su) j' = if j' = j then cnt M j + 1 else cnt M j' := by
  have h : cnt (rdM M j v sw le gr su) j' = ((rdM M j v sw le gr su).1 7 j').toNatClampNeg := rfl
  rw [h, rd7]
  split
  · rw [hm, nI_1, nI_clamp (by omega)]
  · rfl
theorem rd_KE (hm : M.1 7 j = nI (cnt M j)) (hc : cnt M j ≤ 512) : mKE (rdM M j v sw le gr su) j = vp_updL (mKE M j) (M.1 7 j &&& 15).toNatClampNeg v := by
  funext c
  rw [hm, and15 (by omega)]
  show (if c < 16 then (rdM M j v sw le gr su).2 8 (16 * j + c) else 0) = if c = cnt M j % 16 then v else (if c < 16 then M.2 8 (16 * j + c) else 0)
  rw [rd8]
  have h16 : cnt M j % 16 < 16 := Nat.mod_lt _ (by decide)
  by_cases e : c = cnt M j % 16
  · have e1 : 16 * j + c = 16 * j + cnt M j % 16 := by omega
    have e2 : c < 16 := by omega
    rw [if_pos e, if_pos e1, if_pos e2]
  · have e1 : ¬ 16 * j + c = 16 * j + cnt M j % 16 := by omega
    rw [if_neg e, if_neg e1]
theorem rd_KEo (hne : j' ≠ j) : mKE (rdM M j v sw le gr su) j' = mKE M j' := by
  funext c
  show (if c < 16 then (rdM M j v sw le gr su).2 8 (16 * j' + c) else 0) = (if c < 16 then M.2 8 (16 * j' + c) else 0)
  have h16 : cnt M j % 16 < 16 := Nat.mod_lt _ (by decide)
  by_cases e : c < 16
  · have e1 : ¬ 16 * j' + c = 16 * j + cnt M j % 16 := by omega
    rw [if_pos e, if_pos e, rd8, if_neg e1]
  · rw [if_neg e, if_neg e]
theorem rd_oth (hne : j' ≠ j) : wJ D I (rdM M j v sw le gr su) j' = wJ D I M j' := wJ_of rfl rfl rfl rfl rfl (by rw [rd9]; exact if_neg hne) (by rw [rd10]; exact if_neg hne) (by rw [rd11]; exact if_neg hne) (by rw [rd12]; exact if_neg hne) (by rw [rd7]; exact if_neg hne) rfl rfl rfl (rd_KEo hne)
theorem al13 : (sI (sI X 13 j a) 14 2 b).1 13 j' = if j' = j then a else X.1 13 j' := (show (sI X 13 j a).1 13 j' = _ from up1)
theorem al_oth (hne : j' ≠ j) (h : wJ D I X j' = wJ D I M j') : wJ D I (sI (sI X 13 j a) 14 2 b) j' = wJ D I M j' := by
  rw [← h]
  exact wJ_of rfl rfl rfl (by rw [al13]; exact if_neg hne) rfl rfl rfl rfl rfl rfl rfl rfl rfl rfl
theorem inv_al (hI : Inv X N T) (hj : j < N) : Inv (sI (sI X 13 j a) 14 2 b) N T := by
  obtain ⟨hok, ⟨f1, f2, f3⟩, rest⟩ := hI
  refine ⟨hok, ⟨fun j' h => ?_, f2, f3⟩, rest⟩
  obtain ⟨a1, a2, a3, a4⟩ := f1 j' h
  exact ⟨a1, a2, by rw [al13, if_neg (by omega)]; exact a3, a4⟩
theorem inv_read (hI : Inv M N T) (hT : T < 512) (hj : j < N) (hv : vld (M.1 0 j) v) (hsw : vld (M.1 0 j) sw) (hle : vld (M.1 0 j) le) (hgr : vld (M.1 0 j) gr) (hsu : amt (M.1 0 j) su) : Inv (rdM M j v sw le gr su) N (T + 1) := by
  obtain ⟨hc, hmn⟩ := hI.mn hj
  have h16 : cnt M j % 16 < 16 := Nat.mod_lt _ (by decide)
  obtain ⟨⟨k1, k2, k3, k4, k5⟩, ⟨f1, f2, f3⟩, hcn, hT5, v1, v2, v3, v4⟩ := hI
  have hcj := hcn j
  refine ⟨⟨k1, k2, k3, fun j' h => ?_, k5⟩, ⟨fun j' h => ?_, f2, fun t h => ?_⟩, fun j' => ?_, hT, v1, fun j' h h0 => ?_, fun j' h c hcc hc16 => ?_, v4⟩
  · rw [rdc hmn hc, rd7]
    split
    · exact ⟨by omega, by rw [hmn, nI_1]⟩
    · exact k4 j' h
  · obtain ⟨a1, a2, a3, a4, a5, a6, a7⟩ := f1 j' h
    have hne : ¬ j' = j := by omega
    exact ⟨a1, by rw [rd7, if_neg hne]; exact a2, a3, by rw [rd9, if_neg hne]; exact a4, by rw [rd10, if_neg hne]; exact a5, by rw [rd11, if_neg hne]; exact a6, by rw [rd12, if_neg hne]; exact a7⟩
  · rw [rd8, if_neg (by omega)]; exact f3 t h
  · rw [rdc hmn hc]
    split
    · omega
    · exact Nat.le_succ_of_le (hcn j')
  · rw [rd9, rd10, rd11, rd12]
    rw [rdc hmn hc] at h0
    by_cases e : j' = j
    · subst e
      rw [if_pos rfl, if_pos rfl, if_pos rfl, if_pos rfl]
      exact ⟨hle, hgr, hsw, hsu⟩
    · rw [if_neg e] at h0
      rw [if_neg e, if_neg e, if_neg e, if_neg e]
      exact v2 j' h h0
  · rw [rdc hmn hc] at hcc
    rw [rd8]
    by_cases e : j' = j
    · subst e
      rw [if_pos rfl] at hcc
      by_cases e2 : c = cnt M j' % 16
      · rw [if_pos (by omega)]; exact hv
      · rw [if_neg (by omega)]
        exact v3 j' h c (by
          have : c ≠ cnt M j' := fun q => e2 (by rw [← q, Nat.mod_eq_of_lt hc16])
          omega) hc16
    · rw [if_neg e] at hcc
      rw [if_neg (by omega)]
      exact v3 j' h c hcc hc16
end RD
/-! the chain -/
theorem loz_eq {M : MSt} {N T j : Nat} (h : Inv M N T) (hj : j < N) : gi_latestOrZero (M.1 7 j) (mKE M j) = lat M j := by
  unfold gi_latestOrZero
  by_cases h0 : M.1 7 j = 0
  · rw [if_pos (hasRead0.mpr h0), lat, if_pos]
    unfold cnt; rw [h0]; rfl
  · rw [if_neg (fun q => h0 (hasRead0.mp q)), lat_eq h hj h0]
theorem lead_ok {D : mG} {x xa oa : Nat} {ov : Nat → Int64} {I : Nat → Nat → Nat} {M : MSt} {N T j : Nat} (hI : Inv M N T) (hj : j < N) {H : Heap} (hP : va_P D.1 vwCl (WS D x xa oa ov I N M) H) (c : Nat) (hc : c < chn M j) : leadOK D (mKJ M j) (mL I M j) (fun c => kof M (6 * j + c)) H c := by
  have hc6 := (hI.ch hj).1
  rcases hI.1.2.2.2.2 j hj c hc with h | ⟨k, hk, h⟩
  · have h1 : ¬ 0 ≤ M.1 3 (6 * j + c) := fun q => absurd h (Int32.not_lt.mpr q)
    refine Or.inl ⟨?_, ?_⟩
    · unfold mL; rw [if_pos hc, if_neg h1]
    · show kof M (6 * j + c) = mKJ M j c
      unfold kof mKJ; rw [if_neg h1, if_pos (by omega)]
  · have hk8 : k < 8 := by have := hI.N8; omega
    have h1 : 0 ≤ M.1 3 (6 * j + c) := by rw [h]; exact nI_pos' (by omega)
    refine Or.inr ⟨I k, M.1 0 k, M.2 5 k, M.2 6 k, M.1 13 k, M.1 1 k, M.2 9 k, M.2 10 k, M.2 11 k, M.2 12 k, M.1 7 k, mKE M k, ?_, ?_, ?_⟩
    · unfold mL; rw [if_pos hc, if_pos h1, h, nI_clamp (by omega)]
    · exact va_P.app (w1 := [jc D I M k 0]) (w2 := [jc D I M k 5]) (va_at.P (hP _ _ (WS_at (j := k) (i := 0) hk (by decide)))) (va_at.P (hP _ _ (WS_at (j := k) (i := 5) hk (by decide))))
    · show kof M (6 * j + c) = _
      unfold kof; rw [if_pos h1, h, nI_clamp (by omega), loz_eq hI hk]
theorem thr_ok (hm : MATH) {M : MSt} {N T j : Nat} (hI : Inv M N T) (hj : j < N) {v : Int64} (hv : vld (M.1 0 j) v) : ∀ c, c ≤ chn M j → gThr (ff (M.1 0 j)) (zz (M.1 0 j)) (mKI M j) (fun c => kof M (6 * j + c)) c v = thr M j c v ∧ vld (M.1 0 j) (thr M j c v) := by
  have hc6 := (hI.ch hj).1
  intro c
  induction c with
  | zero => exact fun _ => ⟨rfl, hv⟩
  | succ c ih =>
    intro hc
    obtain ⟨h1, h2⟩ := ih (by omega)
    obtain ⟨h3, h4⟩ := hI.2.2.2.2.2.2.2 j hj c (by omega)
    have hkk : fX5_takes (M.1 2 (6 * j + c)) = 0 ∨ vld (M.1 0 j) (kof M (6 * j + c)) := by
      rcases h4 with ⟨h5, h6⟩ | ⟨k, hk, h5, h6⟩
      · have h7 : ¬ 0 ≤ M.1 3 (6 * j + c) := fun q => absurd h5 (Int32.not_lt.mpr q)
        unfold kof; rw [if_neg h7]; exact h6
      · have hk8 : k < 8 := by have := hI.N8; omega
        have h7 : 0 ≤ M.1 3 (6 * j + c) := by rw [h5]; exact nI_pos' (by omega)
        unfold kof; rw [if_pos h7, h5, nI_clamp (by omega), ← h6]; exact Or.inr (hI.vlat hk)
    have hs := hm.2.2.2.2.2.1 _ (hI.so hj) _ _ _ h3 h2 hkk
    refine ⟨?_, hs.2⟩
    show gn_stepped _ _ (mKI M j c) (gThr _ _ _ _ c v) (kof M (6 * j + c)) = fX5_changed _ _ _ _
    rw [h1, show mKI M j c = M.1 2 (6 * j + c) from if_pos (by omega)]
    exact hs.1
