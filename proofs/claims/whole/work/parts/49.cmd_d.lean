/-! A STEP IS LINKED -/
abbrev lnk (M : MSt) (j : Nat) (st : Int32) (k : Int64) (fr : Int32) : MSt := sI (sI (sL (sI M 2 (6 * j + chn M j) st) 4 (6 * j + chn M j) k) 3 (6 * j + chn M j) fr) 1 j ((M.1 1 j) + 1)
section LK
variable {M : MSt} {j j' t c : Nat} {st fr : Int32} {k : Int64} {D : mG} {I : Nat → Nat → Nat} {N T : Nat}
theorem lk2 : (lnk M j st k fr).1 2 t = if t = 6 * j + chn M j then st else M.1 2 t := (show (sI M 2 (6 * j + chn M j) st).1 2 t = _ from up1)
theorem lk3 : (lnk M j st k fr).1 3 t = if t = 6 * j + chn M j then fr else M.1 3 t := (show (sI (sL (sI M 2 (6 * j + chn M j) st) 4 (6 * j + chn M j) k) 3 (6 * j + chn M j) fr).1 3 t = _ from up1)
theorem lk4 : (lnk M j st k fr).2 4 t = if t = 6 * j + chn M j then k else M.2 4 t := (show (sL (sI M 2 (6 * j + chn M j) st) 4 (6 * j + chn M j) k).2 4 t = _ from up2)
theorem lk1 : (lnk M j st k fr).1 1 j' = if j' = j then (M.1 1 j) + 1 else M.1 1 j' := up1
theorem lkc (hch : M.1 1 j = nI (chn M j)) (h6 : chn M j < 6) : chn (lnk M j st k fr) j' = if j' = j then chn M j + 1 else chn M j' := by
  have h : chn (lnk M j st k fr) j' = ((lnk M j st k fr).1 1 j').toNatClampNeg := rfl
  rw [h, lk1]
  split
  · rw [hch, nI_1, nI_clamp (by omega)]
  · rfl
theorem lk_KI (h6 : chn M j < 6) : mKI (lnk M j st k fr) j = upd (mKI M j) (M.1 1 j).toNatClampNeg st := by
  funext c
  show (if c < 6 then (lnk M j st k fr).1 2 (6 * j + c) else 0) = if c = chn M j then st else (if c < 6 then M.1 2 (6 * j + c) else 0)
  rw [lk2]
  by_cases e : c = chn M j
  · have e1 : 6 * j + c = 6 * j + chn M j := by omega
    have e2 : c < 6 := by omega
    rw [if_pos e, if_pos e1, if_pos e2]
  · have e1 : ¬ 6 * j + c = 6 * j + chn M j := by omega
    rw [if_neg e, if_neg e1]
theorem lk_KJ (h6 : chn M j < 6) : mKJ (lnk M j st k fr) j = vp_updL (mKJ M j) (M.1 1 j).toNatClampNeg k := by
  funext c
  show (if c < 6 then (lnk M j st k fr).2 4 (6 * j + c) else 0) = if c = chn M j then k else (if c < 6 then M.2 4 (6 * j + c) else 0)
  rw [lk4]
  by_cases e : c = chn M j
  · have e1 : 6 * j + c = 6 * j + chn M j := by omega
    have e2 : c < 6 := by omega
    rw [if_pos e, if_pos e1, if_pos e2]
  · have e1 : ¬ 6 * j + c = 6 * j + chn M j := by omega
    rw [if_neg e, if_neg e1]
theorem lk_L (hch : M.1 1 j = nI (chn M j)) (h6 : chn M j < 6) : mL I (lnk M j st k fr) j = va_up (mL I M j) (M.1 1 j).toNatClampNeg (if 0 ≤ fr then some (I fr.toNatClampNeg 0) else none) := by
  funext c
  show (if c < chn (lnk M j st k fr) j then (if 0 ≤ (lnk M j st k fr).1 3 (6 * j + c) then some (I ((lnk M j st k fr).1 3 (6 * j + c)).toNatClampNeg 0) else none) else none) = if c = chn M j then (if 0 ≤ fr then some (I fr.toNatClampNeg 0) else none) else mL I M j c
  rw [lk3, lkc hch h6, if_pos rfl]
  by_cases e : c = chn M j
  · have e1 : 6 * j + c = 6 * j + chn M j := by omega
    have e2 : c < chn M j + 1 := by omega
    rw [if_pos e, if_pos e1, if_pos e2]
  · have e1 : ¬ 6 * j + c = 6 * j + chn M j := by omega
    rw [if_neg e, if_neg e1]
    unfold mL
    by_cases e2 : c < chn M j
    · have e3 : c < chn M j + 1 := by omega
      rw [if_pos e2, if_pos e3]
    · have e3 : ¬ c < chn M j + 1 := by omega
      rw [if_neg e2, if_neg e3]
theorem lk_oth (hI : Inv M N T) (hj : j < N) (h6 : chn M j < 6) (hj' : j' < N) (hne : j' ≠ j) : wJ D I (lnk M j st k fr) j' = wJ D I M j' := by
  have hch := (hI.ch hj).2
  have hc' := (hI.ch hj').1
  refine wJ_of rfl rfl rfl rfl (by rw [lk1]; exact if_neg hne) rfl rfl rfl rfl rfl (funext fun c => ?_) (funext fun c => ?_) (funext fun c => ?_) rfl
  · show (if c < 6 then (lnk M j st k fr).1 2 (6 * j' + c) else 0) = if c < 6 then M.1 2 (6 * j' + c) else 0
    by_cases e : c < 6
    · have e1 : ¬ 6 * j' + c = 6 * j + chn M j := by omega
      rw [if_pos e, if_pos e, lk2, if_neg e1]
    · rw [if_neg e, if_neg e]
  · show (if c < 6 then (lnk M j st k fr).2 4 (6 * j' + c) else 0) = if c < 6 then M.2 4 (6 * j' + c) else 0
    by_cases e : c < 6
    · have e1 : ¬ 6 * j' + c = 6 * j + chn M j := by omega
      rw [if_pos e, if_pos e, lk4, if_neg e1]
    · rw [if_neg e, if_neg e]
  · show (if c < chn (lnk M j st k fr) j' then (if 0 ≤ (lnk M j st k fr).1 3 (6 * j' + c) then some (I ((lnk M j st k fr).1 3 (6 * j' + c)).toNatClampNeg 0) else none) else none) = mL I M j' c
    rw [lkc hch h6, if_neg hne]
    unfold mL
    by_cases e : c < chn M j'
    · have e1 : ¬ 6 * j' + c = 6 * j + chn M j := by omega
      rw [if_pos e, if_pos e, lk3, if_neg e1]
    · rw [if_neg e, if_neg e]
theorem inv_link (hI : Inv M N T) (hT : T < 512) (hj : j < N) (h6 : chn M j < 6) (hs : ¬ fX5_isStep (M.1 0 j) st = 0) (hk : (fr < 0 ∧ (fX5_takes st = 0 ∨ vld (M.1 0 j) k)) ∨ ∃ o, o < N ∧ fr = nI o ∧ M.1 0 o = M.1 0 j) : Inv (lnk M j st k fr) N (T + 1) := by
  have hch := (hI.ch hj).2
  have hC : ∀ {j'}, j' < N → chn M j' ≤ 6 := fun h => (hI.ch h).1
  obtain ⟨⟨k1, k2, k3, k4, k5⟩, ⟨f1, f2, f3⟩, hcn, hT5, v1, v2, v3, v4⟩ := hI
  have old : ∀ j', j' < N → ∀ c, c < chn (lnk M j st k fr) j' → (j' = j ∧ c = chn M j) ∨ (c < chn M j' ∧ ¬ 6 * j' + c = 6 * j + chn M j) := by
    intro j' h c hc
    rw [lkc hch h6] at hc
    by_cases e : j' = j
    · subst e
      rw [if_pos rfl] at hc
      by_cases e2 : c = chn M j'
      · exact Or.inl ⟨rfl, e2⟩
      · exact Or.inr ⟨by omega, by omega⟩
    · rw [if_neg e] at hc
      have := hC h
      exact Or.inr ⟨hc, by omega⟩
  refine ⟨⟨k1, k2, fun j' h => ?_, k4, fun j' h c hc => ?_⟩, ⟨fun j' h => ?_, fun t h => ?_, f3⟩, fun j' => Nat.le_succ_of_le (hcn j'), hT, v1, v2, v3, fun j' h c hc => ?_⟩
  · rw [lkc hch h6, lk1]
    split
    · exact ⟨by omega, by rw [hch, nI_1]⟩
    · exact k3 j' h
  · rcases old j' h c hc with ⟨rfl, rfl⟩ | ⟨h1, h2⟩
    · rw [lk3, if_pos rfl]
      rcases hk with ⟨h, -⟩ | ⟨o, h1, h2, -⟩
      · exact Or.inl h
      · exact Or.inr ⟨o, h1, h2⟩
    · rw [lk3, if_neg h2]
      exact k5 j' h c h1
  · obtain ⟨a1, a2⟩ := f1 j' h
    exact ⟨by rw [lk1, if_neg (by omega)]; exact a1, a2⟩
  · obtain ⟨a1, a2⟩ := f2 t h
    exact ⟨by rw [lk2, if_neg (by omega)]; exact a1, by rw [lk4, if_neg (by omega)]; exact a2⟩
  · rcases old j' h c hc with ⟨rfl, rfl⟩ | ⟨h1, h2⟩
    · rw [lk2, lk3, lk4, if_pos rfl, if_pos rfl, if_pos rfl]
      exact ⟨hs, hk⟩
    · rw [lk2, lk3, lk4, if_neg h2, if_neg h2, if_neg h2]
      exact v4 j' h c h1
end LK
theorem full0 {M : MSt} {N T j : Nat} (hI : Inv M N T) (hj : j < N) : (gi_chainIsFull (M.1 1 j) = 0 ↔ ¬ M.1 1 j = 6) ∧ (¬ M.1 1 j = 6 → chn M j < 6) := by
  obtain ⟨h1, h2⟩ := hI.ch hj
  have h3 : M.1 1 j = 6 ↔ chn M j = 6 := by
    rw [h2, show (6 : Int32) = nI 6 from rfl, nI_eq (by omega) (by decide)]
  have h4 : M.1 1 j < 6 ↔ chn M j < 6 := by
    rw [h2, show (6 : Int32) = nI 6 from rfl, nI_ltI (by omega) (by decide)]
  refine ⟨?_, fun h => by rw [h3] at h; omega⟩
  unfold gi_chainIsFull
  rw [h3]
  split
  · rename_i h; rw [h4] at h; simp; omega
  · rename_i h; rw [h4] at h; simp; omega
