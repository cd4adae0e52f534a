theorem up1 {M : MSt} {a j j' : Nat} {v : Int32} : (sI M a j v).1 a j' = if j' = j then v else M.1 a j' := by
  show (va_up M.1 a (upd (M.1 a) j v)) a j' = _
  unfold va_up upd
  simp
theorem up2 {M : MSt} {a j j' : Nat} {v : Int64} : (sL M a j v).2 a j' = if j' = j then v else M.2 a j' := by
  show (va_up M.2 a (vp_updL (M.2 a) j v)) a j' = _
  unfold va_up vp_updL
  simp
theorem cnt_f {M : MSt} {j j' : Nat} : cnt (sI M 7 j 0) j' = if j' = j then 0 else cnt M j' := by
  unfold cnt
  rw [up1]
  split <;> rfl
theorem inv_forget {M : MSt} {N T j : Nat} (hI : Inv M N T) (hT : T < 512) (hj : j < N) : Inv (sI M 7 j 0) N (T + 1) := by
  obtain ⟨⟨k1, k2, k3, k4, k5⟩, ⟨f1, f2, f3⟩, hcn, hT5, v1, v2, v3, v4⟩ := hI
  refine ⟨⟨k1, k2, k3, fun j' h => ?_, k5⟩, ⟨fun j' h => ?_, f2, f3⟩, fun j' => ?_, hT, v1, fun j' h h0 => ?_, fun j' h c hc => ?_, v4⟩
  · rw [cnt_f, up1]
    split
    · exact ⟨by omega, rfl⟩
    · exact k4 j' h
  · obtain ⟨a1, a2, a3⟩ := f1 j' h
    exact ⟨a1, by rw [up1]; split; rfl; exact a2, a3⟩
  · rw [cnt_f]
    split
    · omega
    · exact Nat.le_succ_of_le (hcn j')
  · rw [cnt_f] at h0
    split at h0
    · exact absurd rfl h0
    · exact v2 j' h h0
  · rw [cnt_f] at hc
    split at hc
    · omega
    · exact v3 j' h c hc
theorem cm_forget (l : Launch) (D : mG) (x xa oa : Nat) (ov : Nat → Int64) (I : Nat → Nat → Nat) (N : Nat) (M : MSt) (T : Nat) (hlt : l.stackTraces = false) (hI : Inv M N T) (hT : T < 512) {j : Nat} (hj : j < N) : cmd l D x xa oa ov I N M T yL_forget cL_forget 4 [(0, 9, 12, 21)] [.ref x, .int (nI j), .ref oa] (hX5_forget M j).2.1 (hX5_forget M j).1.toInt64 (hX5_forget M j).2.2 := by
  have hJ : wJ D I (sI M 7 j 0) j = wI D (I j) (M.1 0 j) (M.2 5 j) (M.2 6 j) (M.1 13 j) (M.1 1 j) (M.2 9 j) (M.2 10 j) (M.2 11 j) (M.2 12 j) 0 (ff (M.1 0 j)) (zz (M.1 0 j)) (mKI M j) (mKJ M j) (mL I M j) (mKE M j) := wJ_of rfl rfl rfl rfl rfl rfl rfl rfl rfl (by rw [up1]; exact if_pos rfl) rfl rfl rfl rfl
  have hoth : ∀ j', j' < N → j' ≠ j → wJ D I (sI M 7 j 0) j' = wJ D I M j' := fun j' _ h => wJ_of rfl rfl rfl rfl rfl rfl rfl rfl rfl (by rw [up1]; exact if_neg h) rfl rfl rfl rfl
  exact cmd_v (inv_forget hI hT hj) (ch_forget_ok l D x xa oa ov I N M (nI j)  (rm := rmP 1) ⟨by decide, by decide, by decide, by decide⟩ (S := Unit) (v := fun _ => M.1 7 j) (I1 := fun _ => I) (N1 := N) (M1 := sI M 7 j 0) (lift_j hj hoth (by rw [hJ]; exact cz_forget l D x xa (M.1 14 0) (M.1 14 1) (M.1 14 2) (M.1 14 3) (mIA I N) (I j) (M.1 0 j) (M.2 5 j) (M.2 6 j) (M.1 13 j) (M.1 1 j) (M.2 9 j) (M.2 10 j) (M.2 11 j) (M.2 12 j) (M.1 7 j) (ff (M.1 0 j)) (zz (M.1 0 j)) (mKI M j) (mKJ M j) (mL I M j) (mKE M j) hI.n hI.N8 hj (mIA_at hj)) (fun _ _ => trivial)))
theorem inv_limits {M : MSt} {N T j : Nat} {u w : Int64} (hI : Inv M N T) (hT : T < 512) (hj : j < N) (hu : vld (M.1 0 j) u) (hw : vld (M.1 0 j) w) : Inv (sL (sL M 5 j u) 6 j w) N (T + 1) := by
  obtain ⟨hok, fr, hcn, hT5, v1, v2, v3, v4⟩ := hI
  refine ⟨hok, fr, fun j' => Nat.le_succ_of_le (hcn j'), hT, fun j' h => ?_, v2, v3, v4⟩
  obtain ⟨a1, a2, a3⟩ := v1 j' h
  refine ⟨a1, ?_, ?_⟩
  · show vld (M.1 0 j') ((sL M 5 j u).2 5 j')
    rw [up2]
    split
    · rename_i e; subst e; exact hu
    · exact a2
  · show vld (M.1 0 j') ((sL (sL M 5 j u) 6 j w).2 6 j')
    rw [up2]
    split
    · rename_i e; subst e; exact hw
    · exact a3
theorem cut_cut (so : Int32) (v : Int64) : fX5_cut so (fX5_cut so v) = fX5_cut so v := by
  have h : ∀ x : Int64, x.toInt32.toInt64.toInt32.toInt64 = x.toInt32.toInt64 := fun x => by rw [Int32.toInt32_toInt64]
  by_cases h0 : so = 0
  · subst h0; exact h v
  · by_cases h2 : so = 2
    · subst h2; exact h v
    · unfold fX5_cut; rw [if_neg h0, if_neg h2, if_neg h0, if_neg h2]
theorem vld_cut {so : Int32} {v : Int64} (h : fX5_isNone so v = 0) : vld so (fX5_cut so v) := by
  refine ⟨cut_cut so v, ?_⟩
  unfold fX5_isNone at h ⊢
  rw [cut_cut]; exact h
theorem cm_limits (l : Launch) (D : mG) (x xa oa : Nat) (ov : Nat → Int64) (I : Nat → Nat → Nat) (N : Nat) (M : MSt) (T : Nat) (hm : MATH) (hlt : l.stackTraces = false) (hI : Inv M N T) (hT : T < 512) {j : Nat} (hj : j < N) (u w : Int64) : cmd l D x xa oa ov I N M T yL_limits cL_limits 8 [(0, 20, 23, 21), (0, 20, 27, 13)] [.ref x, .int (nI j), .long u, .long w, .ref oa] (hX5_limits M j u w).2.1 (if (hX5_limits M j u w).1 = 0 then 0 else 1) (hX5_limits M j u w).2.2 := by
  have so := hI.so hj
  have eu := hm.1 _ so u
  have ew := hm.1 _ so w
  have nu := hm.2.2.1 _ so u
  have nw := hm.2.2.1 _ so w
  rw [← eu] at nu
  rw [← ew] at nw
  unfold hX5_limits
  by_cases h1 : fX5_isNone (M.1 0 j) u = 0
  · rw [if_pos h1]
    by_cases h2 : fX5_isNone (M.1 0 j) w = 0
    · rw [if_pos h2]
      have hu := vld_cut h1
      have hw := vld_cut h2
      have hab := (hm.2.2.2.1 _ so _ _ hu hw).2.2
      have hJ : wJ D I (sL (sL M 5 j (fX5_cut (M.1 0 j) u)) 6 j (fX5_cut (M.1 0 j) w)) j = wI D (I j) (M.1 0 j) (fX5_cut (M.1 0 j) u) (fX5_cut (M.1 0 j) w) (M.1 13 j) (M.1 1 j) (M.2 9 j) (M.2 10 j) (M.2 11 j) (M.2 12 j) (M.1 7 j) (ff (M.1 0 j)) (zz (M.1 0 j)) (mKI M j) (mKJ M j) (mL I M j) (mKE M j) := wJ_of rfl (by show (sL M 5 j _).2 5 j = _; rw [up2]; exact if_pos rfl) (by rw [up2]; exact if_pos rfl) rfl rfl rfl rfl rfl rfl rfl rfl rfl rfl rfl
      have hoth : ∀ j', j' < N → j' ≠ j → wJ D I (sL (sL M 5 j (fX5_cut (M.1 0 j) u)) 6 j (fX5_cut (M.1 0 j) w)) j' = wJ D I M j' := fun j' _ h => wJ_of rfl (by show (sL M 5 j _).2 5 j' = _; rw [up2]; exact if_neg h) (by rw [up2]; exact if_neg h) rfl rfl rfl rfl rfl rfl rfl rfl rfl rfl rfl
      have hv : ∀ b : Int32, (if fX5_isAbove (M.1 0 j) (fX5_cut (M.1 0 j) u) (fX5_cut (M.1 0 j) w) = 0 then 1 else 0 : Int32) = b → cmd l D x xa oa ov I N M T yL_limits cL_limits 8 [(0, 20, 23, 21), (0, 20, 27, 13)] [.ref x, .int (nI j), .long u, .long w, .ref oa] 0 (if b = 0 then 0 else 1) (sL (sL M 5 j (fX5_cut (M.1 0 j) u)) 6 j (fX5_cut (M.1 0 j) w)) := fun b hb => by
        refine cmd_v (inv_limits hI hT hj hu hw) (ch_limits_ok l D x xa oa ov I N M (nI j) u w (rm := rmP 3) ⟨by decide, by decide, by decide, by decide⟩ (S := Unit) (v := fun _ => b) (I1 := fun _ => I) (N1 := N) (M1 := sL (sL M 5 j (fX5_cut (M.1 0 j) u)) 6 j (fX5_cut (M.1 0 j) w)) (lift_j hj hoth (by rw [hJ, ← hb, ← hab, ← eu, ← ew]; exact cz_limits l D x xa (M.1 14 0) (M.1 14 1) (M.1 14 2) (M.1 14 3) (mIA I N) (I j) (M.1 0 j) (M.2 5 j) (M.2 6 j) (M.1 13 j) (M.1 1 j) (M.2 9 j) (M.2 10 j) (M.2 11 j) (M.2 12 j) (M.1 7 j) (ff (M.1 0 j)) (zz (M.1 0 j)) (mKI M j) (mKJ M j) (mL I M j) (mKE M j) u w hI.n hI.N8 hj (mIA_at hj) (fun q => (nu.mp q) h1) (fun q => (nw.mp q) h2)) (fun _ _ => trivial)))
      by_cases h3 : (fX5_isAbove (M.1 0 j) (fX5_cut (M.1 0 j) u) (fX5_cut (M.1 0 j) w)) = 0
      · rw [if_pos h3]; exact hv 1 (if_pos h3)
      · rw [if_neg h3]; exact hv 0 (if_neg h3)
    · rw [if_neg h2]
      exact cmd_t (t1 := 2) hI hT (by decide) (ch_limits_t2 l D x xa oa ov I N M (nI j) u w (by decide) ((ct_limits_2 l D x xa (M.1 14 0) (M.1 14 1) (M.1 14 2) (M.1 14 3) (mIA I N) (I j) (M.1 0 j) (M.2 5 j) (M.2 6 j) (M.1 13 j) (M.1 1 j) (M.2 9 j) (M.2 10 j) (M.2 11 j) (M.2 12 j) (M.1 7 j) (ff (M.1 0 j)) (zz (M.1 0 j)) (mKI M j) (mKJ M j) (mL I M j) (mKE M j) u w hlt hI.n hI.N8 hj (mIA_at hj) (fun q => (nu.mp q) h1) (nw.mpr h2)).mono (fun H h => WS_sub hj h)))
  · rw [if_neg h1]
    exact cmd_t (t1 := 2) hI hT (by decide) (ch_limits_t2 l D x xa oa ov I N M (nI j) u w (by decide) ((ct_limits_1 l D x xa (M.1 14 0) (M.1 14 1) (M.1 14 2) (M.1 14 3) (mIA I N) (I j) (M.1 0 j) (M.2 5 j) (M.2 6 j) (M.1 13 j) (M.1 1 j) (M.2 9 j) (M.2 10 j) (M.2 11 j) (M.2 12 j) (M.1 7 j) (ff (M.1 0 j)) (zz (M.1 0 j)) (mKI M j) (mKJ M j) (mL I M j) (mKE M j) u w hlt hI.n hI.N8 hj (mIA_at hj) (nu.mpr h1)).mono (fun H h => WS_sub hj h)))
