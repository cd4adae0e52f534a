/-! MOUNT, on the class's side -/
abbrev mtM (M : MSt) (N : Nat) (so : Int32) (lo hi : Int64) : MSt := sL (sL (sI (sI M 14 0 ((nI N) + 1)) 0 N so) 5 N lo) 6 N hi
section MT
variable {M : MSt} {N T j j' : Nat} {so : Int32} {lo hi : Int64} {D : mG} {I : Nat → Nat → Nat} {u : Nat → Nat}
theorem mt0 : (mtM M N so lo hi).1 0 j' = if j' = N then so else M.1 0 j' := (show (sI (sI M 14 0 ((nI N) + 1)) 0 N so).1 0 j' = _ from up1)
theorem mt5 : (mtM M N so lo hi).2 5 j' = if j' = N then lo else M.2 5 j' := (show (sL (sI (sI M 14 0 ((nI N) + 1)) 0 N so) 5 N lo).2 5 j' = _ from up2)
theorem mt6 : (mtM M N so lo hi).2 6 j' = if j' = N then hi else M.2 6 j' := up2
theorem mt_old (hI : Inv M N T) (hj : j < N) : wJ D (addI I N u) (mtM M N so lo hi) j = wJ D I M j := by
  have hne : ¬ j = N := by omega
  have h := wJ_of (D := D) (I := addI I N u) (M := mtM M N so lo hi) (j := j) (mt0.trans (if_neg hne)) (mt5.trans (if_neg hne)) (mt6.trans (if_neg hne)) rfl rfl rfl rfl rfl rfl rfl rfl rfl (mL_add (I := I) (M := M) (u := u) (hI.1.2.2.2.2 j hj) hI.N8) rfl
  rw [addI_old hj] at h
  exact h
theorem inv_mount (hI : Inv M N T) (hT : T < 512) (hN : N < 8) (hs : srt so) (hlo : vld so lo) (hhi : vld so hi) : Inv (mtM M N so lo hi) (N + 1) (T + 1) := by
  obtain ⟨⟨k1, k2, k3, k4, k5⟩, ⟨f1, f2, f3⟩, hcn, hT5, v1, v2, v3, v4⟩ := hI
  obtain ⟨z1, z7, -⟩ := f1 N (Nat.le_refl _)
  have hch : chn M N = 0 := by unfold chn; rw [z1]; rfl
  have hcn0 : cnt M N = 0 := by unfold cnt; rw [z7]; rfl
  refine ⟨⟨hN, (show (nI N) + 1 = nI (N + 1) from nI_1 N), k3, k4, fun j' h c hc => ?_⟩, ⟨fun j' h => f1 j' (by omega), fun t h => f2 t (by omega), fun t h => f3 t (by omega)⟩, fun j' => Nat.le_succ_of_le (hcn j'), hT, fun j' h => ?_, fun j' h h0 => ?_, fun j' h c hc hc16 => ?_, fun j' h c hc => ?_⟩
  · have hc : c < chn M j' := hc
    by_cases e : j' = N
    · rw [e, hch] at hc; omega
    · rcases k5 j' (by omega) c hc with q | ⟨k, q1, q2⟩
      · exact Or.inl q
      · exact Or.inr ⟨k, by omega, q2⟩
  · rw [mt0, mt5, mt6]
    by_cases e : j' = N
    · rw [if_pos e, if_pos e, if_pos e]; exact ⟨hs, hlo, hhi⟩
    · rw [if_neg e, if_neg e, if_neg e]; exact v1 j' (by omega)
  · have h0 : cnt M j' ≠ 0 := h0
    have e : ¬ j' = N := fun q => h0 (by rw [q]; exact hcn0)
    rw [mt0, if_neg e]; exact v2 j' (by omega) h0
  · have hc : c < cnt M j' := hc
    have e : ¬ j' = N := fun q => by rw [q, hcn0] at hc; omega
    rw [mt0, if_neg e]; exact v3 j' (by omega) c hc hc16
  · have hc : c < chn M j' := hc
    have e : ¬ j' = N := fun q => by rw [q, hch] at hc; omega
    rw [mt0, if_neg e]
    obtain ⟨q1, q2⟩ := v4 j' (by omega) c hc
    refine ⟨q1, q2.imp id ?_⟩
    rintro ⟨k, g1, g2, g3⟩
    exact ⟨k, by omega, g2, by rw [mt0, if_neg (by omega)]; exact g3⟩
theorem mt_fresh (hI : Inv M N T) : fresh (mtM M N so lo hi) N := hI.2.1
theorem WS_mount {x xa oa : Nat} {ov : Nat → Int64} (hI : Inv M N T) : WS D x xa oa ov (addI I N u) (N + 1) (mtM M N so lo hi) = ([(x, .inr (3, [.ref xa, .int (M.1 14 0 + 1), .int (M.1 14 1), .int (M.1 14 2), .int (M.1 14 3)])), (xa, .inl (D.2.2.2, 8, .inr (.inr (.inr (.inr (va_up (mIA I N) (M.1 14 0).toNatClampNeg (some (u 0))))))))] ++ (mOu D oa ov :: IW D I N M)) ++ wI D u so lo hi 0 0 0 0 0 0 0 (ff so) (zz so) (fun _ => 0) (fun _ => 0) (fun _ => none) (fun _ => 0) := by
  have hN := hI.N8
  rw [hI.n, nI_clamp (by omega), ← mIA_add, ← wJ_new (I := I) (u := u) (mt_fresh (so := so) (lo := lo) (hi := hi) hI) (by rw [mt0]; exact if_pos rfl) (by rw [mt5]; exact if_pos rfl) (by rw [mt6]; exact if_pos rfl)]
  show mMa x xa (mtM M N so lo hi) :: mAr D xa (addI I N u) (N + 1) :: mOu D oa ov :: IW D (addI I N u) (N + 1) (mtM M N so lo hi) = _
  rw [IW_succ (fun j hj => mt_old hI hj)]
  rfl
end MT
theorem cm_mount_t (l : Launch) (D : mG) (x xa oa : Nat) (ov : Nat → Int64) (I : Nat → Nat → Nat) (N : Nat) (M : MSt) (T : Nat) (hlt : l.stackTraces = false) (hI : Inv M N T) (hT : T < 512) (so : Int32) (h : so < 0 ∨ ¬ so ≤ 3) (val : Int64) : cmd l D x xa oa ov I N M T yL_mount cL_mount 4 [(0, 9, 12, 13), (0, 9, 15, 15)] [.ref x, .int so, .ref oa] 1 val M := by
  exact cmd_t hI hT (by decide) (ch_mount_t1 l D x xa oa ov I N M so (by decide) ((ct_mount_1 l D x xa (M.1 14 0) (M.1 14 1) (M.1 14 2) (M.1 14 3) (mIA I N) so hlt (by unfold fX4_isSort; rcases h with h | h; exact if_pos h; split; rfl; exact if_pos (Int32.not_le.mp h))).mono (fun H h => WS_sub0 h)))
theorem cm_mount_f (l : Launch) (D : mG) (x xa oa : Nat) (ov : Nat → Int64) (I : Nat → Nat → Nat) (N : Nat) (M : MSt) (T : Nat) (hlt : l.stackTraces = false) (hI : Inv M N T) (hT : T < 512) (so : Int32) (h1 : ¬ so < 0) (h2 : so ≤ 3) (h3 : N = 8) (val : Int64) : cmd l D x xa oa ov I N M T yL_mount cL_mount 4 [(0, 9, 12, 13), (0, 9, 15, 15)] [.ref x, .int so, .ref oa] 2 val M := by
  exact cmd_t hI hT (by decide) (ch_mount_t2 l D x xa oa ov I N M so (by decide) ((ct_mount_2 l D x xa (M.1 14 0) (M.1 14 1) (M.1 14 2) (M.1 14 3) (mIA I N) so hlt (by unfold fX4_isSort; rw [if_neg h1, if_neg (Int32.not_lt.mpr h2)]; decide) (by rw [hI.n, h3]; decide)).mono (fun H h => WS_sub0 h)))
theorem cm_mount0 (l : Launch) (D : mG) (x xa oa : Nat) (ov : Nat → Int64) (I : Nat → Nat → Nat) (N : Nat) (M : MSt) (T : Nat) (hlt : l.stackTraces = false) (hI : Inv M N T) (hT : T < 512) (h3 : N < 8) : cmd l D x xa oa ov I N M T yL_mount cL_mount 4 [(0, 9, 12, 13), (0, 9, 15, 15)] [.ref x, .int 0, .ref oa] 0 (nI N).toInt64 (mtM M N 0 (wlo false) (whi false)) := by
  have hn8 : M.1 14 0 < 8 := by rw [hI.n]; exact nI_lt (b := 8) h3 (by decide)
  have h := (ce_mount0 l D x xa (M.1 14 0) (M.1 14 1) (M.1 14 2) (M.1 14 3) (mIA I N) hI.n h3 hn8).grow (rest := mOu D oa ov :: IW D I N M) (fun u => rfl)
  have h' := ch_mount_ok l D x xa oa ov I N M 0 (rm := { frames := 4, cells := 6, slots := 53, locals := 168 }) ⟨by decide, by decide, by decide, by decide⟩ (S := Nat → Nat) (v := fun _ => M.1 14 0) (I1 := fun u => addI I N u) (N1 := N + 1) (M1 := mtM M N 0 (wlo false) (whi false)) (by rw [show (fun u => WS D x xa oa ov (addI I N u) (N + 1) (mtM M N 0 (wlo false) (whi false))) = _ from funext fun u => WS_mount hI]; exact h)
  exact ⟨Nat → Nat, fun u => addI I N u, N + 1, _, h', fun _ => (if_pos rfl).trans (by rw [hI.n]), inv_mount hI hT h3 (by unfold srt; decide) ⟨by decide, by decide⟩ ⟨by decide, by decide⟩⟩
theorem cm_mount1 (l : Launch) (D : mG) (x xa oa : Nat) (ov : Nat → Int64) (I : Nat → Nat → Nat) (N : Nat) (M : MSt) (T : Nat) (hlt : l.stackTraces = false) (hI : Inv M N T) (hT : T < 512) (h3 : N < 8) : cmd l D x xa oa ov I N M T yL_mount cL_mount 4 [(0, 9, 12, 13), (0, 9, 15, 15)] [.ref x, .int 1, .ref oa] 0 (nI N).toInt64 (mtM M N 1 (wlo true) (whi true)) := by
  have hn8 : M.1 14 0 < 8 := by rw [hI.n]; exact nI_lt (b := 8) h3 (by decide)
  have h := (ce_mount1 l D x xa (M.1 14 0) (M.1 14 1) (M.1 14 2) (M.1 14 3) (mIA I N) hI.n h3 hn8).grow (rest := mOu D oa ov :: IW D I N M) (fun u => rfl)
  have h' := ch_mount_ok l D x xa oa ov I N M 1 (rm := { frames := 4, cells := 6, slots := 53, locals := 168 }) ⟨by decide, by decide, by decide, by decide⟩ (S := Nat → Nat) (v := fun _ => M.1 14 0) (I1 := fun u => addI I N u) (N1 := N + 1) (M1 := mtM M N 1 (wlo true) (whi true)) (by rw [show (fun u => WS D x xa oa ov (addI I N u) (N + 1) (mtM M N 1 (wlo true) (whi true))) = _ from funext fun u => WS_mount hI]; exact h)
  exact ⟨Nat → Nat, fun u => addI I N u, N + 1, _, h', fun _ => (if_pos rfl).trans (by rw [hI.n]), inv_mount hI hT h3 (by unfold srt; decide) ⟨by decide, by decide⟩ ⟨by decide, by decide⟩⟩
theorem cm_mount2 (l : Launch) (D : mG) (x xa oa : Nat) (ov : Nat → Int64) (I : Nat → Nat → Nat) (N : Nat) (M : MSt) (T : Nat) (hlt : l.stackTraces = false) (hI : Inv M N T) (hT : T < 512) (h3 : N < 8) : cmd l D x xa oa ov I N M T yL_mount cL_mount 4 [(0, 9, 12, 13), (0, 9, 15, 15)] [.ref x, .int 2, .ref oa] 0 (nI N).toInt64 (mtM M N 2 (flo false) (finf false)) := by
  have hn8 : M.1 14 0 < 8 := by rw [hI.n]; exact nI_lt (b := 8) h3 (by decide)
  have h := (ce_mount2 l D x xa (M.1 14 0) (M.1 14 1) (M.1 14 2) (M.1 14 3) (mIA I N) hI.n h3 hn8).grow (rest := mOu D oa ov :: IW D I N M) (fun u => rfl)
  have h' := ch_mount_ok l D x xa oa ov I N M 2 (rm := { frames := 4, cells := 6, slots := 60, locals := 168 }) ⟨by decide, by decide, by decide, by decide⟩ (S := Nat → Nat) (v := fun _ => M.1 14 0) (I1 := fun u => addI I N u) (N1 := N + 1) (M1 := mtM M N 2 (flo false) (finf false)) (by rw [show (fun u => WS D x xa oa ov (addI I N u) (N + 1) (mtM M N 2 (flo false) (finf false))) = _ from funext fun u => WS_mount hI]; exact h)
  exact ⟨Nat → Nat, fun u => addI I N u, N + 1, _, h', fun _ => (if_pos rfl).trans (by rw [hI.n]), inv_mount hI hT h3 (by unfold srt; decide) ⟨by decide, by decide⟩ ⟨by decide, by decide⟩⟩
theorem cm_mount3 (l : Launch) (D : mG) (x xa oa : Nat) (ov : Nat → Int64) (I : Nat → Nat → Nat) (N : Nat) (M : MSt) (T : Nat) (hlt : l.stackTraces = false) (hI : Inv M N T) (hT : T < 512) (h3 : N < 8) : cmd l D x xa oa ov I N M T yL_mount cL_mount 4 [(0, 9, 12, 13), (0, 9, 15, 15)] [.ref x, .int 3, .ref oa] 0 (nI N).toInt64 (mtM M N 3 (flo true) (finf true)) := by
  have hn8 : M.1 14 0 < 8 := by rw [hI.n]; exact nI_lt (b := 8) h3 (by decide)
  have h := (ce_mount3 l D x xa (M.1 14 0) (M.1 14 1) (M.1 14 2) (M.1 14 3) (mIA I N) hI.n h3 hn8).grow (rest := mOu D oa ov :: IW D I N M) (fun u => rfl)
  have h' := ch_mount_ok l D x xa oa ov I N M 3 (rm := { frames := 4, cells := 6, slots := 60, locals := 168 }) ⟨by decide, by decide, by decide, by decide⟩ (S := Nat → Nat) (v := fun _ => M.1 14 0) (I1 := fun u => addI I N u) (N1 := N + 1) (M1 := mtM M N 3 (flo true) (finf true)) (by rw [show (fun u => WS D x xa oa ov (addI I N u) (N + 1) (mtM M N 3 (flo true) (finf true))) = _ from funext fun u => WS_mount hI]; exact h)
  exact ⟨Nat → Nat, fun u => addI I N u, N + 1, _, h', fun _ => (if_pos rfl).trans (by rw [hI.n]), inv_mount hI hT h3 (by unfold srt; decide) ⟨by decide, by decide⟩ ⟨by decide, by decide⟩⟩
theorem cm_mount (l : Launch) (D : mG) (x xa oa : Nat) (ov : Nat → Int64) (I : Nat → Nat → Nat) (N : Nat) (M : MSt) (T : Nat) (hlt : l.stackTraces = false) (hI : Inv M N T) (hT : T < 512) (so : Int32) : cmd l D x xa oa ov I N M T yL_mount cL_mount 4 [(0, 9, 12, 13), (0, 9, 15, 15)] [.ref x, .int so, .ref oa] (hX5_mount M N so).2.1 (hX5_mount M N so).1.toInt64 (hX5_mount M N so).2.2 := by
  unfold hX5_mount
  by_cases h1 : so < 0
  · rw [if_pos h1]; exact cm_mount_t l D x xa oa ov I N M T hlt hI hT so (Or.inl h1) _
  · rw [if_neg h1]
    by_cases h2 : so ≤ 3
    · rw [if_pos h2]
      by_cases h3 : nI N = 8
      · rw [if_pos h3]
        exact cm_mount_f l D x xa oa ov I N M T hlt hI hT so h1 h2 ((nI_eq (b := 8) (by have := hI.N8; omega) (by decide)).mp h3) _
      · rw [if_neg h3]
        have hN : N < 8 := by
          have := hI.N8
          have h4 : N ≠ 8 := fun q => h3 (by rw [q]; rfl)
          omega
        have hs : so = 0 ∨ so = 1 ∨ so = 2 ∨ so = 3 := by
          obtain ⟨q, hq, rfl⟩ := nI_of h1
          have h5 : q ≤ 3 := (nI_leI (b := 3) hq (by decide)).mp h2
          have h6 : q = 0 ∨ q = 1 ∨ q = 2 ∨ q = 3 := by omega
          rcases h6 with rfl | rfl | rfl | rfl
          · exact Or.inl rfl
          · exact Or.inr (Or.inl rfl)
          · exact Or.inr (Or.inr (Or.inl rfl))
          · exact Or.inr (Or.inr (Or.inr rfl))
        rcases hs with rfl | rfl | rfl | rfl
        · exact cm_mount0 l D x xa oa ov I N M T hlt hI hT hN
        · exact cm_mount1 l D x xa oa ov I N M T hlt hI hT hN
        · exact cm_mount2 l D x xa oa ov I N M T hlt hI hT hN
        · exact cm_mount3 l D x xa oa ov I N M T hlt hI hT hN
    · rw [if_neg h2]; exact cm_mount_t l D x xa oa ov I N M T hlt hI hT so (Or.inr h2) _
