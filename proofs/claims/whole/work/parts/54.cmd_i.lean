/-! WIDEST, on the class's side -/
theorem wid_eq (hm : MATH) {M : MSt} {N T : Nat} (hI : Inv M N T) {so : Int32} (hs : srt so) : ∀ i, i ≤ N → gWid (fun i => M.1 0 i) (fun i => M.2 11 i) (fun i => M.1 7 i) (fun i => ff (M.1 0 i)) (fun i => zz (M.1 0 i)) so i = wid M so i ∧ ∀ w, wid M so i = some w → vld so w := by
  intro i
  induction i with
  | zero => exact fun _ => ⟨rfl, fun w h => nomatch h⟩
  | succ i ih =>
    intro hi
    have hiN : i < N := by omega
    obtain ⟨h1, h2⟩ := ih (by omega)
    obtain ⟨hc, hmn⟩ := hI.mn hiN
    have h0 : M.1 7 i ≤ 0 ↔ M.1 7 i = 0 := by
      rw [hmn, show (0 : Int32) = nI 0 from rfl, nI_leI (by omega) (by decide), nI_eq (by omega) (by decide)]; omega
    show (if M.1 0 i = so then (if gi_hasRead (M.1 7 i) = 0 then gWid (fun i => M.1 0 i) (fun i => M.2 11 i) (fun i => M.1 7 i) (fun i => ff (M.1 0 i)) (fun i => zz (M.1 0 i)) so i else some (match gWid (fun i => M.1 0 i) (fun i => M.2 11 i) (fun i => M.1 7 i) (fun i => ff (M.1 0 i)) (fun i => zz (M.1 0 i)) so i with | none => M.2 11 i | some w => gn_greater (ff (M.1 0 i)) (zz (M.1 0 i)) w (M.2 11 i))) else gWid (fun i => M.1 0 i) (fun i => M.2 11 i) (fun i => M.1 7 i) (fun i => ff (M.1 0 i)) (fun i => zz (M.1 0 i)) so i) = (if M.1 0 i = so then (if M.1 7 i ≤ 0 then wid M so i else some (match wid M so i with | none => M.2 11 i | some w => fX5_greater so w (M.2 11 i))) else wid M so i) ∧ ∀ w, (if M.1 0 i = so then (if M.1 7 i ≤ 0 then wid M so i else some (match wid M so i with | none => M.2 11 i | some w => fX5_greater so w (M.2 11 i))) else wid M so i) = some w → vld so w
    rw [h1]
    by_cases e : M.1 0 i = so
    · rw [if_pos e, if_pos e]
      by_cases e2 : M.1 7 i = 0
      · rw [if_pos (hasRead0.mpr e2), if_pos (h0.mpr e2)]
        exact ⟨rfl, h2⟩
      · rw [if_neg (fun q => e2 (hasRead0.mp q)), if_neg (fun q => e2 (h0.mp q))]
        have h9 : cnt M i ≠ 0 := fun q => e2 (by rw [hmn, q]; rfl)
        have g3 := (hI.2.2.2.2.2.1 i hiN h9).2.2.1
        rw [e] at g3 ⊢
        cases ho : wid M so i with
        | none => exact ⟨rfl, fun w h => by cases h; exact g3⟩
        | some w0 =>
          have hv := h2 w0 ho
          have hO := (hm.2.2.2.1 so hs _ _ hv g3).1
          refine ⟨by show some (gn_greater _ _ w0 _) = some (fX5_greater so w0 _); rw [hO], fun w h => ?_⟩
          have h : some (fX5_greater so w0 (M.2 11 i)) = some w := h
          cases h
          unfold fX5_greater
          split
          · exact hv
          · exact g3
    · rw [if_neg e, if_neg e]
      exact ⟨rfl, h2⟩
theorem wid_pic {D : mG} {x xa oa : Nat} {ov : Nat → Int64} {I : Nat → Nat → Nat} {M : MSt} {N : Nat} {H : Heap} (h : va_P D.1 vwCl (WS D x xa oa ov I N M) H) : va_P D.1 vwCl [mMa x xa M, mAr D xa I N] H ∧ ∀ i, i < N → widOK D (mIA I N) I (fun i => M.1 0 i) (fun i => M.2 11 i) (fun i => M.1 7 i) (fun i => ff (M.1 0 i)) (fun i => zz (M.1 0 i)) H i :=
  ⟨WS_sub0 h, fun i hi => ⟨mIA_at hi, M.2 5 i, M.2 6 i, M.1 13 i, M.1 1 i, M.2 9 i, M.2 10 i, M.2 12 i, va_P.app (w1 := [jc D I M i 0]) (w2 := [jc D I M i 1]) (va_at.P (h _ _ (WS_at (j := i) (i := 0) hi (by decide)))) (va_at.P (h _ _ (WS_at (j := i) (i := 1) hi (by decide))))⟩⟩
theorem cm_widest (l : Launch) (D : mG) (x xa oa : Nat) (ov : Nat → Int64) (I : Nat → Nat → Nat) (N : Nat) (M : MSt) (T : Nat) (hm : MATH) (hlt : l.stackTraces = false) (hI : Inv M N T) (hT : T < 512) (so : Int32) : cmd l D x xa oa ov I N M T yL_widest cL_widest 4 [(0, 8, 11, 13), (0, 8, 14, 37)] [.ref x, .int so, .ref oa] (hX5_widest M N so).2.1 (hX5_widest M N so).1 (hX5_widest M N so).2.2 := by
  have bad : ∀ (h : so < 0 ∨ ¬ so ≤ 3) (val : Int64), cmd l D x xa oa ov I N M T yL_widest cL_widest 4 [(0, 8, 11, 13), (0, 8, 14, 37)] [.ref x, .int so, .ref oa] 1 val M := fun h val =>
    cmd_t hI hT (by decide) (ch_widest_t1 l D x xa oa ov I N M so (by decide) ((ct_widest_1 l D x xa (M.1 14 0) (M.1 14 1) (M.1 14 2) (M.1 14 3) (mIA I N) so hlt (by unfold fX4_isSort; rcases h with h | h; exact if_pos h; split; rfl; exact if_pos (Int32.not_le.mp h))).mono (fun H h => WS_sub0 h)))
  unfold hX5_widest
  by_cases h1 : so < 0
  · rw [if_pos h1]; exact bad (Or.inl h1) _
  · rw [if_neg h1]
    by_cases h2 : so ≤ 3
    · rw [if_pos h2]
      have h3 : ¬ fX4_isSort so = 0 := by unfold fX4_isSort; rw [if_neg h1, if_neg (Int32.not_lt.mpr h2)]; decide
      have hs : srt so := by
        obtain ⟨q, hq, rfl⟩ := nI_of h1
        have h5 : q ≤ 3 := (nI_leI (b := 3) hq (by decide)).mp h2
        have h6 : q = 0 ∨ q = 1 ∨ q = 2 ∨ q = 3 := by omega
        rcases h6 with rfl | rfl | rfl | rfl
        · exact Or.inl rfl
        · exact Or.inr (Or.inl rfl)
        · exact Or.inr (Or.inr (Or.inl rfl))
        · exact Or.inr (Or.inr (Or.inr rfl))
      have hw := (wid_eq hm hI hs N (Nat.le_refl _)).1
      cases ho : wid M so N with
      | none =>
        rw [ho] at hw
        exact cmd_t (t1 := 2) hI hT (by decide) (ch_widest_t2 l D x xa oa ov I N M so (by decide) ((ct_widest_2 l D x xa (M.1 14 0) (M.1 14 1) (M.1 14 2) (M.1 14 3) (mIA I N) I (fun i => M.1 0 i) (fun i => M.2 11 i) (fun i => M.1 7 i) (fun i => ff (M.1 0 i)) (fun i => zz (M.1 0 i)) so hlt hI.n hI.N8 (fun _ h => mIA_no h) h3 hw).mono (fun H h => wid_pic h)))
      | some w =>
        rw [ho] at hw
        exact cmd_v (hI.more hT) (ch_widest_ok l D x xa oa ov I N M so (rm := rmP 3) ⟨by decide, by decide, by decide, by decide⟩ (S := Unit) (v := fun _ => w) (I1 := fun _ => I) (N1 := N) (M1 := M) ((cv_widest l D x xa (M.1 14 0) (M.1 14 1) (M.1 14 2) (M.1 14 3) (mIA I N) I (fun i => M.1 0 i) (fun i => M.2 11 i) (fun i => M.1 7 i) (fun i => ff (M.1 0 i)) (fun i => zz (M.1 0 i)) so hI.n hI.N8 (fun _ h => mIA_no h) h3 hw).toZ (fun H h _ => wid_pic h)))
    · rw [if_neg h2]; exact bad (Or.inr h2) _
