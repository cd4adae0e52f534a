theorem cm_step (l : Launch) (D : mG) (x xa oa : Nat) (ov : Nat → Int64) (I : Nat → Nat → Nat) (N : Nat) (M : MSt) (T : Nat) (hm : MATH) (hlt : l.stackTraces = false) (hI : Inv M N T) (hT : T < 512) {j : Nat} (hj : j < N) (st : Int32) (k : Int64) : cmd l D x xa oa ov I N M T yL_step cL_step 7 [(0, 12, 15, 21), (0, 12, 19, 13), (0, 12, 23, 23)] [.ref x, .int (nI j), .int st, .long k, .ref oa] (hX5_step M j st k).2.1 (hX5_step M j st k).1.toInt64 (hX5_step M j st k).2.2 := by
  have so := hI.so hj
  have eS := hm.2.1 _ so st
  have ew := hm.1 _ so k
  have en := hm.2.2.1 _ so k
  rw [← ew] at en
  have tk := takes_eq st
  obtain ⟨hfu, hc6⟩ := full0 hI hj
  have hch := hI.ch hj
  have key : ¬ fX5_isStep (M.1 0 j) st = 0 → (fX5_takes st = 0 ∨ (¬ fX5_takes st = 0 ∧ fX5_isNone (M.1 0 j) k = 0)) → cmd l D x xa oa ov I N M T yL_step cL_step 7 [(0, 12, 15, 21), (0, 12, 19, 13), (0, 12, 23, 23)] [.ref x, .int (nI j), .int st, .long k, .ref oa] (hX5_link 0 M j st (fX5_cut (M.1 0 j) k) (-1)).2.1 (hX5_link 0 M j st (fX5_cut (M.1 0 j) k) (-1)).1.toInt64 (hX5_link 0 M j st (fX5_cut (M.1 0 j) k) (-1)).2.2 := by
    intro hs ht
    unfold hX5_link
    by_cases h6 : M.1 1 j = 6
    · rw [if_pos h6]
      rcases ht with ht | ⟨ht, hn⟩
      · exact cmd_t (t1 := 3) hI hT (by decide) (ch_step_t3 l D x xa oa ov I N M (nI j) st k (by decide) ((ct_step_3 l D x xa (M.1 14 0) (M.1 14 1) (M.1 14 2) (M.1 14 3) (mIA I N) (I j) (M.1 0 j) (M.2 5 j) (M.2 6 j) (M.1 13 j) (M.1 1 j) (M.2 9 j) (M.2 10 j) (M.2 11 j) (M.2 12 j) (M.1 7 j) (ff (M.1 0 j)) (zz (M.1 0 j)) (mKI M j) (mKJ M j) (mL I M j) (mKE M j) st k hlt hI.n hI.N8 hj (mIA_at hj) (by rw [eS]; exact hs) (by rw [tk]; exact ht) (fun q => (hfu.mp q) h6)).mono (fun H h => WS_sub hj h)))
      · exact cmd_t (t1 := 3) hI hT (by decide) (ch_step_t3 l D x xa oa ov I N M (nI j) st k (by decide) ((ct_step_4 l D x xa (M.1 14 0) (M.1 14 1) (M.1 14 2) (M.1 14 3) (mIA I N) (I j) (M.1 0 j) (M.2 5 j) (M.2 6 j) (M.1 13 j) (M.1 1 j) (M.2 9 j) (M.2 10 j) (M.2 11 j) (M.2 12 j) (M.1 7 j) (ff (M.1 0 j)) (zz (M.1 0 j)) (mKI M j) (mKJ M j) (mL I M j) (mKE M j) st k hlt hI.n hI.N8 hj (mIA_at hj) (by rw [eS]; exact hs) (by rw [tk]; exact ht) (fun q => en.mp q hn) (fun q => (hfu.mp q) h6)).mono (fun H h => WS_sub hj h)))
    · rw [if_neg h6]
      have h6' := hc6 h6
      have hJ : wJ D I (lnk M j st (fX5_cut (M.1 0 j) k) (-1)) j = wI D (I j) (M.1 0 j) (M.2 5 j) (M.2 6 j) (M.1 13 j) (M.1 1 j + 1) (M.2 9 j) (M.2 10 j) (M.2 11 j) (M.2 12 j) (M.1 7 j) (ff (M.1 0 j)) (zz (M.1 0 j)) (upd (mKI M j) (M.1 1 j).toNatClampNeg st) (vp_updL (mKJ M j) (M.1 1 j).toNatClampNeg (fX5_cut (M.1 0 j) k)) (va_up (mL I M j) (M.1 1 j).toNatClampNeg none) (mKE M j) := wJ_of rfl rfl rfl rfl (by rw [lk1]; exact if_pos rfl) rfl rfl rfl rfl rfl (lk_KI h6') (lk_KJ h6') (by rw [lk_L hch.2 h6', if_neg (by decide)]) rfl
      have inv := inv_link (k := (fX5_cut (M.1 0 j) k)) (fr := -1) hI hT hj h6' hs (Or.inl ⟨by decide, ht.elim Or.inl (fun q => Or.inr (vld_cut q.2))⟩)
      have hin : vp_in (M.1 1 j) 6 := by rw [hch.2]; exact vp_in_nI h6' (by decide)
      rcases ht with ht | ⟨ht, hn⟩
      · exact cmd_v inv (ch_step_ok l D x xa oa ov I N M (nI j) st k (rm := rmP 2) ⟨by decide, by decide, by decide, by decide⟩ (S := Unit) (v := fun _ => M.1 1 j + 1) (I1 := fun _ => I) (N1 := N) (M1 := lnk M j st (fX5_cut (M.1 0 j) k) (-1)) (lift_j hj (fun j' q1 q2 => lk_oth hI hj h6' q1 q2) (by rw [hJ, ← ew]; exact cz_step_1 l D x xa (M.1 14 0) (M.1 14 1) (M.1 14 2) (M.1 14 3) (mIA I N) (I j) (M.1 0 j) (M.2 5 j) (M.2 6 j) (M.1 13 j) (M.1 1 j) (M.2 9 j) (M.2 10 j) (M.2 11 j) (M.2 12 j) (M.1 7 j) (ff (M.1 0 j)) (zz (M.1 0 j)) (mKI M j) (mKJ M j) (mL I M j) (mKE M j) st k hI.n hI.N8 hj (mIA_at hj) hin (by rw [eS]; exact hs) (by rw [tk]; exact ht) (hfu.mpr h6)) (fun _ _ => trivial)))
      · exact cmd_v inv (ch_step_ok l D x xa oa ov I N M (nI j) st k (rm := rmP 2) ⟨by decide, by decide, by decide, by decide⟩ (S := Unit) (v := fun _ => M.1 1 j + 1) (I1 := fun _ => I) (N1 := N) (M1 := lnk M j st (fX5_cut (M.1 0 j) k) (-1)) (lift_j hj (fun j' q1 q2 => lk_oth hI hj h6' q1 q2) (by rw [hJ, ← ew]; exact cz_step_2 l D x xa (M.1 14 0) (M.1 14 1) (M.1 14 2) (M.1 14 3) (mIA I N) (I j) (M.1 0 j) (M.2 5 j) (M.2 6 j) (M.1 13 j) (M.1 1 j) (M.2 9 j) (M.2 10 j) (M.2 11 j) (M.2 12 j) (M.1 7 j) (ff (M.1 0 j)) (zz (M.1 0 j)) (mKI M j) (mKJ M j) (mL I M j) (mKE M j) st k hI.n hI.N8 hj (mIA_at hj) hin (by rw [eS]; exact hs) (by rw [tk]; exact ht) (fun q => en.mp q hn) (hfu.mpr h6)) (fun _ _ => trivial)))
  unfold hX5_step
  by_cases hs : fX5_isStep (M.1 0 j) st = 0
  · rw [if_pos hs]
    exact cmd_t (t1 := 2) hI hT (by decide) (ch_step_t2 l D x xa oa ov I N M (nI j) st k (by decide) ((ct_step_1 l D x xa (M.1 14 0) (M.1 14 1) (M.1 14 2) (M.1 14 3) (mIA I N) (I j) (M.1 0 j) (M.2 5 j) (M.2 6 j) (M.1 13 j) (M.1 1 j) (M.2 9 j) (M.2 10 j) (M.2 11 j) (M.2 12 j) (M.1 7 j) (ff (M.1 0 j)) (zz (M.1 0 j)) (mKI M j) (mKJ M j) (mL I M j) (mKE M j) st k hlt hI.n hI.N8 hj (mIA_at hj) (by rw [eS]; exact hs)).mono (fun H h => WS_sub hj h)))
  · rw [if_neg hs]
    by_cases ht : fX5_takes st = 0
    · rw [if_pos ht]
      exact key hs (Or.inl ht)
    · rw [if_neg ht]
      by_cases hn : fX5_isNone (M.1 0 j) k = 0
      · rw [if_pos hn]
        exact key hs (Or.inr ⟨ht, hn⟩)
      · rw [if_neg hn]
        exact cmd_t (t1 := 2) hI hT (by decide) (ch_step_t2 l D x xa oa ov I N M (nI j) st k (by decide) ((ct_step_2 l D x xa (M.1 14 0) (M.1 14 1) (M.1 14 2) (M.1 14 3) (mIA I N) (I j) (M.1 0 j) (M.2 5 j) (M.2 6 j) (M.1 13 j) (M.1 1 j) (M.2 9 j) (M.2 10 j) (M.2 11 j) (M.2 12 j) (M.1 7 j) (ff (M.1 0 j)) (zz (M.1 0 j)) (mKI M j) (mKJ M j) (mL I M j) (mKE M j) st k hlt hI.n hI.N8 hj (mIA_at hj) (by rw [eS]; exact hs) (by rw [tk]; exact ht) (en.mpr hn)).mono (fun H h => WS_sub hj h)))
theorem WS_subo {D : mG} {x xa oa : Nat} {ov : Nat → Int64} {I : Nat → Nat → Nat} {M : MSt} {N j o : Nat} (hj : j < N) (ho : o < N) {H : Heap} (h : va_P D.1 vwCl (WS D x xa oa ov I N M) H) : va_P D.1 vwCl (mMa x xa M :: mAr D xa I N :: (wJ D I M j ++ [jc D I M o 0])) H := by
  have h1 : va_P D.1 vwCl [jc D I M o 0] H := va_at.P (h _ _ (WS_at (j := o) (i := 0) ho (by decide)))
  exact va_P.app (WS_sub hj h) h1
theorem cm_follow_c (l : Launch) (D : mG) (x xa oa : Nat) (ov : Nat → Int64) (I : Nat → Nat → Nat) (N : Nat) (M : MSt) (T : Nat) (hlt : l.stackTraces = false) (hI : Inv M N T) (hT : T < 512) {j : Nat} (hj : j < N) (st : Int32) {i : Int32} (hb : i < 0 ∨ ¬ i < nI N) (val : Int64) : cmd l D x xa oa ov I N M T yL_follow cL_follow 6 [(0, 12, 15, 21), (0, 12, 19, 13), (0, 12, 23, 23)] [.ref x, .int (nI j), .int st, .int i, .ref oa] 1 val M := by
  exact cmd_t (t1 := 1) hI hT (by decide) (ch_follow_t1 l D x xa oa ov I N M (nI j) st i (by decide) ((ct_follow_c l D x xa (M.1 14 0) (M.1 14 1) (M.1 14 2) (M.1 14 3) (mIA I N) (I j) (M.1 0 j) (M.2 5 j) (M.2 6 j) (M.1 13 j) (M.1 1 j) (M.2 9 j) (M.2 10 j) (M.2 11 j) (M.2 12 j) (M.1 7 j) (ff (M.1 0 j)) (zz (M.1 0 j)) (mKI M j) (mKJ M j) (mL I M j) (mKE M j) st hlt hI.n hI.N8 hj (mIA_at hj) (bad_of hI.N8 hb)).mono (fun H h => WS_sub hj h)))
theorem cm_follow_s (l : Launch) (D : mG) (x xa oa : Nat) (ov : Nat → Int64) (I : Nat → Nat → Nat) (N : Nat) (M : MSt) (T : Nat) (hm : MATH) (hlt : l.stackTraces = false) (hI : Inv M N T) (hT : T < 512) {j : Nat} (hj : j < N) (st : Int32) : cmd l D x xa oa ov I N M T yL_follow cL_follow 6 [(0, 12, 15, 21), (0, 12, 19, 13), (0, 12, 23, 23)] [.ref x, .int (nI j), .int st, .int (nI j), .ref oa] (hX5_follow M j j st).2.1 (hX5_follow M j j st).1.toInt64 (hX5_follow M j j st).2.2 := by
  have so := hI.so hj
  have eS := hm.2.1 _ so st
  have tk := takes_eq st
  obtain ⟨hfu, hc6⟩ := full0 hI hj
  have hch := hI.ch hj
  unfold hX5_follow
  by_cases hs : fX5_isStep (M.1 0 j) st = 0
  · rw [if_pos hs]
    exact cmd_t (t1 := 2) hI hT (by decide) (ch_follow_t2 l D x xa oa ov I N M (nI j) st (nI j) (by decide) ((ct_follow_1s l D x xa (M.1 14 0) (M.1 14 1) (M.1 14 2) (M.1 14 3) (mIA I N) (I j) (M.1 0 j) (M.2 5 j) (M.2 6 j) (M.1 13 j) (M.1 1 j) (M.2 9 j) (M.2 10 j) (M.2 11 j) (M.2 12 j) (M.1 7 j) (ff (M.1 0 j)) (zz (M.1 0 j)) (mKI M j) (mKJ M j) (mL I M j) (mKE M j) st hlt hI.n hI.N8 hj (mIA_at hj) (by rw [eS]; exact hs)).mono (fun H h => WS_sub hj h)))
  · rw [if_neg hs]
    by_cases ht : fX5_takes st = 0
    · rw [if_pos ht]
      exact cmd_t (t1 := 2) hI hT (by decide) (ch_follow_t2 l D x xa oa ov I N M (nI j) st (nI j) (by decide) ((ct_follow_2s l D x xa (M.1 14 0) (M.1 14 1) (M.1 14 2) (M.1 14 3) (mIA I N) (I j) (M.1 0 j) (M.2 5 j) (M.2 6 j) (M.1 13 j) (M.1 1 j) (M.2 9 j) (M.2 10 j) (M.2 11 j) (M.2 12 j) (M.1 7 j) (ff (M.1 0 j)) (zz (M.1 0 j)) (mKI M j) (mKJ M j) (mL I M j) (mKE M j) st hlt hI.n hI.N8 hj (mIA_at hj) (by rw [eS]; exact hs) (by rw [tk]; exact ht)).mono (fun H h => WS_sub hj h)))
    · rw [if_neg ht]
      by_cases hso : M.1 0 j = M.1 0 j
      · rw [if_pos hso]
        unfold hX5_link
        by_cases h6 : M.1 1 j = 6
        · rw [if_pos h6]
          exact cmd_t (t1 := 3) hI hT (by decide) (ch_follow_t3 l D x xa oa ov I N M (nI j) st (nI j) (by decide) ((ct_follow_4s l D x xa (M.1 14 0) (M.1 14 1) (M.1 14 2) (M.1 14 3) (mIA I N) (I j) (M.1 0 j) (M.2 5 j) (M.2 6 j) (M.1 13 j) (M.1 1 j) (M.2 9 j) (M.2 10 j) (M.2 11 j) (M.2 12 j) (M.1 7 j) (ff (M.1 0 j)) (zz (M.1 0 j)) (mKI M j) (mKJ M j) (mL I M j) (mKE M j) st hlt hI.n hI.N8 hj (mIA_at hj) (by rw [eS]; exact hs) (by rw [tk]; exact ht) (fun q => (hfu.mp q) h6)).mono (fun H h => WS_sub hj h)))
        · rw [if_neg h6]
          have h6' := hc6 h6
          have ho8 : j < 8 := by have := hI.N8; omega
          have hJ : wJ D I (lnk M j st 0 (nI j)) j = wI D (I j) (M.1 0 j) (M.2 5 j) (M.2 6 j) (M.1 13 j) (M.1 1 j + 1) (M.2 9 j) (M.2 10 j) (M.2 11 j) (M.2 12 j) (M.1 7 j) (ff (M.1 0 j)) (zz (M.1 0 j)) (upd (mKI M j) (M.1 1 j).toNatClampNeg st) (vp_updL (mKJ M j) (M.1 1 j).toNatClampNeg 0) (va_up (mL I M j) (M.1 1 j).toNatClampNeg (some (I j 0))) (mKE M j) := wJ_of rfl rfl rfl rfl (by rw [lk1]; exact if_pos rfl) rfl rfl rfl rfl rfl (lk_KI h6') (lk_KJ h6') (by rw [lk_L hch.2 h6', if_pos (nI_pos' (by omega)), nI_clamp (by omega)]) rfl
          have inv := inv_link (k := 0) (fr := nI j) hI hT hj h6' hs (Or.inr ⟨j, hj, rfl, hso⟩)
          have hin : vp_in (M.1 1 j) 6 := by rw [hch.2]; exact vp_in_nI h6' (by decide)
          exact cmd_v inv (ch_follow_ok l D x xa oa ov I N M (nI j) st (nI j) (rm := rmP 2) ⟨by decide, by decide, by decide, by decide⟩ (S := Unit) (v := fun _ => M.1 1 j + 1) (I1 := fun _ => I) (N1 := N) (M1 := lnk M j st 0 (nI j)) (lift_j hj (fun j' q1 q2 => lk_oth hI hj h6' q1 q2) (by rw [hJ]; exact cz_follow_s l D x xa (M.1 14 0) (M.1 14 1) (M.1 14 2) (M.1 14 3) (mIA I N) (I j) (M.1 0 j) (M.2 5 j) (M.2 6 j) (M.1 13 j) (M.1 1 j) (M.2 9 j) (M.2 10 j) (M.2 11 j) (M.2 12 j) (M.1 7 j) (ff (M.1 0 j)) (zz (M.1 0 j)) (mKI M j) (mKJ M j) (mL I M j) (mKE M j) st hI.n hI.N8 hj (mIA_at hj) hin (by rw [eS]; exact hs) (by rw [tk]; exact ht) (hfu.mpr h6)) (fun _ _ => trivial)))
      · rw [if_neg hso]
        exact absurd rfl hso
theorem cm_follow_o (l : Launch) (D : mG) (x xa oa : Nat) (ov : Nat → Int64) (I : Nat → Nat → Nat) (N : Nat) (M : MSt) (T : Nat) (hm : MATH) (hlt : l.stackTraces = false) (hI : Inv M N T) (hT : T < 512) {j o : Nat} (hj : j < N) (ho : o < N) (hne : o ≠ j) (st : Int32) : cmd l D x xa oa ov I N M T yL_follow cL_follow 6 [(0, 12, 15, 21), (0, 12, 19, 13), (0, 12, 23, 23)] [.ref x, .int (nI j), .int st, .int (nI o), .ref oa] (hX5_follow M j o st).2.1 (hX5_follow M j o st).1.toInt64 (hX5_follow M j o st).2.2 := by
  have so := hI.so hj
  have eS := hm.2.1 _ so st
  have tk := takes_eq st
  obtain ⟨hfu, hc6⟩ := full0 hI hj
  have hch := hI.ch hj
  unfold hX5_follow
  by_cases hs : fX5_isStep (M.1 0 j) st = 0
  · rw [if_pos hs]
    exact cmd_t (t1 := 2) hI hT (by decide) (ch_follow_t2 l D x xa oa ov I N M (nI j) st (nI o) (by decide) ((ct_follow_1 l D x xa (M.1 14 0) (M.1 14 1) (M.1 14 2) (M.1 14 3) (mIA I N) (I j) (M.1 0 j) (M.2 5 j) (M.2 6 j) (M.1 13 j) (M.1 1 j) (M.2 9 j) (M.2 10 j) (M.2 11 j) (M.2 12 j) (M.1 7 j) (ff (M.1 0 j)) (zz (M.1 0 j)) (mKI M j) (mKJ M j) (mL I M j) (mKE M j) (I o) (M.1 0 o) (M.2 5 o) (M.2 6 o) (M.1 13 o) (M.1 1 o) (M.2 9 o) (M.2 10 o) (M.2 11 o) (M.2 12 o) (M.1 7 o) st hlt hI.n hI.N8 hj (mIA_at hj) ho (mIA_at ho) (by rw [eS]; exact hs)).mono (fun H h => WS_subo hj ho h)))
  · rw [if_neg hs]
    by_cases ht : fX5_takes st = 0
    · rw [if_pos ht]
      exact cmd_t (t1 := 2) hI hT (by decide) (ch_follow_t2 l D x xa oa ov I N M (nI j) st (nI o) (by decide) ((ct_follow_2 l D x xa (M.1 14 0) (M.1 14 1) (M.1 14 2) (M.1 14 3) (mIA I N) (I j) (M.1 0 j) (M.2 5 j) (M.2 6 j) (M.1 13 j) (M.1 1 j) (M.2 9 j) (M.2 10 j) (M.2 11 j) (M.2 12 j) (M.1 7 j) (ff (M.1 0 j)) (zz (M.1 0 j)) (mKI M j) (mKJ M j) (mL I M j) (mKE M j) (I o) (M.1 0 o) (M.2 5 o) (M.2 6 o) (M.1 13 o) (M.1 1 o) (M.2 9 o) (M.2 10 o) (M.2 11 o) (M.2 12 o) (M.1 7 o) st hlt hI.n hI.N8 hj (mIA_at hj) ho (mIA_at ho) (by rw [eS]; exact hs) (by rw [tk]; exact ht)).mono (fun H h => WS_subo hj ho h)))
    · rw [if_neg ht]
      by_cases hso : M.1 0 o = M.1 0 j
      · rw [if_pos hso]
        unfold hX5_link
        by_cases h6 : M.1 1 j = 6
        · rw [if_pos h6]
          exact cmd_t (t1 := 3) hI hT (by decide) (ch_follow_t3 l D x xa oa ov I N M (nI j) st (nI o) (by decide) ((ct_follow_4 l D x xa (M.1 14 0) (M.1 14 1) (M.1 14 2) (M.1 14 3) (mIA I N) (I j) (M.1 0 j) (M.2 5 j) (M.2 6 j) (M.1 13 j) (M.1 1 j) (M.2 9 j) (M.2 10 j) (M.2 11 j) (M.2 12 j) (M.1 7 j) (ff (M.1 0 j)) (zz (M.1 0 j)) (mKI M j) (mKJ M j) (mL I M j) (mKE M j) (I o) (M.1 0 o) (M.2 5 o) (M.2 6 o) (M.1 13 o) (M.1 1 o) (M.2 9 o) (M.2 10 o) (M.2 11 o) (M.2 12 o) (M.1 7 o) st hlt hI.n hI.N8 hj (mIA_at hj) ho (mIA_at ho) (by rw [eS]; exact hs) (by rw [tk]; exact ht) hso.symm (fun q => (hfu.mp q) h6)).mono (fun H h => WS_subo hj ho h)))
        · rw [if_neg h6]
          have h6' := hc6 h6
          have ho8 : o < 8 := by have := hI.N8; omega
          have hJ : wJ D I (lnk M j st 0 (nI o)) j = wI D (I j) (M.1 0 j) (M.2 5 j) (M.2 6 j) (M.1 13 j) (M.1 1 j + 1) (M.2 9 j) (M.2 10 j) (M.2 11 j) (M.2 12 j) (M.1 7 j) (ff (M.1 0 j)) (zz (M.1 0 j)) (upd (mKI M j) (M.1 1 j).toNatClampNeg st) (vp_updL (mKJ M j) (M.1 1 j).toNatClampNeg 0) (va_up (mL I M j) (M.1 1 j).toNatClampNeg (some (I o 0))) (mKE M j) := wJ_of rfl rfl rfl rfl (by rw [lk1]; exact if_pos rfl) rfl rfl rfl rfl rfl (lk_KI h6') (lk_KJ h6') (by rw [lk_L hch.2 h6', if_pos (nI_pos' (by omega)), nI_clamp (by omega)]) rfl
          have inv := inv_link (k := 0) (fr := nI o) hI hT hj h6' hs (Or.inr ⟨o, ho, rfl, hso⟩)
          have hin : vp_in (M.1 1 j) 6 := by rw [hch.2]; exact vp_in_nI h6' (by decide)
          exact cmd_v inv (ch_follow_ok l D x xa oa ov I N M (nI j) st (nI o) (rm := rmP 2) ⟨by decide, by decide, by decide, by decide⟩ (S := Unit) (v := fun _ => M.1 1 j + 1) (I1 := fun _ => I) (N1 := N) (M1 := lnk M j st 0 (nI o)) (lift_o hj ho hne (fun j' q1 q2 => lk_oth hI hj h6' q1 q2) (by rw [hJ]; exact cz_follow_o l D x xa (M.1 14 0) (M.1 14 1) (M.1 14 2) (M.1 14 3) (mIA I N) (I j) (M.1 0 j) (M.2 5 j) (M.2 6 j) (M.1 13 j) (M.1 1 j) (M.2 9 j) (M.2 10 j) (M.2 11 j) (M.2 12 j) (M.1 7 j) (ff (M.1 0 j)) (zz (M.1 0 j)) (mKI M j) (mKJ M j) (mL I M j) (mKE M j) (I o) (M.1 0 o) (M.2 5 o) (M.2 6 o) (M.1 13 o) (M.1 1 o) (M.2 9 o) (M.2 10 o) (M.2 11 o) (M.2 12 o) (M.1 7 o) st hI.n hI.N8 hj (mIA_at hj) ho (mIA_at ho) hin (by rw [eS]; exact hs) (by rw [tk]; exact ht) hso.symm (hfu.mpr h6))))
      · rw [if_neg hso]
        exact cmd_t (t1 := 2) hI hT (by decide) (ch_follow_t2 l D x xa oa ov I N M (nI j) st (nI o) (by decide) ((ct_follow_3 l D x xa (M.1 14 0) (M.1 14 1) (M.1 14 2) (M.1 14 3) (mIA I N) (I j) (M.1 0 j) (M.2 5 j) (M.2 6 j) (M.1 13 j) (M.1 1 j) (M.2 9 j) (M.2 10 j) (M.2 11 j) (M.2 12 j) (M.1 7 j) (ff (M.1 0 j)) (zz (M.1 0 j)) (mKI M j) (mKJ M j) (mL I M j) (mKE M j) (I o) (M.1 0 o) (M.2 5 o) (M.2 6 o) (M.1 13 o) (M.1 1 o) (M.2 9 o) (M.2 10 o) (M.2 11 o) (M.2 12 o) (M.1 7 o) st hlt hI.n hI.N8 hj (mIA_at hj) ho (mIA_at ho) (by rw [eS]; exact hs) (by rw [tk]; exact ht) (fun q => hso q.symm)).mono (fun H h => WS_subo hj ho h)))
