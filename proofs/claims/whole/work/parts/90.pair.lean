/-! THE TWO SIDES OF A COMMAND -/
set_option maxRecDepth 100000 in
set_option maxHeartbeats 4000000 in
theorem cqX5_read_none (l : Launch) (D : mG) (r : Nat) (ma : Nat → Nat) (t : Int32) (M : MSt) {j : Nat} (hj : j < 8) (hin : fX5_isInst (M.1 14 0) (nI j) = 1) {so : Int32} (hso : M.1 0 j = so) (bits : Int64) (hn : ¬ fX5_isNone so bits = 0) : cQ l D yX5_read cX5_read 9 (some .long) (rmP 6) (wM D r ma t M) [.ref r, .int (nI j), .long bits] (some (.long (0 : Int32).toInt64)) (wM D r ma 2 M) := by
  refine cQ_of (by decide) (Nat.le_of_ble_eq_true rfl) ?_
  intro p e s m below meth c ls A hx hb hr hlocks G hnm hgf hA hP hD hS hl
  have hl : lv_has ls 9 [(0, .ref r), (1, .int (nI j)), (2, .long bits)] := hl
  refine lv_aload_n hx hb dX5_read_0 rfl (lv_at hl 0 rfl) ?_
  refine lv_iconst (v := 0) hx hb dX5_read_1 (by decide) ?_
  refine mw_put (w1 := wM D r ma 0 M) G hgf hP hD hS 0 rfl rfl inX5 tyX5_ok nmX5 0 (by decide) qw3_162 rfl rfl rfl rfl (Nat.le_of_ble_eq_true rfl) rfl dX5_read_2 (fun H locs hP hD hS => ?_)
  refine lv_aload_n hx hb dX5_read_5 rfl (lv_at hl 0 rfl) ?_
  refine lv_iload_n hx hb dX5_read_6 rfl (lv_at hl 1 rfl) ?_
  refine kV (C := RX5) G (cvX5_isInstrument l D r ma 0 M (nI j)) okX5_isInstrument hgf hP (mw_recv hgf (hP 0 _ rfl) rfl) qw4_15 ⟨Nat.le_of_ble_eq_true rfl, Nat.le_of_ble_eq_true rfl⟩ ⟨Nat.zero_le _, Nat.zero_le _⟩ hl.1 (Nat.le_of_ble_eq_true rfl) rfl dX5_read_7 ?_
  rw [show fX5_isInst (M.1 14 0) (nI j) = 1 from hin]
  refine lv_if_ne (tgt := 20) hx hb dX5_read_10 (by decide) (fun _ => ?_) (fun h => absurd h (by decide))
  refine lv_iload_n hx hb dX5_read_20 rfl (lv_at hl 1 rfl) ?_
  refine lv_istore (lv' := [(4, .int (nI j)), (0, .ref r), (1, .int (nI j)), (2, .long bits)]) hx hb dX5_read_21 hl (by decide) rfl (fun ls hl => ?_)
  refine lv_aload_n hx hb dX5_read_23 rfl (lv_at hl 1 rfl) ?_
  refine mw_get G hgf (hP 0 _ rfl) rfl inX5 2 (by decide) qw3_164 rfl dX5_read_24 ?_
  refine lv_iload hx hb dX5_read_27 (lv_at hl 0 rfl) ?_
  refine mN_iald (f := M.1 0) G hgf (hP 1 _ rfl) (k := j) (rfl) (hj) (by decide) dX5_read_29 ?_
  rw [show M.1 0 j = so from hso]
  refine lv_istore (lv' := [(5, .int so), (4, .int (nI j)), (0, .ref r), (1, .int (nI j)), (2, .long bits)]) hx hb dX5_read_30 hl (by decide) rfl (fun ls hl => ?_)
  refine lv_iload hx hb dX5_read_32 (lv_at hl 0 rfl) ?_
  refine lv_lload_n hx hb dX5_read_34 rfl (lv_at hl 4 rfl) ?_
  refine kS G (cvX5_isNone l D so bits) okX5_isNone hgf trivial qw4_28 ⟨Nat.le_of_ble_eq_true rfl, Nat.le_of_ble_eq_true rfl⟩ ⟨Nat.zero_le _, Nat.zero_le _⟩ hl.1 (Nat.le_of_ble_eq_true rfl) rfl dX5_read_35 ?_
  refine lv_if_eq (tgt := 48) hx hb dX5_read_38 (by decide) (fun c_1 => absurd c_1 hn) (fun c_1 => ?_)
  refine lv_aload_n hx hb dX5_read_41 rfl (lv_at hl 2 rfl) ?_
  refine lv_iconst (v := 2) hx hb dX5_read_42 (by decide) ?_
  refine kQ (C := RX5) (wr := []) (w1 := wM D r ma 2 M) G (cqX5_fail l D r ma 0 M 2) okX5_fail hgf hP hD hS hA [0, 1, 2, 3, 4, 5, 6, 7, 8, 9, 10, 11, 12, 13, 14] [] rfl rfl rfl rfl (by decide) (mw_recv hgf (hP 0 _ rfl) rfl) qw3_228 ⟨Nat.le_of_ble_eq_true rfl, Nat.le_of_ble_eq_true rfl⟩ ⟨Nat.zero_le _, Nat.zero_le _⟩ hl.1 (Nat.le_of_ble_eq_true rfl) rfl dX5_read_43 (fun H locs hP hD hS => ?_)
  refine lv_i2l hx hb dX5_read_46 rfl ?_
  exact mM_lret (h := ((0 : Int32).toInt64, 2, M)) rfl hx hb hr hlocks hP hD hS dX5_read_47
theorem isI_bad {N : Nat} {i : Int32} (h : i < 0 ∨ ¬ i < nI N) : fX5_isInst (nI N) i = 0 := by
  unfold fX5_isInst
  by_cases h0 : i < 0
  · rw [if_pos h0]
  · rw [if_neg h0, if_pos (Int32.not_lt.mp (h.resolve_left h0))]
theorem pr_mount (l : Launch) (D : mG) (x xa oa : Nat) (ov : Nat → Int64) (I : Nat → Nat → Nat) (N : Nat) (M : MSt) (T : Nat) (hlt : l.stackTraces = false) (hI : Inv M N T) (hT : T < 512) (so : Int32) : ∃ (t1 : Int32) (bv : Int32) (M1 : MSt), cmd l D x xa oa ov I N M T yL_mount cL_mount 4 [(0, 9, 12, 13), (0, 9, 15, 15)] [.ref x, .int so, .ref oa] t1 bv.toInt64 M1 ∧ ∃ k5, k5 ≤ 6 ∧ ∀ (r : Nat) (ma : Nat → Nat) (t : Int32), cQ l D yX5_mount cX5_mount 3 (some .int) (rmP k5) (wM D r ma t M) [.ref r, .int so] (some (.int bv)) (wM D r ma t1 M1) := by
  exact ⟨_, _, _, cm_mount l D x xa oa ov I N M T hlt hI hT so, 2, by decide, fun r ma t => cqX5_mount l D r ma t M hI.N8 hI.n so⟩
theorem pr_widest (l : Launch) (D : mG) (x xa oa : Nat) (ov : Nat → Int64) (I : Nat → Nat → Nat) (N : Nat) (M : MSt) (T : Nat) (hlt : l.stackTraces = false) (hI : Inv M N T) (hT : T < 512) (so : Int32) : ∃ (t1 : Int32) (bv : Int64) (M1 : MSt), cmd l D x xa oa ov I N M T yL_widest cL_widest 4 [(0, 8, 11, 13), (0, 8, 14, 37)] [.ref x, .int so, .ref oa] t1 bv M1 ∧ ∃ k5, k5 ≤ 6 ∧ ∀ (r : Nat) (ma : Nat → Nat) (t : Int32), cQ l D yX5_widest cX5_widest 6 (some .long) (rmP k5) (wM D r ma t M) [.ref r, .int so] (some (.long bv)) (wM D r ma t1 M1) := by
  exact ⟨_, _, _, cm_widest l D x xa oa ov I N M T ma_all hlt hI hT so, 4, by decide, fun r ma t => cqX5_widest l D r ma t M hI.N8 hI.n so⟩
theorem pr_step (l : Launch) (D : mG) (x xa oa : Nat) (ov : Nat → Int64) (I : Nat → Nat → Nat) (N : Nat) (M : MSt) (T : Nat) (hlt : l.stackTraces = false) (hI : Inv M N T) (hT : T < 512) (i st : Int32) (k : Int64) : ∃ (t1 : Int32) (bv : Int32) (M1 : MSt), cmd l D x xa oa ov I N M T yL_step cL_step 7 [(0, 12, 15, 21), (0, 12, 19, 13), (0, 12, 23, 23)] [.ref x, .int i, .int st, .long k, .ref oa] t1 bv.toInt64 M1 ∧ ∃ k5, k5 ≤ 6 ∧ ∀ (r : Nat) (ma : Nat → Nat) (t : Int32), cQ l D yX5_step cX5_step 6 (some .int) (rmP k5) (wM D r ma t M) [.ref r, .int i, .int st, .long k] (some (.int bv)) (wM D r ma t1 M1) := by
  rcases inst_cases i hI.N8 with ⟨j, hj, rfl⟩ | hb
  · have hj8 : j < 8 := Nat.lt_of_lt_of_le hj hI.N8
    have hin : fX5_isInst (M.1 14 0) (nI j) = 1 := by rw [hI.n]; exact isInst_in hj hI.N8
    exact ⟨_, _, _, cm_step l D x xa oa ov I N M T ma_all hlt hI hT hj st k, 3, by decide, fun r ma t => cqX5_step l D r ma t M hj8 hin (hI.ch hj).2 (hI.ch hj).1 st k⟩
  · exact ⟨1, 0, M, cm_step_b l D x xa oa ov I N M T hlt hI hT st k hb _, 1, by decide, fun r ma t => cqX5_step_bad l D r ma t M i st k (by rw [hI.n]; exact isI_bad hb)⟩
theorem pr_reading (l : Launch) (D : mG) (x xa oa : Nat) (ov : Nat → Int64) (I : Nat → Nat → Nat) (N : Nat) (M : MSt) (T : Nat) (hlt : l.stackTraces = false) (hI : Inv M N T) (hT : T < 512) (i w : Int32) : ∃ (t1 : Int32) (bv : Int64) (M1 : MSt), cmd l D x xa oa ov I N M T yL_reading cL_reading 5 [(0, 9, 12, 21), (0, 9, 16, 37)] [.ref x, .int i, .int w, .ref oa] t1 bv M1 ∧ ∃ k5, k5 ≤ 6 ∧ ∀ (r : Nat) (ma : Nat → Nat) (t : Int32), cQ l D yX5_reading cX5_reading 4 (some .long) (rmP k5) (wM D r ma t M) [.ref r, .int i, .int w] (some (.long bv)) (wM D r ma t1 M1) := by
  rcases inst_cases i hI.N8 with ⟨j, hj, rfl⟩ | hb
  · have hj8 : j < 8 := Nat.lt_of_lt_of_le hj hI.N8
    have hin : fX5_isInst (M.1 14 0) (nI j) = 1 := by rw [hI.n]; exact isInst_in hj hI.N8
    exact ⟨_, _, _, cm_reading l D x xa oa ov I N M T hlt hI hT hj w, 1, by decide, fun r ma t => cqX5_reading l D r ma t M hj8 hin (hI.mn hj).2 (hI.mn hj).1 w⟩
  · exact ⟨1, 0, M, cm_reading_b l D x xa oa ov I N M T hlt hI hT w hb _, 1, by decide, fun r ma t => cqX5_reading_bad l D r ma t M i w (by rw [hI.n]; exact isI_bad hb)⟩
theorem pr_tell (l : Launch) (D : mG) (x xa oa : Nat) (ov : Nat → Int64) (I : Nat → Nat → Nat) (N : Nat) (M : MSt) (T : Nat) (hlt : l.stackTraces = false) (hI : Inv M N T) (hT : T < 512) (i w : Int32) : ∃ (t1 : Int32) (bv : Int64) (M1 : MSt), cmd l D x xa oa ov I N M T yL_tell cL_tell 5 [(0, 9, 12, 21), (0, 9, 16, 13), (0, 9, 20, 37)] [.ref x, .int i, .int w, .ref oa] t1 bv M1 ∧ ∃ k5, k5 ≤ 6 ∧ ∀ (r : Nat) (ma : Nat → Nat) (t : Int32), cQ l D yX5_tell cX5_tell 3 (some .long) (rmP k5) (wM D r ma t M) [.ref r, .int i, .int w] (some (.long bv)) (wM D r ma t1 M1) := by
  rcases inst_cases i hI.N8 with ⟨j, hj, rfl⟩ | hb
  · have hj8 : j < 8 := Nat.lt_of_lt_of_le hj hI.N8
    have hin : fX5_isInst (M.1 14 0) (nI j) = 1 := by rw [hI.n]; exact isInst_in hj hI.N8
    exact ⟨_, _, _, cm_tell l D x xa oa ov I N M T hlt hI hT hj w, 1, by decide, fun r ma t => cqX5_tell l D r ma t M hj8 hin w⟩
  · exact ⟨1, 0, M, cm_tell_b l D x xa oa ov I N M T hlt hI hT w hb _, 1, by decide, fun r ma t => cqX5_tell_bad l D r ma t M i w (by rw [hI.n]; exact isI_bad hb)⟩
theorem pr_whole (l : Launch) (D : mG) (x xa oa : Nat) (ov : Nat → Int64) (I : Nat → Nat → Nat) (N : Nat) (M : MSt) (T : Nat) (hlt : l.stackTraces = false) (hI : Inv M N T) (hT : T < 512) (i : Int32) : ∃ (t1 : Int32) (bv : Int32) (M1 : MSt), cmd l D x xa oa ov I N M T yL_whole cL_whole 4 [(0, 9, 12, 21), (0, 9, 15, 37)] [.ref x, .int i, .ref oa] t1 bv.toInt64 M1 ∧ ∃ k5, k5 ≤ 6 ∧ ∀ (r : Nat) (ma : Nat → Nat) (t : Int32), cQ l D yX5_whole cX5_whole 4 (some .int) (rmP k5) (wM D r ma t M) [.ref r, .int i] (some (.int bv)) (wM D r ma t1 M1) := by
  rcases inst_cases i hI.N8 with ⟨j, hj, rfl⟩ | hb
  · have hj8 : j < 8 := Nat.lt_of_lt_of_le hj hI.N8
    have hin : fX5_isInst (M.1 14 0) (nI j) = 1 := by rw [hI.n]; exact isInst_in hj hI.N8
    exact ⟨_, _, _, cm_whole l D x xa oa ov I N M T ma_all hlt hI hT hj, 2, by decide, fun r ma t => cqX5_whole l D r ma t M hj8 hin (hI.mn hj).2 (hI.mn hj).1 rfl rfl (fun h => num32 (by rw [← h]; exact hI.vlat hj)) (fun h => num64 (by rw [← h]; exact hI.vlat hj))⟩
  · exact ⟨1, 0, M, cm_whole_b l D x xa oa ov I N M T hlt hI hT  hb _, 1, by decide, fun r ma t => cqX5_whole_bad l D r ma t M i (by rw [hI.n]; exact isI_bad hb)⟩
theorem pr_limits (l : Launch) (D : mG) (x xa oa : Nat) (ov : Nat → Int64) (I : Nat → Nat → Nat) (N : Nat) (M : MSt) (T : Nat) (hlt : l.stackTraces = false) (hI : Inv M N T) (hT : T < 512) (i : Int32) (u w : Int64) : ∃ (t1 : Int32) (bv : Int32) (M1 : MSt), cmd l D x xa oa ov I N M T yL_limits cL_limits 8 [(0, 20, 23, 21), (0, 20, 27, 13)] [.ref x, .int i, .long u, .long w, .ref oa] t1 (if bv = 0 then 0 else 1) M1 ∧ ∃ k5, k5 ≤ 6 ∧ ∀ (r : Nat) (ma : Nat → Nat) (t : Int32), cQ l D yX5_limits cX5_limits 7 (some .boolean) (rmP k5) (wM D r ma t M) [.ref r, .int i, .long u, .long w] (some (.int bv)) (wM D r ma t1 M1) := by
  rcases inst_cases i hI.N8 with ⟨j, hj, rfl⟩ | hb
  · have hj8 : j < 8 := Nat.lt_of_lt_of_le hj hI.N8
    have hin : fX5_isInst (M.1 14 0) (nI j) = 1 := by rw [hI.n]; exact isInst_in hj hI.N8
    exact ⟨_, _, _, cm_limits l D x xa oa ov I N M T ma_all hlt hI hT hj u w, 5, by decide, fun r ma t => cqX5_limits l D r ma t M hj8 hin u w⟩
  · exact ⟨1, 0, M, cm_limits_b l D x xa oa ov I N M T hlt hI hT u w hb _, 1, by decide, fun r ma t => cqX5_limits_bad l D r ma t M i u w (by rw [hI.n]; exact isI_bad hb)⟩
theorem pr_forget (l : Launch) (D : mG) (x xa oa : Nat) (ov : Nat → Int64) (I : Nat → Nat → Nat) (N : Nat) (M : MSt) (T : Nat) (hlt : l.stackTraces = false) (hI : Inv M N T) (hT : T < 512) (i : Int32) : ∃ (t1 : Int32) (bv : Int32) (M1 : MSt), cmd l D x xa oa ov I N M T yL_forget cL_forget 4 [(0, 9, 12, 21)] [.ref x, .int i, .ref oa] t1 bv.toInt64 M1 ∧ ∃ k5, k5 ≤ 6 ∧ ∀ (r : Nat) (ma : Nat → Nat) (t : Int32), cQ l D yX5_forget cX5_forget 3 (some .int) (rmP k5) (wM D r ma t M) [.ref r, .int i] (some (.int bv)) (wM D r ma t1 M1) := by
  rcases inst_cases i hI.N8 with ⟨j, hj, rfl⟩ | hb
  · have hj8 : j < 8 := Nat.lt_of_lt_of_le hj hI.N8
    have hin : fX5_isInst (M.1 14 0) (nI j) = 1 := by rw [hI.n]; exact isInst_in hj hI.N8
    exact ⟨_, _, _, cm_forget l D x xa oa ov I N M T hlt hI hT hj, 1, by decide, fun r ma t => cqX5_forget l D r ma t M hj8 hin⟩
  · exact ⟨1, 0, M, cm_forget_b l D x xa oa ov I N M T hlt hI hT  hb _, 1, by decide, fun r ma t => cqX5_forget_bad l D r ma t M i (by rw [hI.n]; exact isI_bad hb)⟩
theorem pr_alarms (l : Launch) (D : mG) (x xa oa : Nat) (ov : Nat → Int64) (I : Nat → Nat → Nat) (N : Nat) (M : MSt) (T : Nat) (hlt : l.stackTraces = false) (hI : Inv M N T) (hT : T < 512) (i : Int32) : ∃ (t1 : Int32) (bv : Int32) (M1 : MSt), cmd l D x xa oa ov I N M T yL_alarms cL_alarms 4 [(0, 9, 12, 21)] [.ref x, .int i, .ref oa] t1 bv.toInt64 M1 ∧ ∃ k5, k5 ≤ 6 ∧ ∀ (r : Nat) (ma : Nat → Nat) (t : Int32), cQ l D yX5_alarms cX5_alarms 2 (some .int) (rmP k5) (wM D r ma t M) [.ref r, .int i] (some (.int bv)) (wM D r ma t1 M1) := by
  rcases inst_cases i hI.N8 with ⟨j, hj, rfl⟩ | hb
  · have hj8 : j < 8 := Nat.lt_of_lt_of_le hj hI.N8
    have hin : fX5_isInst (M.1 14 0) (nI j) = 1 := by rw [hI.n]; exact isInst_in hj hI.N8
    exact ⟨_, _, _, cm_alarms l D x xa oa ov I N M T hlt hI hT hj, 1, by decide, fun r ma t => cqX5_alarms l D r ma t M hj8 hin⟩
  · exact ⟨1, 0, M, cm_alarms_b l D x xa oa ov I N M T hlt hI hT  hb _, 1, by decide, fun r ma t => cqX5_alarms_bad l D r ma t M i (by rw [hI.n]; exact isI_bad hb)⟩
theorem pr_follow (l : Launch) (D : mG) (x xa oa : Nat) (ov : Nat → Int64) (I : Nat → Nat → Nat) (N : Nat) (M : MSt) (T : Nat) (hlt : l.stackTraces = false) (hI : Inv M N T) (hT : T < 512) (i st o : Int32) : ∃ (t1 : Int32) (bv : Int32) (M1 : MSt), cmd l D x xa oa ov I N M T yL_follow cL_follow 6 [(0, 12, 15, 21), (0, 12, 19, 13), (0, 12, 23, 23)] [.ref x, .int i, .int st, .int o, .ref oa] t1 bv.toInt64 M1 ∧ ∃ k5, k5 ≤ 6 ∧ ∀ (r : Nat) (ma : Nat → Nat) (t : Int32), cQ l D yX5_follow cX5_follow 4 (some .int) (rmP k5) (wM D r ma t M) [.ref r, .int i, .int st, .int o] (some (.int bv)) (wM D r ma t1 M1) := by
  rcases inst_cases i hI.N8 with ⟨j, hj, rfl⟩ | hb
  · have hj8 : j < 8 := Nat.lt_of_lt_of_le hj hI.N8
    have hin : fX5_isInst (M.1 14 0) (nI j) = 1 := by rw [hI.n]; exact isInst_in hj hI.N8
    rcases inst_cases o hI.N8 with ⟨q, hq, rfl⟩ | hb
    · have hq8 : q < 8 := Nat.lt_of_lt_of_le hq hI.N8
      have hin2 : fX5_isInst (M.1 14 0) (nI q) = 1 := by rw [hI.n]; exact isInst_in hq hI.N8
      by_cases hqj : q = j
      · subst hqj
        exact ⟨_, _, _, cm_follow_s l D x xa oa ov I N M T ma_all hlt hI hT hj st, 2, by decide, fun r ma t => cqX5_follow l D r ma t M hj8 hq8 hin hin2 (hI.ch hj).2 (hI.ch hj).1 st⟩
      · exact ⟨_, _, _, cm_follow_o l D x xa oa ov I N M T ma_all hlt hI hT hj hq hqj st, 2, by decide, fun r ma t => cqX5_follow l D r ma t M hj8 hq8 hin hin2 (hI.ch hj).2 (hI.ch hj).1 st⟩
    · exact ⟨1, 0, M, cm_follow_c l D x xa oa ov I N M T hlt hI hT hj st hb _, 1, by decide, fun r ma t => cqX5_follow_bad2 l D r ma t M hin st o (by rw [hI.n]; exact isI_bad hb)⟩
  · exact ⟨1, 0, M, cm_follow_b l D x xa oa ov I N M T hlt hI hT st o hb _, 1, by decide, fun r ma t => cqX5_follow_bad l D r ma t M i st o (by rw [hI.n]; exact isI_bad hb)⟩
theorem pr_read (l : Launch) (D : mG) (x xa oa : Nat) (ov : Nat → Int64) (I : Nat → Nat → Nat) (N : Nat) (M : MSt) (T : Nat) (hlt : l.stackTraces = false) (hI : Inv M N T) (hT : T < 512) (i : Int32) (bits : Int64) : ∃ (t1 : Int32) (bv : Int64) (M1 : MSt), cmd l D x xa oa ov I N M T yL_read cL_read 6 [(0, 10, 13, 21), (0, 10, 17, 13)] [.ref x, .int i, .long bits, .ref oa] t1 bv M1 ∧ ∃ k5, k5 ≤ 6 ∧ ∀ (r : Nat) (ma : Nat → Nat) (t : Int32), cQ l D yX5_read cX5_read 9 (some .long) (rmP k5) (wM D r ma t M) [.ref r, .int i, .long bits] (some (.long bv)) (wM D r ma t1 M1) := by
  rcases inst_cases i hI.N8 with ⟨j, hj, rfl⟩ | hb
  · have hj8 : j < 8 := Nat.lt_of_lt_of_le hj hI.N8
    have hin : fX5_isInst (M.1 14 0) (nI j) = 1 := by rw [hI.n]; exact isInst_in hj hI.N8
    have hso := hI.so hj
    by_cases hn : fX5_isNone (M.1 0 j) bits = 0
    · have hv := (thr_ok ma_all hI hj (vld_cut hn) (chn M j) (Nat.le_refl _)).2
      have hA := (ma_A _ hso _ hv).2
      by_cases h0 : M.1 7 j = 0
      · exact ⟨_, _, _, cm_readF l D x xa oa ov I N M T ma_all hlt hI hT hj bits h0, 6, by decide, fun r ma t => cqX5_readF l D r ma t M hI.1 hj hj8 hin (hI.mn hj).2 (hI.mn hj).1 rfl bits rfl h0 (ma_P _ hso 0 _ ⟨vld0 hso, fun _ => by decide⟩ hA).2.1⟩
      · have hc : cnt M j ≠ 0 := fun q => h0 (by rw [(hI.mn hj).2, q]; rfl)
        exact ⟨_, _, _, cm_readN l D x xa oa ov I N M T ma_all hlt hI hT hj bits h0, 6, by decide, fun r ma t => cqX5_readN l D r ma t M hI.1 hj hj8 hin (hI.mn hj).2 (hI.mn hj).1 rfl bits rfl h0 rfl (ma_D _ hso _ _ hv (hI.vlat hj)).2.1 (ma_P _ hso _ _ (hI.2.2.2.2.2.1 j hj hc).2.2.2 hA).2.1⟩
    · have key : ∃ val : Int64, cmd l D x xa oa ov I N M T yL_read cL_read 6 [(0, 10, 13, 21), (0, 10, 17, 13)] [.ref x, .int (nI j), .long bits, .ref oa] 2 val M := by
        by_cases h0 : M.1 7 j = 0
        · have h := cm_readF l D x xa oa ov I N M T ma_all hlt hI hT hj bits h0
          unfold hX5_readF at h
          rw [if_neg hn] at h
          exact ⟨_, h⟩
        · have h := cm_readN l D x xa oa ov I N M T ma_all hlt hI hT hj bits h0
          unfold hX5_readN at h
          rw [if_neg hn] at h
          exact ⟨_, h⟩
      obtain ⟨val, S, I1, N1, ov1, h1, -, h3⟩ := key
      exact ⟨2, (0 : Int32).toInt64, M, ⟨S, I1, N1, ov1, h1, fun q => absurd q (by decide), h3⟩, 6, by decide, fun r ma t => cqX5_read_none l D r ma t M hj8 hin rfl bits hn⟩
  · exact ⟨1, 0, M, cm_read_b l D x xa oa ov I N M T hlt hI hT bits hb _, 1, by decide, fun r ma t => cqX5_read_bad l D r ma t M i bits (by rw [hI.n]; exact isI_bad hb)⟩
