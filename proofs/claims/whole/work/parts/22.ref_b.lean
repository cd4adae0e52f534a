/-! THE REFERENCE: what its public methods answer, throw and leave; j: an instrument that is mounted -/
def hX5_link (t : Int32) (M : MSt) (j : Nat) (st : Int32) (k : Int64) (fr : Int32) : Int32 × Int32 × MSt := if (M.1 1 j) = 6 then (0, 3, M) else ((M.1 1 j) + 1, t, (sI (sI (sL (sI M 2 (6 * j + chn M j) st) 4 (6 * j + chn M j) k) 3 (6 * j + chn M j) fr) 1 j ((M.1 1 j) + 1)))
set_option maxRecDepth 100000 in
set_option maxHeartbeats 4000000 in
theorem cqX5_link (l : Launch) (D : mG) (r : Nat) (ma : Nat → Nat) (t : Int32) (M : MSt) {j : Nat} (hj : j < 8) (hch : M.1 1 j = nI (chn M j)) (hc6 : chn M j ≤ 6) (st : Int32) (k : Int64) (fr : Int32) : cQ l D yX5_link cX5_link 7 (some .int) (rmP 1) (wM D r ma t M) [.ref r, .int (nI j), .int st, .long k, .int fr] (some (.int (hX5_link t M j st k fr).1)) (wM D r ma (hX5_link t M j st k fr).2.1 (hX5_link t M j st k fr).2.2) := by
  refine cQ_of (by decide) (Nat.le_of_ble_eq_true rfl) ?_
  intro p e s m below meth c ls A hx hb hr hlocks G hnm hgf hA hP hD hS hl
  have hl : lv_has ls 7 [(0, .ref r), (1, .int (nI j)), (2, .int st), (3, .long k), (5, .int fr)] := hl
  refine lv_aload_n hx hb dX5_link_0 rfl (lv_at hl 0 rfl) ?_
  refine mw_get G hgf (hP 0 _ rfl) rfl inX5 3 (by decide) qw3_165 rfl dX5_link_1 ?_
  refine lv_iload_n hx hb dX5_link_4 rfl (lv_at hl 1 rfl) ?_
  refine mN_iald (f := M.1 1) G hgf (hP 2 _ rfl) (k := j) (rfl) (hj) (by decide) dX5_link_5 ?_
  refine lv_bipush (v := 6) hx hb dX5_link_6 (by decide) ?_
  refine lv_icmp_ne (tgt := 17) hx hb dX5_link_8 (by decide) (fun c_1 => ?_) (fun c_1 => ?_)
  · refine lv_bipush (v := 6) hx hb dX5_link_17 (by decide) ?_
    refine lv_iload_n hx hb dX5_link_19 rfl (lv_at hl 1 rfl) ?_
    refine lv_imul hx hb dX5_link_20 ?_
    refine lv_aload_n hx hb dX5_link_21 rfl (lv_at hl 0 rfl) ?_
    refine mw_get G hgf (hP 0 _ rfl) rfl inX5 3 (by decide) qw3_165 rfl dX5_link_22 ?_
    refine lv_iload_n hx hb dX5_link_25 rfl (lv_at hl 1 rfl) ?_
    refine mN_iald (f := M.1 1) G hgf (hP 2 _ rfl) (k := j) (rfl) (hj) (by decide) dX5_link_26 ?_
    refine lv_iadd hx hb dX5_link_27 ?_
    refine lv_istore (lv' := [(6, .int ((6 * (nI j)) + (M.1 1 j))), (0, .ref r), (1, .int (nI j)), (2, .int st), (3, .long k), (5, .int fr)]) hx hb dX5_link_28 hl (by decide) rfl (fun ls hl => ?_)
    refine lv_aload_n hx hb dX5_link_30 rfl (lv_at hl 1 rfl) ?_
    refine mw_get G hgf (hP 0 _ rfl) rfl inX5 4 (by decide) qw3_166 rfl dX5_link_31 ?_
    refine lv_iload hx hb dX5_link_34 (lv_at hl 0 rfl) ?_
    refine lv_iload_n hx hb dX5_link_36 rfl (lv_at hl 3 rfl) ?_
    refine mN_iast (f := M.1 2) (w1 := wM D r ma t (sI M 2 (6 * j + chn M j) st)) G hgf hP hD hS 3 rfl (k := 6 * j + chn M j) (by rw [hch]; exact nI_6) (by have q := lt6 hc6 (by rw [← hch]; exact c_1); omega) (by decide) rfl dX5_link_37 (fun H locs hP hD hS => ?_)
    refine lv_aload_n hx hb dX5_link_38 rfl (lv_at hl 1 rfl) ?_
    refine mw_get G hgf (hP 0 _ rfl) rfl inX5 6 (by decide) qw3_168 rfl dX5_link_39 ?_
    refine lv_iload hx hb dX5_link_42 (lv_at hl 0 rfl) ?_
    refine lv_lload_n hx hb dX5_link_44 rfl (lv_at hl 4 rfl) ?_
    refine mN_last (f := (sI M 2 (6 * j + chn M j) st).2 4) (w1 := wM D r ma t (sL (sI M 2 (6 * j + chn M j) st) 4 (6 * j + chn M j) k)) G hgf hP hD hS 5 rfl (k := 6 * j + chn M j) (by rw [hch]; exact nI_6) (by have q := lt6 hc6 (by rw [← hch]; exact c_1); omega) (by decide) rfl dX5_link_45 (fun H locs hP hD hS => ?_)
    refine lv_aload_n hx hb dX5_link_46 rfl (lv_at hl 1 rfl) ?_
    refine mw_get G hgf (hP 0 _ rfl) rfl inX5 5 (by decide) qw3_167 rfl dX5_link_47 ?_
    refine lv_iload hx hb dX5_link_50 (lv_at hl 0 rfl) ?_
    refine lv_iload hx hb dX5_link_52 (lv_at hl 5 rfl) ?_
    refine mN_iast (f := (sL (sI M 2 (6 * j + chn M j) st) 4 (6 * j + chn M j) k).1 3) (w1 := wM D r ma t (sI (sL (sI M 2 (6 * j + chn M j) st) 4 (6 * j + chn M j) k) 3 (6 * j + chn M j) fr)) G hgf hP hD hS 4 rfl (k := 6 * j + chn M j) (by rw [hch]; exact nI_6) (by have q := lt6 hc6 (by rw [← hch]; exact c_1); omega) (by decide) rfl dX5_link_54 (fun H locs hP hD hS => ?_)
    refine lv_aload_n hx hb dX5_link_55 rfl (lv_at hl 1 rfl) ?_
    refine mw_get G hgf (hP 0 _ rfl) rfl inX5 3 (by decide) qw3_165 rfl dX5_link_56 ?_
    refine lv_iload_n hx hb dX5_link_59 rfl (lv_at hl 2 rfl) ?_
    refine lv_dup2_11 hx hb dX5_link_60 rfl rfl ?_
    refine mN_iald (f := M.1 1) G hgf (hP 2 _ rfl) (k := j) (rfl) (hj) (by decide) dX5_link_61 ?_
    refine lv_iconst (v := 1) hx hb dX5_link_62 (by decide) ?_
    refine lv_iadd hx hb dX5_link_63 ?_
    refine mN_iast (f := (sI (sL (sI M 2 (6 * j + chn M j) st) 4 (6 * j + chn M j) k) 3 (6 * j + chn M j) fr).1 1) (w1 := wM D r ma t (sI (sI (sL (sI M 2 (6 * j + chn M j) st) 4 (6 * j + chn M j) k) 3 (6 * j + chn M j) fr) 1 j ((M.1 1 j) + 1))) G hgf hP hD hS 2 rfl (k := j) (rfl) (hj) (by decide) rfl dX5_link_64 (fun H locs hP hD hS => ?_)
    refine lv_aload_n hx hb dX5_link_65 rfl (lv_at hl 1 rfl) ?_
    refine mw_get G hgf (hP 0 _ rfl) rfl inX5 3 (by decide) qw3_165 rfl dX5_link_66 ?_
    refine lv_iload_n hx hb dX5_link_69 rfl (lv_at hl 2 rfl) ?_
    refine mN_iald (f := (sI M 1 j ((M.1 1 j) + 1)).1 1) G hgf (hP 2 _ rfl) (k := j) (rfl) (hj) (by decide) dX5_link_70 ?_
    rw [sI_self]
    exact mM_iret (h := hX5_link t M j st k fr) ((if_neg c_1).trans (rfl)) hx hb hr hlocks hP hD hS dX5_link_71
  · refine lv_aload_n hx hb dX5_link_11 rfl (lv_at hl 0 rfl) ?_
    refine lv_iconst (v := 3) hx hb dX5_link_12 (by decide) ?_
    refine kQ (C := RX5) (wr := []) (w1 := wM D r ma 3 M) G (cqX5_fail l D r ma t M 3) okX5_fail hgf hP hD hS hA [0, 1, 2, 3, 4, 5, 6, 7, 8, 9, 10, 11, 12, 13, 14] [] rfl rfl rfl rfl (by decide) (mw_recv hgf (hP 0 _ rfl) rfl) qw3_228 ⟨Nat.le_of_ble_eq_true rfl, Nat.le_of_ble_eq_true rfl⟩ ⟨Nat.zero_le _, Nat.zero_le _⟩ hl.1 (Nat.le_of_ble_eq_true rfl) rfl dX5_link_13 (fun H locs hP hD hS => ?_)
    exact mM_iret (h := hX5_link t M j st k fr) ((if_pos c_1).trans (rfl)) hx hb hr hlocks hP hD hS dX5_link_16
set_option maxRecDepth 100000 in
set_option maxHeartbeats 4000000 in
theorem cqX5_step_bad (l : Launch) (D : mG) (r : Nat) (ma : Nat → Nat) (t : Int32) (M : MSt) (i st : Int32) (k : Int64) (hbad : fX5_isInst (M.1 14 0) i = 0) : cQ l D yX5_step cX5_step 6 (some .int) (rmP 1) (wM D r ma t M) [.ref r, .int i, .int st, .long k] (some (.int 0)) (wM D r ma 1 M) := by
  refine cQ_of (by decide) (Nat.le_of_ble_eq_true rfl) ?_
  intro p e s m below meth c ls A hx hb hr hlocks G hnm hgf hA hP hD hS hl
  have hl : lv_has ls 6 [(0, .ref r), (1, .int i), (2, .int st), (3, .long k)] := hl
  refine lv_aload_n hx hb dX5_step_0 rfl (lv_at hl 0 rfl) ?_
  refine lv_iconst (v := 0) hx hb dX5_step_1 (by decide) ?_
  refine mw_put (w1 := wM D r ma 0 M) G hgf hP hD hS 0 rfl rfl inX5 tyX5_ok nmX5 0 (by decide) qw3_162 rfl rfl rfl rfl (Nat.le_of_ble_eq_true rfl) rfl dX5_step_2 (fun H locs hP hD hS => ?_)
  refine lv_aload_n hx hb dX5_step_5 rfl (lv_at hl 0 rfl) ?_
  refine lv_iload_n hx hb dX5_step_6 rfl (lv_at hl 1 rfl) ?_
  refine kV (C := RX5) G (cvX5_isInstrument l D r ma 0 M i) okX5_isInstrument hgf hP (mw_recv hgf (hP 0 _ rfl) rfl) qw4_15 ⟨Nat.le_of_ble_eq_true rfl, Nat.le_of_ble_eq_true rfl⟩ ⟨Nat.zero_le _, Nat.zero_le _⟩ hl.1 (Nat.le_of_ble_eq_true rfl) rfl dX5_step_7 ?_
  rw [show fX5_isInst (M.1 14 0) i = 0 from hbad]
  refine lv_if_ne (tgt := 19) hx hb dX5_step_10 (by decide) (fun h => absurd (by decide) h) (fun _ => ?_)
  refine lv_aload_n hx hb dX5_step_13 rfl (lv_at hl 0 rfl) ?_
  refine lv_iconst (v := 1) hx hb dX5_step_14 (by decide) ?_
  refine kQ (C := RX5) (wr := []) (w1 := wM D r ma 1 M) G (cqX5_fail l D r ma 0 M 1) okX5_fail hgf hP hD hS hA [0, 1, 2, 3, 4, 5, 6, 7, 8, 9, 10, 11, 12, 13, 14] [] rfl rfl rfl rfl (by decide) (mw_recv hgf (hP 0 _ rfl) rfl) qw3_228 ⟨Nat.le_of_ble_eq_true rfl, Nat.le_of_ble_eq_true rfl⟩ ⟨Nat.zero_le _, Nat.zero_le _⟩ hl.1 (Nat.le_of_ble_eq_true rfl) rfl dX5_step_15 (fun H locs hP hD hS => ?_)
  exact mM_iret (h := (0, 1, M)) (rfl) hx hb hr hlocks hP hD hS dX5_step_18
def hX5_step (M : MSt) (j : Nat) (st : Int32) (k : Int64) : Int32 × Int32 × MSt := if (fX5_isStep (M.1 0 j) st) = 0 then (0, 2, M) else (if (fX5_takes st) = 0 then ((hX5_link 0 M j st (fX5_cut (M.1 0 j) k) (-1)).1, (hX5_link 0 M j st (fX5_cut (M.1 0 j) k) (-1)).2.1, (hX5_link 0 M j st (fX5_cut (M.1 0 j) k) (-1)).2.2) else (if (fX5_isNone (M.1 0 j) k) = 0 then ((hX5_link 0 M j st (fX5_cut (M.1 0 j) k) (-1)).1, (hX5_link 0 M j st (fX5_cut (M.1 0 j) k) (-1)).2.1, (hX5_link 0 M j st (fX5_cut (M.1 0 j) k) (-1)).2.2) else (0, 2, M)))
set_option maxRecDepth 100000 in
set_option maxHeartbeats 4000000 in
theorem cqX5_step (l : Launch) (D : mG) (r : Nat) (ma : Nat → Nat) (t : Int32) (M : MSt) {j : Nat} (hj : j < 8) (hin : fX5_isInst (M.1 14 0) (nI j) = 1) (hch : M.1 1 j = nI (chn M j)) (hc6 : chn M j ≤ 6) (st : Int32) (k : Int64) : cQ l D yX5_step cX5_step 6 (some .int) (rmP 3) (wM D r ma t M) [.ref r, .int (nI j), .int st, .long k] (some (.int (hX5_step M j st k).1)) (wM D r ma (hX5_step M j st k).2.1 (hX5_step M j st k).2.2) := by
  refine cQ_of (by decide) (Nat.le_of_ble_eq_true rfl) ?_
  intro p e s m below meth c ls A hx hb hr hlocks G hnm hgf hA hP hD hS hl
  have hl : lv_has ls 6 [(0, .ref r), (1, .int (nI j)), (2, .int st), (3, .long k)] := hl
  refine lv_aload_n hx hb dX5_step_0 rfl (lv_at hl 0 rfl) ?_
  refine lv_iconst (v := 0) hx hb dX5_step_1 (by decide) ?_
  refine mw_put (w1 := wM D r ma 0 M) G hgf hP hD hS 0 rfl rfl inX5 tyX5_ok nmX5 0 (by decide) qw3_162 rfl rfl rfl rfl (Nat.le_of_ble_eq_true rfl) rfl dX5_step_2 (fun H locs hP hD hS => ?_)
  refine lv_aload_n hx hb dX5_step_5 rfl (lv_at hl 0 rfl) ?_
  refine lv_iload_n hx hb dX5_step_6 rfl (lv_at hl 1 rfl) ?_
  refine kV (C := RX5) G (cvX5_isInstrument l D r ma 0 M (nI j)) okX5_isInstrument hgf hP (mw_recv hgf (hP 0 _ rfl) rfl) qw4_15 ⟨Nat.le_of_ble_eq_true rfl, Nat.le_of_ble_eq_true rfl⟩ ⟨Nat.zero_le _, Nat.zero_le _⟩ hl.1 (Nat.le_of_ble_eq_true rfl) rfl dX5_step_7 ?_
  rw [show fX5_isInst (M.1 14 0) (nI j) = 1 from hin]
  refine lv_if_ne (tgt := 19) hx hb dX5_step_10 (by decide) (fun _ => ?_) (fun h => absurd h (by decide))
  refine lv_aload_n hx hb dX5_step_19 rfl (lv_at hl 0 rfl) ?_
  refine mw_get G hgf (hP 0 _ rfl) rfl inX5 2 (by decide) qw3_164 rfl dX5_step_20 ?_
  refine lv_iload_n hx hb dX5_step_23 rfl (lv_at hl 1 rfl) ?_
  refine mN_iald (f := M.1 0) G hgf (hP 1 _ rfl) (k := j) (rfl) (hj) (by decide) dX5_step_24 ?_
  refine lv_istore (lv' := [(5, .int (M.1 0 j)), (0, .ref r), (1, .int (nI j)), (2, .int st), (3, .long k)]) hx hb dX5_step_25 hl (by decide) rfl (fun ls hl => ?_)
  refine lv_iload hx hb dX5_step_27 (lv_at hl 0 rfl) ?_
  refine lv_iload_n hx hb dX5_step_29 rfl (lv_at hl 3 rfl) ?_
  refine kS G (cvX5_isStep l D (M.1 0 j) st) okX5_isStep hgf trivial qw4_19 ⟨Nat.le_of_ble_eq_true rfl, Nat.le_of_ble_eq_true rfl⟩ ⟨Nat.zero_le _, Nat.zero_le _⟩ hl.1 (Nat.le_of_ble_eq_true rfl) rfl dX5_step_30 ?_
  refine lv_if_eq (tgt := 52) hx hb dX5_step_33 (by decide) (fun c_1 => ?_) (fun c_1 => ?_)
  · refine lv_aload_n hx hb dX5_step_52 rfl (lv_at hl 1 rfl) ?_
    refine lv_iconst (v := 2) hx hb dX5_step_53 (by decide) ?_
    refine kQ (C := RX5) (wr := []) (w1 := wM D r ma 2 M) G (cqX5_fail l D r ma 0 M 2) okX5_fail hgf hP hD hS hA [0, 1, 2, 3, 4, 5, 6, 7, 8, 9, 10, 11, 12, 13, 14] [] rfl rfl rfl rfl (by decide) (mw_recv hgf (hP 0 _ rfl) rfl) qw3_228 ⟨Nat.le_of_ble_eq_true rfl, Nat.le_of_ble_eq_true rfl⟩ ⟨Nat.zero_le _, Nat.zero_le _⟩ hl.1 (Nat.le_of_ble_eq_true rfl) rfl dX5_step_54 (fun H locs hP hD hS => ?_)
    exact mM_iret (h := hX5_step M j st k) ((if_pos c_1).trans (rfl)) hx hb hr hlocks hP hD hS dX5_step_57
  · refine lv_iload_n hx hb dX5_step_36 rfl (lv_at hl 3 rfl) ?_
    refine kS G (cvX5_takes l D st) okX5_takes hgf trivial qw4_25 ⟨Nat.le_of_ble_eq_true rfl, Nat.le_of_ble_eq_true rfl⟩ ⟨Nat.zero_le _, Nat.zero_le _⟩ hl.1 (Nat.le_of_ble_eq_true rfl) rfl dX5_step_37 ?_
    refine lv_if_eq (tgt := 58) hx hb dX5_step_40 (by decide) (fun c_2 => ?_) (fun c_2 => ?_)
    · refine lv_aload_n hx hb dX5_step_58 rfl (lv_at hl 1 rfl) ?_
      refine lv_iload_n hx hb dX5_step_59 rfl (lv_at hl 2 rfl) ?_
      refine lv_iload_n hx hb dX5_step_60 rfl (lv_at hl 3 rfl) ?_
      refine lv_iload hx hb dX5_step_61 (lv_at hl 0 rfl) ?_
      refine lv_lload_n hx hb dX5_step_63 rfl (lv_at hl 4 rfl) ?_
      refine kS G (cvX5_cut l D (M.1 0 j) k) okX5_cut hgf trivial qw4_6 ⟨Nat.le_of_ble_eq_true rfl, Nat.le_of_ble_eq_true rfl⟩ ⟨Nat.zero_le _, Nat.zero_le _⟩ hl.1 (Nat.le_of_ble_eq_true rfl) rfl dX5_step_64 ?_
      refine lv_iconst (v := (-1)) hx hb dX5_step_67 (by decide) ?_
      refine kQ (C := RX5) (wr := []) G (cqX5_link l D r ma 0 M hj hch hc6 st (fX5_cut (M.1 0 j) k) (-1)) okX5_link hgf hP hD hS hA [0, 1, 2, 3, 4, 5, 6, 7, 8, 9, 10, 11, 12, 13, 14] [] rfl rfl rfl rfl (by decide) (mw_recv hgf (hP 0 _ rfl) rfl) qw4_39 ⟨Nat.le_of_ble_eq_true rfl, Nat.le_of_ble_eq_true rfl⟩ ⟨Nat.zero_le _, Nat.zero_le _⟩ hl.1 (Nat.le_of_ble_eq_true rfl) rfl dX5_step_68 (fun H locs hP hD hS => ?_)
      exact mM_iret (h := hX5_step M j st k) ((if_neg c_1).trans ((if_pos c_2).trans (rfl))) hx hb hr hlocks hP hD hS dX5_step_71
    · refine lv_iload hx hb dX5_step_43 (lv_at hl 0 rfl) ?_
      refine lv_lload_n hx hb dX5_step_45 rfl (lv_at hl 4 rfl) ?_
      refine kS G (cvX5_isNone l D (M.1 0 j) k) okX5_isNone hgf trivial qw4_28 ⟨Nat.le_of_ble_eq_true rfl, Nat.le_of_ble_eq_true rfl⟩ ⟨Nat.zero_le _, Nat.zero_le _⟩ hl.1 (Nat.le_of_ble_eq_true rfl) rfl dX5_step_46 ?_
      refine lv_if_eq (tgt := 58) hx hb dX5_step_49 (by decide) (fun c_3 => ?_) (fun c_3 => ?_)
      · refine lv_aload_n hx hb dX5_step_58 rfl (lv_at hl 1 rfl) ?_
        refine lv_iload_n hx hb dX5_step_59 rfl (lv_at hl 2 rfl) ?_
        refine lv_iload_n hx hb dX5_step_60 rfl (lv_at hl 3 rfl) ?_
        refine lv_iload hx hb dX5_step_61 (lv_at hl 0 rfl) ?_
        refine lv_lload_n hx hb dX5_step_63 rfl (lv_at hl 4 rfl) ?_
        refine kS G (cvX5_cut l D (M.1 0 j) k) okX5_cut hgf trivial qw4_6 ⟨Nat.le_of_ble_eq_true rfl, Nat.le_of_ble_eq_true rfl⟩ ⟨Nat.zero_le _, Nat.zero_le _⟩ hl.1 (Nat.le_of_ble_eq_true rfl) rfl dX5_step_64 ?_
        refine lv_iconst (v := (-1)) hx hb dX5_step_67 (by decide) ?_
        refine kQ (C := RX5) (wr := []) G (cqX5_link l D r ma 0 M hj hch hc6 st (fX5_cut (M.1 0 j) k) (-1)) okX5_link hgf hP hD hS hA [0, 1, 2, 3, 4, 5, 6, 7, 8, 9, 10, 11, 12, 13, 14] [] rfl rfl rfl rfl (by decide) (mw_recv hgf (hP 0 _ rfl) rfl) qw4_39 ⟨Nat.le_of_ble_eq_true rfl, Nat.le_of_ble_eq_true rfl⟩ ⟨Nat.zero_le _, Nat.zero_le _⟩ hl.1 (Nat.le_of_ble_eq_true rfl) rfl dX5_step_68 (fun H locs hP hD hS => ?_)
        exact mM_iret (h := hX5_step M j st k) ((if_neg c_1).trans ((if_neg c_2).trans ((if_pos c_3).trans (rfl)))) hx hb hr hlocks hP hD hS dX5_step_71
      · refine lv_aload_n hx hb dX5_step_52 rfl (lv_at hl 1 rfl) ?_
        refine lv_iconst (v := 2) hx hb dX5_step_53 (by decide) ?_
        refine kQ (C := RX5) (wr := []) (w1 := wM D r ma 2 M) G (cqX5_fail l D r ma 0 M 2) okX5_fail hgf hP hD hS hA [0, 1, 2, 3, 4, 5, 6, 7, 8, 9, 10, 11, 12, 13, 14] [] rfl rfl rfl rfl (by decide) (mw_recv hgf (hP 0 _ rfl) rfl) qw3_228 ⟨Nat.le_of_ble_eq_true rfl, Nat.le_of_ble_eq_true rfl⟩ ⟨Nat.zero_le _, Nat.zero_le _⟩ hl.1 (Nat.le_of_ble_eq_true rfl) rfl dX5_step_54 (fun H locs hP hD hS => ?_)
        exact mM_iret (h := hX5_step M j st k) ((if_neg c_1).trans ((if_neg c_2).trans ((if_neg c_3).trans (rfl)))) hx hb hr hlocks hP hD hS dX5_step_57
set_option maxRecDepth 100000 in
set_option maxHeartbeats 4000000 in
theorem cqX5_follow_bad (l : Launch) (D : mG) (r : Nat) (ma : Nat → Nat) (t : Int32) (M : MSt) (i st ot : Int32) (hbad : fX5_isInst (M.1 14 0) i = 0) : cQ l D yX5_follow cX5_follow 4 (some .int) (rmP 1) (wM D r ma t M) [.ref r, .int i, .int st, .int ot] (some (.int 0)) (wM D r ma 1 M) := by
  refine cQ_of (by decide) (Nat.le_of_ble_eq_true rfl) ?_
  intro p e s m below meth c ls A hx hb hr hlocks G hnm hgf hA hP hD hS hl
  have hl : lv_has ls 4 [(0, .ref r), (1, .int i), (2, .int st), (3, .int ot)] := hl
  refine lv_aload_n hx hb dX5_follow_0 rfl (lv_at hl 0 rfl) ?_
  refine lv_iconst (v := 0) hx hb dX5_follow_1 (by decide) ?_
  refine mw_put (w1 := wM D r ma 0 M) G hgf hP hD hS 0 rfl rfl inX5 tyX5_ok nmX5 0 (by decide) qw3_162 rfl rfl rfl rfl (Nat.le_of_ble_eq_true rfl) rfl dX5_follow_2 (fun H locs hP hD hS => ?_)
  refine lv_aload_n hx hb dX5_follow_5 rfl (lv_at hl 0 rfl) ?_
  refine lv_iload_n hx hb dX5_follow_6 rfl (lv_at hl 1 rfl) ?_
  refine kV (C := RX5) G (cvX5_isInstrument l D r ma 0 M i) okX5_isInstrument hgf hP (mw_recv hgf (hP 0 _ rfl) rfl) qw4_15 ⟨Nat.le_of_ble_eq_true rfl, Nat.le_of_ble_eq_true rfl⟩ ⟨Nat.zero_le _, Nat.zero_le _⟩ hl.1 (Nat.le_of_ble_eq_true rfl) rfl dX5_follow_7 ?_
  rw [show fX5_isInst (M.1 14 0) i = 0 from hbad]
  refine lv_if_eq (tgt := 21) hx hb dX5_follow_10 (by decide) (fun _ => ?_) (fun h => absurd (by decide) h)
  refine lv_aload_n hx hb dX5_follow_21 rfl (lv_at hl 0 rfl) ?_
  refine lv_iconst (v := 1) hx hb dX5_follow_22 (by decide) ?_
  refine kQ (C := RX5) (wr := []) (w1 := wM D r ma 1 M) G (cqX5_fail l D r ma 0 M 1) okX5_fail hgf hP hD hS hA [0, 1, 2, 3, 4, 5, 6, 7, 8, 9, 10, 11, 12, 13, 14] [] rfl rfl rfl rfl (by decide) (mw_recv hgf (hP 0 _ rfl) rfl) qw3_228 ⟨Nat.le_of_ble_eq_true rfl, Nat.le_of_ble_eq_true rfl⟩ ⟨Nat.zero_le _, Nat.zero_le _⟩ hl.1 (Nat.le_of_ble_eq_true rfl) rfl dX5_follow_23 (fun H locs hP hD hS => ?_)
  exact mM_iret (h := (0, 1, M)) (rfl) hx hb hr hlocks hP hD hS dX5_follow_26
set_option maxRecDepth 100000 in
set_option maxHeartbeats 4000000 in
theorem cqX5_follow_bad2 (l : Launch) (D : mG) (r : Nat) (ma : Nat → Nat) (t : Int32) (M : MSt) {j : Nat} (hin : fX5_isInst (M.1 14 0) (nI j) = 1) (st ot : Int32) (hbad : fX5_isInst (M.1 14 0) ot = 0) : cQ l D yX5_follow cX5_follow 4 (some .int) (rmP 1) (wM D r ma t M) [.ref r, .int (nI j), .int st, .int ot] (some (.int 0)) (wM D r ma 1 M) := by
  refine cQ_of (by decide) (Nat.le_of_ble_eq_true rfl) ?_
  intro p e s m below meth c ls A hx hb hr hlocks G hnm hgf hA hP hD hS hl
  have hl : lv_has ls 4 [(0, .ref r), (1, .int (nI j)), (2, .int st), (3, .int ot)] := hl
  refine lv_aload_n hx hb dX5_follow_0 rfl (lv_at hl 0 rfl) ?_
  refine lv_iconst (v := 0) hx hb dX5_follow_1 (by decide) ?_
  refine mw_put (w1 := wM D r ma 0 M) G hgf hP hD hS 0 rfl rfl inX5 tyX5_ok nmX5 0 (by decide) qw3_162 rfl rfl rfl rfl (Nat.le_of_ble_eq_true rfl) rfl dX5_follow_2 (fun H locs hP hD hS => ?_)
  refine lv_aload_n hx hb dX5_follow_5 rfl (lv_at hl 0 rfl) ?_
  refine lv_iload_n hx hb dX5_follow_6 rfl (lv_at hl 1 rfl) ?_
  refine kV (C := RX5) G (cvX5_isInstrument l D r ma 0 M (nI j)) okX5_isInstrument hgf hP (mw_recv hgf (hP 0 _ rfl) rfl) qw4_15 ⟨Nat.le_of_ble_eq_true rfl, Nat.le_of_ble_eq_true rfl⟩ ⟨Nat.zero_le _, Nat.zero_le _⟩ hl.1 (Nat.le_of_ble_eq_true rfl) rfl dX5_follow_7 ?_
  rw [show fX5_isInst (M.1 14 0) (nI j) = 1 from hin]
  refine lv_if_eq (tgt := 21) hx hb dX5_follow_10 (by decide) (fun h => absurd h (by decide)) (fun _ => ?_)
  refine lv_aload_n hx hb dX5_follow_13 rfl (lv_at hl 0 rfl) ?_
  refine lv_iload_n hx hb dX5_follow_14 rfl (lv_at hl 3 rfl) ?_
  refine kV (C := RX5) G (cvX5_isInstrument l D r ma 0 M ot) okX5_isInstrument hgf hP (mw_recv hgf (hP 0 _ rfl) rfl) qw4_15 ⟨Nat.le_of_ble_eq_true rfl, Nat.le_of_ble_eq_true rfl⟩ ⟨Nat.zero_le _, Nat.zero_le _⟩ hl.1 (Nat.le_of_ble_eq_true rfl) rfl dX5_follow_15 ?_
  rw [show fX5_isInst (M.1 14 0) ot = 0 from hbad]
  refine lv_if_ne (tgt := 27) hx hb dX5_follow_18 (by decide) (fun h => absurd (by decide) h) (fun _ => ?_)
  refine lv_aload_n hx hb dX5_follow_21 rfl (lv_at hl 0 rfl) ?_
  refine lv_iconst (v := 1) hx hb dX5_follow_22 (by decide) ?_
  refine kQ (C := RX5) (wr := []) (w1 := wM D r ma 1 M) G (cqX5_fail l D r ma 0 M 1) okX5_fail hgf hP hD hS hA [0, 1, 2, 3, 4, 5, 6, 7, 8, 9, 10, 11, 12, 13, 14] [] rfl rfl rfl rfl (by decide) (mw_recv hgf (hP 0 _ rfl) rfl) qw3_228 ⟨Nat.le_of_ble_eq_true rfl, Nat.le_of_ble_eq_true rfl⟩ ⟨Nat.zero_le _, Nat.zero_le _⟩ hl.1 (Nat.le_of_ble_eq_true rfl) rfl dX5_follow_23 (fun H locs hP hD hS => ?_)
  exact mM_iret (h := (0, 1, M)) (rfl) hx hb hr hlocks hP hD hS dX5_follow_26
def hX5_follow (M : MSt) (j : Nat) (ot : Nat) (st : Int32) : Int32 × Int32 × MSt := if (fX5_isStep (M.1 0 j) st) = 0 then (0, 2, M) else (if (fX5_takes st) = 0 then (0, 2, M) else (if (M.1 0 ot) = (M.1 0 j) then ((hX5_link 0 M j st 0 (nI ot)).1, (hX5_link 0 M j st 0 (nI ot)).2.1, (hX5_link 0 M j st 0 (nI ot)).2.2) else (0, 2, M)))
set_option maxRecDepth 100000 in
set_option maxHeartbeats 4000000 in
theorem cqX5_follow (l : Launch) (D : mG) (r : Nat) (ma : Nat → Nat) (t : Int32) (M : MSt) {j ot : Nat} (hj : j < 8) (ho : ot < 8) (hin : fX5_isInst (M.1 14 0) (nI j) = 1) (hin2 : fX5_isInst (M.1 14 0) (nI ot) = 1) (hch : M.1 1 j = nI (chn M j)) (hc6 : chn M j ≤ 6) (st : Int32) : cQ l D yX5_follow cX5_follow 4 (some .int) (rmP 2) (wM D r ma t M) [.ref r, .int (nI j), .int st, .int (nI ot)] (some (.int (hX5_follow M j ot st).1)) (wM D r ma (hX5_follow M j ot st).2.1 (hX5_follow M j ot st).2.2) := by
  refine cQ_of (by decide) (Nat.le_of_ble_eq_true rfl) ?_
  intro p e s m below meth c ls A hx hb hr hlocks G hnm hgf hA hP hD hS hl
  have hl : lv_has ls 4 [(0, .ref r), (1, .int (nI j)), (2, .int st), (3, .int (nI ot))] := hl
  refine lv_aload_n hx hb dX5_follow_0 rfl (lv_at hl 0 rfl) ?_
  refine lv_iconst (v := 0) hx hb dX5_follow_1 (by decide) ?_
  refine mw_put (w1 := wM D r ma 0 M) G hgf hP hD hS 0 rfl rfl inX5 tyX5_ok nmX5 0 (by decide) qw3_162 rfl rfl rfl rfl (Nat.le_of_ble_eq_true rfl) rfl dX5_follow_2 (fun H locs hP hD hS => ?_)
  refine lv_aload_n hx hb dX5_follow_5 rfl (lv_at hl 0 rfl) ?_
  refine lv_iload_n hx hb dX5_follow_6 rfl (lv_at hl 1 rfl) ?_
  refine kV (C := RX5) G (cvX5_isInstrument l D r ma 0 M (nI j)) okX5_isInstrument hgf hP (mw_recv hgf (hP 0 _ rfl) rfl) qw4_15 ⟨Nat.le_of_ble_eq_true rfl, Nat.le_of_ble_eq_true rfl⟩ ⟨Nat.zero_le _, Nat.zero_le _⟩ hl.1 (Nat.le_of_ble_eq_true rfl) rfl dX5_follow_7 ?_
  rw [show fX5_isInst (M.1 14 0) (nI j) = 1 from hin]
  refine lv_if_eq (tgt := 21) hx hb dX5_follow_10 (by decide) (fun h => absurd h (by decide)) (fun _ => ?_)
  refine lv_aload_n hx hb dX5_follow_13 rfl (lv_at hl 0 rfl) ?_
  refine lv_iload_n hx hb dX5_follow_14 rfl (lv_at hl 3 rfl) ?_
  refine kV (C := RX5) G (cvX5_isInstrument l D r ma 0 M (nI ot)) okX5_isInstrument hgf hP (mw_recv hgf (hP 0 _ rfl) rfl) qw4_15 ⟨Nat.le_of_ble_eq_true rfl, Nat.le_of_ble_eq_true rfl⟩ ⟨Nat.zero_le _, Nat.zero_le _⟩ hl.1 (Nat.le_of_ble_eq_true rfl) rfl dX5_follow_15 ?_
  rw [show fX5_isInst (M.1 14 0) (nI ot) = 1 from hin2]
  refine lv_if_ne (tgt := 27) hx hb dX5_follow_18 (by decide) (fun _ => ?_) (fun h => absurd h (by decide))
  refine lv_aload_n hx hb dX5_follow_27 rfl (lv_at hl 0 rfl) ?_
  refine mw_get G hgf (hP 0 _ rfl) rfl inX5 2 (by decide) qw3_164 rfl dX5_follow_28 ?_
  refine lv_iload_n hx hb dX5_follow_31 rfl (lv_at hl 1 rfl) ?_
  refine mN_iald (f := M.1 0) G hgf (hP 1 _ rfl) (k := j) (rfl) (hj) (by decide) dX5_follow_32 ?_
  refine lv_iload_n hx hb dX5_follow_33 rfl (lv_at hl 2 rfl) ?_
  refine kS G (cvX5_isStep l D (M.1 0 j) st) okX5_isStep hgf trivial qw4_19 ⟨Nat.le_of_ble_eq_true rfl, Nat.le_of_ble_eq_true rfl⟩ ⟨Nat.zero_le _, Nat.zero_le _⟩ hl.1 (Nat.le_of_ble_eq_true rfl) rfl dX5_follow_34 ?_
  refine lv_if_eq (tgt := 62) hx hb dX5_follow_37 (by decide) (fun c_1 => ?_) (fun c_1 => ?_)
  · refine lv_aload_n hx hb dX5_follow_62 rfl (lv_at hl 0 rfl) ?_
    refine lv_iconst (v := 2) hx hb dX5_follow_63 (by decide) ?_
    refine kQ (C := RX5) (wr := []) (w1 := wM D r ma 2 M) G (cqX5_fail l D r ma 0 M 2) okX5_fail hgf hP hD hS hA [0, 1, 2, 3, 4, 5, 6, 7, 8, 9, 10, 11, 12, 13, 14] [] rfl rfl rfl rfl (by decide) (mw_recv hgf (hP 0 _ rfl) rfl) qw3_228 ⟨Nat.le_of_ble_eq_true rfl, Nat.le_of_ble_eq_true rfl⟩ ⟨Nat.zero_le _, Nat.zero_le _⟩ hl.1 (Nat.le_of_ble_eq_true rfl) rfl dX5_follow_64 (fun H locs hP hD hS => ?_)
    exact mM_iret (h := hX5_follow M j ot st) ((if_pos c_1).trans (rfl)) hx hb hr hlocks hP hD hS dX5_follow_67
  · refine lv_iload_n hx hb dX5_follow_40 rfl (lv_at hl 2 rfl) ?_
    refine kS G (cvX5_takes l D st) okX5_takes hgf trivial qw4_25 ⟨Nat.le_of_ble_eq_true rfl, Nat.le_of_ble_eq_true rfl⟩ ⟨Nat.zero_le _, Nat.zero_le _⟩ hl.1 (Nat.le_of_ble_eq_true rfl) rfl dX5_follow_41 ?_
    refine lv_if_eq (tgt := 62) hx hb dX5_follow_44 (by decide) (fun c_2 => ?_) (fun c_2 => ?_)
    · refine lv_aload_n hx hb dX5_follow_62 rfl (lv_at hl 0 rfl) ?_
      refine lv_iconst (v := 2) hx hb dX5_follow_63 (by decide) ?_
      refine kQ (C := RX5) (wr := []) (w1 := wM D r ma 2 M) G (cqX5_fail l D r ma 0 M 2) okX5_fail hgf hP hD hS hA [0, 1, 2, 3, 4, 5, 6, 7, 8, 9, 10, 11, 12, 13, 14] [] rfl rfl rfl rfl (by decide) (mw_recv hgf (hP 0 _ rfl) rfl) qw3_228 ⟨Nat.le_of_ble_eq_true rfl, Nat.le_of_ble_eq_true rfl⟩ ⟨Nat.zero_le _, Nat.zero_le _⟩ hl.1 (Nat.le_of_ble_eq_true rfl) rfl dX5_follow_64 (fun H locs hP hD hS => ?_)
      exact mM_iret (h := hX5_follow M j ot st) ((if_neg c_1).trans ((if_pos c_2).trans (rfl))) hx hb hr hlocks hP hD hS dX5_follow_67
    · refine lv_aload_n hx hb dX5_follow_47 rfl (lv_at hl 0 rfl) ?_
      refine mw_get G hgf (hP 0 _ rfl) rfl inX5 2 (by decide) qw3_164 rfl dX5_follow_48 ?_
      refine lv_iload_n hx hb dX5_follow_51 rfl (lv_at hl 3 rfl) ?_
      refine mN_iald (f := M.1 0) G hgf (hP 1 _ rfl) (k := ot) (rfl) (ho) (by decide) dX5_follow_52 ?_
      refine lv_aload_n hx hb dX5_follow_53 rfl (lv_at hl 0 rfl) ?_
      refine mw_get G hgf (hP 0 _ rfl) rfl inX5 2 (by decide) qw3_164 rfl dX5_follow_54 ?_
      refine lv_iload_n hx hb dX5_follow_57 rfl (lv_at hl 1 rfl) ?_
      refine mN_iald (f := M.1 0) G hgf (hP 1 _ rfl) (k := j) (rfl) (hj) (by decide) dX5_follow_58 ?_
      refine lv_icmp_eq (tgt := 68) hx hb dX5_follow_59 (by decide) (fun c_3 => ?_) (fun c_3 => ?_)
      · refine lv_aload_n hx hb dX5_follow_68 rfl (lv_at hl 0 rfl) ?_
        refine lv_iload_n hx hb dX5_follow_69 rfl (lv_at hl 1 rfl) ?_
        refine lv_iload_n hx hb dX5_follow_70 rfl (lv_at hl 2 rfl) ?_
        refine lv_lconst (v := 0) hx hb dX5_follow_71 (by decide) ?_
        refine lv_iload_n hx hb dX5_follow_72 rfl (lv_at hl 3 rfl) ?_
        refine kQ (C := RX5) (wr := []) G (cqX5_link l D r ma 0 M hj hch hc6 st 0 (nI ot)) okX5_link hgf hP hD hS hA [0, 1, 2, 3, 4, 5, 6, 7, 8, 9, 10, 11, 12, 13, 14] [] rfl rfl rfl rfl (by decide) (mw_recv hgf (hP 0 _ rfl) rfl) qw4_39 ⟨Nat.le_of_ble_eq_true rfl, Nat.le_of_ble_eq_true rfl⟩ ⟨Nat.zero_le _, Nat.zero_le _⟩ hl.1 (Nat.le_of_ble_eq_true rfl) rfl dX5_follow_73 (fun H locs hP hD hS => ?_)
        exact mM_iret (h := hX5_follow M j ot st) ((if_neg c_1).trans ((if_neg c_2).trans ((if_pos c_3).trans (rfl)))) hx hb hr hlocks hP hD hS dX5_follow_76
      · refine lv_aload_n hx hb dX5_follow_62 rfl (lv_at hl 0 rfl) ?_
        refine lv_iconst (v := 2) hx hb dX5_follow_63 (by decide) ?_
        refine kQ (C := RX5) (wr := []) (w1 := wM D r ma 2 M) G (cqX5_fail l D r ma 0 M 2) okX5_fail hgf hP hD hS hA [0, 1, 2, 3, 4, 5, 6, 7, 8, 9, 10, 11, 12, 13, 14] [] rfl rfl rfl rfl (by decide) (mw_recv hgf (hP 0 _ rfl) rfl) qw3_228 ⟨Nat.le_of_ble_eq_true rfl, Nat.le_of_ble_eq_true rfl⟩ ⟨Nat.zero_le _, Nat.zero_le _⟩ hl.1 (Nat.le_of_ble_eq_true rfl) rfl dX5_follow_64 (fun H locs hP hD hS => ?_)
        exact mM_iret (h := hX5_follow M j ot st) ((if_neg c_1).trans ((if_neg c_2).trans ((if_neg c_3).trans (rfl)))) hx hb hr hlocks hP hD hS dX5_follow_67
set_option maxRecDepth 100000 in
set_option maxHeartbeats 4000000 in
theorem cqX5_limits_bad (l : Launch) (D : mG) (r : Nat) (ma : Nat → Nat) (t : Int32) (M : MSt) (i : Int32) (lo hi : Int64) (hbad : fX5_isInst (M.1 14 0) i = 0) : cQ l D yX5_limits cX5_limits 7 (some .boolean) (rmP 1) (wM D r ma t M) [.ref r, .int i, .long lo, .long hi] (some (.int 0)) (wM D r ma 1 M) := by
  refine cQ_of (by decide) (Nat.le_of_ble_eq_true rfl) ?_
  intro p e s m below meth c ls A hx hb hr hlocks G hnm hgf hA hP hD hS hl
  have hl : lv_has ls 7 [(0, .ref r), (1, .int i), (2, .long lo), (4, .long hi)] := hl
  refine lv_aload_n hx hb dX5_limits_0 rfl (lv_at hl 0 rfl) ?_
  refine lv_iconst (v := 0) hx hb dX5_limits_1 (by decide) ?_
  refine mw_put (w1 := wM D r ma 0 M) G hgf hP hD hS 0 rfl rfl inX5 tyX5_ok nmX5 0 (by decide) qw3_162 rfl rfl rfl rfl (Nat.le_of_ble_eq_true rfl) rfl dX5_limits_2 (fun H locs hP hD hS => ?_)
  refine lv_aload_n hx hb dX5_limits_5 rfl (lv_at hl 0 rfl) ?_
  refine lv_iload_n hx hb dX5_limits_6 rfl (lv_at hl 1 rfl) ?_
  refine kV (C := RX5) G (cvX5_isInstrument l D r ma 0 M i) okX5_isInstrument hgf hP (mw_recv hgf (hP 0 _ rfl) rfl) qw4_15 ⟨Nat.le_of_ble_eq_true rfl, Nat.le_of_ble_eq_true rfl⟩ ⟨Nat.zero_le _, Nat.zero_le _⟩ hl.1 (Nat.le_of_ble_eq_true rfl) rfl dX5_limits_7 ?_
  rw [show fX5_isInst (M.1 14 0) i = 0 from hbad]
  refine lv_if_ne (tgt := 27) hx hb dX5_limits_10 (by decide) (fun h => absurd (by decide) h) (fun _ => ?_)
  refine lv_aload_n hx hb dX5_limits_13 rfl (lv_at hl 0 rfl) ?_
  refine lv_iconst (v := 1) hx hb dX5_limits_14 (by decide) ?_
  refine kQ (C := RX5) (wr := []) (w1 := wM D r ma 1 M) G (cqX5_fail l D r ma 0 M 1) okX5_fail hgf hP hD hS hA [0, 1, 2, 3, 4, 5, 6, 7, 8, 9, 10, 11, 12, 13, 14] [] rfl rfl rfl rfl (by decide) (mw_recv hgf (hP 0 _ rfl) rfl) qw3_228 ⟨Nat.le_of_ble_eq_true rfl, Nat.le_of_ble_eq_true rfl⟩ ⟨Nat.zero_le _, Nat.zero_le _⟩ hl.1 (Nat.le_of_ble_eq_true rfl) rfl dX5_limits_15 (fun H locs hP hD hS => ?_)
  refine lv_if_le (tgt := 25) hx hb dX5_limits_18 (by decide) (fun _ => ?_) (fun h => absurd (by decide) h)
  refine lv_iconst (v := 0) hx hb dX5_limits_25 (by decide) ?_
  exact mM_zret (h := (0, 1, M)) (rfl) hx hb hr hlocks (Or.inl rfl) hP hD hS dX5_limits_26
def hX5_limits (M : MSt) (j : Nat) (lo : Int64) (hi : Int64) : Int32 × Int32 × MSt := if (fX5_isNone (M.1 0 j) lo) = 0 then (if (fX5_isNone (M.1 0 j) hi) = 0 then (if (fX5_isAbove (M.1 0 j) (fX5_cut (M.1 0 j) lo) (fX5_cut (M.1 0 j) hi)) = 0 then (1, 0, (sL (sL M 5 j (fX5_cut (M.1 0 j) lo)) 6 j (fX5_cut (M.1 0 j) hi))) else (0, 0, (sL (sL M 5 j (fX5_cut (M.1 0 j) lo)) 6 j (fX5_cut (M.1 0 j) hi)))) else (0, 2, M)) else (0, 2, M)
set_option maxRecDepth 100000 in
set_option maxHeartbeats 4000000 in
theorem cqX5_limits (l : Launch) (D : mG) (r : Nat) (ma : Nat → Nat) (t : Int32) (M : MSt) {j : Nat} (hj : j < 8) (hin : fX5_isInst (M.1 14 0) (nI j) = 1) (lo hi : Int64) : cQ l D yX5_limits cX5_limits 7 (some .boolean) (rmP 5) (wM D r ma t M) [.ref r, .int (nI j), .long lo, .long hi] (some (.int (hX5_limits M j lo hi).1)) (wM D r ma (hX5_limits M j lo hi).2.1 (hX5_limits M j lo hi).2.2) := by
  refine cQ_of (by decide) (Nat.le_of_ble_eq_true rfl) ?_
  intro p e s m below meth c ls A hx hb hr hlocks G hnm hgf hA hP hD hS hl
  have hl : lv_has ls 7 [(0, .ref r), (1, .int (nI j)), (2, .long lo), (4, .long hi)] := hl
  refine lv_aload_n hx hb dX5_limits_0 rfl (lv_at hl 0 rfl) ?_
  refine lv_iconst (v := 0) hx hb dX5_limits_1 (by decide) ?_
  refine mw_put (w1 := wM D r ma 0 M) G hgf hP hD hS 0 rfl rfl inX5 tyX5_ok nmX5 0 (by decide) qw3_162 rfl rfl rfl rfl (Nat.le_of_ble_eq_true rfl) rfl dX5_limits_2 (fun H locs hP hD hS => ?_)
  refine lv_aload_n hx hb dX5_limits_5 rfl (lv_at hl 0 rfl) ?_
  refine lv_iload_n hx hb dX5_limits_6 rfl (lv_at hl 1 rfl) ?_
  refine kV (C := RX5) G (cvX5_isInstrument l D r ma 0 M (nI j)) okX5_isInstrument hgf hP (mw_recv hgf (hP 0 _ rfl) rfl) qw4_15 ⟨Nat.le_of_ble_eq_true rfl, Nat.le_of_ble_eq_true rfl⟩ ⟨Nat.zero_le _, Nat.zero_le _⟩ hl.1 (Nat.le_of_ble_eq_true rfl) rfl dX5_limits_7 ?_
  rw [show fX5_isInst (M.1 14 0) (nI j) = 1 from hin]
  refine lv_if_ne (tgt := 27) hx hb dX5_limits_10 (by decide) (fun _ => ?_) (fun h => absurd h (by decide))
  refine lv_aload_n hx hb dX5_limits_27 rfl (lv_at hl 0 rfl) ?_
  refine mw_get G hgf (hP 0 _ rfl) rfl inX5 2 (by decide) qw3_164 rfl dX5_limits_28 ?_
  refine lv_iload_n hx hb dX5_limits_31 rfl (lv_at hl 1 rfl) ?_
  refine mN_iald (f := M.1 0) G hgf (hP 1 _ rfl) (k := j) (rfl) (hj) (by decide) dX5_limits_32 ?_
  refine lv_istore (lv' := [(6, .int (M.1 0 j)), (0, .ref r), (1, .int (nI j)), (2, .long lo), (4, .long hi)]) hx hb dX5_limits_33 hl (by decide) rfl (fun ls hl => ?_)
  refine lv_iload hx hb dX5_limits_35 (lv_at hl 0 rfl) ?_
  refine lv_lload_n hx hb dX5_limits_37 rfl (lv_at hl 3 rfl) ?_
  refine kS G (cvX5_isNone l D (M.1 0 j) lo) okX5_isNone hgf trivial qw4_28 ⟨Nat.le_of_ble_eq_true rfl, Nat.le_of_ble_eq_true rfl⟩ ⟨Nat.zero_le _, Nat.zero_le _⟩ hl.1 (Nat.le_of_ble_eq_true rfl) rfl dX5_limits_38 ?_
  refine lv_if_ne (tgt := 54) hx hb dX5_limits_41 (by decide) (fun c_1 => ?_) (fun c_1 => ?_)
  · refine lv_aload_n hx hb dX5_limits_54 rfl (lv_at hl 1 rfl) ?_
    refine lv_iconst (v := 2) hx hb dX5_limits_55 (by decide) ?_
    refine kQ (C := RX5) (wr := []) (w1 := wM D r ma 2 M) G (cqX5_fail l D r ma 0 M 2) okX5_fail hgf hP hD hS hA [0, 1, 2, 3, 4, 5, 6, 7, 8, 9, 10, 11, 12, 13, 14] [] rfl rfl rfl rfl (by decide) (mw_recv hgf (hP 0 _ rfl) rfl) qw3_228 ⟨Nat.le_of_ble_eq_true rfl, Nat.le_of_ble_eq_true rfl⟩ ⟨Nat.zero_le _, Nat.zero_le _⟩ hl.1 (Nat.le_of_ble_eq_true rfl) rfl dX5_limits_56 (fun H locs hP hD hS => ?_)
    refine lv_if_le (tgt := 66) hx hb dX5_limits_59 (by decide) (fun _ => ?_) (fun h => absurd (by decide) h)
    refine lv_iconst (v := 0) hx hb dX5_limits_66 (by decide) ?_
    exact mM_zret (h := hX5_limits M j lo hi) ((if_neg c_1).trans (rfl)) hx hb hr hlocks (Or.inl rfl) hP hD hS dX5_limits_67
  · refine lv_iload hx hb dX5_limits_44 (lv_at hl 0 rfl) ?_
    refine lv_lload hx hb dX5_limits_46 (lv_at hl 4 rfl) ?_
    refine kS G (cvX5_isNone l D (M.1 0 j) hi) okX5_isNone hgf trivial qw4_28 ⟨Nat.le_of_ble_eq_true rfl, Nat.le_of_ble_eq_true rfl⟩ ⟨Nat.zero_le _, Nat.zero_le _⟩ hl.1 (Nat.le_of_ble_eq_true rfl) rfl dX5_limits_48 ?_
    refine lv_if_eq (tgt := 68) hx hb dX5_limits_51 (by decide) (fun c_2 => ?_) (fun c_2 => ?_)
    · refine lv_aload_n hx hb dX5_limits_68 rfl (lv_at hl 1 rfl) ?_
      refine mw_get G hgf (hP 0 _ rfl) rfl inX5 7 (by decide) qw3_169 rfl dX5_limits_69 ?_
      refine lv_iload_n hx hb dX5_limits_72 rfl (lv_at hl 2 rfl) ?_
      refine lv_iload hx hb dX5_limits_73 (lv_at hl 0 rfl) ?_
      refine lv_lload_n hx hb dX5_limits_75 rfl (lv_at hl 3 rfl) ?_
      refine kS G (cvX5_cut l D (M.1 0 j) lo) okX5_cut hgf trivial qw4_6 ⟨Nat.le_of_ble_eq_true rfl, Nat.le_of_ble_eq_true rfl⟩ ⟨Nat.zero_le _, Nat.zero_le _⟩ hl.1 (Nat.le_of_ble_eq_true rfl) rfl dX5_limits_76 ?_
      refine mN_last (f := M.2 5) (w1 := wM D r ma 0 (sL M 5 j (fX5_cut (M.1 0 j) lo))) G hgf hP hD hS 6 rfl (k := j) (rfl) (hj) (by decide) rfl dX5_limits_79 (fun H locs hP hD hS => ?_)
      refine lv_aload_n hx hb dX5_limits_80 rfl (lv_at hl 1 rfl) ?_
      refine mw_get G hgf (hP 0 _ rfl) rfl inX5 8 (by decide) qw3_170 rfl dX5_limits_81 ?_
      refine lv_iload_n hx hb dX5_limits_84 rfl (lv_at hl 2 rfl) ?_
      refine lv_iload hx hb dX5_limits_85 (lv_at hl 0 rfl) ?_
      refine lv_lload hx hb dX5_limits_87 (lv_at hl 4 rfl) ?_
      refine kS G (cvX5_cut l D (M.1 0 j) hi) okX5_cut hgf trivial qw4_6 ⟨Nat.le_of_ble_eq_true rfl, Nat.le_of_ble_eq_true rfl⟩ ⟨Nat.zero_le _, Nat.zero_le _⟩ hl.1 (Nat.le_of_ble_eq_true rfl) rfl dX5_limits_89 ?_
      refine mN_last (f := (sL M 5 j (fX5_cut (M.1 0 j) lo)).2 6) (w1 := wM D r ma 0 (sL (sL M 5 j (fX5_cut (M.1 0 j) lo)) 6 j (fX5_cut (M.1 0 j) hi))) G hgf hP hD hS 7 rfl (k := j) (rfl) (hj) (by decide) rfl dX5_limits_92 (fun H locs hP hD hS => ?_)
      refine lv_iload hx hb dX5_limits_93 (lv_at hl 0 rfl) ?_
      refine lv_aload_n hx hb dX5_limits_95 rfl (lv_at hl 1 rfl) ?_
      refine mw_get G hgf (hP 0 _ rfl) rfl inX5 7 (by decide) qw3_169 rfl dX5_limits_96 ?_
      refine lv_iload_n hx hb dX5_limits_99 rfl (lv_at hl 2 rfl) ?_
      refine mN_lald (f := (sL M 5 j (fX5_cut (M.1 0 j) lo)).2 5) G hgf (hP 6 _ rfl) (k := j) (rfl) (hj) (by decide) dX5_limits_100 ?_
      rw [sL_self]
      refine lv_aload_n hx hb dX5_limits_101 rfl (lv_at hl 1 rfl) ?_
      refine mw_get G hgf (hP 0 _ rfl) rfl inX5 8 (by decide) qw3_170 rfl dX5_limits_102 ?_
      refine lv_iload_n hx hb dX5_limits_105 rfl (lv_at hl 2 rfl) ?_
      refine mN_lald (f := (sL M 6 j (fX5_cut (M.1 0 j) hi)).2 6) G hgf (hP 7 _ rfl) (k := j) (rfl) (hj) (by decide) dX5_limits_106 ?_
      rw [sL_self]
      refine kS G (cvX5_isAbove l D (M.1 0 j) (fX5_cut (M.1 0 j) lo) (fX5_cut (M.1 0 j) hi)) okX5_isAbove hgf trivial qw4_51 ⟨Nat.le_of_ble_eq_true rfl, Nat.le_of_ble_eq_true rfl⟩ ⟨Nat.zero_le _, Nat.zero_le _⟩ hl.1 (Nat.le_of_ble_eq_true rfl) rfl dX5_limits_107 ?_
      refine lv_if_ne (tgt := 117) hx hb dX5_limits_110 (by decide) (fun c_3 => ?_) (fun c_3 => ?_)
      · refine lv_iconst (v := 0) hx hb dX5_limits_117 (by decide) ?_
        exact mM_zret (h := hX5_limits M j lo hi) ((if_pos c_1).trans ((if_pos c_2).trans ((if_neg c_3).trans (rfl)))) hx hb hr hlocks (Or.inl rfl) hP hD hS dX5_limits_118
      · refine lv_iconst (v := 1) hx hb dX5_limits_113 (by decide) ?_
        refine lv_goto (tgt := 118) hx hb dX5_limits_114 (by decide) ?_
        exact mM_zret (h := hX5_limits M j lo hi) ((if_pos c_1).trans ((if_pos c_2).trans ((if_pos c_3).trans (rfl)))) hx hb hr hlocks (Or.inr rfl) hP hD hS dX5_limits_118
    · refine lv_aload_n hx hb dX5_limits_54 rfl (lv_at hl 1 rfl) ?_
      refine lv_iconst (v := 2) hx hb dX5_limits_55 (by decide) ?_
      refine kQ (C := RX5) (wr := []) (w1 := wM D r ma 2 M) G (cqX5_fail l D r ma 0 M 2) okX5_fail hgf hP hD hS hA [0, 1, 2, 3, 4, 5, 6, 7, 8, 9, 10, 11, 12, 13, 14] [] rfl rfl rfl rfl (by decide) (mw_recv hgf (hP 0 _ rfl) rfl) qw3_228 ⟨Nat.le_of_ble_eq_true rfl, Nat.le_of_ble_eq_true rfl⟩ ⟨Nat.zero_le _, Nat.zero_le _⟩ hl.1 (Nat.le_of_ble_eq_true rfl) rfl dX5_limits_56 (fun H locs hP hD hS => ?_)
      refine lv_if_le (tgt := 66) hx hb dX5_limits_59 (by decide) (fun _ => ?_) (fun h => absurd (by decide) h)
      refine lv_iconst (v := 0) hx hb dX5_limits_66 (by decide) ?_
      exact mM_zret (h := hX5_limits M j lo hi) ((if_pos c_1).trans ((if_neg c_2).trans (rfl))) hx hb hr hlocks (Or.inl rfl) hP hD hS dX5_limits_67
def hX5_mount (M : MSt) (n : Nat) (so : Int32) : Int32 × Int32 × MSt := if so < 0 then (0, 1, M) else (if so ≤ 3 then (if (nI n) = 8 then (0, 2, M) else (nI n, 0, (sL (sL (sI (sI M 14 0 ((nI n) + 1)) 0 n so) 5 n (if so = 0 then (-2147483648) else (if so = 1 then (-9223372036854775808) else fX5_signed so (fX5_endless so) 1) : Int64)) 6 n (if so = 0 then 2147483647 else (if so = 1 then 9223372036854775807 else fX5_signed so (fX5_endless so) 0) : Int64)))) else (0, 1, M))
set_option maxRecDepth 100000 in
set_option maxHeartbeats 4000000 in
theorem cqX5_mount (l : Launch) (D : mG) (r : Nat) (ma : Nat → Nat) (t : Int32) (M : MSt) {n : Nat} (hn8 : n ≤ 8) (hn : M.1 14 0 = nI n) (so : Int32) : cQ l D yX5_mount cX5_mount 3 (some .int) (rmP 2) (wM D r ma t M) [.ref r, .int so] (some (.int (hX5_mount M n so).1)) (wM D r ma (hX5_mount M n so).2.1 (hX5_mount M n so).2.2) := by
  refine cQ_of (by decide) (Nat.le_of_ble_eq_true rfl) ?_
  intro p e s m below meth c ls A hx hb hr hlocks G hnm hgf hA hP hD hS hl
  have hl : lv_has ls 3 [(0, .ref r), (1, .int so)] := hl
  refine lv_aload_n hx hb dX5_mount_0 rfl (lv_at hl 0 rfl) ?_
  refine lv_iconst (v := 0) hx hb dX5_mount_1 (by decide) ?_
  refine mw_put (w1 := wM D r ma 0 M) G hgf hP hD hS 0 rfl rfl inX5 tyX5_ok nmX5 0 (by decide) qw3_162 rfl rfl rfl rfl (Nat.le_of_ble_eq_true rfl) rfl dX5_mount_2 (fun H locs hP hD hS => ?_)
  refine lv_iload_n hx hb dX5_mount_5 rfl (lv_at hl 1 rfl) ?_
  refine lv_if_lt (tgt := 14) hx hb dX5_mount_6 (by decide) (fun c_1 => ?_) (fun c_1 => ?_)
  · refine lv_aload_n hx hb dX5_mount_14 rfl (lv_at hl 0 rfl) ?_
    refine lv_iconst (v := 1) hx hb dX5_mount_15 (by decide) ?_
    refine kQ (C := RX5) (wr := []) (w1 := wM D r ma 1 M) G (cqX5_fail l D r ma 0 M 1) okX5_fail hgf hP hD hS hA [0, 1, 2, 3, 4, 5, 6, 7, 8, 9, 10, 11, 12, 13, 14] [] rfl rfl rfl rfl (by decide) (mw_recv hgf (hP 0 _ rfl) rfl) qw3_228 ⟨Nat.le_of_ble_eq_true rfl, Nat.le_of_ble_eq_true rfl⟩ ⟨Nat.zero_le _, Nat.zero_le _⟩ hl.1 (Nat.le_of_ble_eq_true rfl) rfl dX5_mount_16 (fun H locs hP hD hS => ?_)
    exact mM_iret (h := hX5_mount M n so) ((if_pos c_1).trans (rfl)) hx hb hr hlocks hP hD hS dX5_mount_19
  · refine lv_iload_n hx hb dX5_mount_9 rfl (lv_at hl 1 rfl) ?_
    refine lv_iconst (v := 3) hx hb dX5_mount_10 (by decide) ?_
    refine lv_icmp_le (tgt := 20) hx hb dX5_mount_11 (by decide) (fun c_2 => ?_) (fun c_2 => ?_)
    · refine lv_aload_n hx hb dX5_mount_20 rfl (lv_at hl 0 rfl) ?_
      refine mw_get G hgf (hP 0 _ rfl) rfl inX5 1 (by decide) qw3_163 rfl dX5_mount_21 ?_
      rw [show (M.1 14 0) = nI n from hn]
      refine lv_bipush (v := 8) hx hb dX5_mount_24 (by decide) ?_
      refine lv_icmp_ne (tgt := 35) hx hb dX5_mount_26 (by decide) (fun c_3 => ?_) (fun c_3 => ?_)
      · refine lv_aload_n hx hb dX5_mount_35 rfl (lv_at hl 0 rfl) ?_
        refine mw_get G hgf (hP 0 _ rfl) rfl inX5 1 (by decide) qw3_163 rfl dX5_mount_36 ?_
        rw [show (M.1 14 0) = nI n from hn]
        refine lv_istore_n (lv' := [(2, .int (nI n)), (0, .ref r), (1, .int so)]) hx hb dX5_mount_39 rfl hl (by decide) rfl (fun ls hl => ?_)
        refine lv_aload_n hx hb dX5_mount_40 rfl (lv_at hl 1 rfl) ?_
        refine lv_dup hx hb dX5_mount_41 rfl ?_
        refine mw_get G hgf (hP 0 _ rfl) rfl inX5 1 (by decide) qw3_163 rfl dX5_mount_42 ?_
        rw [show (M.1 14 0) = nI n from hn]
        refine lv_iconst (v := 1) hx hb dX5_mount_45 (by decide) ?_
        refine lv_iadd hx hb dX5_mount_46 ?_
        refine mw_put (w1 := wM D r ma 0 (sI M 14 0 ((nI n) + 1))) G hgf hP hD hS 0 rfl rfl inX5 tyX5_ok nmX5 1 (by decide) qw3_163 rfl rfl rfl rfl (Nat.le_of_ble_eq_true rfl) rfl dX5_mount_47 (fun H locs hP hD hS => ?_)
        refine lv_aload_n hx hb dX5_mount_50 rfl (lv_at hl 1 rfl) ?_
        refine mw_get G hgf (hP 0 _ rfl) rfl inX5 2 (by decide) qw3_164 rfl dX5_mount_51 ?_
        refine lv_iload_n hx hb dX5_mount_54 rfl (lv_at hl 0 rfl) ?_
        refine lv_iload_n hx hb dX5_mount_55 rfl (lv_at hl 2 rfl) ?_
        refine mN_iast (f := (sI M 14 0 ((nI n) + 1)).1 0) (w1 := wM D r ma 0 (sI (sI M 14 0 ((nI n) + 1)) 0 n so)) G hgf hP hD hS 1 rfl (k := n) (rfl) (lt8 hn8 c_3) (by decide) rfl dX5_mount_56 (fun H locs hP hD hS => ?_)
        refine lv_aload_n hx hb dX5_mount_57 rfl (lv_at hl 1 rfl) ?_
        refine mw_get G hgf (hP 0 _ rfl) rfl inX5 7 (by decide) qw3_169 rfl dX5_mount_58 ?_
        refine lv_iload_n hx hb dX5_mount_61 rfl (lv_at hl 0 rfl) ?_
        refine lv_iload_n hx hb dX5_mount_62 rfl (lv_at hl 2 rfl) ?_
        refine mw_join 92 (.long (if so = 0 then (-2147483648) else (if so = 1 then (-9223372036854775808) else fX5_signed so (fX5_endless so) 1) : Int64)) [.int (nI n), .ref (ma 5)] (fun K => ?_) ?_
        · refine lv_if_ne (tgt := 72) hx hb dX5_mount_63 (by decide) (fun c_4 => ?_) (fun c_4 => ?_)
          · refine lv_iload_n hx hb dX5_mount_72 rfl (lv_at hl 2 rfl) ?_
            refine lv_iconst (v := 1) hx hb dX5_mount_73 (by decide) ?_
            refine lv_icmp_ne (tgt := 83) hx hb dX5_mount_74 (by decide) (fun c_5 => ?_) (fun c_5 => ?_)
            · refine lv_iload_n hx hb dX5_mount_83 rfl (lv_at hl 2 rfl) ?_
              refine lv_iload_n hx hb dX5_mount_84 rfl (lv_at hl 2 rfl) ?_
              refine kS G (cvX5_endless l D so) okX5_endless hgf trivial qw3_234 ⟨Nat.le_of_ble_eq_true rfl, Nat.le_of_ble_eq_true rfl⟩ ⟨Nat.zero_le _, Nat.zero_le _⟩ hl.1 (Nat.le_of_ble_eq_true rfl) rfl dX5_mount_85 ?_
              refine lv_iconst (v := 1) hx hb dX5_mount_88 (by decide) ?_
              refine kS G (cvX5_signed l D so (fX5_endless so) 1) okX5_signed hgf trivial qw3_239 ⟨Nat.le_of_ble_eq_true rfl, Nat.le_of_ble_eq_true rfl⟩ ⟨Nat.zero_le _, Nat.zero_le _⟩ hl.1 (Nat.le_of_ble_eq_true rfl) rfl dX5_mount_89 ?_
              exact mw_topL ((if_neg c_4).trans ((if_neg c_5).trans (rfl))) K
            · refine lv_ldc2 (v := (-9223372036854775808)) hx hb G.2.2.2.1 (G.2.2.2.2 _ qw3_233) dX5_mount_77 ?_
              refine lv_goto (tgt := 92) hx hb dX5_mount_80 (by decide) ?_
              exact mw_topL ((if_neg c_4).trans ((if_pos c_5).trans (rfl))) K
          · refine lv_ldc2 (v := (-2147483648)) hx hb G.2.2.2.1 (G.2.2.2.2 _ qw3_232) dX5_mount_66 ?_
            refine lv_goto (tgt := 92) hx hb dX5_mount_69 (by decide) ?_
            exact mw_topL ((if_pos c_4).trans (rfl)) K
        refine mN_last (f := (sI (sI M 14 0 ((nI n) + 1)) 0 n so).2 5) (w1 := wM D r ma 0 (sL (sI (sI M 14 0 ((nI n) + 1)) 0 n so) 5 n (if so = 0 then (-2147483648) else (if so = 1 then (-9223372036854775808) else fX5_signed so (fX5_endless so) 1) : Int64))) G hgf hP hD hS 6 rfl (k := n) (rfl) (lt8 hn8 c_3) (by decide) rfl dX5_mount_92 (fun H locs hP hD hS => ?_)
        refine lv_aload_n hx hb dX5_mount_93 rfl (lv_at hl 1 rfl) ?_
        refine mw_get G hgf (hP 0 _ rfl) rfl inX5 8 (by decide) qw3_170 rfl dX5_mount_94 ?_
        refine lv_iload_n hx hb dX5_mount_97 rfl (lv_at hl 0 rfl) ?_
        refine lv_iload_n hx hb dX5_mount_98 rfl (lv_at hl 2 rfl) ?_
        refine mw_join 128 (.long (if so = 0 then 2147483647 else (if so = 1 then 9223372036854775807 else fX5_signed so (fX5_endless so) 0) : Int64)) [.int (nI n), .ref (ma 6)] (fun K => ?_) ?_
        · refine lv_if_ne (tgt := 108) hx hb dX5_mount_99 (by decide) (fun c_6 => ?_) (fun c_6 => ?_)
          · refine lv_iload_n hx hb dX5_mount_108 rfl (lv_at hl 2 rfl) ?_
            refine lv_iconst (v := 1) hx hb dX5_mount_109 (by decide) ?_
            refine lv_icmp_ne (tgt := 119) hx hb dX5_mount_110 (by decide) (fun c_7 => ?_) (fun c_7 => ?_)
            · refine lv_iload_n hx hb dX5_mount_119 rfl (lv_at hl 2 rfl) ?_
              refine lv_iload_n hx hb dX5_mount_120 rfl (lv_at hl 2 rfl) ?_
              refine kS G (cvX5_endless l D so) okX5_endless hgf trivial qw3_234 ⟨Nat.le_of_ble_eq_true rfl, Nat.le_of_ble_eq_true rfl⟩ ⟨Nat.zero_le _, Nat.zero_le _⟩ hl.1 (Nat.le_of_ble_eq_true rfl) rfl dX5_mount_121 ?_
              refine lv_iconst (v := 0) hx hb dX5_mount_124 (by decide) ?_
              refine kS G (cvX5_signed l D so (fX5_endless so) 0) okX5_signed hgf trivial qw3_239 ⟨Nat.le_of_ble_eq_true rfl, Nat.le_of_ble_eq_true rfl⟩ ⟨Nat.zero_le _, Nat.zero_le _⟩ hl.1 (Nat.le_of_ble_eq_true rfl) rfl dX5_mount_125 ?_
              exact mw_topL ((if_neg c_6).trans ((if_neg c_7).trans (rfl))) K
            · refine lv_ldc2 (v := 9223372036854775807) hx hb G.2.2.2.1 (G.2.2.2.2 _ qw4_10) dX5_mount_113 ?_
              refine lv_goto (tgt := 128) hx hb dX5_mount_116 (by decide) ?_
              exact mw_topL ((if_neg c_6).trans ((if_pos c_7).trans (rfl))) K
          · refine lv_ldc2 (v := 2147483647) hx hb G.2.2.2.1 (G.2.2.2.2 _ qw4_9) dX5_mount_102 ?_
            refine lv_goto (tgt := 128) hx hb dX5_mount_105 (by decide) ?_
            exact mw_topL ((if_pos c_6).trans (rfl)) K
        refine mN_last (f := (sL (sI (sI M 14 0 ((nI n) + 1)) 0 n so) 5 n (if so = 0 then (-2147483648) else (if so = 1 then (-9223372036854775808) else fX5_signed so (fX5_endless so) 1) : Int64)).2 6) (w1 := wM D r ma 0 (sL (sL (sI (sI M 14 0 ((nI n) + 1)) 0 n so) 5 n (if so = 0 then (-2147483648) else (if so = 1 then (-9223372036854775808) else fX5_signed so (fX5_endless so) 1) : Int64)) 6 n (if so = 0 then 2147483647 else (if so = 1 then 9223372036854775807 else fX5_signed so (fX5_endless so) 0) : Int64))) G hgf hP hD hS 7 rfl (k := n) (rfl) (lt8 hn8 c_3) (by decide) rfl dX5_mount_128 (fun H locs hP hD hS => ?_)
        refine lv_iload_n hx hb dX5_mount_129 rfl (lv_at hl 0 rfl) ?_
        exact mM_iret (h := hX5_mount M n so) ((if_neg c_1).trans ((if_pos c_2).trans ((if_neg c_3).trans (rfl)))) hx hb hr hlocks hP hD hS dX5_mount_130
      · refine lv_aload_n hx hb dX5_mount_29 rfl (lv_at hl 0 rfl) ?_
        refine lv_iconst (v := 2) hx hb dX5_mount_30 (by decide) ?_
        refine kQ (C := RX5) (wr := []) (w1 := wM D r ma 2 M) G (cqX5_fail l D r ma 0 M 2) okX5_fail hgf hP hD hS hA [0, 1, 2, 3, 4, 5, 6, 7, 8, 9, 10, 11, 12, 13, 14] [] rfl rfl rfl rfl (by decide) (mw_recv hgf (hP 0 _ rfl) rfl) qw3_228 ⟨Nat.le_of_ble_eq_true rfl, Nat.le_of_ble_eq_true rfl⟩ ⟨Nat.zero_le _, Nat.zero_le _⟩ hl.1 (Nat.le_of_ble_eq_true rfl) rfl dX5_mount_31 (fun H locs hP hD hS => ?_)
        exact mM_iret (h := hX5_mount M n so) ((if_neg c_1).trans ((if_pos c_2).trans ((if_pos c_3).trans (rfl)))) hx hb hr hlocks hP hD hS dX5_mount_34
    · refine lv_aload_n hx hb dX5_mount_14 rfl (lv_at hl 0 rfl) ?_
      refine lv_iconst (v := 1) hx hb dX5_mount_15 (by decide) ?_
      refine kQ (C := RX5) (wr := []) (w1 := wM D r ma 1 M) G (cqX5_fail l D r ma 0 M 1) okX5_fail hgf hP hD hS hA [0, 1, 2, 3, 4, 5, 6, 7, 8, 9, 10, 11, 12, 13, 14] [] rfl rfl rfl rfl (by decide) (mw_recv hgf (hP 0 _ rfl) rfl) qw3_228 ⟨Nat.le_of_ble_eq_true rfl, Nat.le_of_ble_eq_true rfl⟩ ⟨Nat.zero_le _, Nat.zero_le _⟩ hl.1 (Nat.le_of_ble_eq_true rfl) rfl dX5_mount_16 (fun H locs hP hD hS => ?_)
      exact mM_iret (h := hX5_mount M n so) ((if_neg c_1).trans ((if_neg c_2).trans (rfl))) hx hb hr hlocks hP hD hS dX5_mount_19
set_option maxRecDepth 100000 in
set_option maxHeartbeats 4000000 in
theorem cqX5_forget_bad (l : Launch) (D : mG) (r : Nat) (ma : Nat → Nat) (t : Int32) (M : MSt) (i : Int32) (hbad : fX5_isInst (M.1 14 0) i = 0) : cQ l D yX5_forget cX5_forget 3 (some .int) (rmP 1) (wM D r ma t M) [.ref r, .int i] (some (.int 0)) (wM D r ma 1 M) := by
  refine cQ_of (by decide) (Nat.le_of_ble_eq_true rfl) ?_
  intro p e s m below meth c ls A hx hb hr hlocks G hnm hgf hA hP hD hS hl
  have hl : lv_has ls 3 [(0, .ref r), (1, .int i)] := hl
  refine lv_aload_n hx hb dX5_forget_0 rfl (lv_at hl 0 rfl) ?_
  refine lv_iconst (v := 0) hx hb dX5_forget_1 (by decide) ?_
  refine mw_put (w1 := wM D r ma 0 M) G hgf hP hD hS 0 rfl rfl inX5 tyX5_ok nmX5 0 (by decide) qw3_162 rfl rfl rfl rfl (Nat.le_of_ble_eq_true rfl) rfl dX5_forget_2 (fun H locs hP hD hS => ?_)
  refine lv_aload_n hx hb dX5_forget_5 rfl (lv_at hl 0 rfl) ?_
  refine lv_iload_n hx hb dX5_forget_6 rfl (lv_at hl 1 rfl) ?_
  refine kV (C := RX5) G (cvX5_isInstrument l D r ma 0 M i) okX5_isInstrument hgf hP (mw_recv hgf (hP 0 _ rfl) rfl) qw4_15 ⟨Nat.le_of_ble_eq_true rfl, Nat.le_of_ble_eq_true rfl⟩ ⟨Nat.zero_le _, Nat.zero_le _⟩ hl.1 (Nat.le_of_ble_eq_true rfl) rfl dX5_forget_7 ?_
  rw [show fX5_isInst (M.1 14 0) i = 0 from hbad]
  refine lv_if_ne (tgt := 19) hx hb dX5_forget_10 (by decide) (fun h => absurd (by decide) h) (fun _ => ?_)
  refine lv_aload_n hx hb dX5_forget_13 rfl (lv_at hl 0 rfl) ?_
  refine lv_iconst (v := 1) hx hb dX5_forget_14 (by decide) ?_
  refine kQ (C := RX5) (wr := []) (w1 := wM D r ma 1 M) G (cqX5_fail l D r ma 0 M 1) okX5_fail hgf hP hD hS hA [0, 1, 2, 3, 4, 5, 6, 7, 8, 9, 10, 11, 12, 13, 14] [] rfl rfl rfl rfl (by decide) (mw_recv hgf (hP 0 _ rfl) rfl) qw3_228 ⟨Nat.le_of_ble_eq_true rfl, Nat.le_of_ble_eq_true rfl⟩ ⟨Nat.zero_le _, Nat.zero_le _⟩ hl.1 (Nat.le_of_ble_eq_true rfl) rfl dX5_forget_15 (fun H locs hP hD hS => ?_)
  exact mM_iret (h := (0, 1, M)) (rfl) hx hb hr hlocks hP hD hS dX5_forget_18
def hX5_forget (M : MSt) (j : Nat) : Int32 × Int32 × MSt := (M.1 7 j, 0, (sI M 7 j 0))
set_option maxRecDepth 100000 in
set_option maxHeartbeats 4000000 in
theorem cqX5_forget (l : Launch) (D : mG) (r : Nat) (ma : Nat → Nat) (t : Int32) (M : MSt) {j : Nat} (hj : j < 8) (hin : fX5_isInst (M.1 14 0) (nI j) = 1) : cQ l D yX5_forget cX5_forget 3 (some .int) (rmP 1) (wM D r ma t M) [.ref r, .int (nI j)] (some (.int (hX5_forget M j).1)) (wM D r ma (hX5_forget M j).2.1 (hX5_forget M j).2.2) := by
  refine cQ_of (by decide) (Nat.le_of_ble_eq_true rfl) ?_
  intro p e s m below meth c ls A hx hb hr hlocks G hnm hgf hA hP hD hS hl
  have hl : lv_has ls 3 [(0, .ref r), (1, .int (nI j))] := hl
  refine lv_aload_n hx hb dX5_forget_0 rfl (lv_at hl 0 rfl) ?_
  refine lv_iconst (v := 0) hx hb dX5_forget_1 (by decide) ?_
  refine mw_put (w1 := wM D r ma 0 M) G hgf hP hD hS 0 rfl rfl inX5 tyX5_ok nmX5 0 (by decide) qw3_162 rfl rfl rfl rfl (Nat.le_of_ble_eq_true rfl) rfl dX5_forget_2 (fun H locs hP hD hS => ?_)
  refine lv_aload_n hx hb dX5_forget_5 rfl (lv_at hl 0 rfl) ?_
  refine lv_iload_n hx hb dX5_forget_6 rfl (lv_at hl 1 rfl) ?_
  refine kV (C := RX5) G (cvX5_isInstrument l D r ma 0 M (nI j)) okX5_isInstrument hgf hP (mw_recv hgf (hP 0 _ rfl) rfl) qw4_15 ⟨Nat.le_of_ble_eq_true rfl, Nat.le_of_ble_eq_true rfl⟩ ⟨Nat.zero_le _, Nat.zero_le _⟩ hl.1 (Nat.le_of_ble_eq_true rfl) rfl dX5_forget_7 ?_
  rw [show fX5_isInst (M.1 14 0) (nI j) = 1 from hin]
  refine lv_if_ne (tgt := 19) hx hb dX5_forget_10 (by decide) (fun _ => ?_) (fun h => absurd h (by decide))
  refine lv_aload_n hx hb dX5_forget_19 rfl (lv_at hl 0 rfl) ?_
  refine mw_get G hgf (hP 0 _ rfl) rfl inX5 9 (by decide) qw3_171 rfl dX5_forget_20 ?_
  refine lv_iload_n hx hb dX5_forget_23 rfl (lv_at hl 1 rfl) ?_
  refine mN_iald (f := M.1 7) G hgf (hP 8 _ rfl) (k := j) (rfl) (hj) (by decide) dX5_forget_24 ?_
  refine lv_istore_n (lv' := [(2, .int (M.1 7 j)), (0, .ref r), (1, .int (nI j))]) hx hb dX5_forget_25 rfl hl (by decide) rfl (fun ls hl => ?_)
  refine lv_aload_n hx hb dX5_forget_26 rfl (lv_at hl 1 rfl) ?_
  refine mw_get G hgf (hP 0 _ rfl) rfl inX5 9 (by decide) qw3_171 rfl dX5_forget_27 ?_
  refine lv_iload_n hx hb dX5_forget_30 rfl (lv_at hl 2 rfl) ?_
  refine lv_iconst (v := 0) hx hb dX5_forget_31 (by decide) ?_
  refine mN_iast (f := M.1 7) (w1 := wM D r ma 0 (sI M 7 j 0)) G hgf hP hD hS 8 rfl (k := j) (rfl) (hj) (by decide) rfl dX5_forget_32 (fun H locs hP hD hS => ?_)
  refine lv_iload_n hx hb dX5_forget_33 rfl (lv_at hl 0 rfl) ?_
  exact mM_iret (h := hX5_forget M j) (rfl) hx hb hr hlocks hP hD hS dX5_forget_34
set_option maxRecDepth 100000 in
set_option maxHeartbeats 4000000 in
theorem cqX5_reading_bad (l : Launch) (D : mG) (r : Nat) (ma : Nat → Nat) (t : Int32) (M : MSt) (i x : Int32) (hbad : fX5_isInst (M.1 14 0) i = 0) : cQ l D yX5_reading cX5_reading 4 (some .long) (rmP 1) (wM D r ma t M) [.ref r, .int i, .int x] (some (.long 0)) (wM D r ma 1 M) := by
  refine cQ_of (by decide) (Nat.le_of_ble_eq_true rfl) ?_
  intro p e s m below meth c ls A hx hb hr hlocks G hnm hgf hA hP hD hS hl
  have hl : lv_has ls 4 [(0, .ref r), (1, .int i), (2, .int x)] := hl
  refine lv_aload_n hx hb dX5_reading_0 rfl (lv_at hl 0 rfl) ?_
  refine lv_iconst (v := 0) hx hb dX5_reading_1 (by decide) ?_
  refine mw_put (w1 := wM D r ma 0 M) G hgf hP hD hS 0 rfl rfl inX5 tyX5_ok nmX5 0 (by decide) qw3_162 rfl rfl rfl rfl (Nat.le_of_ble_eq_true rfl) rfl dX5_reading_2 (fun H locs hP hD hS => ?_)
  refine lv_aload_n hx hb dX5_reading_5 rfl (lv_at hl 0 rfl) ?_
  refine lv_iload_n hx hb dX5_reading_6 rfl (lv_at hl 1 rfl) ?_
  refine kV (C := RX5) G (cvX5_isInstrument l D r ma 0 M i) okX5_isInstrument hgf hP (mw_recv hgf (hP 0 _ rfl) rfl) qw4_15 ⟨Nat.le_of_ble_eq_true rfl, Nat.le_of_ble_eq_true rfl⟩ ⟨Nat.zero_le _, Nat.zero_le _⟩ hl.1 (Nat.le_of_ble_eq_true rfl) rfl dX5_reading_7 ?_
  rw [show fX5_isInst (M.1 14 0) i = 0 from hbad]
  refine lv_if_ne (tgt := 20) hx hb dX5_reading_10 (by decide) (fun h => absurd (by decide) h) (fun _ => ?_)
  refine lv_aload_n hx hb dX5_reading_13 rfl (lv_at hl 0 rfl) ?_
  refine lv_iconst (v := 1) hx hb dX5_reading_14 (by decide) ?_
  refine kQ (C := RX5) (wr := []) (w1 := wM D r ma 1 M) G (cqX5_fail l D r ma 0 M 1) okX5_fail hgf hP hD hS hA [0, 1, 2, 3, 4, 5, 6, 7, 8, 9, 10, 11, 12, 13, 14] [] rfl rfl rfl rfl (by decide) (mw_recv hgf (hP 0 _ rfl) rfl) qw3_228 ⟨Nat.le_of_ble_eq_true rfl, Nat.le_of_ble_eq_true rfl⟩ ⟨Nat.zero_le _, Nat.zero_le _⟩ hl.1 (Nat.le_of_ble_eq_true rfl) rfl dX5_reading_15 (fun H locs hP hD hS => ?_)
  refine lv_i2l hx hb dX5_reading_18 rfl ?_
  exact mM_lret (h := (0, 1, M)) (rfl) hx hb hr hlocks hP hD hS dX5_reading_19
def hX5_reading (M : MSt) (j : Nat) (x : Int32) : Int64 × Int32 × MSt := if x < 0 then ((0 : Int32).toInt64, 2, M) else (if (nI (cnt M j)) ≤ x then ((0 : Int32).toInt64, 2, M) else (if x < 16 then (M.2 8 (16 * j + (cnt M j - 1 - x.toNatClampNeg) % 16), 0, M) else ((0 : Int32).toInt64, 2, M)))
set_option maxRecDepth 100000 in
set_option maxHeartbeats 4000000 in
theorem cqX5_reading (l : Launch) (D : mG) (r : Nat) (ma : Nat → Nat) (t : Int32) (M : MSt) {j : Nat} (hj : j < 8) (hin : fX5_isInst (M.1 14 0) (nI j) = 1) (hm : M.1 7 j = nI (cnt M j)) (hc : cnt M j ≤ 512) (x : Int32) : cQ l D yX5_reading cX5_reading 4 (some .long) (rmP 1) (wM D r ma t M) [.ref r, .int (nI j), .int x] (some (.long (hX5_reading M j x).1)) (wM D r ma (hX5_reading M j x).2.1 (hX5_reading M j x).2.2) := by
  refine cQ_of (by decide) (Nat.le_of_ble_eq_true rfl) ?_
  intro p e s m below meth c ls A hx hb hr hlocks G hnm hgf hA hP hD hS hl
  have hl : lv_has ls 4 [(0, .ref r), (1, .int (nI j)), (2, .int x)] := hl
  refine lv_aload_n hx hb dX5_reading_0 rfl (lv_at hl 0 rfl) ?_
  refine lv_iconst (v := 0) hx hb dX5_reading_1 (by decide) ?_
  refine mw_put (w1 := wM D r ma 0 M) G hgf hP hD hS 0 rfl rfl inX5 tyX5_ok nmX5 0 (by decide) qw3_162 rfl rfl rfl rfl (Nat.le_of_ble_eq_true rfl) rfl dX5_reading_2 (fun H locs hP hD hS => ?_)
  refine lv_aload_n hx hb dX5_reading_5 rfl (lv_at hl 0 rfl) ?_
  refine lv_iload_n hx hb dX5_reading_6 rfl (lv_at hl 1 rfl) ?_
  refine kV (C := RX5) G (cvX5_isInstrument l D r ma 0 M (nI j)) okX5_isInstrument hgf hP (mw_recv hgf (hP 0 _ rfl) rfl) qw4_15 ⟨Nat.le_of_ble_eq_true rfl, Nat.le_of_ble_eq_true rfl⟩ ⟨Nat.zero_le _, Nat.zero_le _⟩ hl.1 (Nat.le_of_ble_eq_true rfl) rfl dX5_reading_7 ?_
  rw [show fX5_isInst (M.1 14 0) (nI j) = 1 from hin]
  refine lv_if_ne (tgt := 20) hx hb dX5_reading_10 (by decide) (fun _ => ?_) (fun h => absurd h (by decide))
  refine lv_aload_n hx hb dX5_reading_20 rfl (lv_at hl 0 rfl) ?_
  refine mw_get G hgf (hP 0 _ rfl) rfl inX5 9 (by decide) qw3_171 rfl dX5_reading_21 ?_
  refine lv_iload_n hx hb dX5_reading_24 rfl (lv_at hl 1 rfl) ?_
  refine mN_iald (f := M.1 7) G hgf (hP 8 _ rfl) (k := j) (rfl) (hj) (by decide) dX5_reading_25 ?_
  rw [show M.1 7 j = nI (cnt M j) from hm]
  refine lv_istore_n (lv' := [(3, .int (nI (cnt M j))), (0, .ref r), (1, .int (nI j)), (2, .int x)]) hx hb dX5_reading_26 rfl hl (by decide) rfl (fun ls hl => ?_)
  refine lv_iload_n hx hb dX5_reading_27 rfl (lv_at hl 3 rfl) ?_
  refine lv_if_lt (tgt := 42) hx hb dX5_reading_28 (by decide) (fun c_1 => ?_) (fun c_1 => ?_)
  · refine lv_aload_n hx hb dX5_reading_42 rfl (lv_at hl 1 rfl) ?_
    refine lv_iconst (v := 2) hx hb dX5_reading_43 (by decide) ?_
    refine kQ (C := RX5) (wr := []) (w1 := wM D r ma 2 M) G (cqX5_fail l D r ma 0 M 2) okX5_fail hgf hP hD hS hA [0, 1, 2, 3, 4, 5, 6, 7, 8, 9, 10, 11, 12, 13, 14] [] rfl rfl rfl rfl (by decide) (mw_recv hgf (hP 0 _ rfl) rfl) qw3_228 ⟨Nat.le_of_ble_eq_true rfl, Nat.le_of_ble_eq_true rfl⟩ ⟨Nat.zero_le _, Nat.zero_le _⟩ hl.1 (Nat.le_of_ble_eq_true rfl) rfl dX5_reading_44 (fun H locs hP hD hS => ?_)
    refine lv_i2l hx hb dX5_reading_47 rfl ?_
    exact mM_lret (h := hX5_reading M j x) ((if_pos c_1).trans (rfl)) hx hb hr hlocks hP hD hS dX5_reading_48
  · refine lv_iload_n hx hb dX5_reading_31 rfl (lv_at hl 3 rfl) ?_
    refine lv_iload_n hx hb dX5_reading_32 rfl (lv_at hl 0 rfl) ?_
    refine lv_icmp_ge (tgt := 42) hx hb dX5_reading_33 (by decide) (fun c_2 => ?_) (fun c_2 => ?_)
    · refine lv_aload_n hx hb dX5_reading_42 rfl (lv_at hl 1 rfl) ?_
      refine lv_iconst (v := 2) hx hb dX5_reading_43 (by decide) ?_
      refine kQ (C := RX5) (wr := []) (w1 := wM D r ma 2 M) G (cqX5_fail l D r ma 0 M 2) okX5_fail hgf hP hD hS hA [0, 1, 2, 3, 4, 5, 6, 7, 8, 9, 10, 11, 12, 13, 14] [] rfl rfl rfl rfl (by decide) (mw_recv hgf (hP 0 _ rfl) rfl) qw3_228 ⟨Nat.le_of_ble_eq_true rfl, Nat.le_of_ble_eq_true rfl⟩ ⟨Nat.zero_le _, Nat.zero_le _⟩ hl.1 (Nat.le_of_ble_eq_true rfl) rfl dX5_reading_44 (fun H locs hP hD hS => ?_)
      refine lv_i2l hx hb dX5_reading_47 rfl ?_
      exact mM_lret (h := hX5_reading M j x) ((if_neg c_1).trans ((if_pos c_2).trans (rfl))) hx hb hr hlocks hP hD hS dX5_reading_48
    · refine lv_iload_n hx hb dX5_reading_36 rfl (lv_at hl 3 rfl) ?_
      refine lv_bipush (v := 16) hx hb dX5_reading_37 (by decide) ?_
      refine lv_icmp_lt (tgt := 49) hx hb dX5_reading_39 (by decide) (fun c_3 => ?_) (fun c_3 => ?_)
      · refine lv_aload_n hx hb dX5_reading_49 rfl (lv_at hl 1 rfl) ?_
        refine mw_get G hgf (hP 0 _ rfl) rfl inX5 10 (by decide) qw3_172 rfl dX5_reading_50 ?_
        refine lv_bipush (v := 16) hx hb dX5_reading_53 (by decide) ?_
        refine lv_iload_n hx hb dX5_reading_55 rfl (lv_at hl 2 rfl) ?_
        refine lv_imul hx hb dX5_reading_56 ?_
        refine lv_iload_n hx hb dX5_reading_57 rfl (lv_at hl 0 rfl) ?_
        refine lv_iconst (v := 1) hx hb dX5_reading_58 (by decide) ?_
        refine lv_isub hx hb dX5_reading_59 ?_
        refine lv_iload_n hx hb dX5_reading_60 rfl (lv_at hl 3 rfl) ?_
        refine lv_isub hx hb dX5_reading_61 ?_
        refine lv_bipush (v := 16) hx hb dX5_reading_62 (by decide) ?_
        refine lv_irem hx hb dX5_reading_64 (by decide) ?_
        refine lv_iadd hx hb dX5_reading_65 ?_
        refine mN_lald (f := M.2 8) G hgf (hP 9 _ rfl) (k := 16 * j + (cnt M j - 1 - x.toNatClampNeg) % 16) (nI_rd hc hj c_1 c_2) (by omega) (by decide) dX5_reading_66 ?_
        exact mM_lret (h := hX5_reading M j x) ((if_neg c_1).trans ((if_neg c_2).trans ((if_pos c_3).trans (rfl)))) hx hb hr hlocks hP hD hS dX5_reading_67
      · refine lv_aload_n hx hb dX5_reading_42 rfl (lv_at hl 1 rfl) ?_
        refine lv_iconst (v := 2) hx hb dX5_reading_43 (by decide) ?_
        refine kQ (C := RX5) (wr := []) (w1 := wM D r ma 2 M) G (cqX5_fail l D r ma 0 M 2) okX5_fail hgf hP hD hS hA [0, 1, 2, 3, 4, 5, 6, 7, 8, 9, 10, 11, 12, 13, 14] [] rfl rfl rfl rfl (by decide) (mw_recv hgf (hP 0 _ rfl) rfl) qw3_228 ⟨Nat.le_of_ble_eq_true rfl, Nat.le_of_ble_eq_true rfl⟩ ⟨Nat.zero_le _, Nat.zero_le _⟩ hl.1 (Nat.le_of_ble_eq_true rfl) rfl dX5_reading_44 (fun H locs hP hD hS => ?_)
        refine lv_i2l hx hb dX5_reading_47 rfl ?_
        exact mM_lret (h := hX5_reading M j x) ((if_neg c_1).trans ((if_neg c_2).trans ((if_neg c_3).trans (rfl)))) hx hb hr hlocks hP hD hS dX5_reading_48
set_option maxRecDepth 100000 in
set_option maxHeartbeats 4000000 in
theorem cqX5_tell_bad (l : Launch) (D : mG) (r : Nat) (ma : Nat → Nat) (t : Int32) (M : MSt) (i what : Int32) (hbad : fX5_isInst (M.1 14 0) i = 0) : cQ l D yX5_tell cX5_tell 3 (some .long) (rmP 1) (wM D r ma t M) [.ref r, .int i, .int what] (some (.long 0)) (wM D r ma 1 M) := by
  refine cQ_of (by decide) (Nat.le_of_ble_eq_true rfl) ?_
  intro p e s m below meth c ls A hx hb hr hlocks G hnm hgf hA hP hD hS hl
  have hl : lv_has ls 3 [(0, .ref r), (1, .int i), (2, .int what)] := hl
  refine lv_aload_n hx hb dX5_tell_0 rfl (lv_at hl 0 rfl) ?_
  refine lv_iconst (v := 0) hx hb dX5_tell_1 (by decide) ?_
  refine mw_put (w1 := wM D r ma 0 M) G hgf hP hD hS 0 rfl rfl inX5 tyX5_ok nmX5 0 (by decide) qw3_162 rfl rfl rfl rfl (Nat.le_of_ble_eq_true rfl) rfl dX5_tell_2 (fun H locs hP hD hS => ?_)
  refine lv_aload_n hx hb dX5_tell_5 rfl (lv_at hl 0 rfl) ?_
  refine lv_iload_n hx hb dX5_tell_6 rfl (lv_at hl 1 rfl) ?_
  refine kV (C := RX5) G (cvX5_isInstrument l D r ma 0 M i) okX5_isInstrument hgf hP (mw_recv hgf (hP 0 _ rfl) rfl) qw4_15 ⟨Nat.le_of_ble_eq_true rfl, Nat.le_of_ble_eq_true rfl⟩ ⟨Nat.zero_le _, Nat.zero_le _⟩ hl.1 (Nat.le_of_ble_eq_true rfl) rfl dX5_tell_7 ?_
  rw [show fX5_isInst (M.1 14 0) i = 0 from hbad]
  refine lv_if_ne (tgt := 20) hx hb dX5_tell_10 (by decide) (fun h => absurd (by decide) h) (fun _ => ?_)
  refine lv_aload_n hx hb dX5_tell_13 rfl (lv_at hl 0 rfl) ?_
  refine lv_iconst (v := 1) hx hb dX5_tell_14 (by decide) ?_
  refine kQ (C := RX5) (wr := []) (w1 := wM D r ma 1 M) G (cqX5_fail l D r ma 0 M 1) okX5_fail hgf hP hD hS hA [0, 1, 2, 3, 4, 5, 6, 7, 8, 9, 10, 11, 12, 13, 14] [] rfl rfl rfl rfl (by decide) (mw_recv hgf (hP 0 _ rfl) rfl) qw3_228 ⟨Nat.le_of_ble_eq_true rfl, Nat.le_of_ble_eq_true rfl⟩ ⟨Nat.zero_le _, Nat.zero_le _⟩ hl.1 (Nat.le_of_ble_eq_true rfl) rfl dX5_tell_15 (fun H locs hP hD hS => ?_)
  refine lv_i2l hx hb dX5_tell_18 rfl ?_
  exact mM_lret (h := (0, 1, M)) (rfl) hx hb hr hlocks hP hD hS dX5_tell_19
def hX5_tell (M : MSt) (j : Nat) (what : Int32) : Int64 × Int32 × MSt := if what < 0 then ((0 : Int32).toInt64, 2, M) else (if what ≤ 3 then (if (M.1 7 j) = 0 then ((0 : Int32).toInt64, 3, M) else (if what = 0 then (M.2 9 j, 0, M) else (if what = 1 then (M.2 10 j, 0, M) else (if what = 2 then (M.2 11 j, 0, M) else (M.2 12 j, 0, M))))) else ((0 : Int32).toInt64, 2, M))
set_option maxRecDepth 100000 in
set_option maxHeartbeats 4000000 in
theorem cqX5_tell (l : Launch) (D : mG) (r : Nat) (ma : Nat → Nat) (t : Int32) (M : MSt) {j : Nat} (hj : j < 8) (hin : fX5_isInst (M.1 14 0) (nI j) = 1) (what : Int32) : cQ l D yX5_tell cX5_tell 3 (some .long) (rmP 1) (wM D r ma t M) [.ref r, .int (nI j), .int what] (some (.long (hX5_tell M j what).1)) (wM D r ma (hX5_tell M j what).2.1 (hX5_tell M j what).2.2) := by
  refine cQ_of (by decide) (Nat.le_of_ble_eq_true rfl) ?_
  intro p e s m below meth c ls A hx hb hr hlocks G hnm hgf hA hP hD hS hl
  have hl : lv_has ls 3 [(0, .ref r), (1, .int (nI j)), (2, .int what)] := hl
  refine lv_aload_n hx hb dX5_tell_0 rfl (lv_at hl 0 rfl) ?_
  refine lv_iconst (v := 0) hx hb dX5_tell_1 (by decide) ?_
  refine mw_put (w1 := wM D r ma 0 M) G hgf hP hD hS 0 rfl rfl inX5 tyX5_ok nmX5 0 (by decide) qw3_162 rfl rfl rfl rfl (Nat.le_of_ble_eq_true rfl) rfl dX5_tell_2 (fun H locs hP hD hS => ?_)
  refine lv_aload_n hx hb dX5_tell_5 rfl (lv_at hl 0 rfl) ?_
  refine lv_iload_n hx hb dX5_tell_6 rfl (lv_at hl 1 rfl) ?_
  refine kV (C := RX5) G (cvX5_isInstrument l D r ma 0 M (nI j)) okX5_isInstrument hgf hP (mw_recv hgf (hP 0 _ rfl) rfl) qw4_15 ⟨Nat.le_of_ble_eq_true rfl, Nat.le_of_ble_eq_true rfl⟩ ⟨Nat.zero_le _, Nat.zero_le _⟩ hl.1 (Nat.le_of_ble_eq_true rfl) rfl dX5_tell_7 ?_
  rw [show fX5_isInst (M.1 14 0) (nI j) = 1 from hin]
  refine lv_if_ne (tgt := 20) hx hb dX5_tell_10 (by decide) (fun _ => ?_) (fun h => absurd h (by decide))
  refine lv_iload_n hx hb dX5_tell_20 rfl (lv_at hl 2 rfl) ?_
  refine lv_if_lt (tgt := 29) hx hb dX5_tell_21 (by decide) (fun c_1 => ?_) (fun c_1 => ?_)
  · refine lv_aload_n hx hb dX5_tell_29 rfl (lv_at hl 0 rfl) ?_
    refine lv_iconst (v := 2) hx hb dX5_tell_30 (by decide) ?_
    refine kQ (C := RX5) (wr := []) (w1 := wM D r ma 2 M) G (cqX5_fail l D r ma 0 M 2) okX5_fail hgf hP hD hS hA [0, 1, 2, 3, 4, 5, 6, 7, 8, 9, 10, 11, 12, 13, 14] [] rfl rfl rfl rfl (by decide) (mw_recv hgf (hP 0 _ rfl) rfl) qw3_228 ⟨Nat.le_of_ble_eq_true rfl, Nat.le_of_ble_eq_true rfl⟩ ⟨Nat.zero_le _, Nat.zero_le _⟩ hl.1 (Nat.le_of_ble_eq_true rfl) rfl dX5_tell_31 (fun H locs hP hD hS => ?_)
    refine lv_i2l hx hb dX5_tell_34 rfl ?_
    exact mM_lret (h := hX5_tell M j what) ((if_pos c_1).trans (rfl)) hx hb hr hlocks hP hD hS dX5_tell_35
  · refine lv_iload_n hx hb dX5_tell_24 rfl (lv_at hl 2 rfl) ?_
    refine lv_iconst (v := 3) hx hb dX5_tell_25 (by decide) ?_
    refine lv_icmp_le (tgt := 36) hx hb dX5_tell_26 (by decide) (fun c_2 => ?_) (fun c_2 => ?_)
    · refine lv_aload_n hx hb dX5_tell_36 rfl (lv_at hl 0 rfl) ?_
      refine mw_get G hgf (hP 0 _ rfl) rfl inX5 9 (by decide) qw3_171 rfl dX5_tell_37 ?_
      refine lv_iload_n hx hb dX5_tell_40 rfl (lv_at hl 1 rfl) ?_
      refine mN_iald (f := M.1 7) G hgf (hP 8 _ rfl) (k := j) (rfl) (hj) (by decide) dX5_tell_41 ?_
      refine lv_if_ne (tgt := 52) hx hb dX5_tell_42 (by decide) (fun c_3 => ?_) (fun c_3 => ?_)
      · refine lv_iload_n hx hb dX5_tell_52 rfl (lv_at hl 2 rfl) ?_
        refine lv_if_ne (tgt := 65) hx hb dX5_tell_53 (by decide) (fun c_4 => ?_) (fun c_4 => ?_)
        · refine lv_iload_n hx hb dX5_tell_65 rfl (lv_at hl 2 rfl) ?_
          refine lv_iconst (v := 1) hx hb dX5_tell_66 (by decide) ?_
          refine lv_icmp_ne (tgt := 79) hx hb dX5_tell_67 (by decide) (fun c_5 => ?_) (fun c_5 => ?_)
          · refine lv_iload_n hx hb dX5_tell_79 rfl (lv_at hl 2 rfl) ?_
            refine lv_iconst (v := 2) hx hb dX5_tell_80 (by decide) ?_
            refine lv_icmp_ne (tgt := 93) hx hb dX5_tell_81 (by decide) (fun c_6 => ?_) (fun c_6 => ?_)
            · refine lv_aload_n hx hb dX5_tell_93 rfl (lv_at hl 0 rfl) ?_
              refine mw_get G hgf (hP 0 _ rfl) rfl inX5 14 (by decide) qw3_176 rfl dX5_tell_94 ?_
              refine lv_iload_n hx hb dX5_tell_97 rfl (lv_at hl 1 rfl) ?_
              refine mN_lald (f := M.2 12) G hgf (hP 13 _ rfl) (k := j) (rfl) (hj) (by decide) dX5_tell_98 ?_
              exact mM_lret (h := hX5_tell M j what) ((if_neg c_1).trans ((if_pos c_2).trans ((if_neg c_3).trans ((if_neg c_4).trans ((if_neg c_5).trans ((if_neg c_6).trans (rfl))))))) hx hb hr hlocks hP hD hS dX5_tell_99
            · refine lv_aload_n hx hb dX5_tell_84 rfl (lv_at hl 0 rfl) ?_
              refine mw_get G hgf (hP 0 _ rfl) rfl inX5 13 (by decide) qw3_175 rfl dX5_tell_85 ?_
              refine lv_iload_n hx hb dX5_tell_88 rfl (lv_at hl 1 rfl) ?_
              refine mN_lald (f := M.2 11) G hgf (hP 12 _ rfl) (k := j) (rfl) (hj) (by decide) dX5_tell_89 ?_
              refine lv_goto (tgt := 99) hx hb dX5_tell_90 (by decide) ?_
              exact mM_lret (h := hX5_tell M j what) ((if_neg c_1).trans ((if_pos c_2).trans ((if_neg c_3).trans ((if_neg c_4).trans ((if_neg c_5).trans ((if_pos c_6).trans (rfl))))))) hx hb hr hlocks hP hD hS dX5_tell_99
          · refine lv_aload_n hx hb dX5_tell_70 rfl (lv_at hl 0 rfl) ?_
            refine mw_get G hgf (hP 0 _ rfl) rfl inX5 12 (by decide) qw3_174 rfl dX5_tell_71 ?_
            refine lv_iload_n hx hb dX5_tell_74 rfl (lv_at hl 1 rfl) ?_
            refine mN_lald (f := M.2 10) G hgf (hP 11 _ rfl) (k := j) (rfl) (hj) (by decide) dX5_tell_75 ?_
            refine lv_goto (tgt := 99) hx hb dX5_tell_76 (by decide) ?_
            exact mM_lret (h := hX5_tell M j what) ((if_neg c_1).trans ((if_pos c_2).trans ((if_neg c_3).trans ((if_neg c_4).trans ((if_pos c_5).trans (rfl)))))) hx hb hr hlocks hP hD hS dX5_tell_99
        · refine lv_aload_n hx hb dX5_tell_56 rfl (lv_at hl 0 rfl) ?_
          refine mw_get G hgf (hP 0 _ rfl) rfl inX5 11 (by decide) qw3_173 rfl dX5_tell_57 ?_
          refine lv_iload_n hx hb dX5_tell_60 rfl (lv_at hl 1 rfl) ?_
          refine mN_lald (f := M.2 9) G hgf (hP 10 _ rfl) (k := j) (rfl) (hj) (by decide) dX5_tell_61 ?_
          refine lv_goto (tgt := 99) hx hb dX5_tell_62 (by decide) ?_
          exact mM_lret (h := hX5_tell M j what) ((if_neg c_1).trans ((if_pos c_2).trans ((if_neg c_3).trans ((if_pos c_4).trans (rfl))))) hx hb hr hlocks hP hD hS dX5_tell_99
      · refine lv_aload_n hx hb dX5_tell_45 rfl (lv_at hl 0 rfl) ?_
        refine lv_iconst (v := 3) hx hb dX5_tell_46 (by decide) ?_
        refine kQ (C := RX5) (wr := []) (w1 := wM D r ma 3 M) G (cqX5_fail l D r ma 0 M 3) okX5_fail hgf hP hD hS hA [0, 1, 2, 3, 4, 5, 6, 7, 8, 9, 10, 11, 12, 13, 14] [] rfl rfl rfl rfl (by decide) (mw_recv hgf (hP 0 _ rfl) rfl) qw3_228 ⟨Nat.le_of_ble_eq_true rfl, Nat.le_of_ble_eq_true rfl⟩ ⟨Nat.zero_le _, Nat.zero_le _⟩ hl.1 (Nat.le_of_ble_eq_true rfl) rfl dX5_tell_47 (fun H locs hP hD hS => ?_)
        refine lv_i2l hx hb dX5_tell_50 rfl ?_
        exact mM_lret (h := hX5_tell M j what) ((if_neg c_1).trans ((if_pos c_2).trans ((if_pos c_3).trans (rfl)))) hx hb hr hlocks hP hD hS dX5_tell_51
    · refine lv_aload_n hx hb dX5_tell_29 rfl (lv_at hl 0 rfl) ?_
      refine lv_iconst (v := 2) hx hb dX5_tell_30 (by decide) ?_
      refine kQ (C := RX5) (wr := []) (w1 := wM D r ma 2 M) G (cqX5_fail l D r ma 0 M 2) okX5_fail hgf hP hD hS hA [0, 1, 2, 3, 4, 5, 6, 7, 8, 9, 10, 11, 12, 13, 14] [] rfl rfl rfl rfl (by decide) (mw_recv hgf (hP 0 _ rfl) rfl) qw3_228 ⟨Nat.le_of_ble_eq_true rfl, Nat.le_of_ble_eq_true rfl⟩ ⟨Nat.zero_le _, Nat.zero_le _⟩ hl.1 (Nat.le_of_ble_eq_true rfl) rfl dX5_tell_31 (fun H locs hP hD hS => ?_)
      refine lv_i2l hx hb dX5_tell_34 rfl ?_
      exact mM_lret (h := hX5_tell M j what) ((if_neg c_1).trans ((if_neg c_2).trans (rfl))) hx hb hr hlocks hP hD hS dX5_tell_35
set_option maxRecDepth 100000 in
set_option maxHeartbeats 4000000 in
theorem cqX5_alarms_bad (l : Launch) (D : mG) (r : Nat) (ma : Nat → Nat) (t : Int32) (M : MSt) (i : Int32) (hbad : fX5_isInst (M.1 14 0) i = 0) : cQ l D yX5_alarms cX5_alarms 2 (some .int) (rmP 1) (wM D r ma t M) [.ref r, .int i] (some (.int 0)) (wM D r ma 1 M) := by
  refine cQ_of (by decide) (Nat.le_of_ble_eq_true rfl) ?_
  intro p e s m below meth c ls A hx hb hr hlocks G hnm hgf hA hP hD hS hl
  have hl : lv_has ls 2 [(0, .ref r), (1, .int i)] := hl
  refine lv_aload_n hx hb dX5_alarms_0 rfl (lv_at hl 0 rfl) ?_
  refine lv_iconst (v := 0) hx hb dX5_alarms_1 (by decide) ?_
  refine mw_put (w1 := wM D r ma 0 M) G hgf hP hD hS 0 rfl rfl inX5 tyX5_ok nmX5 0 (by decide) qw3_162 rfl rfl rfl rfl (Nat.le_of_ble_eq_true rfl) rfl dX5_alarms_2 (fun H locs hP hD hS => ?_)
  refine lv_aload_n hx hb dX5_alarms_5 rfl (lv_at hl 0 rfl) ?_
  refine lv_iload_n hx hb dX5_alarms_6 rfl (lv_at hl 1 rfl) ?_
  refine kV (C := RX5) G (cvX5_isInstrument l D r ma 0 M i) okX5_isInstrument hgf hP (mw_recv hgf (hP 0 _ rfl) rfl) qw4_15 ⟨Nat.le_of_ble_eq_true rfl, Nat.le_of_ble_eq_true rfl⟩ ⟨Nat.zero_le _, Nat.zero_le _⟩ hl.1 (Nat.le_of_ble_eq_true rfl) rfl dX5_alarms_7 ?_
  rw [show fX5_isInst (M.1 14 0) i = 0 from hbad]
  refine lv_if_eq (tgt := 22) hx hb dX5_alarms_10 (by decide) (fun _ => ?_) (fun h => absurd (by decide) h)
  refine lv_aload_n hx hb dX5_alarms_22 rfl (lv_at hl 0 rfl) ?_
  refine lv_iconst (v := 1) hx hb dX5_alarms_23 (by decide) ?_
  refine kQ (C := RX5) (wr := []) (w1 := wM D r ma 1 M) G (cqX5_fail l D r ma 0 M 1) okX5_fail hgf hP hD hS hA [0, 1, 2, 3, 4, 5, 6, 7, 8, 9, 10, 11, 12, 13, 14] [] rfl rfl rfl rfl (by decide) (mw_recv hgf (hP 0 _ rfl) rfl) qw3_228 ⟨Nat.le_of_ble_eq_true rfl, Nat.le_of_ble_eq_true rfl⟩ ⟨Nat.zero_le _, Nat.zero_le _⟩ hl.1 (Nat.le_of_ble_eq_true rfl) rfl dX5_alarms_24 (fun H locs hP hD hS => ?_)
  exact mM_iret (h := (0, 1, M)) (rfl) hx hb hr hlocks hP hD hS dX5_alarms_27
def hX5_alarms (M : MSt) (j : Nat) : Int32 × Int32 × MSt := (M.1 13 j, 0, M)
set_option maxRecDepth 100000 in
set_option maxHeartbeats 4000000 in
theorem cqX5_alarms (l : Launch) (D : mG) (r : Nat) (ma : Nat → Nat) (t : Int32) (M : MSt) {j : Nat} (hj : j < 8) (hin : fX5_isInst (M.1 14 0) (nI j) = 1) : cQ l D yX5_alarms cX5_alarms 2 (some .int) (rmP 1) (wM D r ma t M) [.ref r, .int (nI j)] (some (.int (hX5_alarms M j).1)) (wM D r ma (hX5_alarms M j).2.1 (hX5_alarms M j).2.2) := by
  refine cQ_of (by decide) (Nat.le_of_ble_eq_true rfl) ?_
  intro p e s m below meth c ls A hx hb hr hlocks G hnm hgf hA hP hD hS hl
  have hl : lv_has ls 2 [(0, .ref r), (1, .int (nI j))] := hl
  refine lv_aload_n hx hb dX5_alarms_0 rfl (lv_at hl 0 rfl) ?_
  refine lv_iconst (v := 0) hx hb dX5_alarms_1 (by decide) ?_
  refine mw_put (w1 := wM D r ma 0 M) G hgf hP hD hS 0 rfl rfl inX5 tyX5_ok nmX5 0 (by decide) qw3_162 rfl rfl rfl rfl (Nat.le_of_ble_eq_true rfl) rfl dX5_alarms_2 (fun H locs hP hD hS => ?_)
  refine lv_aload_n hx hb dX5_alarms_5 rfl (lv_at hl 0 rfl) ?_
  refine lv_iload_n hx hb dX5_alarms_6 rfl (lv_at hl 1 rfl) ?_
  refine kV (C := RX5) G (cvX5_isInstrument l D r ma 0 M (nI j)) okX5_isInstrument hgf hP (mw_recv hgf (hP 0 _ rfl) rfl) qw4_15 ⟨Nat.le_of_ble_eq_true rfl, Nat.le_of_ble_eq_true rfl⟩ ⟨Nat.zero_le _, Nat.zero_le _⟩ hl.1 (Nat.le_of_ble_eq_true rfl) rfl dX5_alarms_7 ?_
  rw [show fX5_isInst (M.1 14 0) (nI j) = 1 from hin]
  refine lv_if_eq (tgt := 22) hx hb dX5_alarms_10 (by decide) (fun h => absurd h (by decide)) (fun _ => ?_)
  refine lv_aload_n hx hb dX5_alarms_13 rfl (lv_at hl 0 rfl) ?_
  refine mw_get G hgf (hP 0 _ rfl) rfl inX5 15 (by decide) qw3_177 rfl dX5_alarms_14 ?_
  refine lv_iload_n hx hb dX5_alarms_17 rfl (lv_at hl 1 rfl) ?_
  refine mN_iald (f := M.1 13) G hgf (hP 14 _ rfl) (k := j) (rfl) (hj) (by decide) dX5_alarms_18 ?_
  refine lv_goto (tgt := 27) hx hb dX5_alarms_19 (by decide) ?_
  exact mM_iret (h := hX5_alarms M j) (rfl) hx hb hr hlocks hP hD hS dX5_alarms_27
def hX5_count (M : MSt) (what : Int32) : Int32 × Int32 × MSt := if what = 0 then (M.1 14 0, 0, M) else (if what = 1 then (M.1 14 1, 0, M) else (if what = 2 then (M.1 14 2, 0, M) else (if what = 3 then (M.1 14 3, 0, M) else ((-1), 0, M))))
set_option maxRecDepth 100000 in
set_option maxHeartbeats 4000000 in
theorem cqX5_count (l : Launch) (D : mG) (r : Nat) (ma : Nat → Nat) (t : Int32) (M : MSt) (what : Int32) : cQ l D yX5_count cX5_count 2 (some .int) (rmP 0) (wM D r ma t M) [.ref r, .int what] (some (.int (hX5_count M what).1)) (wM D r ma (hX5_count M what).2.1 (hX5_count M what).2.2) := by
  refine cQ_of (by decide) (Nat.le_of_ble_eq_true rfl) ?_
  intro p e s m below meth c ls A hx hb hr hlocks G hnm hgf hA hP hD hS hl
  have hl : lv_has ls 2 [(0, .ref r), (1, .int what)] := hl
  refine lv_aload_n hx hb dX5_count_0 rfl (lv_at hl 0 rfl) ?_
  refine lv_iconst (v := 0) hx hb dX5_count_1 (by decide) ?_
  refine mw_put (w1 := wM D r ma 0 M) G hgf hP hD hS 0 rfl rfl inX5 tyX5_ok nmX5 0 (by decide) qw3_162 rfl rfl rfl rfl (Nat.le_of_ble_eq_true rfl) rfl dX5_count_2 (fun H locs hP hD hS => ?_)
  refine lv_iload_n hx hb dX5_count_5 rfl (lv_at hl 1 rfl) ?_
  by_cases c_1 : what = 0
  · refine lv_tableIn (off := 30) (tgt := 36) hx hb dX5_count_6 (by rw [c_1]; decide) (by rw [c_1]; decide) (by rw [c_1]; rfl) (by decide) ?_
    refine lv_aload_n hx hb dX5_count_36 rfl (lv_at hl 0 rfl) ?_
    refine mw_get G hgf (hP 0 _ rfl) rfl inX5 1 (by decide) qw3_163 rfl dX5_count_37 ?_
    exact mM_iret (h := hX5_count M what) ((if_pos c_1).trans (rfl)) hx hb hr hlocks hP hD hS dX5_count_40
  · by_cases c_2 : what = 1
    · refine lv_tableIn (off := 35) (tgt := 41) hx hb dX5_count_6 (by rw [c_2]; decide) (by rw [c_2]; decide) (by rw [c_2]; rfl) (by decide) ?_
      refine lv_aload_n hx hb dX5_count_41 rfl (lv_at hl 0 rfl) ?_
      refine mw_get G hgf (hP 0 _ rfl) rfl inX5 16 (by decide) qw3_178 rfl dX5_count_42 ?_
      exact mM_iret (h := hX5_count M what) ((if_neg c_1).trans ((if_pos c_2).trans (rfl))) hx hb hr hlocks hP hD hS dX5_count_45
    · by_cases c_3 : what = 2
      · refine lv_tableIn (off := 40) (tgt := 46) hx hb dX5_count_6 (by rw [c_3]; decide) (by rw [c_3]; decide) (by rw [c_3]; rfl) (by decide) ?_
        refine lv_aload_n hx hb dX5_count_46 rfl (lv_at hl 0 rfl) ?_
        refine mw_get G hgf (hP 0 _ rfl) rfl inX5 17 (by decide) qw3_179 rfl dX5_count_47 ?_
        exact mM_iret (h := hX5_count M what) ((if_neg c_1).trans ((if_neg c_2).trans ((if_pos c_3).trans (rfl)))) hx hb hr hlocks hP hD hS dX5_count_50
      · by_cases c_4 : what = 3
        · refine lv_tableIn (off := 45) (tgt := 51) hx hb dX5_count_6 (by rw [c_4]; decide) (by rw [c_4]; decide) (by rw [c_4]; rfl) (by decide) ?_
          refine lv_aload_n hx hb dX5_count_51 rfl (lv_at hl 0 rfl) ?_
          refine mw_get G hgf (hP 0 _ rfl) rfl inX5 18 (by decide) qw3_180 rfl dX5_count_52 ?_
          exact mM_iret (h := hX5_count M what) ((if_neg c_1).trans ((if_neg c_2).trans ((if_neg c_3).trans ((if_pos c_4).trans (rfl))))) hx hb hr hlocks hP hD hS dX5_count_55
        · refine lv_tableOut (tgt := 56) hx hb dX5_count_6 (by have qc_1 : what.toInt ≠ 0 := mw_ne c_1; have qc_2 : what.toInt ≠ 1 := mw_ne c_2; have qc_3 : what.toInt ≠ 2 := mw_ne c_3; have qc_4 : what.toInt ≠ 3 := mw_ne c_4; omega) (by decide) ?_
          refine lv_iconst (v := (-1)) hx hb dX5_count_56 (by decide) ?_
          exact mM_iret (h := hX5_count M what) ((if_neg c_1).trans ((if_neg c_2).trans ((if_neg c_3).trans ((if_neg c_4).trans (rfl))))) hx hb hr hlocks hP hD hS dX5_count_57
