/-! what sums and swings ask so that no NaN is made -/
def okSum (sort : Int32) (a b : Int64) : Prop := (sort = 2 → vn_sni2f a.toInt32 = false ∧ vn_sni2f b.toInt32 = false ∧ vf_n32 (FP.fadd (fX5_single a) (fX5_single b)) ∧ okf (FP.fadd (fX5_single a) (fX5_single b))) ∧ (sort = 3 → vn_snl2d a = false ∧ vn_snl2d b = false ∧ vf_n64 (FP.dadd (fX5_real a) (fX5_real b)) ∧ okd (FP.dadd (fX5_real a) (fX5_real b)))
def okSwing (sort : Int32) (a b : Int64) : Prop := (¬ (fX5_height sort a) = (fX5_height sort b) → sort = 2 → vn_sni2f a.toInt32 = false ∧ vn_sni2f b.toInt32 = false ∧ vf_n32 (FP.fsub (fX5_single a) (fX5_single b)) ∧ okf (FP.fsub (fX5_single a) (fX5_single b))) ∧ (¬ (fX5_height sort a) = (fX5_height sort b) → sort = 3 → vn_snl2d a = false ∧ vn_snl2d b = false ∧ vf_n64 (FP.dsub (fX5_real a) (fX5_real b)) ∧ okd (FP.dsub (fX5_real a) (fX5_real b)))
set_option maxRecDepth 100000 in
set_option maxHeartbeats 4000000 in
theorem cqX5_read_bad (l : Launch) (D : mG) (r : Nat) (ma : Nat → Nat) (t : Int32) (M : MSt) (i : Int32) (bits : Int64) (hbad : fX5_isInst (M.1 14 0) i = 0) : cQ l D yX5_read cX5_read 9 (some .long) (rmP 1) (wM D r ma t M) [.ref r, .int i, .long bits] (some (.long 0)) (wM D r ma 1 M) := by
  refine cQ_of (by decide) (Nat.le_of_ble_eq_true rfl) ?_
  intro p e s m below meth c ls A hx hb hr hlocks G hnm hgf hA hP hD hS hl
  have hl : lv_has ls 9 [(0, .ref r), (1, .int i), (2, .long bits)] := hl
  refine lv_aload_n hx hb dX5_read_0 rfl (lv_at hl 0 rfl) ?_
  refine lv_iconst (v := 0) hx hb dX5_read_1 (by decide) ?_
  refine mw_put (w1 := wM D r ma 0 M) G hgf hP hD hS 0 rfl rfl inX5 tyX5_ok nmX5 0 (by decide) qw3_162 rfl rfl rfl rfl (Nat.le_of_ble_eq_true rfl) rfl dX5_read_2 (fun H locs hP hD hS => ?_)
  refine lv_aload_n hx hb dX5_read_5 rfl (lv_at hl 0 rfl) ?_
  refine lv_iload_n hx hb dX5_read_6 rfl (lv_at hl 1 rfl) ?_
  refine kV (C := RX5) G (cvX5_isInstrument l D r ma 0 M i) okX5_isInstrument hgf hP (mw_recv hgf (hP 0 _ rfl) rfl) qw4_15 ⟨Nat.le_of_ble_eq_true rfl, Nat.le_of_ble_eq_true rfl⟩ ⟨Nat.zero_le _, Nat.zero_le _⟩ hl.1 (Nat.le_of_ble_eq_true rfl) rfl dX5_read_7 ?_
  rw [show fX5_isInst (M.1 14 0) i = 0 from hbad]
  refine lv_if_ne (tgt := 20) hx hb dX5_read_10 (by decide) (fun h => absurd (by decide) h) (fun _ => ?_)
  refine lv_aload_n hx hb dX5_read_13 rfl (lv_at hl 0 rfl) ?_
  refine lv_iconst (v := 1) hx hb dX5_read_14 (by decide) ?_
  refine kQ (C := RX5) (wr := []) (w1 := wM D r ma 1 M) G (cqX5_fail l D r ma 0 M 1) okX5_fail hgf hP hD hS hA [0, 1, 2, 3, 4, 5, 6, 7, 8, 9, 10, 11, 12, 13, 14] [] rfl rfl rfl rfl (by decide) (mw_recv hgf (hP 0 _ rfl) rfl) qw3_228 ⟨Nat.le_of_ble_eq_true rfl, Nat.le_of_ble_eq_true rfl⟩ ⟨Nat.zero_le _, Nat.zero_le _⟩ hl.1 (Nat.le_of_ble_eq_true rfl) rfl dX5_read_15 (fun H locs hP hD hS => ?_)
  refine lv_i2l hx hb dX5_read_18 rfl ?_
  exact mM_lret (h := (0, 1, M)) (rfl) hx hb hr hlocks hP hD hS dX5_read_19
def hX5_readF (M : MSt) (j : Nat) (so : Int32) (v : Int64) (bits : Int64) : Int64 × Int32 × MSt := if (fX5_isNone so bits) = 0 then (if (fX5_isAbove so (M.2 5 j) v) = 0 then (if (fX5_isAbove so v (M.2 6 j)) = 0 then (v, 0, (sI (sI (sL (sL (sL (sL (sL (sI M 14 3 (M.1 14 3 + nI (chn M j))) 11 j 0) 9 j v) 10 j v) 12 j (fX5_sum so 0 (fX5_amount so v))) 8 (16 * j + cnt M j % 16) v) 7 j ((M.1 7 j) + 1)) 14 1 ((M.1 14 1) + 1))) else (v, 0, (sI (sI (sI (sI (sL (sL (sL (sL (sL (sI M 14 3 (M.1 14 3 + nI (chn M j))) 11 j 0) 9 j v) 10 j v) 12 j (fX5_sum so 0 (fX5_amount so v))) 8 (16 * j + cnt M j % 16) v) 7 j ((M.1 7 j) + 1)) 14 1 ((M.1 14 1) + 1)) 13 j ((M.1 13 j) + 1)) 14 2 ((M.1 14 2) + 1)))) else (v, 0, (sI (sI (sI (sI (sL (sL (sL (sL (sL (sI M 14 3 (M.1 14 3 + nI (chn M j))) 11 j 0) 9 j v) 10 j v) 12 j (fX5_sum so 0 (fX5_amount so v))) 8 (16 * j + cnt M j % 16) v) 7 j ((M.1 7 j) + 1)) 14 1 ((M.1 14 1) + 1)) 13 j ((M.1 13 j) + 1)) 14 2 ((M.1 14 2) + 1)))) else ((0 : Int32).toInt64, 2, M)
set_option maxRecDepth 100000 in
set_option maxHeartbeats 4000000 in
theorem cqX5_readF (l : Launch) (D : mG) (r : Nat) (ma : Nat → Nat) (t : Int32) (M : MSt) {n j : Nat} (hok : mok M n) (hjn : j < n) (hj : j < 8) (hin : fX5_isInst (M.1 14 0) (nI j) = 1) (hm : M.1 7 j = nI (cnt M j)) (hc : cnt M j ≤ 512) {so : Int32} (hso : M.1 0 j = so) (bits : Int64) {v : Int64} (hv : thr M j (chn M j) (fX5_cut so bits) = v) (h0 : M.1 7 j = 0) (hsu : okSum so 0 (fX5_amount so v)) : cQ l D yX5_read cX5_read 9 (some .long) (rmP 6) (wM D r ma t M) [.ref r, .int (nI j), .long bits] (some (.long (hX5_readF M j so v bits).1)) (wM D r ma (hX5_readF M j so v bits).2.1 (hX5_readF M j so v bits).2.2) := by
  refine cQ_of (by decide) (Nat.le_of_ble_eq_true rfl) ?_
  intro p e s m below meth c ls A hx hb hr hlocks G hnm hgf hA hP hD hS hl
  have hl : lv_has ls 9 [(0, .ref r), (1, .int (nI j)), (2, .long bits)] := hl
  refine lv_aload_n hx hb dX5_read_0 rfl (lv_at hl 0 rfl) ?_
  refine lv_iconst (v := 0) hx hb dX5_read_1 (by decide) ?_
  refine mw_put (w1 := wM D r ma 0 M) G hgf hP hD hS 0 rfl rfl inX5 tyX5_ok nmX5 0 (by decide) qw3_162 rfl rfl rfl rfl (Nat.le_of_ble_eq_true rfl) rfl dX5_read_2 (fun H locs hP hD hS => ?_)
  refine lv_aload_n hx hb dX5_read_5 rfl (lv_at hl 0 rfl) ?_
  refine lv_iload_n hx hb dX5_read_6 rfl (lv_at hl 1 rfl) ?_
  refine kV (C := RX5) G (cvX5_isInstrument l D r ma 0 M (nI j)) okX5_isInstrument hgf hP (mw_recv hgf (hP 0 _ rfl) rfl) qw4_15 ⟨Nat.le_of_ble_eq_true rfl, Nat.le_of_ble_eq_true rfl⟩ ⟨Nat.zero_le _, Nat.zero_le _⟩ hl.1 (Nat.le_of_ble_eq_true rfl) rfl dX5_read_7 ?_
  rw [show fX5_isInst (M.1 14 0) (nI j) = 1 from hin]
  refine lv_if_ne (tgt := 20) hx hb dX5_read_10 (by decide) (fun _ => ?_) (fun h => absurd h (by decide))
  refine lv_iload_n hx hb dX5_read_20 rfl (lv_at hl 1 rfl) ?_
  refine lv_istore (lv' := [(4, .int (nI j)), (0, .ref r), (1, .int (nI j)), (2, .long bits)]) hx hb dX5_read_21 hl (by decide) rfl (fun ls hl => ?_)
  refine lv_aload_n hx hb dX5_read_23 rfl (lv_at hl 1 rfl) ?_
  refine mw_get G hgf (hP 0 _ rfl) rfl inX5 2 (by decide) qw3_164 rfl dX5_read_24 ?_
  refine lv_iload hx hb dX5_read_27 (lv_at hl 0 rfl) ?_
  refine mN_iald (f := M.1 0) G hgf (hP 1 _ rfl) (k := j) (rfl) (hj) (by decide) dX5_read_29 ?_
  rw [show M.1 0 j = so from hso]
  refine lv_istore (lv' := [(5, .int so), (4, .int (nI j)), (0, .ref r), (1, .int (nI j)), (2, .long bits)]) hx hb dX5_read_30 hl (by decide) rfl (fun ls hl => ?_)
  refine lv_iload hx hb dX5_read_32 (lv_at hl 0 rfl) ?_
  refine lv_lload_n hx hb dX5_read_34 rfl (lv_at hl 4 rfl) ?_
  refine kS G (cvX5_isNone l D so bits) okX5_isNone hgf trivial qw4_28 ⟨Nat.le_of_ble_eq_true rfl, Nat.le_of_ble_eq_true rfl⟩ ⟨Nat.zero_le _, Nat.zero_le _⟩ hl.1 (Nat.le_of_ble_eq_true rfl) rfl dX5_read_35 ?_
  refine lv_if_eq (tgt := 48) hx hb dX5_read_38 (by decide) (fun c_1 => ?_) (fun c_1 => ?_)
  · refine lv_aload_n hx hb dX5_read_48 rfl (lv_at hl 2 rfl) ?_
    refine lv_iload hx hb dX5_read_49 (lv_at hl 1 rfl) ?_
    refine lv_iload hx hb dX5_read_51 (lv_at hl 0 rfl) ?_
    refine lv_lload_n hx hb dX5_read_53 rfl (lv_at hl 4 rfl) ?_
    refine kS G (cvX5_cut l D so bits) okX5_cut hgf trivial qw4_6 ⟨Nat.le_of_ble_eq_true rfl, Nat.le_of_ble_eq_true rfl⟩ ⟨Nat.zero_le _, Nat.zero_le _⟩ hl.1 (Nat.le_of_ble_eq_true rfl) rfl dX5_read_54 ?_
    refine kQ (C := RX5) (wr := []) G (cqX5_through l D r ma 0 M hok hjn (fX5_cut so bits)) okX5_through hgf hP hD hS hA [0, 1, 2, 3, 4, 5, 6, 7, 8, 9, 10, 11, 12, 13, 14] [] rfl rfl rfl rfl (by decide) (mw_recv hgf (hP 0 _ rfl) rfl) qw4_67 ⟨Nat.le_of_ble_eq_true rfl, Nat.le_of_ble_eq_true rfl⟩ ⟨Nat.zero_le _, Nat.zero_le _⟩ hl.1 (Nat.le_of_ble_eq_true rfl) rfl dX5_read_57 (fun H locs hP hD hS => ?_)
    obtain ⟨M_2, hM_2⟩ : ∃ M_2 : MSt, M_2 = (sI M 14 3 (M.1 14 3 + nI (chn M j))) := ⟨_, rfl⟩
    rw [← hM_2] at hP hD
    rw [show thr M j (chn M j) (fX5_cut so bits) = v from hv]
    refine lv_lstore (lv' := [(6, .long v), (5, .int so), (4, .int (nI j)), (0, .ref r), (1, .int (nI j)), (2, .long bits)]) hx hb dX5_read_60 hl (by decide) rfl (fun ls hl => ?_)
    refine lv_aload_n hx hb dX5_read_62 rfl (lv_at hl 3 rfl) ?_
    refine mw_get G hgf (hP 0 _ rfl) rfl inX5 9 (by decide) qw3_171 rfl dX5_read_63 ?_
    refine lv_iload hx hb dX5_read_66 (lv_at hl 2 rfl) ?_
    refine mN_iald (f := M_2.1 7) G hgf (hP 8 _ rfl) (k := j) (rfl) (hj) (by decide) dX5_read_68 ?_
    rw [show M_2.1 7 j = M.1 7 j from by simp [hM_2, sI, sL, va_up, upd, vp_updL]]
    refine lv_if_ne (tgt := 76) hx hb dX5_read_69 (by decide) (fun h => absurd h0 h) (fun _ => ?_)
    refine lv_iconst (v := 1) hx hb dX5_read_72 (by decide) ?_
    refine lv_goto (tgt := 77) hx hb dX5_read_73 (by decide) ?_
    refine lv_istore (lv' := [(8, .int 1), (6, .long v), (5, .int so), (4, .int (nI j)), (0, .ref r), (1, .int (nI j)), (2, .long bits)]) hx hb dX5_read_77 hl (by decide) rfl (fun ls hl => ?_)
    refine lv_aload_n hx hb dX5_read_79 rfl (lv_at hl 4 rfl) ?_
    refine mw_get G hgf (hP 0 _ rfl) rfl inX5 13 (by decide) qw3_175 rfl dX5_read_80 ?_
    refine lv_iload hx hb dX5_read_83 (lv_at hl 3 rfl) ?_
    refine lv_iload hx hb dX5_read_85 (lv_at hl 0 rfl) ?_
    refine lv_if_eq (tgt := 94) hx hb dX5_read_87 (by decide) (fun h => absurd h (by decide)) (fun _ => ?_)
    refine lv_lconst (v := 0) hx hb dX5_read_90 (by decide) ?_
    refine lv_goto (tgt := 107) hx hb dX5_read_91 (by decide) ?_
    refine mN_last (f := M_2.2 11) (w1 := wM D r ma 0 (sL M_2 11 j 0)) G hgf hP hD hS 12 rfl (k := j) (rfl) (hj) (by decide) rfl dX5_read_107 (fun H locs hP hD hS => ?_)
    obtain ⟨M_3, hM_3⟩ : ∃ M_3 : MSt, M_3 = (sL M_2 11 j 0) := ⟨_, rfl⟩
    rw [← hM_3] at hP hD
    refine lv_aload_n hx hb dX5_read_108 rfl (lv_at hl 4 rfl) ?_
    refine mw_get G hgf (hP 0 _ rfl) rfl inX5 11 (by decide) qw3_173 rfl dX5_read_109 ?_
    refine lv_iload hx hb dX5_read_112 (lv_at hl 3 rfl) ?_
    refine lv_iload hx hb dX5_read_114 (lv_at hl 0 rfl) ?_
    refine lv_if_eq (tgt := 124) hx hb dX5_read_116 (by decide) (fun h => absurd h (by decide)) (fun _ => ?_)
    refine lv_lload hx hb dX5_read_119 (lv_at hl 1 rfl) ?_
    refine lv_goto (tgt := 138) hx hb dX5_read_121 (by decide) ?_
    refine mN_last (f := M_3.2 9) (w1 := wM D r ma 0 (sL M_3 9 j v)) G hgf hP hD hS 10 rfl (k := j) (rfl) (hj) (by decide) rfl dX5_read_138 (fun H locs hP hD hS => ?_)
    obtain ⟨M_4, hM_4⟩ : ∃ M_4 : MSt, M_4 = (sL M_3 9 j v) := ⟨_, rfl⟩
    rw [← hM_4] at hP hD
    refine lv_aload_n hx hb dX5_read_139 rfl (lv_at hl 4 rfl) ?_
    refine mw_get G hgf (hP 0 _ rfl) rfl inX5 12 (by decide) qw3_174 rfl dX5_read_140 ?_
    refine lv_iload hx hb dX5_read_143 (lv_at hl 3 rfl) ?_
    refine lv_iload hx hb dX5_read_145 (lv_at hl 0 rfl) ?_
    refine lv_if_eq (tgt := 155) hx hb dX5_read_147 (by decide) (fun h => absurd h (by decide)) (fun _ => ?_)
    refine lv_lload hx hb dX5_read_150 (lv_at hl 1 rfl) ?_
    refine lv_goto (tgt := 169) hx hb dX5_read_152 (by decide) ?_
    refine mN_last (f := M_4.2 10) (w1 := wM D r ma 0 (sL M_4 10 j v)) G hgf hP hD hS 11 rfl (k := j) (rfl) (hj) (by decide) rfl dX5_read_169 (fun H locs hP hD hS => ?_)
    obtain ⟨M_5, hM_5⟩ : ∃ M_5 : MSt, M_5 = (sL M_4 10 j v) := ⟨_, rfl⟩
    rw [← hM_5] at hP hD
    refine lv_aload_n hx hb dX5_read_170 rfl (lv_at hl 4 rfl) ?_
    refine mw_get G hgf (hP 0 _ rfl) rfl inX5 14 (by decide) qw3_176 rfl dX5_read_171 ?_
    refine lv_iload hx hb dX5_read_174 (lv_at hl 3 rfl) ?_
    refine lv_iload hx hb dX5_read_176 (lv_at hl 2 rfl) ?_
    refine lv_iload hx hb dX5_read_178 (lv_at hl 0 rfl) ?_
    refine lv_if_eq (tgt := 187) hx hb dX5_read_180 (by decide) (fun h => absurd h (by decide)) (fun _ => ?_)
    refine lv_lconst (v := 0) hx hb dX5_read_183 (by decide) ?_
    refine lv_goto (tgt := 194) hx hb dX5_read_184 (by decide) ?_
    refine lv_iload hx hb dX5_read_194 (lv_at hl 2 rfl) ?_
    refine lv_lload hx hb dX5_read_196 (lv_at hl 1 rfl) ?_
    refine kS G (cvX5_amount l D so v) okX5_amount hgf trivial qw4_78 ⟨Nat.le_of_ble_eq_true rfl, Nat.le_of_ble_eq_true rfl⟩ ⟨Nat.zero_le _, Nat.zero_le _⟩ hl.1 (Nat.le_of_ble_eq_true rfl) rfl dX5_read_198 ?_
    refine kS G (cvX5_sum l D so 0 (fX5_amount so v) hsu.1 hsu.2) okX5_sum hgf trivial qw4_134 ⟨Nat.le_of_ble_eq_true rfl, Nat.le_of_ble_eq_true rfl⟩ ⟨Nat.zero_le _, Nat.zero_le _⟩ hl.1 (Nat.le_of_ble_eq_true rfl) rfl dX5_read_201 ?_
    refine mN_last (f := M_5.2 12) (w1 := wM D r ma 0 (sL M_5 12 j (fX5_sum so 0 (fX5_amount so v)))) G hgf hP hD hS 13 rfl (k := j) (rfl) (hj) (by decide) rfl dX5_read_204 (fun H locs hP hD hS => ?_)
    obtain ⟨M_6, hM_6⟩ : ∃ M_6 : MSt, M_6 = (sL M_5 12 j (fX5_sum so 0 (fX5_amount so v))) := ⟨_, rfl⟩
    rw [← hM_6] at hP hD
    refine lv_aload_n hx hb dX5_read_205 rfl (lv_at hl 4 rfl) ?_
    refine mw_get G hgf (hP 0 _ rfl) rfl inX5 10 (by decide) qw3_172 rfl dX5_read_206 ?_
    refine lv_bipush (v := 16) hx hb dX5_read_209 (by decide) ?_
    refine lv_iload hx hb dX5_read_211 (lv_at hl 3 rfl) ?_
    refine lv_imul hx hb dX5_read_213 ?_
    refine lv_aload_n hx hb dX5_read_214 rfl (lv_at hl 4 rfl) ?_
    refine mw_get G hgf (hP 0 _ rfl) rfl inX5 9 (by decide) qw3_171 rfl dX5_read_215 ?_
    refine lv_iload hx hb dX5_read_218 (lv_at hl 3 rfl) ?_
    refine mN_iald (f := M_6.1 7) G hgf (hP 8 _ rfl) (k := j) (rfl) (hj) (by decide) dX5_read_220 ?_
    rw [show M_6.1 7 j = M.1 7 j from by simp [hM_6, hM_5, hM_4, hM_3, hM_2, sI, sL, va_up, upd, vp_updL]]
    refine lv_bipush (v := 16) hx hb dX5_read_221 (by decide) ?_
    refine lv_irem hx hb dX5_read_223 (by decide) ?_
    refine lv_iadd hx hb dX5_read_224 ?_
    refine lv_lload hx hb dX5_read_225 (lv_at hl 1 rfl) ?_
    refine mN_last (f := M_6.2 8) (w1 := wM D r ma 0 (sL M_6 8 (16 * j + cnt M j % 16) v)) G hgf hP hD hS 9 rfl (k := 16 * j + cnt M j % 16) (by rw [hm]; exact nI_m16 hc hj) (by omega) (by decide) rfl dX5_read_227 (fun H locs hP hD hS => ?_)
    obtain ⟨M_7, hM_7⟩ : ∃ M_7 : MSt, M_7 = (sL M_6 8 (16 * j + cnt M j % 16) v) := ⟨_, rfl⟩
    rw [← hM_7] at hP hD
    refine lv_aload_n hx hb dX5_read_228 rfl (lv_at hl 4 rfl) ?_
    refine mw_get G hgf (hP 0 _ rfl) rfl inX5 9 (by decide) qw3_171 rfl dX5_read_229 ?_
    refine lv_iload hx hb dX5_read_232 (lv_at hl 3 rfl) ?_
    refine lv_dup2_11 hx hb dX5_read_234 rfl rfl ?_
    refine mN_iald (f := M_7.1 7) G hgf (hP 8 _ rfl) (k := j) (rfl) (hj) (by decide) dX5_read_235 ?_
    rw [show M_7.1 7 j = M.1 7 j from by simp [hM_7, hM_6, hM_5, hM_4, hM_3, hM_2, sI, sL, va_up, upd, vp_updL]]
    refine lv_iconst (v := 1) hx hb dX5_read_236 (by decide) ?_
    refine lv_iadd hx hb dX5_read_237 ?_
    refine mN_iast (f := M_7.1 7) (w1 := wM D r ma 0 (sI M_7 7 j ((M.1 7 j) + 1))) G hgf hP hD hS 8 rfl (k := j) (rfl) (hj) (by decide) rfl dX5_read_238 (fun H locs hP hD hS => ?_)
    obtain ⟨M_8, hM_8⟩ : ∃ M_8 : MSt, M_8 = (sI M_7 7 j ((M.1 7 j) + 1)) := ⟨_, rfl⟩
    rw [← hM_8] at hP hD
    refine lv_aload_n hx hb dX5_read_239 rfl (lv_at hl 4 rfl) ?_
    refine lv_dup hx hb dX5_read_240 rfl ?_
    refine mw_get G hgf (hP 0 _ rfl) rfl inX5 16 (by decide) qw3_178 rfl dX5_read_241 ?_
    rw [show M_8.1 14 1 = M.1 14 1 from by simp [hM_8, hM_7, hM_6, hM_5, hM_4, hM_3, hM_2, sI, sL, va_up, upd, vp_updL]]
    refine lv_iconst (v := 1) hx hb dX5_read_244 (by decide) ?_
    refine lv_iadd hx hb dX5_read_245 ?_
    refine mw_put (w1 := wM D r ma 0 (sI M_8 14 1 ((M.1 14 1) + 1))) G hgf hP hD hS 0 rfl rfl inX5 tyX5_ok nmX5 16 (by decide) qw3_178 rfl rfl rfl rfl (Nat.le_of_ble_eq_true rfl) rfl dX5_read_246 (fun H locs hP hD hS => ?_)
    obtain ⟨M_9, hM_9⟩ : ∃ M_9 : MSt, M_9 = (sI M_8 14 1 ((M.1 14 1) + 1)) := ⟨_, rfl⟩
    rw [← hM_9] at hP hD
    refine lv_iload hx hb dX5_read_249 (lv_at hl 2 rfl) ?_
    refine lv_aload_n hx hb dX5_read_251 rfl (lv_at hl 4 rfl) ?_
    refine mw_get G hgf (hP 0 _ rfl) rfl inX5 7 (by decide) qw3_169 rfl dX5_read_252 ?_
    refine lv_iload hx hb dX5_read_255 (lv_at hl 3 rfl) ?_
    refine mN_lald (f := M_9.2 5) G hgf (hP 6 _ rfl) (k := j) (rfl) (hj) (by decide) dX5_read_257 ?_
    rw [show M_9.2 5 j = M.2 5 j from by simp [hM_9, hM_8, hM_7, hM_6, hM_5, hM_4, hM_3, hM_2, sI, sL, va_up, upd, vp_updL]]
    refine lv_lload hx hb dX5_read_258 (lv_at hl 1 rfl) ?_
    refine kS G (cvX5_isAbove l D so (M.2 5 j) v) okX5_isAbove hgf trivial qw4_51 ⟨Nat.le_of_ble_eq_true rfl, Nat.le_of_ble_eq_true rfl⟩ ⟨Nat.zero_le _, Nat.zero_le _⟩ hl.1 (Nat.le_of_ble_eq_true rfl) rfl dX5_read_260 ?_
    refine lv_if_ne (tgt := 283) hx hb dX5_read_263 (by decide) (fun c_10 => ?_) (fun c_10 => ?_)
    · refine lv_aload_n hx hb dX5_read_283 rfl (lv_at hl 4 rfl) ?_
      refine mw_get G hgf (hP 0 _ rfl) rfl inX5 15 (by decide) qw3_177 rfl dX5_read_284 ?_
      refine lv_iload hx hb dX5_read_287 (lv_at hl 3 rfl) ?_
      refine lv_dup2_11 hx hb dX5_read_289 rfl rfl ?_
      refine mN_iald (f := M_9.1 13) G hgf (hP 14 _ rfl) (k := j) (rfl) (hj) (by decide) dX5_read_290 ?_
      rw [show M_9.1 13 j = M.1 13 j from by simp [hM_9, hM_8, hM_7, hM_6, hM_5, hM_4, hM_3, hM_2, sI, sL, va_up, upd, vp_updL]]
      refine lv_iconst (v := 1) hx hb dX5_read_291 (by decide) ?_
      refine lv_iadd hx hb dX5_read_292 ?_
      refine mN_iast (f := M_9.1 13) (w1 := wM D r ma 0 (sI M_9 13 j ((M.1 13 j) + 1))) G hgf hP hD hS 14 rfl (k := j) (rfl) (hj) (by decide) rfl dX5_read_293 (fun H locs hP hD hS => ?_)
      obtain ⟨M_11, hM_11⟩ : ∃ M_11 : MSt, M_11 = (sI M_9 13 j ((M.1 13 j) + 1)) := ⟨_, rfl⟩
      rw [← hM_11] at hP hD
      refine lv_aload_n hx hb dX5_read_294 rfl (lv_at hl 4 rfl) ?_
      refine lv_dup hx hb dX5_read_295 rfl ?_
      refine mw_get G hgf (hP 0 _ rfl) rfl inX5 17 (by decide) qw3_179 rfl dX5_read_296 ?_
      rw [show M_11.1 14 2 = M.1 14 2 from by simp [hM_11, hM_9, hM_8, hM_7, hM_6, hM_5, hM_4, hM_3, hM_2, sI, sL, va_up, upd, vp_updL]]
      refine lv_iconst (v := 1) hx hb dX5_read_299 (by decide) ?_
      refine lv_iadd hx hb dX5_read_300 ?_
      refine mw_put (w1 := wM D r ma 0 (sI M_11 14 2 ((M.1 14 2) + 1))) G hgf hP hD hS 0 rfl rfl inX5 tyX5_ok nmX5 17 (by decide) qw3_179 rfl rfl rfl rfl (Nat.le_of_ble_eq_true rfl) rfl dX5_read_301 (fun H locs hP hD hS => ?_)
      obtain ⟨M_12, hM_12⟩ : ∃ M_12 : MSt, M_12 = (sI M_11 14 2 ((M.1 14 2) + 1)) := ⟨_, rfl⟩
      rw [← hM_12] at hP hD
      refine lv_lload hx hb dX5_read_304 (lv_at hl 1 rfl) ?_
      exact mM_lret (h := hX5_readF M j so v bits) (((if_pos c_1).trans ((if_neg c_10).trans (rfl))).trans (by rw [hM_12, hM_11, hM_9, hM_8, hM_7, hM_6, hM_5, hM_4, hM_3, hM_2])) hx hb hr hlocks hP hD hS dX5_read_306
    · refine lv_iload hx hb dX5_read_266 (lv_at hl 2 rfl) ?_
      refine lv_lload hx hb dX5_read_268 (lv_at hl 1 rfl) ?_
      refine lv_aload_n hx hb dX5_read_270 rfl (lv_at hl 4 rfl) ?_
      refine mw_get G hgf (hP 0 _ rfl) rfl inX5 8 (by decide) qw3_170 rfl dX5_read_271 ?_
      refine lv_iload hx hb dX5_read_274 (lv_at hl 3 rfl) ?_
      refine mN_lald (f := M_9.2 6) G hgf (hP 7 _ rfl) (k := j) (rfl) (hj) (by decide) dX5_read_276 ?_
      rw [show M_9.2 6 j = M.2 6 j from by simp [hM_9, hM_8, hM_7, hM_6, hM_5, hM_4, hM_3, hM_2, sI, sL, va_up, upd, vp_updL]]
      refine kS G (cvX5_isAbove l D so v (M.2 6 j)) okX5_isAbove hgf trivial qw4_51 ⟨Nat.le_of_ble_eq_true rfl, Nat.le_of_ble_eq_true rfl⟩ ⟨Nat.zero_le _, Nat.zero_le _⟩ hl.1 (Nat.le_of_ble_eq_true rfl) rfl dX5_read_277 ?_
      refine lv_if_eq (tgt := 304) hx hb dX5_read_280 (by decide) (fun c_13 => ?_) (fun c_13 => ?_)
      · refine lv_lload hx hb dX5_read_304 (lv_at hl 1 rfl) ?_
        exact mM_lret (h := hX5_readF M j so v bits) (((if_pos c_1).trans ((if_pos c_10).trans ((if_pos c_13).trans (rfl)))).trans (by rw [hM_9, hM_8, hM_7, hM_6, hM_5, hM_4, hM_3, hM_2])) hx hb hr hlocks hP hD hS dX5_read_306
      · refine lv_aload_n hx hb dX5_read_283 rfl (lv_at hl 4 rfl) ?_
        refine mw_get G hgf (hP 0 _ rfl) rfl inX5 15 (by decide) qw3_177 rfl dX5_read_284 ?_
        refine lv_iload hx hb dX5_read_287 (lv_at hl 3 rfl) ?_
        refine lv_dup2_11 hx hb dX5_read_289 rfl rfl ?_
        refine mN_iald (f := M_9.1 13) G hgf (hP 14 _ rfl) (k := j) (rfl) (hj) (by decide) dX5_read_290 ?_
        rw [show M_9.1 13 j = M.1 13 j from by simp [hM_9, hM_8, hM_7, hM_6, hM_5, hM_4, hM_3, hM_2, sI, sL, va_up, upd, vp_updL]]
        refine lv_iconst (v := 1) hx hb dX5_read_291 (by decide) ?_
        refine lv_iadd hx hb dX5_read_292 ?_
        refine mN_iast (f := M_9.1 13) (w1 := wM D r ma 0 (sI M_9 13 j ((M.1 13 j) + 1))) G hgf hP hD hS 14 rfl (k := j) (rfl) (hj) (by decide) rfl dX5_read_293 (fun H locs hP hD hS => ?_)
        obtain ⟨M_14, hM_14⟩ : ∃ M_14 : MSt, M_14 = (sI M_9 13 j ((M.1 13 j) + 1)) := ⟨_, rfl⟩
        rw [← hM_14] at hP hD
        refine lv_aload_n hx hb dX5_read_294 rfl (lv_at hl 4 rfl) ?_
        refine lv_dup hx hb dX5_read_295 rfl ?_
        refine mw_get G hgf (hP 0 _ rfl) rfl inX5 17 (by decide) qw3_179 rfl dX5_read_296 ?_
        rw [show M_14.1 14 2 = M.1 14 2 from by simp [hM_14, hM_9, hM_8, hM_7, hM_6, hM_5, hM_4, hM_3, hM_2, sI, sL, va_up, upd, vp_updL]]
        refine lv_iconst (v := 1) hx hb dX5_read_299 (by decide) ?_
        refine lv_iadd hx hb dX5_read_300 ?_
        refine mw_put (w1 := wM D r ma 0 (sI M_14 14 2 ((M.1 14 2) + 1))) G hgf hP hD hS 0 rfl rfl inX5 tyX5_ok nmX5 17 (by decide) qw3_179 rfl rfl rfl rfl (Nat.le_of_ble_eq_true rfl) rfl dX5_read_301 (fun H locs hP hD hS => ?_)
        obtain ⟨M_15, hM_15⟩ : ∃ M_15 : MSt, M_15 = (sI M_14 14 2 ((M.1 14 2) + 1)) := ⟨_, rfl⟩
        rw [← hM_15] at hP hD
        refine lv_lload hx hb dX5_read_304 (lv_at hl 1 rfl) ?_
        exact mM_lret (h := hX5_readF M j so v bits) (((if_pos c_1).trans ((if_pos c_10).trans ((if_neg c_13).trans (rfl)))).trans (by rw [hM_15, hM_14, hM_9, hM_8, hM_7, hM_6, hM_5, hM_4, hM_3, hM_2])) hx hb hr hlocks hP hD hS dX5_read_306
  · refine lv_aload_n hx hb dX5_read_41 rfl (lv_at hl 2 rfl) ?_
    refine lv_iconst (v := 2) hx hb dX5_read_42 (by decide) ?_
    refine kQ (C := RX5) (wr := []) (w1 := wM D r ma 2 M) G (cqX5_fail l D r ma 0 M 2) okX5_fail hgf hP hD hS hA [0, 1, 2, 3, 4, 5, 6, 7, 8, 9, 10, 11, 12, 13, 14] [] rfl rfl rfl rfl (by decide) (mw_recv hgf (hP 0 _ rfl) rfl) qw3_228 ⟨Nat.le_of_ble_eq_true rfl, Nat.le_of_ble_eq_true rfl⟩ ⟨Nat.zero_le _, Nat.zero_le _⟩ hl.1 (Nat.le_of_ble_eq_true rfl) rfl dX5_read_43 (fun H locs hP hD hS => ?_)
    refine lv_i2l hx hb dX5_read_46 rfl ?_
    exact mM_lret (h := hX5_readF M j so v bits) ((if_neg c_1).trans (rfl)) hx hb hr hlocks hP hD hS dX5_read_47
def hX5_readN (M : MSt) (j : Nat) (so : Int32) (v : Int64) (bits : Int64) (lw : Int64) : Int64 × Int32 × MSt := if (fX5_isNone so bits) = 0 then (if (fX5_isAbove so (M.2 5 j) v) = 0 then (if (fX5_isAbove so v (M.2 6 j)) = 0 then (v, 0, (sI (sI (sL (sL (sL (sL (sL (sI M 14 3 (M.1 14 3 + nI (chn M j))) 11 j (fX5_swing so v lw)) 9 j (fX5_lesser so (M.2 9 j) v)) 10 j (fX5_greater so (M.2 10 j) v)) 12 j (fX5_sum so (M.2 12 j) (fX5_amount so v))) 8 (16 * j + cnt M j % 16) v) 7 j ((M.1 7 j) + 1)) 14 1 ((M.1 14 1) + 1))) else (v, 0, (sI (sI (sI (sI (sL (sL (sL (sL (sL (sI M 14 3 (M.1 14 3 + nI (chn M j))) 11 j (fX5_swing so v lw)) 9 j (fX5_lesser so (M.2 9 j) v)) 10 j (fX5_greater so (M.2 10 j) v)) 12 j (fX5_sum so (M.2 12 j) (fX5_amount so v))) 8 (16 * j + cnt M j % 16) v) 7 j ((M.1 7 j) + 1)) 14 1 ((M.1 14 1) + 1)) 13 j ((M.1 13 j) + 1)) 14 2 ((M.1 14 2) + 1)))) else (v, 0, (sI (sI (sI (sI (sL (sL (sL (sL (sL (sI M 14 3 (M.1 14 3 + nI (chn M j))) 11 j (fX5_swing so v lw)) 9 j (fX5_lesser so (M.2 9 j) v)) 10 j (fX5_greater so (M.2 10 j) v)) 12 j (fX5_sum so (M.2 12 j) (fX5_amount so v))) 8 (16 * j + cnt M j % 16) v) 7 j ((M.1 7 j) + 1)) 14 1 ((M.1 14 1) + 1)) 13 j ((M.1 13 j) + 1)) 14 2 ((M.1 14 2) + 1)))) else ((0 : Int32).toInt64, 2, M)
set_option maxRecDepth 100000 in
set_option maxHeartbeats 4000000 in
theorem cqX5_readN (l : Launch) (D : mG) (r : Nat) (ma : Nat → Nat) (t : Int32) (M : MSt) {n j : Nat} (hok : mok M n) (hjn : j < n) (hj : j < 8) (hin : fX5_isInst (M.1 14 0) (nI j) = 1) (hm : M.1 7 j = nI (cnt M j)) (hc : cnt M j ≤ 512) {so : Int32} (hso : M.1 0 j = so) (bits : Int64) {v : Int64} (hv : thr M j (chn M j) (fX5_cut so bits) = v) (h0 : ¬ M.1 7 j = 0) {lw : Int64} (hlw : lat M j = lw) (hsw : okSwing so v lw) (hsu : okSum so (M.2 12 j) (fX5_amount so v)) : cQ l D yX5_read cX5_read 9 (some .long) (rmP 6) (wM D r ma t M) [.ref r, .int (nI j), .long bits] (some (.long (hX5_readN M j so v bits lw).1)) (wM D r ma (hX5_readN M j so v bits lw).2.1 (hX5_readN M j so v bits lw).2.2) := by
  refine cQ_of (by decide) (Nat.le_of_ble_eq_true rfl) ?_
  intro p e s m below meth c ls A hx hb hr hlocks G hnm hgf hA hP hD hS hl
  have hl : lv_has ls 9 [(0, .ref r), (1, .int (nI j)), (2, .long bits)] := hl
  refine lv_aload_n hx hb dX5_read_0 rfl (lv_at hl 0 rfl) ?_
  refine lv_iconst (v := 0) hx hb dX5_read_1 (by decide) ?_
  refine mw_put (w1 := wM D r ma 0 M) G hgf hP hD hS 0 rfl rfl inX5 tyX5_ok nmX5 0 (by decide) qw3_162 rfl rfl rfl rfl (Nat.le_of_ble_eq_true rfl) rfl dX5_read_2 (fun H locs hP hD hS => ?_)
  refine lv_aload_n hx hb dX5_read_5 rfl (lv_at hl 0 rfl) ?_
  refine lv_iload_n hx hb dX5_read_6 rfl (lv_at hl 1 rfl) ?_
  refine kV (C := RX5) G (cvX5_isInstrument l D r ma 0 M (nI j)) okX5_isInstrument hgf hP (mw_recv hgf (hP 0 _ rfl) rfl) qw4_15 ⟨Nat.le_of_ble_eq_true rfl, Nat.le_of_ble_eq_true rfl⟩ ⟨Nat.zero_le _, Nat.zero_le _⟩ hl.1 (Nat.le_of_ble_eq_true rfl) rfl dX5_read_7 ?_
  rw [show fX5_isInst (M.1 14 0) (nI j) = 1 from hin]
  refine lv_if_ne (tgt := 20) hx hb dX5_read_10 (by decide) (fun _ => ?_) (fun h => absurd h (by decide))
  refine lv_iload_n hx hb dX5_read_20 rfl (lv_at hl 1 rfl) ?_
  refine lv_istore (lv' := [(4, .int (nI j)), (0, .ref r), (1, .int (nI j)), (2, .long bits)]) hx hb dX5_read_21 hl (by decide) rfl (fun ls hl => ?_)
  refine lv_aload_n hx hb dX5_read_23 rfl (lv_at hl 1 rfl) ?_
  refine mw_get G hgf (hP 0 _ rfl) rfl inX5 2 (by decide) qw3_164 rfl dX5_read_24 ?_
  refine lv_iload hx hb dX5_read_27 (lv_at hl 0 rfl) ?_
  refine mN_iald (f := M.1 0) G hgf (hP 1 _ rfl) (k := j) (rfl) (hj) (by decide) dX5_read_29 ?_
  rw [show M.1 0 j = so from hso]
  refine lv_istore (lv' := [(5, .int so), (4, .int (nI j)), (0, .ref r), (1, .int (nI j)), (2, .long bits)]) hx hb dX5_read_30 hl (by decide) rfl (fun ls hl => ?_)
  refine lv_iload hx hb dX5_read_32 (lv_at hl 0 rfl) ?_
  refine lv_lload_n hx hb dX5_read_34 rfl (lv_at hl 4 rfl) ?_
  refine kS G (cvX5_isNone l D so bits) okX5_isNone hgf trivial qw4_28 ⟨Nat.le_of_ble_eq_true rfl, Nat.le_of_ble_eq_true rfl⟩ ⟨Nat.zero_le _, Nat.zero_le _⟩ hl.1 (Nat.le_of_ble_eq_true rfl) rfl dX5_read_35 ?_
  refine lv_if_eq (tgt := 48) hx hb dX5_read_38 (by decide) (fun c_1 => ?_) (fun c_1 => ?_)
  · refine lv_aload_n hx hb dX5_read_48 rfl (lv_at hl 2 rfl) ?_
    refine lv_iload hx hb dX5_read_49 (lv_at hl 1 rfl) ?_
    refine lv_iload hx hb dX5_read_51 (lv_at hl 0 rfl) ?_
    refine lv_lload_n hx hb dX5_read_53 rfl (lv_at hl 4 rfl) ?_
    refine kS G (cvX5_cut l D so bits) okX5_cut hgf trivial qw4_6 ⟨Nat.le_of_ble_eq_true rfl, Nat.le_of_ble_eq_true rfl⟩ ⟨Nat.zero_le _, Nat.zero_le _⟩ hl.1 (Nat.le_of_ble_eq_true rfl) rfl dX5_read_54 ?_
    refine kQ (C := RX5) (wr := []) G (cqX5_through l D r ma 0 M hok hjn (fX5_cut so bits)) okX5_through hgf hP hD hS hA [0, 1, 2, 3, 4, 5, 6, 7, 8, 9, 10, 11, 12, 13, 14] [] rfl rfl rfl rfl (by decide) (mw_recv hgf (hP 0 _ rfl) rfl) qw4_67 ⟨Nat.le_of_ble_eq_true rfl, Nat.le_of_ble_eq_true rfl⟩ ⟨Nat.zero_le _, Nat.zero_le _⟩ hl.1 (Nat.le_of_ble_eq_true rfl) rfl dX5_read_57 (fun H locs hP hD hS => ?_)
    obtain ⟨M_2, hM_2⟩ : ∃ M_2 : MSt, M_2 = (sI M 14 3 (M.1 14 3 + nI (chn M j))) := ⟨_, rfl⟩
    rw [← hM_2] at hP hD
    rw [show thr M j (chn M j) (fX5_cut so bits) = v from hv]
    refine lv_lstore (lv' := [(6, .long v), (5, .int so), (4, .int (nI j)), (0, .ref r), (1, .int (nI j)), (2, .long bits)]) hx hb dX5_read_60 hl (by decide) rfl (fun ls hl => ?_)
    refine lv_aload_n hx hb dX5_read_62 rfl (lv_at hl 3 rfl) ?_
    refine mw_get G hgf (hP 0 _ rfl) rfl inX5 9 (by decide) qw3_171 rfl dX5_read_63 ?_
    refine lv_iload hx hb dX5_read_66 (lv_at hl 2 rfl) ?_
    refine mN_iald (f := M_2.1 7) G hgf (hP 8 _ rfl) (k := j) (rfl) (hj) (by decide) dX5_read_68 ?_
    rw [show M_2.1 7 j = M.1 7 j from by simp [hM_2, sI, sL, va_up, upd, vp_updL]]
    refine lv_if_ne (tgt := 76) hx hb dX5_read_69 (by decide) (fun _ => ?_) (fun h => absurd h h0)
    refine lv_iconst (v := 0) hx hb dX5_read_76 (by decide) ?_
    refine lv_istore (lv' := [(8, .int 0), (6, .long v), (5, .int so), (4, .int (nI j)), (0, .ref r), (1, .int (nI j)), (2, .long bits)]) hx hb dX5_read_77 hl (by decide) rfl (fun ls hl => ?_)
    refine lv_aload_n hx hb dX5_read_79 rfl (lv_at hl 4 rfl) ?_
    refine mw_get G hgf (hP 0 _ rfl) rfl inX5 13 (by decide) qw3_175 rfl dX5_read_80 ?_
    refine lv_iload hx hb dX5_read_83 (lv_at hl 3 rfl) ?_
    refine lv_iload hx hb dX5_read_85 (lv_at hl 0 rfl) ?_
    refine lv_if_eq (tgt := 94) hx hb dX5_read_87 (by decide) (fun _ => ?_) (fun h => absurd (by decide) h)
    refine lv_iload hx hb dX5_read_94 (lv_at hl 2 rfl) ?_
    refine lv_lload hx hb dX5_read_96 (lv_at hl 1 rfl) ?_
    refine lv_aload_n hx hb dX5_read_98 rfl (lv_at hl 4 rfl) ?_
    refine lv_iload hx hb dX5_read_99 (lv_at hl 3 rfl) ?_
    have hlat : lat M_2 j = lat M j := by simp [lat, cnt, hM_2, sI, sL, va_up, upd, vp_updL]
    have hcn : cnt M_2 j = cnt M j := by simp [cnt, hM_2, sI, sL, va_up, upd, vp_updL]
    have h7n : M_2.1 7 j = M.1 7 j := by simp [hM_2, sI, sL, va_up, upd, vp_updL]
    refine kV (C := RX5) G (cvX5_latest l D r ma 0 M_2 (j := j) hj (by rw [hcn]; exact hc) (by rw [hcn, h7n]; exact hm)) okX5_latest hgf hP (mw_recv hgf (hP 0 _ rfl) rfl) qw4_71 ⟨Nat.le_of_ble_eq_true rfl, Nat.le_of_ble_eq_true rfl⟩ ⟨Nat.zero_le _, Nat.zero_le _⟩ hl.1 (Nat.le_of_ble_eq_true rfl) rfl dX5_read_101 ?_
    rw [show lat M_2 j = lw from hlat.trans hlw]
    refine kS G (cvX5_swing l D so v lw hsw.1 hsw.2) okX5_swing hgf trivial qw4_99 ⟨Nat.le_of_ble_eq_true rfl, Nat.le_of_ble_eq_true rfl⟩ ⟨Nat.zero_le _, Nat.zero_le _⟩ hl.1 (Nat.le_of_ble_eq_true rfl) rfl dX5_read_104 ?_
    refine mN_last (f := M_2.2 11) (w1 := wM D r ma 0 (sL M_2 11 j (fX5_swing so v lw))) G hgf hP hD hS 12 rfl (k := j) (rfl) (hj) (by decide) rfl dX5_read_107 (fun H locs hP hD hS => ?_)
    obtain ⟨M_3, hM_3⟩ : ∃ M_3 : MSt, M_3 = (sL M_2 11 j (fX5_swing so v lw)) := ⟨_, rfl⟩
    rw [← hM_3] at hP hD
    refine lv_aload_n hx hb dX5_read_108 rfl (lv_at hl 4 rfl) ?_
    refine mw_get G hgf (hP 0 _ rfl) rfl inX5 11 (by decide) qw3_173 rfl dX5_read_109 ?_
    refine lv_iload hx hb dX5_read_112 (lv_at hl 3 rfl) ?_
    refine lv_iload hx hb dX5_read_114 (lv_at hl 0 rfl) ?_
    refine lv_if_eq (tgt := 124) hx hb dX5_read_116 (by decide) (fun _ => ?_) (fun h => absurd (by decide) h)
    refine lv_iload hx hb dX5_read_124 (lv_at hl 2 rfl) ?_
    refine lv_aload_n hx hb dX5_read_126 rfl (lv_at hl 4 rfl) ?_
    refine mw_get G hgf (hP 0 _ rfl) rfl inX5 11 (by decide) qw3_173 rfl dX5_read_127 ?_
    refine lv_iload hx hb dX5_read_130 (lv_at hl 3 rfl) ?_
    refine mN_lald (f := M_3.2 9) G hgf (hP 10 _ rfl) (k := j) (rfl) (hj) (by decide) dX5_read_132 ?_
    rw [show M_3.2 9 j = M.2 9 j from by simp [hM_3, hM_2, sI, sL, va_up, upd, vp_updL]]
    refine lv_lload hx hb dX5_read_133 (lv_at hl 1 rfl) ?_
    refine kS G (cvX5_lesser l D so (M.2 9 j) v) okX5_lesser hgf trivial qw4_84 ⟨Nat.le_of_ble_eq_true rfl, Nat.le_of_ble_eq_true rfl⟩ ⟨Nat.zero_le _, Nat.zero_le _⟩ hl.1 (Nat.le_of_ble_eq_true rfl) rfl dX5_read_135 ?_
    refine mN_last (f := M_3.2 9) (w1 := wM D r ma 0 (sL M_3 9 j (fX5_lesser so (M.2 9 j) v))) G hgf hP hD hS 10 rfl (k := j) (rfl) (hj) (by decide) rfl dX5_read_138 (fun H locs hP hD hS => ?_)
    obtain ⟨M_4, hM_4⟩ : ∃ M_4 : MSt, M_4 = (sL M_3 9 j (fX5_lesser so (M.2 9 j) v)) := ⟨_, rfl⟩
    rw [← hM_4] at hP hD
    refine lv_aload_n hx hb dX5_read_139 rfl (lv_at hl 4 rfl) ?_
    refine mw_get G hgf (hP 0 _ rfl) rfl inX5 12 (by decide) qw3_174 rfl dX5_read_140 ?_
    refine lv_iload hx hb dX5_read_143 (lv_at hl 3 rfl) ?_
    refine lv_iload hx hb dX5_read_145 (lv_at hl 0 rfl) ?_
    refine lv_if_eq (tgt := 155) hx hb dX5_read_147 (by decide) (fun _ => ?_) (fun h => absurd (by decide) h)
    refine lv_iload hx hb dX5_read_155 (lv_at hl 2 rfl) ?_
    refine lv_aload_n hx hb dX5_read_157 rfl (lv_at hl 4 rfl) ?_
    refine mw_get G hgf (hP 0 _ rfl) rfl inX5 12 (by decide) qw3_174 rfl dX5_read_158 ?_
    refine lv_iload hx hb dX5_read_161 (lv_at hl 3 rfl) ?_
    refine mN_lald (f := M_4.2 10) G hgf (hP 11 _ rfl) (k := j) (rfl) (hj) (by decide) dX5_read_163 ?_
    rw [show M_4.2 10 j = M.2 10 j from by simp [hM_4, hM_3, hM_2, sI, sL, va_up, upd, vp_updL]]
    refine lv_lload hx hb dX5_read_164 (lv_at hl 1 rfl) ?_
    refine kS G (cvX5_greater l D so (M.2 10 j) v) okX5_greater hgf trivial qw4_81 ⟨Nat.le_of_ble_eq_true rfl, Nat.le_of_ble_eq_true rfl⟩ ⟨Nat.zero_le _, Nat.zero_le _⟩ hl.1 (Nat.le_of_ble_eq_true rfl) rfl dX5_read_166 ?_
    refine mN_last (f := M_4.2 10) (w1 := wM D r ma 0 (sL M_4 10 j (fX5_greater so (M.2 10 j) v))) G hgf hP hD hS 11 rfl (k := j) (rfl) (hj) (by decide) rfl dX5_read_169 (fun H locs hP hD hS => ?_)
    obtain ⟨M_5, hM_5⟩ : ∃ M_5 : MSt, M_5 = (sL M_4 10 j (fX5_greater so (M.2 10 j) v)) := ⟨_, rfl⟩
    rw [← hM_5] at hP hD
    refine lv_aload_n hx hb dX5_read_170 rfl (lv_at hl 4 rfl) ?_
    refine mw_get G hgf (hP 0 _ rfl) rfl inX5 14 (by decide) qw3_176 rfl dX5_read_171 ?_
    refine lv_iload hx hb dX5_read_174 (lv_at hl 3 rfl) ?_
    refine lv_iload hx hb dX5_read_176 (lv_at hl 2 rfl) ?_
    refine lv_iload hx hb dX5_read_178 (lv_at hl 0 rfl) ?_
    refine lv_if_eq (tgt := 187) hx hb dX5_read_180 (by decide) (fun _ => ?_) (fun h => absurd (by decide) h)
    refine lv_aload_n hx hb dX5_read_187 rfl (lv_at hl 4 rfl) ?_
    refine mw_get G hgf (hP 0 _ rfl) rfl inX5 14 (by decide) qw3_176 rfl dX5_read_188 ?_
    refine lv_iload hx hb dX5_read_191 (lv_at hl 3 rfl) ?_
    refine mN_lald (f := M_5.2 12) G hgf (hP 13 _ rfl) (k := j) (rfl) (hj) (by decide) dX5_read_193 ?_
    rw [show M_5.2 12 j = M.2 12 j from by simp [hM_5, hM_4, hM_3, hM_2, sI, sL, va_up, upd, vp_updL]]
    refine lv_iload hx hb dX5_read_194 (lv_at hl 2 rfl) ?_
    refine lv_lload hx hb dX5_read_196 (lv_at hl 1 rfl) ?_
    refine kS G (cvX5_amount l D so v) okX5_amount hgf trivial qw4_78 ⟨Nat.le_of_ble_eq_true rfl, Nat.le_of_ble_eq_true rfl⟩ ⟨Nat.zero_le _, Nat.zero_le _⟩ hl.1 (Nat.le_of_ble_eq_true rfl) rfl dX5_read_198 ?_
    refine kS G (cvX5_sum l D so (M.2 12 j) (fX5_amount so v) hsu.1 hsu.2) okX5_sum hgf trivial qw4_134 ⟨Nat.le_of_ble_eq_true rfl, Nat.le_of_ble_eq_true rfl⟩ ⟨Nat.zero_le _, Nat.zero_le _⟩ hl.1 (Nat.le_of_ble_eq_true rfl) rfl dX5_read_201 ?_
    refine mN_last (f := M_5.2 12) (w1 := wM D r ma 0 (sL M_5 12 j (fX5_sum so (M.2 12 j) (fX5_amount so v)))) G hgf hP hD hS 13 rfl (k := j) (rfl) (hj) (by decide) rfl dX5_read_204 (fun H locs hP hD hS => ?_)
    obtain ⟨M_6, hM_6⟩ : ∃ M_6 : MSt, M_6 = (sL M_5 12 j (fX5_sum so (M.2 12 j) (fX5_amount so v))) := ⟨_, rfl⟩
    rw [← hM_6] at hP hD
    refine lv_aload_n hx hb dX5_read_205 rfl (lv_at hl 4 rfl) ?_
    refine mw_get G hgf (hP 0 _ rfl) rfl inX5 10 (by decide) qw3_172 rfl dX5_read_206 ?_
    refine lv_bipush (v := 16) hx hb dX5_read_209 (by decide) ?_
    refine lv_iload hx hb dX5_read_211 (lv_at hl 3 rfl) ?_
    refine lv_imul hx hb dX5_read_213 ?_
    refine lv_aload_n hx hb dX5_read_214 rfl (lv_at hl 4 rfl) ?_
    refine mw_get G hgf (hP 0 _ rfl) rfl inX5 9 (by decide) qw3_171 rfl dX5_read_215 ?_
    refine lv_iload hx hb dX5_read_218 (lv_at hl 3 rfl) ?_
    refine mN_iald (f := M_6.1 7) G hgf (hP 8 _ rfl) (k := j) (rfl) (hj) (by decide) dX5_read_220 ?_
    rw [show M_6.1 7 j = M.1 7 j from by simp [hM_6, hM_5, hM_4, hM_3, hM_2, sI, sL, va_up, upd, vp_updL]]
    refine lv_bipush (v := 16) hx hb dX5_read_221 (by decide) ?_
    refine lv_irem hx hb dX5_read_223 (by decide) ?_
    refine lv_iadd hx hb dX5_read_224 ?_
    refine lv_lload hx hb dX5_read_225 (lv_at hl 1 rfl) ?_
    refine mN_last (f := M_6.2 8) (w1 := wM D r ma 0 (sL M_6 8 (16 * j + cnt M j % 16) v)) G hgf hP hD hS 9 rfl (k := 16 * j + cnt M j % 16) (by rw [hm]; exact nI_m16 hc hj) (by omega) (by decide) rfl dX5_read_227 (fun H locs hP hD hS => ?_)
    obtain ⟨M_7, hM_7⟩ : ∃ M_7 : MSt, M_7 = (sL M_6 8 (16 * j + cnt M j % 16) v) := ⟨_, rfl⟩
    rw [← hM_7] at hP hD
    refine lv_aload_n hx hb dX5_read_228 rfl (lv_at hl 4 rfl) ?_
    refine mw_get G hgf (hP 0 _ rfl) rfl inX5 9 (by decide) qw3_171 rfl dX5_read_229 ?_
    refine lv_iload hx hb dX5_read_232 (lv_at hl 3 rfl) ?_
    refine lv_dup2_11 hx hb dX5_read_234 rfl rfl ?_
    refine mN_iald (f := M_7.1 7) G hgf (hP 8 _ rfl) (k := j) (rfl) (hj) (by decide) dX5_read_235 ?_
    rw [show M_7.1 7 j = M.1 7 j from by simp [hM_7, hM_6, hM_5, hM_4, hM_3, hM_2, sI, sL, va_up, upd, vp_updL]]
    refine lv_iconst (v := 1) hx hb dX5_read_236 (by decide) ?_
    refine lv_iadd hx hb dX5_read_237 ?_
    refine mN_iast (f := M_7.1 7) (w1 := wM D r ma 0 (sI M_7 7 j ((M.1 7 j) + 1))) G hgf hP hD hS 8 rfl (k := j) (rfl) (hj) (by decide) rfl dX5_read_238 (fun H locs hP hD hS => ?_)
    obtain ⟨M_8, hM_8⟩ : ∃ M_8 : MSt, M_8 = (sI M_7 7 j ((M.1 7 j) + 1)) := ⟨_, rfl⟩
    rw [← hM_8] at hP hD
    refine lv_aload_n hx hb dX5_read_239 rfl (lv_at hl 4 rfl) ?_
    refine lv_dup hx hb dX5_read_240 rfl ?_
    refine mw_get G hgf (hP 0 _ rfl) rfl inX5 16 (by decide) qw3_178 rfl dX5_read_241 ?_
    rw [show M_8.1 14 1 = M.1 14 1 from by simp [hM_8, hM_7, hM_6, hM_5, hM_4, hM_3, hM_2, sI, sL, va_up, upd, vp_updL]]
    refine lv_iconst (v := 1) hx hb dX5_read_244 (by decide) ?_
    refine lv_iadd hx hb dX5_read_245 ?_
    refine mw_put (w1 := wM D r ma 0 (sI M_8 14 1 ((M.1 14 1) + 1))) G hgf hP hD hS 0 rfl rfl inX5 tyX5_ok nmX5 16 (by decide) qw3_178 rfl rfl rfl rfl (Nat.le_of_ble_eq_true rfl) rfl dX5_read_246 (fun H locs hP hD hS => ?_)
    obtain ⟨M_9, hM_9⟩ : ∃ M_9 : MSt, M_9 = (sI M_8 14 1 ((M.1 14 1) + 1)) := ⟨_, rfl⟩
    rw [← hM_9] at hP hD
    refine lv_iload hx hb dX5_read_249 (lv_at hl 2 rfl) ?_
    refine lv_aload_n hx hb dX5_read_251 rfl (lv_at hl 4 rfl) ?_
    refine mw_get G hgf (hP 0 _ rfl) rfl inX5 7 (by decide) qw3_169 rfl dX5_read_252 ?_
    refine lv_iload hx hb dX5_read_255 (lv_at hl 3 rfl) ?_
    refine mN_lald (f := M_9.2 5) G hgf (hP 6 _ rfl) (k := j) (rfl) (hj) (by decide) dX5_read_257 ?_
    rw [show M_9.2 5 j = M.2 5 j from by simp [hM_9, hM_8, hM_7, hM_6, hM_5, hM_4, hM_3, hM_2, sI, sL, va_up, upd, vp_updL]]
    refine lv_lload hx hb dX5_read_258 (lv_at hl 1 rfl) ?_
    refine kS G (cvX5_isAbove l D so (M.2 5 j) v) okX5_isAbove hgf trivial qw4_51 ⟨Nat.le_of_ble_eq_true rfl, Nat.le_of_ble_eq_true rfl⟩ ⟨Nat.zero_le _, Nat.zero_le _⟩ hl.1 (Nat.le_of_ble_eq_true rfl) rfl dX5_read_260 ?_
    refine lv_if_ne (tgt := 283) hx hb dX5_read_263 (by decide) (fun c_10 => ?_) (fun c_10 => ?_)
    · refine lv_aload_n hx hb dX5_read_283 rfl (lv_at hl 4 rfl) ?_
      refine mw_get G hgf (hP 0 _ rfl) rfl inX5 15 (by decide) qw3_177 rfl dX5_read_284 ?_
      refine lv_iload hx hb dX5_read_287 (lv_at hl 3 rfl) ?_
      refine lv_dup2_11 hx hb dX5_read_289 rfl rfl ?_
      refine mN_iald (f := M_9.1 13) G hgf (hP 14 _ rfl) (k := j) (rfl) (hj) (by decide) dX5_read_290 ?_
      rw [show M_9.1 13 j = M.1 13 j from by simp [hM_9, hM_8, hM_7, hM_6, hM_5, hM_4, hM_3, hM_2, sI, sL, va_up, upd, vp_updL]]
      refine lv_iconst (v := 1) hx hb dX5_read_291 (by decide) ?_
      refine lv_iadd hx hb dX5_read_292 ?_
      refine mN_iast (f := M_9.1 13) (w1 := wM D r ma 0 (sI M_9 13 j ((M.1 13 j) + 1))) G hgf hP hD hS 14 rfl (k := j) (rfl) (hj) (by decide) rfl dX5_read_293 (fun H locs hP hD hS => ?_)
      obtain ⟨M_11, hM_11⟩ : ∃ M_11 : MSt, M_11 = (sI M_9 13 j ((M.1 13 j) + 1)) := ⟨_, rfl⟩
      rw [← hM_11] at hP hD
      refine lv_aload_n hx hb dX5_read_294 rfl (lv_at hl 4 rfl) ?_
      refine lv_dup hx hb dX5_read_295 rfl ?_
      refine mw_get G hgf (hP 0 _ rfl) rfl inX5 17 (by decide) qw3_179 rfl dX5_read_296 ?_
      rw [show M_11.1 14 2 = M.1 14 2 from by simp [hM_11, hM_9, hM_8, hM_7, hM_6, hM_5, hM_4, hM_3, hM_2, sI, sL, va_up, upd, vp_updL]]
      refine lv_iconst (v := 1) hx hb dX5_read_299 (by decide) ?_
      refine lv_iadd hx hb dX5_read_300 ?_
      refine mw_put (w1 := wM D r ma 0 (sI M_11 14 2 ((M.1 14 2) + 1))) G hgf hP hD hS 0 rfl rfl inX5 tyX5_ok nmX5 17 (by decide) qw3_179 rfl rfl rfl rfl (Nat.le_of_ble_eq_true rfl) rfl dX5_read_301 (fun H locs hP hD hS => ?_)
      obtain ⟨M_12, hM_12⟩ : ∃ M_12 : MSt, M_12 = (sI M_11 14 2 ((M.1 14 2) + 1)) := ⟨_, rfl⟩
      rw [← hM_12] at hP hD
      refine lv_lload hx hb dX5_read_304 (lv_at hl 1 rfl) ?_
      exact mM_lret (h := hX5_readN M j so v bits lw) (((if_pos c_1).trans ((if_neg c_10).trans (rfl))).trans (by rw [hM_12, hM_11, hM_9, hM_8, hM_7, hM_6, hM_5, hM_4, hM_3, hM_2])) hx hb hr hlocks hP hD hS dX5_read_306
    · refine lv_iload hx hb dX5_read_266 (lv_at hl 2 rfl) ?_
      refine lv_lload hx hb dX5_read_268 (lv_at hl 1 rfl) ?_
      refine lv_aload_n hx hb dX5_read_270 rfl (lv_at hl 4 rfl) ?_
      refine mw_get G hgf (hP 0 _ rfl) rfl inX5 8 (by decide) qw3_170 rfl dX5_read_271 ?_
      refine lv_iload hx hb dX5_read_274 (lv_at hl 3 rfl) ?_
      refine mN_lald (f := M_9.2 6) G hgf (hP 7 _ rfl) (k := j) (rfl) (hj) (by decide) dX5_read_276 ?_
      rw [show M_9.2 6 j = M.2 6 j from by simp [hM_9, hM_8, hM_7, hM_6, hM_5, hM_4, hM_3, hM_2, sI, sL, va_up, upd, vp_updL]]
      refine kS G (cvX5_isAbove l D so v (M.2 6 j)) okX5_isAbove hgf trivial qw4_51 ⟨Nat.le_of_ble_eq_true rfl, Nat.le_of_ble_eq_true rfl⟩ ⟨Nat.zero_le _, Nat.zero_le _⟩ hl.1 (Nat.le_of_ble_eq_true rfl) rfl dX5_read_277 ?_
      refine lv_if_eq (tgt := 304) hx hb dX5_read_280 (by decide) (fun c_13 => ?_) (fun c_13 => ?_)
      · refine lv_lload hx hb dX5_read_304 (lv_at hl 1 rfl) ?_
        exact mM_lret (h := hX5_readN M j so v bits lw) (((if_pos c_1).trans ((if_pos c_10).trans ((if_pos c_13).trans (rfl)))).trans (by rw [hM_9, hM_8, hM_7, hM_6, hM_5, hM_4, hM_3, hM_2])) hx hb hr hlocks hP hD hS dX5_read_306
      · refine lv_aload_n hx hb dX5_read_283 rfl (lv_at hl 4 rfl) ?_
        refine mw_get G hgf (hP 0 _ rfl) rfl inX5 15 (by decide) qw3_177 rfl dX5_read_284 ?_
        refine lv_iload hx hb dX5_read_287 (lv_at hl 3 rfl) ?_
        refine lv_dup2_11 hx hb dX5_read_289 rfl rfl ?_
        refine mN_iald (f := M_9.1 13) G hgf (hP 14 _ rfl) (k := j) (rfl) (hj) (by decide) dX5_read_290 ?_
        rw [show M_9.1 13 j = M.1 13 j from by simp [hM_9, hM_8, hM_7, hM_6, hM_5, hM_4, hM_3, hM_2, sI, sL, va_up, upd, vp_updL]]
        refine lv_iconst (v := 1) hx hb dX5_read_291 (by decide) ?_
        refine lv_iadd hx hb dX5_read_292 ?_
        refine mN_iast (f := M_9.1 13) (w1 := wM D r ma 0 (sI M_9 13 j ((M.1 13 j) + 1))) G hgf hP hD hS 14 rfl (k := j) (rfl) (hj) (by decide) rfl dX5_read_293 (fun H locs hP hD hS => ?_)
        obtain ⟨M_14, hM_14⟩ : ∃ M_14 : MSt, M_14 = (sI M_9 13 j ((M.1 13 j) + 1)) := ⟨_, rfl⟩
        rw [← hM_14] at hP hD
        refine lv_aload_n hx hb dX5_read_294 rfl (lv_at hl 4 rfl) ?_
        refine lv_dup hx hb dX5_read_295 rfl ?_
        refine mw_get G hgf (hP 0 _ rfl) rfl inX5 17 (by decide) qw3_179 rfl dX5_read_296 ?_
        rw [show M_14.1 14 2 = M.1 14 2 from by simp [hM_14, hM_9, hM_8, hM_7, hM_6, hM_5, hM_4, hM_3, hM_2, sI, sL, va_up, upd, vp_updL]]
        refine lv_iconst (v := 1) hx hb dX5_read_299 (by decide) ?_
        refine lv_iadd hx hb dX5_read_300 ?_
        refine mw_put (w1 := wM D r ma 0 (sI M_14 14 2 ((M.1 14 2) + 1))) G hgf hP hD hS 0 rfl rfl inX5 tyX5_ok nmX5 17 (by decide) qw3_179 rfl rfl rfl rfl (Nat.le_of_ble_eq_true rfl) rfl dX5_read_301 (fun H locs hP hD hS => ?_)
        obtain ⟨M_15, hM_15⟩ : ∃ M_15 : MSt, M_15 = (sI M_14 14 2 ((M.1 14 2) + 1)) := ⟨_, rfl⟩
        rw [← hM_15] at hP hD
        refine lv_lload hx hb dX5_read_304 (lv_at hl 1 rfl) ?_
        exact mM_lret (h := hX5_readN M j so v bits lw) (((if_pos c_1).trans ((if_pos c_10).trans ((if_neg c_13).trans (rfl)))).trans (by rw [hM_15, hM_14, hM_9, hM_8, hM_7, hM_6, hM_5, hM_4, hM_3, hM_2])) hx hb hr hlocks hP hD hS dX5_read_306
  · refine lv_aload_n hx hb dX5_read_41 rfl (lv_at hl 2 rfl) ?_
    refine lv_iconst (v := 2) hx hb dX5_read_42 (by decide) ?_
    refine kQ (C := RX5) (wr := []) (w1 := wM D r ma 2 M) G (cqX5_fail l D r ma 0 M 2) okX5_fail hgf hP hD hS hA [0, 1, 2, 3, 4, 5, 6, 7, 8, 9, 10, 11, 12, 13, 14] [] rfl rfl rfl rfl (by decide) (mw_recv hgf (hP 0 _ rfl) rfl) qw3_228 ⟨Nat.le_of_ble_eq_true rfl, Nat.le_of_ble_eq_true rfl⟩ ⟨Nat.zero_le _, Nat.zero_le _⟩ hl.1 (Nat.le_of_ble_eq_true rfl) rfl dX5_read_43 (fun H locs hP hD hS => ?_)
    refine lv_i2l hx hb dX5_read_46 rfl ?_
    exact mM_lret (h := hX5_readN M j so v bits lw) ((if_neg c_1).trans (rfl)) hx hb hr hlocks hP hD hS dX5_read_47
set_option maxRecDepth 100000 in
set_option maxHeartbeats 4000000 in
theorem cqX5_whole_bad (l : Launch) (D : mG) (r : Nat) (ma : Nat → Nat) (t : Int32) (M : MSt) (i : Int32) (hbad : fX5_isInst (M.1 14 0) i = 0) : cQ l D yX5_whole cX5_whole 4 (some .int) (rmP 1) (wM D r ma t M) [.ref r, .int i] (some (.int 0)) (wM D r ma 1 M) := by
  refine cQ_of (by decide) (Nat.le_of_ble_eq_true rfl) ?_
  intro p e s m below meth c ls A hx hb hr hlocks G hnm hgf hA hP hD hS hl
  have hl : lv_has ls 4 [(0, .ref r), (1, .int i)] := hl
  refine lv_aload_n hx hb dX5_whole_0 rfl (lv_at hl 0 rfl) ?_
  refine lv_iconst (v := 0) hx hb dX5_whole_1 (by decide) ?_
  refine mw_put (w1 := wM D r ma 0 M) G hgf hP hD hS 0 rfl rfl inX5 tyX5_ok nmX5 0 (by decide) qw3_162 rfl rfl rfl rfl (Nat.le_of_ble_eq_true rfl) rfl dX5_whole_2 (fun H locs hP hD hS => ?_)
  refine lv_aload_n hx hb dX5_whole_5 rfl (lv_at hl 0 rfl) ?_
  refine lv_iload_n hx hb dX5_whole_6 rfl (lv_at hl 1 rfl) ?_
  refine kV (C := RX5) G (cvX5_isInstrument l D r ma 0 M i) okX5_isInstrument hgf hP (mw_recv hgf (hP 0 _ rfl) rfl) qw4_15 ⟨Nat.le_of_ble_eq_true rfl, Nat.le_of_ble_eq_true rfl⟩ ⟨Nat.zero_le _, Nat.zero_le _⟩ hl.1 (Nat.le_of_ble_eq_true rfl) rfl dX5_whole_7 ?_
  rw [show fX5_isInst (M.1 14 0) i = 0 from hbad]
  refine lv_if_ne (tgt := 19) hx hb dX5_whole_10 (by decide) (fun h => absurd (by decide) h) (fun _ => ?_)
  refine lv_aload_n hx hb dX5_whole_13 rfl (lv_at hl 0 rfl) ?_
  refine lv_iconst (v := 1) hx hb dX5_whole_14 (by decide) ?_
  refine kQ (C := RX5) (wr := []) (w1 := wM D r ma 1 M) G (cqX5_fail l D r ma 0 M 1) okX5_fail hgf hP hD hS hA [0, 1, 2, 3, 4, 5, 6, 7, 8, 9, 10, 11, 12, 13, 14] [] rfl rfl rfl rfl (by decide) (mw_recv hgf (hP 0 _ rfl) rfl) qw3_228 ⟨Nat.le_of_ble_eq_true rfl, Nat.le_of_ble_eq_true rfl⟩ ⟨Nat.zero_le _, Nat.zero_le _⟩ hl.1 (Nat.le_of_ble_eq_true rfl) rfl dX5_whole_15 (fun H locs hP hD hS => ?_)
  exact mM_iret (h := (0, 1, M)) (rfl) hx hb hr hlocks hP hD hS dX5_whole_18
def hX5_whole (M : MSt) (j : Nat) (so : Int32) (lw : Int64) : Int32 × Int32 × MSt := if (M.1 7 j) = 0 then (0, 2, M) else (if so = 2 then (FP.f2i (fX5_single lw), 0, M) else (if so = 3 then (FP.d2i (fX5_real lw), 0, M) else ((if (-2147483648) ≤ lw then (if lw ≤ 2147483647 then lw else 2147483647) else (-2147483648) : Int64).toInt32, 0, M)))
set_option maxRecDepth 100000 in
set_option maxHeartbeats 4000000 in
theorem cqX5_whole (l : Launch) (D : mG) (r : Nat) (ma : Nat → Nat) (t : Int32) (M : MSt) {j : Nat} (hj : j < 8) (hin : fX5_isInst (M.1 14 0) (nI j) = 1) (hm : M.1 7 j = nI (cnt M j)) (hc : cnt M j ≤ 512) {so : Int32} (hso : M.1 0 j = so) {lw : Int64} (hlw : lat M j = lw) (h2 : so = 2 → vn_sni2f lw.toInt32 = false) (h3 : so = 3 → vn_snl2d lw = false) : cQ l D yX5_whole cX5_whole 4 (some .int) (rmP 2) (wM D r ma t M) [.ref r, .int (nI j)] (some (.int (hX5_whole M j so lw).1)) (wM D r ma (hX5_whole M j so lw).2.1 (hX5_whole M j so lw).2.2) := by
  refine cQ_of (by decide) (Nat.le_of_ble_eq_true rfl) ?_
  intro p e s m below meth c ls A hx hb hr hlocks G hnm hgf hA hP hD hS hl
  have hl : lv_has ls 4 [(0, .ref r), (1, .int (nI j))] := hl
  refine lv_aload_n hx hb dX5_whole_0 rfl (lv_at hl 0 rfl) ?_
  refine lv_iconst (v := 0) hx hb dX5_whole_1 (by decide) ?_
  refine mw_put (w1 := wM D r ma 0 M) G hgf hP hD hS 0 rfl rfl inX5 tyX5_ok nmX5 0 (by decide) qw3_162 rfl rfl rfl rfl (Nat.le_of_ble_eq_true rfl) rfl dX5_whole_2 (fun H locs hP hD hS => ?_)
  refine lv_aload_n hx hb dX5_whole_5 rfl (lv_at hl 0 rfl) ?_
  refine lv_iload_n hx hb dX5_whole_6 rfl (lv_at hl 1 rfl) ?_
  refine kV (C := RX5) G (cvX5_isInstrument l D r ma 0 M (nI j)) okX5_isInstrument hgf hP (mw_recv hgf (hP 0 _ rfl) rfl) qw4_15 ⟨Nat.le_of_ble_eq_true rfl, Nat.le_of_ble_eq_true rfl⟩ ⟨Nat.zero_le _, Nat.zero_le _⟩ hl.1 (Nat.le_of_ble_eq_true rfl) rfl dX5_whole_7 ?_
  rw [show fX5_isInst (M.1 14 0) (nI j) = 1 from hin]
  refine lv_if_ne (tgt := 19) hx hb dX5_whole_10 (by decide) (fun _ => ?_) (fun h => absurd h (by decide))
  refine lv_aload_n hx hb dX5_whole_19 rfl (lv_at hl 0 rfl) ?_
  refine mw_get G hgf (hP 0 _ rfl) rfl inX5 9 (by decide) qw3_171 rfl dX5_whole_20 ?_
  refine lv_iload_n hx hb dX5_whole_23 rfl (lv_at hl 1 rfl) ?_
  refine mN_iald (f := M.1 7) G hgf (hP 8 _ rfl) (k := j) (rfl) (hj) (by decide) dX5_whole_24 ?_
  refine lv_if_ne (tgt := 34) hx hb dX5_whole_25 (by decide) (fun c_1 => ?_) (fun c_1 => ?_)
  · refine lv_aload_n hx hb dX5_whole_34 rfl (lv_at hl 0 rfl) ?_
    refine lv_iload_n hx hb dX5_whole_35 rfl (lv_at hl 1 rfl) ?_
    refine kV (C := RX5) G (cvX5_latest l D r ma 0 M (j := j) hj hc hm) okX5_latest hgf hP (mw_recv hgf (hP 0 _ rfl) rfl) qw4_71 ⟨Nat.le_of_ble_eq_true rfl, Nat.le_of_ble_eq_true rfl⟩ ⟨Nat.zero_le _, Nat.zero_le _⟩ hl.1 (Nat.le_of_ble_eq_true rfl) rfl dX5_whole_36 ?_
    rw [show lat M j = lw from hlw]
    refine lv_lstore_n (lv' := [(2, .long lw), (0, .ref r), (1, .int (nI j))]) hx hb dX5_whole_39 rfl hl (by decide) rfl (fun ls hl => ?_)
    refine lv_aload_n hx hb dX5_whole_40 rfl (lv_at hl 1 rfl) ?_
    refine mw_get G hgf (hP 0 _ rfl) rfl inX5 2 (by decide) qw3_164 rfl dX5_whole_41 ?_
    refine lv_iload_n hx hb dX5_whole_44 rfl (lv_at hl 2 rfl) ?_
    refine mN_iald (f := M.1 0) G hgf (hP 1 _ rfl) (k := j) (rfl) (hj) (by decide) dX5_whole_45 ?_
    rw [show M.1 0 j = so from hso]
    refine lv_iconst (v := 2) hx hb dX5_whole_46 (by decide) ?_
    refine lv_icmp_ne (tgt := 56) hx hb dX5_whole_47 (by decide) (fun c_2 => ?_) (fun c_2 => ?_)
    · refine lv_aload_n hx hb dX5_whole_56 rfl (lv_at hl 1 rfl) ?_
      refine mw_get G hgf (hP 0 _ rfl) rfl inX5 2 (by decide) qw3_164 rfl dX5_whole_57 ?_
      refine lv_iload_n hx hb dX5_whole_60 rfl (lv_at hl 2 rfl) ?_
      refine mN_iald (f := M.1 0) G hgf (hP 1 _ rfl) (k := j) (rfl) (hj) (by decide) dX5_whole_61 ?_
      rw [show M.1 0 j = so from hso]
      refine lv_iconst (v := 3) hx hb dX5_whole_62 (by decide) ?_
      refine lv_icmp_ne (tgt := 72) hx hb dX5_whole_63 (by decide) (fun c_3 => ?_) (fun c_3 => ?_)
      · refine lv_lload_n hx hb dX5_whole_72 rfl (lv_at hl 0 rfl) ?_
        refine lv_ldc2 (v := (-2147483648)) hx hb G.2.2.2.1 (G.2.2.2.2 _ qw3_232) dX5_whole_73 ?_
        refine mw_join 101 (.long (if (-2147483648) ≤ lw then (if lw ≤ 2147483647 then lw else 2147483647) else (-2147483648) : Int64)) [] (fun K => ?_) ?_
        · refine mw_lge (tgt := 86) hx hb dX5_whole_76 dX5_whole_77 (by decide) (fun c_4 => ?_) (fun c_4 => ?_)
          · refine lv_lload_n hx hb dX5_whole_86 rfl (lv_at hl 0 rfl) ?_
            refine lv_ldc2 (v := 2147483647) hx hb G.2.2.2.1 (G.2.2.2.2 _ qw4_9) dX5_whole_87 ?_
            refine mw_lle (tgt := 100) hx hb dX5_whole_90 dX5_whole_91 (by decide) (fun c_5 => ?_) (fun c_5 => ?_)
            · refine lv_lload_n hx hb dX5_whole_100 rfl (lv_at hl 0 rfl) ?_
              exact mw_topL ((if_pos c_4).trans ((if_pos c_5).trans (rfl))) K
            · refine lv_ldc2 (v := 2147483647) hx hb G.2.2.2.1 (G.2.2.2.2 _ qw4_9) dX5_whole_94 ?_
              refine lv_goto (tgt := 101) hx hb dX5_whole_97 (by decide) ?_
              exact mw_topL ((if_pos c_4).trans ((if_neg c_5).trans (rfl))) K
          · refine lv_ldc2 (v := (-2147483648)) hx hb G.2.2.2.1 (G.2.2.2.2 _ qw3_232) dX5_whole_80 ?_
            refine lv_goto (tgt := 101) hx hb dX5_whole_83 (by decide) ?_
            exact mw_topL ((if_neg c_4).trans (rfl)) K
        refine lv_l2i hx hb dX5_whole_101 rfl ?_
        exact mM_iret (h := hX5_whole M j so lw) ((if_neg c_1).trans ((if_neg c_2).trans ((if_neg c_3).trans (rfl)))) hx hb hr hlocks hP hD hS dX5_whole_102
      · refine lv_lload_n hx hb dX5_whole_66 rfl (lv_at hl 0 rfl) ?_
        refine kS G (cvX5_real l D lw (h3 c_3)) okX5_real hgf trivial qw4_118 ⟨Nat.le_of_ble_eq_true rfl, Nat.le_of_ble_eq_true rfl⟩ ⟨Nat.zero_le _, Nat.zero_le _⟩ hl.1 (Nat.le_of_ble_eq_true rfl) rfl dX5_whole_67 ?_
        refine lv_d2i hx hb dX5_whole_70 ?_
        exact mM_iret (h := hX5_whole M j so lw) ((if_neg c_1).trans ((if_neg c_2).trans ((if_pos c_3).trans (rfl)))) hx hb hr hlocks hP hD hS dX5_whole_71
    · refine lv_lload_n hx hb dX5_whole_50 rfl (lv_at hl 0 rfl) ?_
      refine kS G (cvX5_single l D lw (h2 c_2)) okX5_single hgf trivial qw4_102 ⟨Nat.le_of_ble_eq_true rfl, Nat.le_of_ble_eq_true rfl⟩ ⟨Nat.zero_le _, Nat.zero_le _⟩ hl.1 (Nat.le_of_ble_eq_true rfl) rfl dX5_whole_51 ?_
      refine lv_f2i hx hb dX5_whole_54 ?_
      exact mM_iret (h := hX5_whole M j so lw) ((if_neg c_1).trans ((if_pos c_2).trans (rfl))) hx hb hr hlocks hP hD hS dX5_whole_55
  · refine lv_aload_n hx hb dX5_whole_28 rfl (lv_at hl 0 rfl) ?_
    refine lv_iconst (v := 2) hx hb dX5_whole_29 (by decide) ?_
    refine kQ (C := RX5) (wr := []) (w1 := wM D r ma 2 M) G (cqX5_fail l D r ma 0 M 2) okX5_fail hgf hP hD hS hA [0, 1, 2, 3, 4, 5, 6, 7, 8, 9, 10, 11, 12, 13, 14] [] rfl rfl rfl rfl (by decide) (mw_recv hgf (hP 0 _ rfl) rfl) qw3_228 ⟨Nat.le_of_ble_eq_true rfl, Nat.le_of_ble_eq_true rfl⟩ ⟨Nat.zero_le _, Nat.zero_le _⟩ hl.1 (Nat.le_of_ble_eq_true rfl) rfl dX5_whole_30 (fun H locs hP hD hS => ?_)
    exact mM_iret (h := hX5_whole M j so lw) ((if_pos c_1).trans (rfl)) hx hb hr hlocks hP hD hS dX5_whole_33
