/-! THE REFERENCE: through, read, whole, widest, and its making -/
/-- the K of step x of all; what comes out behind c steps of instrument j -/
def kof (M : MSt) (x : Nat) : Int64 := if 0 ≤ M.1 3 x then lat M (M.1 3 x).toNatClampNeg else M.2 4 x
def thr (M : MSt) (j : Nat) : Nat → Int64 → Int64
  | 0, v => v
  | c + 1, v => fX5_changed (M.1 0 j) (M.1 2 (6 * j + c)) (thr M j c v) (kof M (6 * j + c))
theorem sI_sI (M : MSt) (a i : Nat) (v w : Int32) : sI (sI M a i v) a i w = sI M a i w := by
  unfold sI
  refine Prod.ext (funext fun b => funext fun k => ?_) rfl
  by_cases hb : b = a
  · subst hb
    by_cases hk : k = i
    · simp [va_up, upd, hk]
    · simp [va_up, upd, hk]
  · simp [va_up, hb]
theorem thr_done (M : MSt) (c : Nat) : sI (sI M 14 3 (M.1 14 3 + nI c)) 14 3 (M.1 14 3 + nI c + 1) = sI M 14 3 (M.1 14 3 + nI (c + 1)) := by
  rw [sI_sI, ← nI_1, Int32.add_assoc]
theorem sI_id (M : MSt) (a i : Nat) : sI M a i (M.1 a i) = M := by
  unfold sI
  refine Prod.ext (funext fun b => funext fun k => ?_) rfl
  by_cases hb : b = a
  · subst hb
    by_cases hk : k = i
    · simp [va_up, upd, hk]
    · simp [va_up, upd, hk]
  · simp [va_up, hb]
set_option maxRecDepth 100000 in
set_option maxHeartbeats 4000000 in
theorem lpX5_through {p : Program} {l : Launch} {e : Env} {s : State} {m : MethodId} {args : Array Value} {below : List Frame} {meth : Method} {c : Code} {D : mG} {r : Nat} {ma : Nat → Nat} {t : Int32} {M : MSt} {n j : Nat} {v : Int64} {A : Nat → Prop} (hx : p.tables.exec = Jvm.exec) (hb : c.code = cX5_through) (hr : meth.sig.returnType = some .long) (hlocks : meth.locks = false) (G : CallFix p m c cX5_through 9 s args aw RX5) (hgf : GF D s) (hA : ∀ q : Nat, s.heap.size ≤ q → A q) (hok : mok M n) (hjn : j < n) :
    ∀ (rem c9 : Nat), c9 + rem = chn M j → ∀ (ls : Array Slot) (H : Heap) (locs : List Loc), va_P D.1 vwCl (wM D r ma t (sI M 14 3 (M.1 14 3 + nI c9))) H → va_D A (wM D r ma t (sI M 14 3 (M.1 14 3 + nI c9))) → va_S A s.heap H locs → lv_has ls 9 [(6, .int (nI (6 * j + c9))), (4, .long (thr M j c9 v)), (0, .ref r), (1, .int (nI j)), (2, .long v)] → W p l e (rmP 5) s m args below meth c H locs 0 0 (MQ below (mQ D (some (.long (thr M j (chn M j) v))) (wM D r ma t (sI M 14 3 (M.1 14 3 + nI (chn M j)))) A) args s 0 0 A) (F0 m 9 ls []) := by
  have hj : j < 8 := by have q := hok.1; omega
  have hch := (hok.2.2.1 j hj).2
  have hc6 := (hok.2.2.1 j hj).1
  have h8 := hok.1
  intro rem
  induction rem with
  | zero =>
    intro c9 hcr ls H locs hP hD hS hl
    have hcc : c9 = chn M j := by omega
    have hge : (6 : Int32) * nI j + nI (chn M j) ≤ nI (6 * j + c9) := by rw [nI_6, hcc]; exact nI_le (Nat.le_refl _) (by omega)
    refine lv_iload hx hb dX5_through_9 (lv_at hl 0 rfl) ?_
    refine lv_bipush (v := 6) hx hb dX5_through_11 (by decide) ?_
    refine lv_iload_n hx hb dX5_through_13 rfl (lv_at hl 3 rfl) ?_
    refine lv_imul hx hb dX5_through_14 ?_
    refine lv_aload_n hx hb dX5_through_15 rfl (lv_at hl 2 rfl) ?_
    refine mw_get G hgf (hP 0 _ rfl) rfl inX5 3 (by decide) qw3_165 rfl dX5_through_16 ?_
    refine lv_iload_n hx hb dX5_through_19 rfl (lv_at hl 3 rfl) ?_
    refine mN_iald (f := M.1 1) G hgf (hP 2 _ rfl) (k := j) (rfl) (hj) (by decide) dX5_through_20 ?_
    rw [show M.1 1 j = nI (chn M j) from hch]
    refine lv_iadd hx hb dX5_through_21 ?_
    refine lv_icmp_ge (tgt := 96) hx hb dX5_through_22 (by decide) (fun _ => ?_) (fun h => absurd hge h)
    refine lv_lload hx hb dX5_through_96 (lv_at hl 1 rfl) ?_
    exact mM_lret (h := (thr M j (chn M j) v, t, sI M 14 3 (M.1 14 3 + nI (chn M j)))) (by rw [hcc]) hx hb hr hlocks hP hD hS dX5_through_98
  | succ rem ih =>
    intro c9 hcr ls H locs hP hD hS hl
    have hlt : ¬ (6 : Int32) * nI j + nI (chn M j) ≤ nI (6 * j + c9) := by rw [nI_6]; exact nI_ge (by omega) (by omega)
    rcases hok.2.2.2.2 j hjn c9 (by omega) with hs | ⟨kq, hkq, hs⟩
    · refine lv_iload hx hb dX5_through_9 (lv_at hl 0 rfl) ?_
      refine lv_bipush (v := 6) hx hb dX5_through_11 (by decide) ?_
      refine lv_iload_n hx hb dX5_through_13 rfl (lv_at hl 3 rfl) ?_
      refine lv_imul hx hb dX5_through_14 ?_
      refine lv_aload_n hx hb dX5_through_15 rfl (lv_at hl 2 rfl) ?_
      refine mw_get G hgf (hP 0 _ rfl) rfl inX5 3 (by decide) qw3_165 rfl dX5_through_16 ?_
      refine lv_iload_n hx hb dX5_through_19 rfl (lv_at hl 3 rfl) ?_
      refine mN_iald (f := M.1 1) G hgf (hP 2 _ rfl) (k := j) (rfl) (hj) (by decide) dX5_through_20 ?_
      rw [show M.1 1 j = nI (chn M j) from hch]
      refine lv_iadd hx hb dX5_through_21 ?_
      refine lv_icmp_ge (tgt := 96) hx hb dX5_through_22 (by decide) (fun h => absurd h hlt) (fun _ => ?_)
      refine lv_aload_n hx hb dX5_through_25 rfl (lv_at hl 2 rfl) ?_
      refine mw_get G hgf (hP 0 _ rfl) rfl inX5 5 (by decide) qw3_167 rfl dX5_through_26 ?_
      refine lv_iload hx hb dX5_through_29 (lv_at hl 0 rfl) ?_
      refine mN_iald (f := M.1 3) G hgf (hP 4 _ rfl) (k := 6 * j + c9) (rfl) (by omega) (by decide) dX5_through_31 ?_
      refine lv_if_ge (tgt := 45) hx hb dX5_through_32 (by decide) (fun h => absurd h (fun q => absurd hs (by rw [Int32.lt_iff_toInt_lt]; rw [Int32.le_iff_toInt_le] at q; omega))) (fun _ => ?_)
      refine lv_aload_n hx hb dX5_through_35 rfl (lv_at hl 2 rfl) ?_
      refine mw_get G hgf (hP 0 _ rfl) rfl inX5 6 (by decide) qw3_168 rfl dX5_through_36 ?_
      refine lv_iload hx hb dX5_through_39 (lv_at hl 0 rfl) ?_
      refine mN_lald (f := M.2 4) G hgf (hP 5 _ rfl) (k := 6 * j + c9) (rfl) (by omega) (by decide) dX5_through_41 ?_
      refine lv_goto (tgt := 56) hx hb dX5_through_42 (by decide) ?_
      refine lv_lstore (lv' := [(7, .long (M.2 4 (6 * j + c9))), (6, .int (nI (6 * j + c9))), (4, .long (thr M j c9 v)), (0, .ref r), (1, .int (nI j)), (2, .long v)]) hx hb dX5_through_56 hl (by decide) rfl (fun ls hl => ?_)
      refine lv_aload_n hx hb dX5_through_58 rfl (lv_at hl 3 rfl) ?_
      refine mw_get G hgf (hP 0 _ rfl) rfl inX5 2 (by decide) qw3_164 rfl dX5_through_59 ?_
      refine lv_iload_n hx hb dX5_through_62 rfl (lv_at hl 4 rfl) ?_
      refine mN_iald (f := M.1 0) G hgf (hP 1 _ rfl) (k := j) (rfl) (hj) (by decide) dX5_through_63 ?_
      refine lv_aload_n hx hb dX5_through_64 rfl (lv_at hl 3 rfl) ?_
      refine mw_get G hgf (hP 0 _ rfl) rfl inX5 4 (by decide) qw3_166 rfl dX5_through_65 ?_
      refine lv_iload hx hb dX5_through_68 (lv_at hl 1 rfl) ?_
      refine mN_iald (f := M.1 2) G hgf (hP 3 _ rfl) (k := 6 * j + c9) (rfl) (by omega) (by decide) dX5_through_70 ?_
      refine lv_lload hx hb dX5_through_71 (lv_at hl 2 rfl) ?_
      refine lv_lload hx hb dX5_through_73 (lv_at hl 0 rfl) ?_
      refine kS G (cvX5_changed l D (M.1 0 j) (M.1 2 (6 * j + c9)) (thr M j c9 v) (M.2 4 (6 * j + c9))) okX5_changed hgf trivial qw4_75 ⟨Nat.le_of_ble_eq_true rfl, Nat.le_of_ble_eq_true rfl⟩ ⟨Nat.zero_le _, Nat.zero_le _⟩ hl.1 (Nat.le_of_ble_eq_true rfl) rfl dX5_through_75 ?_
      refine lv_lstore (lv' := [(4, .long (fX5_changed (M.1 0 j) (M.1 2 (6 * j + c9)) (thr M j c9 v) (M.2 4 (6 * j + c9)))), (7, .long (M.2 4 (6 * j + c9))), (6, .int (nI (6 * j + c9))), (0, .ref r), (1, .int (nI j)), (2, .long v)]) hx hb dX5_through_78 hl (by decide) rfl (fun ls hl => ?_)
      refine lv_aload_n hx hb dX5_through_80 rfl (lv_at hl 3 rfl) ?_
      refine lv_dup hx hb dX5_through_81 rfl ?_
      refine mw_get G hgf (hP 0 _ rfl) rfl inX5 18 (by decide) qw3_180 rfl dX5_through_82 ?_
      refine lv_iconst (v := 1) hx hb dX5_through_85 (by decide) ?_
      refine lv_iadd hx hb dX5_through_86 ?_
      refine mw_put (w1 := wM D r ma t (sI (sI M 14 3 (M.1 14 3 + nI c9)) 14 3 ((M.1 14 3 + nI c9) + 1))) G hgf hP hD hS 0 rfl rfl inX5 tyX5_ok nmX5 18 (by decide) qw3_180 rfl rfl rfl rfl (Nat.le_of_ble_eq_true rfl) rfl dX5_through_87 (fun H locs hP hD hS => ?_)
      refine lv_iinc (v := (nI (6 * j + c9)) + 1) (lv' := [(6, .int ((nI (6 * j + c9)) + 1)), (4, .long (fX5_changed (M.1 0 j) (M.1 2 (6 * j + c9)) (thr M j c9 v) (M.2 4 (6 * j + c9)))), (7, .long (M.2 4 (6 * j + c9))), (0, .ref r), (1, .int (nI j)), (2, .long v)]) hx hb dX5_through_90 hl (k := 2) rfl rfl (by decide) rfl (fun ls hl => ?_)
      refine lv_goto (tgt := 9) hx hb dX5_through_93 (by decide) ?_
      rw [thr_done] at hP hD
      have hv9 : thr M j (c9 + 1) v = fX5_changed (M.1 0 j) (M.1 2 (6 * j + c9)) (thr M j c9 v) (M.2 4 (6 * j + c9)) := by rw [show M.2 4 (6 * j + c9) = kof M (6 * j + c9) from (if_neg (fun q => absurd hs (by rw [Int32.lt_iff_toInt_lt]; rw [Int32.le_iff_toInt_le] at q; omega))).symm]; rfl
      have hl := lv_sub (l' := [(6, .int (nI (6 * j + c9) + 1)), (4, .long (fX5_changed (M.1 0 j) (M.1 2 (6 * j + c9)) (thr M j c9 v) (M.2 4 (6 * j + c9)))), (0, .ref r), (1, .int (nI j)), (2, .long v)]) hl [0, 1, 3, 4, 5] rfl
      rw [← hv9, nI_1, show 6 * j + c9 + 1 = 6 * j + (c9 + 1) by omega] at hl
      exact ih (c9 + 1) (by omega) _ _ _ hP hD hS hl
    · refine lv_iload hx hb dX5_through_9 (lv_at hl 0 rfl) ?_
      refine lv_bipush (v := 6) hx hb dX5_through_11 (by decide) ?_
      refine lv_iload_n hx hb dX5_through_13 rfl (lv_at hl 3 rfl) ?_
      refine lv_imul hx hb dX5_through_14 ?_
      refine lv_aload_n hx hb dX5_through_15 rfl (lv_at hl 2 rfl) ?_
      refine mw_get G hgf (hP 0 _ rfl) rfl inX5 3 (by decide) qw3_165 rfl dX5_through_16 ?_
      refine lv_iload_n hx hb dX5_through_19 rfl (lv_at hl 3 rfl) ?_
      refine mN_iald (f := M.1 1) G hgf (hP 2 _ rfl) (k := j) (rfl) (hj) (by decide) dX5_through_20 ?_
      rw [show M.1 1 j = nI (chn M j) from hch]
      refine lv_iadd hx hb dX5_through_21 ?_
      refine lv_icmp_ge (tgt := 96) hx hb dX5_through_22 (by decide) (fun h => absurd h hlt) (fun _ => ?_)
      refine lv_aload_n hx hb dX5_through_25 rfl (lv_at hl 2 rfl) ?_
      refine mw_get G hgf (hP 0 _ rfl) rfl inX5 5 (by decide) qw3_167 rfl dX5_through_26 ?_
      refine lv_iload hx hb dX5_through_29 (lv_at hl 0 rfl) ?_
      refine mN_iald (f := M.1 3) G hgf (hP 4 _ rfl) (k := 6 * j + c9) (rfl) (by omega) (by decide) dX5_through_31 ?_
      rw [show M.1 3 (6 * j + c9) = nI kq from hs]
      refine lv_if_ge (tgt := 45) hx hb dX5_through_32 (by decide) (fun _ => ?_) (fun h => absurd (nI_pos' (by omega)) h)
      refine lv_aload_n hx hb dX5_through_45 rfl (lv_at hl 2 rfl) ?_
      refine lv_aload_n hx hb dX5_through_46 rfl (lv_at hl 2 rfl) ?_
      refine mw_get G hgf (hP 0 _ rfl) rfl inX5 5 (by decide) qw3_167 rfl dX5_through_47 ?_
      refine lv_iload hx hb dX5_through_50 (lv_at hl 0 rfl) ?_
      refine mN_iald (f := M.1 3) G hgf (hP 4 _ rfl) (k := 6 * j + c9) (rfl) (by omega) (by decide) dX5_through_52 ?_
      rw [show M.1 3 (6 * j + c9) = nI kq from hs]
      refine kV (C := RX5) G (cvX5_latest l D r ma t (sI M 14 3 (M.1 14 3 + nI c9)) (j := kq) (by omega) (hok.2.2.2.1 kq (by omega)).1 (hok.2.2.2.1 kq (by omega)).2) okX5_latest hgf hP (mw_recv hgf (hP 0 _ rfl) rfl) qw4_71 ⟨Nat.le_of_ble_eq_true rfl, Nat.le_of_ble_eq_true rfl⟩ ⟨Nat.zero_le _, Nat.zero_le _⟩ hl.1 (Nat.le_of_ble_eq_true rfl) rfl dX5_through_53 ?_
      refine lv_lstore (lv' := [(7, .long (lat M kq)), (6, .int (nI (6 * j + c9))), (4, .long (thr M j c9 v)), (0, .ref r), (1, .int (nI j)), (2, .long v)]) hx hb dX5_through_56 hl (by decide) rfl (fun ls hl => ?_)
      refine lv_aload_n hx hb dX5_through_58 rfl (lv_at hl 3 rfl) ?_
      refine mw_get G hgf (hP 0 _ rfl) rfl inX5 2 (by decide) qw3_164 rfl dX5_through_59 ?_
      refine lv_iload_n hx hb dX5_through_62 rfl (lv_at hl 4 rfl) ?_
      refine mN_iald (f := M.1 0) G hgf (hP 1 _ rfl) (k := j) (rfl) (hj) (by decide) dX5_through_63 ?_
      refine lv_aload_n hx hb dX5_through_64 rfl (lv_at hl 3 rfl) ?_
      refine mw_get G hgf (hP 0 _ rfl) rfl inX5 4 (by decide) qw3_166 rfl dX5_through_65 ?_
      refine lv_iload hx hb dX5_through_68 (lv_at hl 1 rfl) ?_
      refine mN_iald (f := M.1 2) G hgf (hP 3 _ rfl) (k := 6 * j + c9) (rfl) (by omega) (by decide) dX5_through_70 ?_
      refine lv_lload hx hb dX5_through_71 (lv_at hl 2 rfl) ?_
      refine lv_lload hx hb dX5_through_73 (lv_at hl 0 rfl) ?_
      refine kS G (cvX5_changed l D (M.1 0 j) (M.1 2 (6 * j + c9)) (thr M j c9 v) (lat M kq)) okX5_changed hgf trivial qw4_75 ⟨Nat.le_of_ble_eq_true rfl, Nat.le_of_ble_eq_true rfl⟩ ⟨Nat.zero_le _, Nat.zero_le _⟩ hl.1 (Nat.le_of_ble_eq_true rfl) rfl dX5_through_75 ?_
      refine lv_lstore (lv' := [(4, .long (fX5_changed (M.1 0 j) (M.1 2 (6 * j + c9)) (thr M j c9 v) (lat M kq))), (7, .long (lat M kq)), (6, .int (nI (6 * j + c9))), (0, .ref r), (1, .int (nI j)), (2, .long v)]) hx hb dX5_through_78 hl (by decide) rfl (fun ls hl => ?_)
      refine lv_aload_n hx hb dX5_through_80 rfl (lv_at hl 3 rfl) ?_
      refine lv_dup hx hb dX5_through_81 rfl ?_
      refine mw_get G hgf (hP 0 _ rfl) rfl inX5 18 (by decide) qw3_180 rfl dX5_through_82 ?_
      refine lv_iconst (v := 1) hx hb dX5_through_85 (by decide) ?_
      refine lv_iadd hx hb dX5_through_86 ?_
      refine mw_put (w1 := wM D r ma t (sI (sI M 14 3 (M.1 14 3 + nI c9)) 14 3 ((M.1 14 3 + nI c9) + 1))) G hgf hP hD hS 0 rfl rfl inX5 tyX5_ok nmX5 18 (by decide) qw3_180 rfl rfl rfl rfl (Nat.le_of_ble_eq_true rfl) rfl dX5_through_87 (fun H locs hP hD hS => ?_)
      refine lv_iinc (v := (nI (6 * j + c9)) + 1) (lv' := [(6, .int ((nI (6 * j + c9)) + 1)), (4, .long (fX5_changed (M.1 0 j) (M.1 2 (6 * j + c9)) (thr M j c9 v) (lat M kq))), (7, .long (lat M kq)), (0, .ref r), (1, .int (nI j)), (2, .long v)]) hx hb dX5_through_90 hl (k := 2) rfl rfl (by decide) rfl (fun ls hl => ?_)
      refine lv_goto (tgt := 9) hx hb dX5_through_93 (by decide) ?_
      rw [thr_done] at hP hD
      have hv9 : thr M j (c9 + 1) v = fX5_changed (M.1 0 j) (M.1 2 (6 * j + c9)) (thr M j c9 v) (lat M kq) := by rw [show lat M kq = kof M (6 * j + c9) from ((if_pos (by rw [hs]; exact nI_pos' (by omega))).trans (by rw [hs, nI_clamp (by omega)])).symm]; rfl
      have hl := lv_sub (l' := [(6, .int (nI (6 * j + c9) + 1)), (4, .long (fX5_changed (M.1 0 j) (M.1 2 (6 * j + c9)) (thr M j c9 v) (lat M kq))), (0, .ref r), (1, .int (nI j)), (2, .long v)]) hl [0, 1, 3, 4, 5] rfl
      rw [← hv9, nI_1, show 6 * j + c9 + 1 = 6 * j + (c9 + 1) by omega] at hl
      exact ih (c9 + 1) (by omega) _ _ _ hP hD hS hl
set_option maxRecDepth 100000 in
set_option maxHeartbeats 4000000 in
theorem cqX5_through (l : Launch) (D : mG) (r : Nat) (ma : Nat → Nat) (t : Int32) (M : MSt) {n j : Nat} (hok : mok M n) (hjn : j < n) (v : Int64) : cQ l D yX5_through cX5_through 9 (some .long) (rmP 5) (wM D r ma t M) [.ref r, .int (nI j), .long v] (some (.long (thr M j (chn M j) v))) (wM D r ma t (sI M 14 3 (M.1 14 3 + nI (chn M j)))) := by
  refine cQ_of (by decide) (Nat.le_of_ble_eq_true rfl) ?_
  intro p e s m below meth c ls A hx hb hr hlocks G hnm hgf hA hP hD hS hl
  have hl : lv_has ls 9 [(0, .ref r), (1, .int (nI j)), (2, .long v)] := hl
  refine lv_lload_n hx hb dX5_through_0 rfl (lv_at hl 2 rfl) ?_
  refine lv_lstore (lv' := [(4, .long v), (0, .ref r), (1, .int (nI j)), (2, .long v)]) hx hb dX5_through_1 hl (by decide) rfl (fun ls hl => ?_)
  refine lv_bipush (v := 6) hx hb dX5_through_3 (by decide) ?_
  refine lv_iload_n hx hb dX5_through_5 rfl (lv_at hl 2 rfl) ?_
  refine lv_imul hx hb dX5_through_6 ?_
  refine lv_istore (lv' := [(6, .int (6 * (nI j))), (4, .long v), (0, .ref r), (1, .int (nI j)), (2, .long v)]) hx hb dX5_through_7 hl (by decide) rfl (fun ls hl => ?_)
  have hl := lv_sub (l' := [(6, .int (6 * nI j)), (4, .long v), (0, .ref r), (1, .int (nI j)), (2, .long v)]) hl [0, 1, 2, 3, 4] rfl
  rw [show (6 : Int32) * nI j = nI (6 * j + 0) by rw [show (6 : Int32) = nI 6 from rfl, pk_mul]; rfl] at hl
  have h0 : sI M 14 3 (M.1 14 3 + nI 0) = M := by rw [nI_0, Int32.add_zero]; exact sI_id M 14 3
  exact lpX5_through hx hb hr hlocks G hgf hA hok hjn (chn M j) 0 (by omega) ls _ _ (by rw [h0]; exact hP) (by rw [h0]; exact hD) hS hl
