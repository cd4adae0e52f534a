/-! THE INSTRUMENT. a i: the address of its cell i (object, numbers, kinds, constants, leaders, kept) -/
abbrev iF (a : Nat → Nat) (so : Int32) (lo hi : Int64) (al ch : Int32) (le gr sw su : Int64) (mn : Int32) : List Value := [.int so, .ref (a 1), .long lo, .long hi, .int al, .int ch, .long le, .long gr, .long sw, .long su, .ref (a 2), .ref (a 3), .ref (a 4), .ref (a 5), .int mn]
abbrev wI (D : mG) (a : Nat → Nat) (so : Int32) (lo hi : Int64) (al ch : Int32) (le gr sw su : Int64) (mn : Int32) (f z : Bool) (KI : Nat → Int32) (KJ : Nat → Int64) (L : Nat → Option Nat) (KE : Nat → Int64) : va_W := [(a 0, .inr (1, iF a so lo hi al ch le gr sw su mn)), (a 1, nE f z), (a 2, .inl (D.2.1, 6, .inl KI)), (a 3, .inl (D.2.2.1, 6, .inr (.inl KJ))), (a 4, .inl (D.2.2.2, 6, .inr (.inr (.inr (.inr L))))), (a 5, .inl (D.2.2.1, 16, .inr (.inl KE)))]
def gi_hasRead (mn : Int32)  : Int32 := if mn = 0 then 0 else 1
set_option maxRecDepth 100000 in
set_option maxHeartbeats 4000000 in
theorem cv_gi_hasRead (l : Launch) (D : mG) (a : Nat → Nat) (so : Int32) (lo hi : Int64) (al ch : Int32) (le gr sw su : Int64) (mn : Int32) (f z : Bool) (KI : Nat → Int32) (KJ : Nat → Int64) (L : Nat → Option Nat) (KE : Nat → Int64)  : cV l D yX1_hasRead cX1_hasRead 1 .boolean 0 (fun H => va_P D.1 vwCl [(a 0, .inr (1, iF a so lo hi al ch le gr sw su mn))] H) [.ref (a 0)] (.int (gi_hasRead mn)) := by
  refine cV_of (by decide) (Nat.le_of_ble_eq_true rfl) ?_
  intro p e s m below meth c ls hx hb hr hlocks G hgf hP hl
  have hP : va_P D.1 vwCl [(a 0, .inr (1, iF a so lo hi al ch le gr sw su mn))] s.heap := hP
  have hl : lv_has ls 1 [(0, .ref (a 0))] := hl
  refine lv_aload_n hx hb dX1_hasRead_0 rfl (lv_at hl 0 rfl) ?_
  refine mw_get G hgf (hP 0 _ rfl) rfl inX1 14 (by decide) qw2_0 rfl dX1_hasRead_1 ?_
  refine lv_if_eq (tgt := 11) hx hb dX1_hasRead_4 (by decide) (fun c_1 => ?_) (fun c_1 => ?_)
  · refine lv_iconst (v := 0) hx hb dX1_hasRead_11 (by decide) ?_
    exact mw_zret hx hb hr hlocks dX1_hasRead_12 (Or.inl rfl) ((if_pos c_1).trans (rfl)).symm
  · refine lv_iconst (v := 1) hx hb dX1_hasRead_7 (by decide) ?_
    refine lv_goto (tgt := 12) hx hb dX1_hasRead_8 (by decide) ?_
    exact mw_zret hx hb hr hlocks dX1_hasRead_12 (Or.inr rfl) ((if_neg c_1).trans (rfl)).symm
def gi_keeps (mn : Int32) (i : Int32) : Int32 := if i < 0 then 0 else (if 16 ≤ i then 0 else (if mn ≤ i then 0 else 1))
set_option maxRecDepth 100000 in
set_option maxHeartbeats 4000000 in
theorem cv_gi_keeps (l : Launch) (D : mG) (a : Nat → Nat) (so : Int32) (lo hi : Int64) (al ch : Int32) (le gr sw su : Int64) (mn : Int32) (f z : Bool) (KI : Nat → Int32) (KJ : Nat → Int64) (L : Nat → Option Nat) (KE : Nat → Int64) (i : Int32) : cV l D yX1_keeps cX1_keeps 2 .boolean 0 (fun H => va_P D.1 vwCl [(a 0, .inr (1, iF a so lo hi al ch le gr sw su mn))] H) [.ref (a 0), .int i] (.int (gi_keeps mn i)) := by
  refine cV_of (by decide) (Nat.le_of_ble_eq_true rfl) ?_
  intro p e s m below meth c ls hx hb hr hlocks G hgf hP hl
  have hP : va_P D.1 vwCl [(a 0, .inr (1, iF a so lo hi al ch le gr sw su mn))] s.heap := hP
  have hl : lv_has ls 2 [(0, .ref (a 0)), (1, .int i)] := hl
  refine lv_iload_n hx hb dX1_keeps_0 rfl (lv_at hl 1 rfl) ?_
  refine lv_if_lt (tgt := 22) hx hb dX1_keeps_1 (by decide) (fun c_1 => ?_) (fun c_1 => ?_)
  · refine lv_iconst (v := 0) hx hb dX1_keeps_22 (by decide) ?_
    exact mw_zret hx hb hr hlocks dX1_keeps_23 (Or.inl rfl) ((if_pos c_1).trans (rfl)).symm
  · refine lv_iload_n hx hb dX1_keeps_4 rfl (lv_at hl 1 rfl) ?_
    refine lv_bipush (v := 16) hx hb dX1_keeps_5 (by decide) ?_
    refine lv_icmp_ge (tgt := 22) hx hb dX1_keeps_7 (by decide) (fun c_2 => ?_) (fun c_2 => ?_)
    · refine lv_iconst (v := 0) hx hb dX1_keeps_22 (by decide) ?_
      exact mw_zret hx hb hr hlocks dX1_keeps_23 (Or.inl rfl) ((if_neg c_1).trans ((if_pos c_2).trans (rfl))).symm
    · refine lv_iload_n hx hb dX1_keeps_10 rfl (lv_at hl 1 rfl) ?_
      refine lv_aload_n hx hb dX1_keeps_11 rfl (lv_at hl 0 rfl) ?_
      refine mw_get G hgf (hP 0 _ rfl) rfl inX1 14 (by decide) qw2_0 rfl dX1_keeps_12 ?_
      refine lv_icmp_ge (tgt := 22) hx hb dX1_keeps_15 (by decide) (fun c_3 => ?_) (fun c_3 => ?_)
      · refine lv_iconst (v := 0) hx hb dX1_keeps_22 (by decide) ?_
        exact mw_zret hx hb hr hlocks dX1_keeps_23 (Or.inl rfl) ((if_neg c_1).trans ((if_neg c_2).trans ((if_pos c_3).trans (rfl)))).symm
      · refine lv_iconst (v := 1) hx hb dX1_keeps_18 (by decide) ?_
        refine lv_goto (tgt := 23) hx hb dX1_keeps_19 (by decide) ?_
        exact mw_zret hx hb hr hlocks dX1_keeps_23 (Or.inr rfl) ((if_neg c_1).trans ((if_neg c_2).trans ((if_neg c_3).trans (rfl)))).symm
def gi_chainIsFull (ch : Int32)  : Int32 := if ch < 6 then 0 else 1
set_option maxRecDepth 100000 in
set_option maxHeartbeats 4000000 in
theorem cv_gi_chainIsFull (l : Launch) (D : mG) (a : Nat → Nat) (so : Int32) (lo hi : Int64) (al ch : Int32) (le gr sw su : Int64) (mn : Int32) (f z : Bool) (KI : Nat → Int32) (KJ : Nat → Int64) (L : Nat → Option Nat) (KE : Nat → Int64)  : cV l D yX1_chainIsFull cX1_chainIsFull 1 .boolean 0 (fun H => va_P D.1 vwCl [(a 0, .inr (1, iF a so lo hi al ch le gr sw su mn)), (a 2, .inl (D.2.1, 6, .inl KI))] H) [.ref (a 0)] (.int (gi_chainIsFull ch)) := by
  refine cV_of (by decide) (Nat.le_of_ble_eq_true rfl) ?_
  intro p e s m below meth c ls hx hb hr hlocks G hgf hP hl
  have hP : va_P D.1 vwCl [(a 0, .inr (1, iF a so lo hi al ch le gr sw su mn)), (a 2, .inl (D.2.1, 6, .inl KI))] s.heap := hP
  have hl : lv_has ls 1 [(0, .ref (a 0))] := hl
  refine lv_aload_n hx hb dX1_chainIsFull_0 rfl (lv_at hl 0 rfl) ?_
  refine mw_get G hgf (hP 0 _ rfl) rfl inX1 5 (by decide) qw1_226 rfl dX1_chainIsFull_1 ?_
  refine lv_aload_n hx hb dX1_chainIsFull_4 rfl (lv_at hl 0 rfl) ?_
  refine mw_get G hgf (hP 0 _ rfl) rfl inX1 10 (by decide) qw1_236 rfl dX1_chainIsFull_5 ?_
  refine va_alen (v := 6) hx hb hgf.K hP 1 0 rfl rfl rfl dX1_chainIsFull_8 ?_
  refine lv_icmp_lt (tgt := 16) hx hb dX1_chainIsFull_9 (by decide) (fun c_1 => ?_) (fun c_1 => ?_)
  · refine lv_iconst (v := 0) hx hb dX1_chainIsFull_16 (by decide) ?_
    exact mw_zret hx hb hr hlocks dX1_chainIsFull_17 (Or.inl rfl) ((if_pos c_1).trans (rfl)).symm
  · refine lv_iconst (v := 1) hx hb dX1_chainIsFull_12 (by decide) ?_
    refine lv_goto (tgt := 17) hx hb dX1_chainIsFull_13 (by decide) ?_
    exact mw_zret hx hb hr hlocks dX1_chainIsFull_17 (Or.inr rfl) ((if_neg c_1).trans (rfl)).symm
def gi_latest (mn : Int32) (KE : Nat → Int64) (i : Int32) : Int64 := KE (((mn - 1) - i) &&& 15).toNatClampNeg
set_option maxRecDepth 100000 in
set_option maxHeartbeats 4000000 in
theorem cv_gi_latest (l : Launch) (D : mG) (a : Nat → Nat) (so : Int32) (lo hi : Int64) (al ch : Int32) (le gr sw su : Int64) (mn : Int32) (f z : Bool) (KI : Nat → Int32) (KJ : Nat → Int64) (L : Nat → Option Nat) (KE : Nat → Int64) (i : Int32) : cV l D yX1_latest cX1_latest 2 .long 0 (fun H => va_P D.1 vwCl [(a 0, .inr (1, iF a so lo hi al ch le gr sw su mn)), (a 5, .inl (D.2.2.1, 16, .inr (.inl KE)))] H) [.ref (a 0), .int i] (.long (gi_latest mn KE i)) := by
  refine cV_of (by decide) (Nat.le_of_ble_eq_true rfl) ?_
  intro p e s m below meth c ls hx hb hr hlocks G hgf hP hl
  have hP : va_P D.1 vwCl [(a 0, .inr (1, iF a so lo hi al ch le gr sw su mn)), (a 5, .inl (D.2.2.1, 16, .inr (.inl KE)))] s.heap := hP
  have hl : lv_has ls 2 [(0, .ref (a 0)), (1, .int i)] := hl
  refine lv_aload_n hx hb dX1_latest_0 rfl (lv_at hl 0 rfl) ?_
  refine mw_get G hgf (hP 0 _ rfl) rfl inX1 13 (by decide) qw1_239 rfl dX1_latest_1 ?_
  refine lv_aload_n hx hb dX1_latest_4 rfl (lv_at hl 0 rfl) ?_
  refine mw_get G hgf (hP 0 _ rfl) rfl inX1 14 (by decide) qw2_0 rfl dX1_latest_5 ?_
  refine lv_iconst (v := 1) hx hb dX1_latest_8 (by decide) ?_
  refine lv_isub hx hb dX1_latest_9 ?_
  refine lv_iload_n hx hb dX1_latest_10 rfl (lv_at hl 1 rfl) ?_
  refine lv_isub hx hb dX1_latest_11 ?_
  refine lv_bipush (v := 15) hx hb dX1_latest_12 (by decide) ?_
  refine lv_iand hx hb dX1_latest_14 ?_
  refine mw_lald (f := KE) G hgf (hP 1 _ rfl) (in16 _) dX1_latest_15 ?_
  exact mw_lret hx hb hr hlocks dX1_latest_16 (rfl).symm
def gi_latestOrZero (mn : Int32) (KE : Nat → Int64)  : Int64 := if (gi_hasRead mn) = 0 then 0 else gi_latest mn KE 0
set_option maxRecDepth 100000 in
set_option maxHeartbeats 4000000 in
theorem cv_gi_latestOrZero (l : Launch) (D : mG) (a : Nat → Nat) (so : Int32) (lo hi : Int64) (al ch : Int32) (le gr sw su : Int64) (mn : Int32) (f z : Bool) (KI : Nat → Int32) (KJ : Nat → Int64) (L : Nat → Option Nat) (KE : Nat → Int64)  : cV l D yX1_latestOrZero cX1_latestOrZero 1 .long 1 (fun H => va_P D.1 vwCl [(a 0, .inr (1, iF a so lo hi al ch le gr sw su mn)), (a 5, .inl (D.2.2.1, 16, .inr (.inl KE)))] H) [.ref (a 0)] (.long (gi_latestOrZero mn KE)) := by
  refine cV_of (by decide) (Nat.le_of_ble_eq_true rfl) ?_
  intro p e s m below meth c ls hx hb hr hlocks G hgf hP hl
  have hP : va_P D.1 vwCl [(a 0, .inr (1, iF a so lo hi al ch le gr sw su mn)), (a 5, .inl (D.2.2.1, 16, .inr (.inl KE)))] s.heap := hP
  have hl : lv_has ls 1 [(0, .ref (a 0))] := hl
  refine lv_aload_n hx hb dX1_latestOrZero_0 rfl (lv_at hl 0 rfl) ?_
  refine kV (C := RX1) G (cv_gi_hasRead l D a so lo hi al ch le gr sw su mn true true (fun _ => 0) (fun _ => 0) (fun _ => none) KE ) okX1_hasRead hgf (va_P.sub hP [0] rfl) (mw_recv hgf (hP 0 _ rfl) rfl) qw2_143 ⟨Nat.le_of_ble_eq_true rfl, Nat.le_of_ble_eq_true rfl⟩ ⟨(Nat.le_of_ble_eq_true rfl), (Nat.le_of_ble_eq_true rfl)⟩ hl.1 (Nat.le_of_ble_eq_true rfl) rfl dX1_latestOrZero_1 ?_
  refine lv_if_eq (tgt := 15) hx hb dX1_latestOrZero_4 (by decide) (fun c_1 => ?_) (fun c_1 => ?_)
  · refine lv_lconst (v := 0) hx hb dX1_latestOrZero_15 (by decide) ?_
    exact mw_lret hx hb hr hlocks dX1_latestOrZero_16 ((if_pos c_1).trans (rfl)).symm
  · refine lv_aload_n hx hb dX1_latestOrZero_7 rfl (lv_at hl 0 rfl) ?_
    refine lv_iconst (v := 0) hx hb dX1_latestOrZero_8 (by decide) ?_
    refine kV (C := RX1) G (cv_gi_latest l D a so lo hi al ch le gr sw su mn true true (fun _ => 0) (fun _ => 0) (fun _ => none) KE 0) okX1_latest hgf (va_P.sub hP [0, 1] rfl) (mw_recv hgf (hP 0 _ rfl) rfl) qw2_147 ⟨Nat.le_of_ble_eq_true rfl, Nat.le_of_ble_eq_true rfl⟩ ⟨(Nat.le_of_ble_eq_true rfl), (Nat.le_of_ble_eq_true rfl)⟩ hl.1 (Nat.le_of_ble_eq_true rfl) rfl dX1_latestOrZero_9 ?_
    refine lv_goto (tgt := 16) hx hb dX1_latestOrZero_12 (by decide) ?_
    exact mw_lret hx hb hr hlocks dX1_latestOrZero_16 ((if_neg c_1).trans (rfl)).symm
def gi_isBeyondLimits (lo : Int64) (hi : Int64) (f : Bool) (z : Bool) (v : Int64) : Int32 := if (gn_isAbove f z lo v) = 0 then (if (gn_isAbove f z v hi) = 0 then 0 else 1) else 1
set_option maxRecDepth 100000 in
set_option maxHeartbeats 4000000 in
theorem cv_gi_isBeyondLimits (l : Launch) (D : mG) (a : Nat → Nat) (so : Int32) (lo hi : Int64) (al ch : Int32) (le gr sw su : Int64) (mn : Int32) (f z : Bool) (KI : Nat → Int32) (KJ : Nat → Int64) (L : Nat → Option Nat) (KE : Nat → Int64) (v : Int64) : cV l D yX1_isBeyondLimits cX1_isBeyondLimits 3 .boolean 3 (fun H => va_P D.1 vwCl [(a 0, .inr (1, iF a so lo hi al ch le gr sw su mn)), (a 1, nE f z)] H) [.ref (a 0), .long v] (.int (gi_isBeyondLimits lo hi f z v)) := by
  refine cV_of (by decide) (Nat.le_of_ble_eq_true rfl) ?_
  intro p e s m below meth c ls hx hb hr hlocks G hgf hP hl
  have hP : va_P D.1 vwCl [(a 0, .inr (1, iF a so lo hi al ch le gr sw su mn)), (a 1, nE f z)] s.heap := hP
  have hl : lv_has ls 3 [(0, .ref (a 0)), (1, .long v)] := hl
  refine lv_aload_n hx hb dX1_isBeyondLimits_0 rfl (lv_at hl 0 rfl) ?_
  refine mw_get G hgf (hP 0 _ rfl) rfl inX1 1 (by decide) qw1_219 rfl dX1_isBeyondLimits_1 ?_
  refine lv_aload_n hx hb dX1_isBeyondLimits_4 rfl (lv_at hl 0 rfl) ?_
  refine mw_get G hgf (hP 0 _ rfl) rfl inX1 2 (by decide) qw1_221 rfl dX1_isBeyondLimits_5 ?_
  refine lv_lload_n hx hb dX1_isBeyondLimits_8 rfl (lv_at hl 1 rfl) ?_
  refine kgn_isAbove (f := f) (z := z) lo v G hgf (hP 1 _ rfl) qw3_44 ⟨Nat.le_of_ble_eq_true rfl, Nat.le_of_ble_eq_true rfl⟩ ⟨(Nat.le_of_ble_eq_true rfl), (Nat.le_of_ble_eq_true rfl)⟩ hl.1 (Nat.le_of_ble_eq_true rfl) dX1_isBeyondLimits_9 ?_
  refine lv_if_ne (tgt := 30) hx hb dX1_isBeyondLimits_12 (by decide) (fun c_1 => ?_) (fun c_1 => ?_)
  · refine lv_iconst (v := 1) hx hb dX1_isBeyondLimits_30 (by decide) ?_
    refine lv_goto (tgt := 35) hx hb dX1_isBeyondLimits_31 (by decide) ?_
    exact mw_zret hx hb hr hlocks dX1_isBeyondLimits_35 (Or.inr rfl) ((if_neg c_1).trans (rfl)).symm
  · refine lv_aload_n hx hb dX1_isBeyondLimits_15 rfl (lv_at hl 0 rfl) ?_
    refine mw_get G hgf (hP 0 _ rfl) rfl inX1 1 (by decide) qw1_219 rfl dX1_isBeyondLimits_16 ?_
    refine lv_lload_n hx hb dX1_isBeyondLimits_19 rfl (lv_at hl 1 rfl) ?_
    refine lv_aload_n hx hb dX1_isBeyondLimits_20 rfl (lv_at hl 0 rfl) ?_
    refine mw_get G hgf (hP 0 _ rfl) rfl inX1 3 (by decide) qw1_223 rfl dX1_isBeyondLimits_21 ?_
    refine kgn_isAbove (f := f) (z := z) v hi G hgf (hP 1 _ rfl) qw3_44 ⟨Nat.le_of_ble_eq_true rfl, Nat.le_of_ble_eq_true rfl⟩ ⟨(Nat.le_of_ble_eq_true rfl), (Nat.le_of_ble_eq_true rfl)⟩ hl.1 (Nat.le_of_ble_eq_true rfl) dX1_isBeyondLimits_24 ?_
    refine lv_if_eq (tgt := 34) hx hb dX1_isBeyondLimits_27 (by decide) (fun c_2 => ?_) (fun c_2 => ?_)
    · refine lv_iconst (v := 0) hx hb dX1_isBeyondLimits_34 (by decide) ?_
      exact mw_zret hx hb hr hlocks dX1_isBeyondLimits_35 (Or.inl rfl) ((if_pos c_1).trans ((if_pos c_2).trans (rfl))).symm
    · refine lv_iconst (v := 1) hx hb dX1_isBeyondLimits_30 (by decide) ?_
      refine lv_goto (tgt := 35) hx hb dX1_isBeyondLimits_31 (by decide) ?_
      exact mw_zret hx hb hr hlocks dX1_isBeyondLimits_35 (Or.inr rfl) ((if_pos c_1).trans ((if_neg c_2).trans (rfl))).symm
