theorem okO_X1_addStep : okO RX1 yX1_addStep cX1_addStep 5 (some .int) 3 := okX1_addStep
theorem okO_X1_keep : okO RX1 yX1_keep cX1_keep 3 (none) 1 := ⟨qw2_223, qw2_224, qw1_8, qw2_225, by decide +kernel⟩
theorem okO_X1_dropReadings : okO RX1 yX1_dropReadings cX1_dropReadings 2 (some .int) 0 := okX1_dropReadings
set_option maxRecDepth 100000 in
set_option maxHeartbeats 4000000 in
theorem cz_addStep_n (l : Launch) (D : mG) (a : Nat → Nat) (so : Int32) (lo hi : Int64) (al ch : Int32) (le gr sw su : Int64) (mn : Int32) (f z : Bool) (KI : Nat → Int32) (KJ : Nat → Int64) (L : Nat → Option Nat) (KE : Nat → Int64) (kd : Int32) (k : Int64) (hch : vp_in ch 6) (hfu : gi_chainIsFull ch = 0) : cZ l D yX1_addStep cX1_addStep 5 (some .int) (rmP 1) [(a 0, .inr (1, iF a so lo hi al ch le gr sw su mn)), (a 1, nE f z), (a 2, .inl (D.2.1, 6, .inl KI)), (a 3, .inl (D.2.2.1, 6, .inr (.inl KJ))), (a 4, .inl (D.2.2.2, 6, .inr (.inr (.inr (.inr L))))), (a 5, .inl (D.2.2.1, 16, .inr (.inl KE)))] (fun _ => True) [.ref (a 0), .int kd, .long k, .null] (S := Unit) (fun _ => some (.int (ch + 1))) (fun _ => [(a 0, .inr (1, [.int so, .ref (a 1), .long lo, .long hi, .int al, .int (ch + 1), .long le, .long gr, .long sw, .long su, .ref (a 2), .ref (a 3), .ref (a 4), .ref (a 5), .int mn])), (a 1, nE f z), (a 2, .inl (D.2.1, 6, .inl (upd KI ch.toNatClampNeg kd))), (a 3, .inl (D.2.2.1, 6, .inr (.inl (vp_updL KJ ch.toNatClampNeg k)))), (a 4, .inl (D.2.2.2, 6, .inr (.inr (.inr (.inr (va_up L ch.toNatClampNeg none)))))), (a 5, .inl (D.2.2.1, 16, .inr (.inl KE)))]) := by
  refine cZ_of (by decide) (Nat.le_of_ble_eq_true rfl) ?_
  intro p e s m below meth c ls A hx hb hr hlocks G hnm hgf hA hpic hP hD hS hl
  have hl : lv_has ls 5 [(0, .ref (a 0)), (1, .int kd), (2, .long k), (4, .null)] := hl
  have hP : va_P D.1 vwCl [(a 0, .inr (1, iF a so lo hi al ch le gr sw su mn)), (a 1, nE f z), (a 2, .inl (D.2.1, 6, .inl KI)), (a 3, .inl (D.2.2.1, 6, .inr (.inl KJ))), (a 4, .inl (D.2.2.2, 6, .inr (.inr (.inr (.inr L))))), (a 5, .inl (D.2.2.1, 16, .inr (.inl KE)))] s.heap := hP
  have hD : va_D A [(a 0, .inr (1, iF a so lo hi al ch le gr sw su mn)), (a 1, nE f z), (a 2, .inl (D.2.1, 6, .inl KI)), (a 3, .inl (D.2.2.1, 6, .inr (.inl KJ))), (a 4, .inl (D.2.2.2, 6, .inr (.inr (.inr (.inr L))))), (a 5, .inl (D.2.2.1, 16, .inr (.inl KE)))] := hD
  refine lv_aload_n hx hb dX1_addStep_0 rfl (lv_at hl 0 rfl) ?_
  refine kV (C := RX1) G (cv_gi_chainIsFull l D a so lo hi al ch le gr sw su mn f z KI KJ L KE ) okX1_chainIsFull hgf (va_P.sub hP [0, 2] rfl) (mw_recv hgf (hP 0 _ rfl) rfl) qw2_117 ⟨Nat.le_of_ble_eq_true rfl, Nat.le_of_ble_eq_true rfl⟩ ⟨(Nat.le_of_ble_eq_true rfl), (Nat.le_of_ble_eq_true rfl)⟩ hl.1 (Nat.le_of_ble_eq_true rfl) rfl dX1_addStep_1 ?_
  rw [show gi_chainIsFull ch = 0 from hfu]
  refine lv_if_ne (tgt := 48) hx hb dX1_addStep_4 (by decide) (fun h => absurd (by decide) h) (fun _ => ?_)
  refine lv_aload_n hx hb dX1_addStep_7 rfl (lv_at hl 0 rfl) ?_
  refine mw_get G hgf (hP 0 _ rfl) rfl inX1 10 (by decide) qw1_236 rfl dX1_addStep_8 ?_
  refine lv_aload_n hx hb dX1_addStep_11 rfl (lv_at hl 0 rfl) ?_
  refine mw_get G hgf (hP 0 _ rfl) rfl inX1 5 (by decide) qw1_226 rfl dX1_addStep_12 ?_
  refine lv_iload_n hx hb dX1_addStep_15 rfl (lv_at hl 1 rfl) ?_
  refine mw_iast (f := KI) (w1 := [(a 0, .inr (1, iF a so lo hi al ch le gr sw su mn)), (a 1, nE f z), (a 2, .inl (D.2.1, 6, .inl (upd KI ch.toNatClampNeg kd))), (a 3, .inl (D.2.2.1, 6, .inr (.inl KJ))), (a 4, .inl (D.2.2.2, 6, .inr (.inr (.inr (.inr L))))), (a 5, .inl (D.2.2.1, 16, .inr (.inl KE)))]) G hgf hP hD hS 2 rfl (hch) rfl dX1_addStep_16 (fun H locs hP hD hS => ?_)
  refine lv_aload_n hx hb dX1_addStep_17 rfl (lv_at hl 0 rfl) ?_
  refine mw_get G hgf (hP 0 _ rfl) rfl inX1 11 (by decide) qw1_237 rfl dX1_addStep_18 ?_
  refine lv_aload_n hx hb dX1_addStep_21 rfl (lv_at hl 0 rfl) ?_
  refine mw_get G hgf (hP 0 _ rfl) rfl inX1 5 (by decide) qw1_226 rfl dX1_addStep_22 ?_
  refine lv_lload_n hx hb dX1_addStep_25 rfl (lv_at hl 2 rfl) ?_
  refine mw_last (f := KJ) (w1 := [(a 0, .inr (1, iF a so lo hi al ch le gr sw su mn)), (a 1, nE f z), (a 2, .inl (D.2.1, 6, .inl (upd KI ch.toNatClampNeg kd))), (a 3, .inl (D.2.2.1, 6, .inr (.inl (vp_updL KJ ch.toNatClampNeg k)))), (a 4, .inl (D.2.2.2, 6, .inr (.inr (.inr (.inr L))))), (a 5, .inl (D.2.2.1, 16, .inr (.inl KE)))]) G hgf hP hD hS 3 rfl (hch) rfl dX1_addStep_26 (fun H locs hP hD hS => ?_)
  refine lv_aload_n hx hb dX1_addStep_27 rfl (lv_at hl 0 rfl) ?_
  refine mw_get G hgf (hP 0 _ rfl) rfl inX1 12 (by decide) qw1_238 rfl dX1_addStep_28 ?_
  refine lv_aload_n hx hb dX1_addStep_31 rfl (lv_at hl 0 rfl) ?_
  refine mw_get G hgf (hP 0 _ rfl) rfl inX1 5 (by decide) qw1_226 rfl dX1_addStep_32 ?_
  refine lv_aloadN hx hb dX1_addStep_35 (lv_at hl 3 rfl) ?_
  refine mw_aastN (f := L) (w1 := [(a 0, .inr (1, iF a so lo hi al ch le gr sw su mn)), (a 1, nE f z), (a 2, .inl (D.2.1, 6, .inl (upd KI ch.toNatClampNeg kd))), (a 3, .inl (D.2.2.1, 6, .inr (.inl (vp_updL KJ ch.toNatClampNeg k)))), (a 4, .inl (D.2.2.2, 6, .inr (.inr (.inr (.inr (va_up L ch.toNatClampNeg none)))))), (a 5, .inl (D.2.2.1, 16, .inr (.inl KE)))]) G hgf hP hD hS 4 rfl (hch) rfl dX1_addStep_37 (fun H locs hP hD hS => ?_)
  refine lv_aload_n hx hb dX1_addStep_38 rfl (lv_at hl 0 rfl) ?_
  refine lv_dup hx hb dX1_addStep_39 rfl ?_
  refine mw_get G hgf (hP 0 _ rfl) rfl inX1 5 (by decide) qw1_226 rfl dX1_addStep_40 ?_
  refine lv_iconst (v := 1) hx hb dX1_addStep_43 (by decide) ?_
  refine lv_iadd hx hb dX1_addStep_44 ?_
  refine mw_put (w1 := [(a 0, .inr (1, [.int so, .ref (a 1), .long lo, .long hi, .int al, .int (ch + 1), .long le, .long gr, .long sw, .long su, .ref (a 2), .ref (a 3), .ref (a 4), .ref (a 5), .int mn])), (a 1, nE f z), (a 2, .inl (D.2.1, 6, .inl (upd KI ch.toNatClampNeg kd))), (a 3, .inl (D.2.2.1, 6, .inr (.inl (vp_updL KJ ch.toNatClampNeg k)))), (a 4, .inl (D.2.2.2, 6, .inr (.inr (.inr (.inr (va_up L ch.toNatClampNeg none)))))), (a 5, .inl (D.2.2.1, 16, .inr (.inl KE)))]) G hgf hP hD hS 0 rfl rfl inX1 tyX1_ok nmX1 5 (by decide) qw1_226 rfl rfl rfl rfl (Nat.le_of_ble_eq_true rfl) rfl dX1_addStep_45 (fun H locs hP hD hS => ?_)
  refine lv_aload_n hx hb dX1_addStep_48 rfl (lv_at hl 0 rfl) ?_
  refine mw_get G hgf (hP 0 _ rfl) rfl inX1 5 (by decide) qw1_226 rfl dX1_addStep_49 ?_
  exact mE_iret () rfl hx hb hr hlocks hP hD hS dX1_addStep_52
set_option maxRecDepth 100000 in
set_option maxHeartbeats 4000000 in
theorem cz_addStep_s (l : Launch) (D : mG) (a : Nat → Nat) (so : Int32) (lo hi : Int64) (al ch : Int32) (le gr sw su : Int64) (mn : Int32) (f z : Bool) (KI : Nat → Int32) (KJ : Nat → Int64) (L : Nat → Option Nat) (KE : Nat → Int64) (kd : Int32) (k : Int64) (hch : vp_in ch 6) (hfu : gi_chainIsFull ch = 0) : cZ l D yX1_addStep cX1_addStep 5 (some .int) (rmP 1) [(a 0, .inr (1, iF a so lo hi al ch le gr sw su mn)), (a 1, nE f z), (a 2, .inl (D.2.1, 6, .inl KI)), (a 3, .inl (D.2.2.1, 6, .inr (.inl KJ))), (a 4, .inl (D.2.2.2, 6, .inr (.inr (.inr (.inr L))))), (a 5, .inl (D.2.2.1, 16, .inr (.inl KE)))] (fun _ => True) [.ref (a 0), .int kd, .long k, .ref (a 0)] (S := Unit) (fun _ => some (.int (ch + 1))) (fun _ => [(a 0, .inr (1, [.int so, .ref (a 1), .long lo, .long hi, .int al, .int (ch + 1), .long le, .long gr, .long sw, .long su, .ref (a 2), .ref (a 3), .ref (a 4), .ref (a 5), .int mn])), (a 1, nE f z), (a 2, .inl (D.2.1, 6, .inl (upd KI ch.toNatClampNeg kd))), (a 3, .inl (D.2.2.1, 6, .inr (.inl (vp_updL KJ ch.toNatClampNeg k)))), (a 4, .inl (D.2.2.2, 6, .inr (.inr (.inr (.inr (va_up L ch.toNatClampNeg (some (a 0)))))))), (a 5, .inl (D.2.2.1, 16, .inr (.inl KE)))]) := by
  refine cZ_of (by decide) (Nat.le_of_ble_eq_true rfl) ?_
  intro p e s m below meth c ls A hx hb hr hlocks G hnm hgf hA hpic hP hD hS hl
  have hl : lv_has ls 5 [(0, .ref (a 0)), (1, .int kd), (2, .long k), (4, .ref (a 0))] := hl
  have hP : va_P D.1 vwCl [(a 0, .inr (1, iF a so lo hi al ch le gr sw su mn)), (a 1, nE f z), (a 2, .inl (D.2.1, 6, .inl KI)), (a 3, .inl (D.2.2.1, 6, .inr (.inl KJ))), (a 4, .inl (D.2.2.2, 6, .inr (.inr (.inr (.inr L))))), (a 5, .inl (D.2.2.1, 16, .inr (.inl KE)))] s.heap := hP
  have hD : va_D A [(a 0, .inr (1, iF a so lo hi al ch le gr sw su mn)), (a 1, nE f z), (a 2, .inl (D.2.1, 6, .inl KI)), (a 3, .inl (D.2.2.1, 6, .inr (.inl KJ))), (a 4, .inl (D.2.2.2, 6, .inr (.inr (.inr (.inr L))))), (a 5, .inl (D.2.2.1, 16, .inr (.inl KE)))] := hD
  refine lv_aload_n hx hb dX1_addStep_0 rfl (lv_at hl 0 rfl) ?_
  refine kV (C := RX1) G (cv_gi_chainIsFull l D a so lo hi al ch le gr sw su mn f z KI KJ L KE ) okX1_chainIsFull hgf (va_P.sub hP [0, 2] rfl) (mw_recv hgf (hP 0 _ rfl) rfl) qw2_117 ⟨Nat.le_of_ble_eq_true rfl, Nat.le_of_ble_eq_true rfl⟩ ⟨(Nat.le_of_ble_eq_true rfl), (Nat.le_of_ble_eq_true rfl)⟩ hl.1 (Nat.le_of_ble_eq_true rfl) rfl dX1_addStep_1 ?_
  rw [show gi_chainIsFull ch = 0 from hfu]
  refine lv_if_ne (tgt := 48) hx hb dX1_addStep_4 (by decide) (fun h => absurd (by decide) h) (fun _ => ?_)
  refine lv_aload_n hx hb dX1_addStep_7 rfl (lv_at hl 0 rfl) ?_
  refine mw_get G hgf (hP 0 _ rfl) rfl inX1 10 (by decide) qw1_236 rfl dX1_addStep_8 ?_
  refine lv_aload_n hx hb dX1_addStep_11 rfl (lv_at hl 0 rfl) ?_
  refine mw_get G hgf (hP 0 _ rfl) rfl inX1 5 (by decide) qw1_226 rfl dX1_addStep_12 ?_
  refine lv_iload_n hx hb dX1_addStep_15 rfl (lv_at hl 1 rfl) ?_
  refine mw_iast (f := KI) (w1 := [(a 0, .inr (1, iF a so lo hi al ch le gr sw su mn)), (a 1, nE f z), (a 2, .inl (D.2.1, 6, .inl (upd KI ch.toNatClampNeg kd))), (a 3, .inl (D.2.2.1, 6, .inr (.inl KJ))), (a 4, .inl (D.2.2.2, 6, .inr (.inr (.inr (.inr L))))), (a 5, .inl (D.2.2.1, 16, .inr (.inl KE)))]) G hgf hP hD hS 2 rfl (hch) rfl dX1_addStep_16 (fun H locs hP hD hS => ?_)
  refine lv_aload_n hx hb dX1_addStep_17 rfl (lv_at hl 0 rfl) ?_
  refine mw_get G hgf (hP 0 _ rfl) rfl inX1 11 (by decide) qw1_237 rfl dX1_addStep_18 ?_
  refine lv_aload_n hx hb dX1_addStep_21 rfl (lv_at hl 0 rfl) ?_
  refine mw_get G hgf (hP 0 _ rfl) rfl inX1 5 (by decide) qw1_226 rfl dX1_addStep_22 ?_
  refine lv_lload_n hx hb dX1_addStep_25 rfl (lv_at hl 2 rfl) ?_
  refine mw_last (f := KJ) (w1 := [(a 0, .inr (1, iF a so lo hi al ch le gr sw su mn)), (a 1, nE f z), (a 2, .inl (D.2.1, 6, .inl (upd KI ch.toNatClampNeg kd))), (a 3, .inl (D.2.2.1, 6, .inr (.inl (vp_updL KJ ch.toNatClampNeg k)))), (a 4, .inl (D.2.2.2, 6, .inr (.inr (.inr (.inr L))))), (a 5, .inl (D.2.2.1, 16, .inr (.inl KE)))]) G hgf hP hD hS 3 rfl (hch) rfl dX1_addStep_26 (fun H locs hP hD hS => ?_)
  refine lv_aload_n hx hb dX1_addStep_27 rfl (lv_at hl 0 rfl) ?_
  refine mw_get G hgf (hP 0 _ rfl) rfl inX1 12 (by decide) qw1_238 rfl dX1_addStep_28 ?_
  refine lv_aload_n hx hb dX1_addStep_31 rfl (lv_at hl 0 rfl) ?_
  refine mw_get G hgf (hP 0 _ rfl) rfl inX1 5 (by decide) qw1_226 rfl dX1_addStep_32 ?_
  refine lv_aload hx hb dX1_addStep_35 (lv_at hl 3 rfl) ?_
  refine mw_aast (f := L) (w1 := [(a 0, .inr (1, iF a so lo hi al ch le gr sw su mn)), (a 1, nE f z), (a 2, .inl (D.2.1, 6, .inl (upd KI ch.toNatClampNeg kd))), (a 3, .inl (D.2.2.1, 6, .inr (.inl (vp_updL KJ ch.toNatClampNeg k)))), (a 4, .inl (D.2.2.2, 6, .inr (.inr (.inr (.inr (va_up L ch.toNatClampNeg (some (a 0)))))))), (a 5, .inl (D.2.2.1, 16, .inr (.inl KE)))]) G hgf hP hD hS 4 0 rfl rfl rfl rfl (hch) rfl dX1_addStep_37 (fun H locs hP hD hS => ?_)
  refine lv_aload_n hx hb dX1_addStep_38 rfl (lv_at hl 0 rfl) ?_
  refine lv_dup hx hb dX1_addStep_39 rfl ?_
  refine mw_get G hgf (hP 0 _ rfl) rfl inX1 5 (by decide) qw1_226 rfl dX1_addStep_40 ?_
  refine lv_iconst (v := 1) hx hb dX1_addStep_43 (by decide) ?_
  refine lv_iadd hx hb dX1_addStep_44 ?_
  refine mw_put (w1 := [(a 0, .inr (1, [.int so, .ref (a 1), .long lo, .long hi, .int al, .int (ch + 1), .long le, .long gr, .long sw, .long su, .ref (a 2), .ref (a 3), .ref (a 4), .ref (a 5), .int mn])), (a 1, nE f z), (a 2, .inl (D.2.1, 6, .inl (upd KI ch.toNatClampNeg kd))), (a 3, .inl (D.2.2.1, 6, .inr (.inl (vp_updL KJ ch.toNatClampNeg k)))), (a 4, .inl (D.2.2.2, 6, .inr (.inr (.inr (.inr (va_up L ch.toNatClampNeg (some (a 0)))))))), (a 5, .inl (D.2.2.1, 16, .inr (.inl KE)))]) G hgf hP hD hS 0 rfl rfl inX1 tyX1_ok nmX1 5 (by decide) qw1_226 rfl rfl rfl rfl (Nat.le_of_ble_eq_true rfl) rfl dX1_addStep_45 (fun H locs hP hD hS => ?_)
  refine lv_aload_n hx hb dX1_addStep_48 rfl (lv_at hl 0 rfl) ?_
  refine mw_get G hgf (hP 0 _ rfl) rfl inX1 5 (by decide) qw1_226 rfl dX1_addStep_49 ?_
  exact mE_iret () rfl hx hb hr hlocks hP hD hS dX1_addStep_52
set_option maxRecDepth 100000 in
set_option maxHeartbeats 4000000 in
theorem cz_addStep_o (l : Launch) (D : mG) (a : Nat → Nat) (so : Int32) (lo hi : Int64) (al ch : Int32) (le gr sw su : Int64) (mn : Int32) (f z : Bool) (KI : Nat → Int32) (KJ : Nat → Int64) (L : Nat → Option Nat) (KE : Nat → Int64) (kd : Int32) (k : Int64) (b : Nat) (fb : List Value) (hch : vp_in ch 6) (hfu : gi_chainIsFull ch = 0) : cZ l D yX1_addStep cX1_addStep 5 (some .int) (rmP 1) [(a 0, .inr (1, iF a so lo hi al ch le gr sw su mn)), (a 1, nE f z), (a 2, .inl (D.2.1, 6, .inl KI)), (a 3, .inl (D.2.2.1, 6, .inr (.inl KJ))), (a 4, .inl (D.2.2.2, 6, .inr (.inr (.inr (.inr L))))), (a 5, .inl (D.2.2.1, 16, .inr (.inl KE))), (b, .inr (1, fb))] (fun _ => True) [.ref (a 0), .int kd, .long k, .ref b] (S := Unit) (fun _ => some (.int (ch + 1))) (fun _ => [(a 0, .inr (1, [.int so, .ref (a 1), .long lo, .long hi, .int al, .int (ch + 1), .long le, .long gr, .long sw, .long su, .ref (a 2), .ref (a 3), .ref (a 4), .ref (a 5), .int mn])), (a 1, nE f z), (a 2, .inl (D.2.1, 6, .inl (upd KI ch.toNatClampNeg kd))), (a 3, .inl (D.2.2.1, 6, .inr (.inl (vp_updL KJ ch.toNatClampNeg k)))), (a 4, .inl (D.2.2.2, 6, .inr (.inr (.inr (.inr (va_up L ch.toNatClampNeg (some b))))))), (a 5, .inl (D.2.2.1, 16, .inr (.inl KE))), (b, .inr (1, fb))]) := by
  refine cZ_of (by decide) (Nat.le_of_ble_eq_true rfl) ?_
  intro p e s m below meth c ls A hx hb hr hlocks G hnm hgf hA hpic hP hD hS hl
  have hl : lv_has ls 5 [(0, .ref (a 0)), (1, .int kd), (2, .long k), (4, .ref b)] := hl
  have hP : va_P D.1 vwCl [(a 0, .inr (1, iF a so lo hi al ch le gr sw su mn)), (a 1, nE f z), (a 2, .inl (D.2.1, 6, .inl KI)), (a 3, .inl (D.2.2.1, 6, .inr (.inl KJ))), (a 4, .inl (D.2.2.2, 6, .inr (.inr (.inr (.inr L))))), (a 5, .inl (D.2.2.1, 16, .inr (.inl KE))), (b, .inr (1, fb))] s.heap := hP
  have hD : va_D A [(a 0, .inr (1, iF a so lo hi al ch le gr sw su mn)), (a 1, nE f z), (a 2, .inl (D.2.1, 6, .inl KI)), (a 3, .inl (D.2.2.1, 6, .inr (.inl KJ))), (a 4, .inl (D.2.2.2, 6, .inr (.inr (.inr (.inr L))))), (a 5, .inl (D.2.2.1, 16, .inr (.inl KE))), (b, .inr (1, fb))] := hD
  refine lv_aload_n hx hb dX1_addStep_0 rfl (lv_at hl 0 rfl) ?_
  refine kV (C := RX1) G (cv_gi_chainIsFull l D a so lo hi al ch le gr sw su mn f z KI KJ L KE ) okX1_chainIsFull hgf (va_P.sub hP [0, 2] rfl) (mw_recv hgf (hP 0 _ rfl) rfl) qw2_117 ⟨Nat.le_of_ble_eq_true rfl, Nat.le_of_ble_eq_true rfl⟩ ⟨(Nat.le_of_ble_eq_true rfl), (Nat.le_of_ble_eq_true rfl)⟩ hl.1 (Nat.le_of_ble_eq_true rfl) rfl dX1_addStep_1 ?_
  rw [show gi_chainIsFull ch = 0 from hfu]
  refine lv_if_ne (tgt := 48) hx hb dX1_addStep_4 (by decide) (fun h => absurd (by decide) h) (fun _ => ?_)
  refine lv_aload_n hx hb dX1_addStep_7 rfl (lv_at hl 0 rfl) ?_
  refine mw_get G hgf (hP 0 _ rfl) rfl inX1 10 (by decide) qw1_236 rfl dX1_addStep_8 ?_
  refine lv_aload_n hx hb dX1_addStep_11 rfl (lv_at hl 0 rfl) ?_
  refine mw_get G hgf (hP 0 _ rfl) rfl inX1 5 (by decide) qw1_226 rfl dX1_addStep_12 ?_
  refine lv_iload_n hx hb dX1_addStep_15 rfl (lv_at hl 1 rfl) ?_
  refine mw_iast (f := KI) (w1 := [(a 0, .inr (1, iF a so lo hi al ch le gr sw su mn)), (a 1, nE f z), (a 2, .inl (D.2.1, 6, .inl (upd KI ch.toNatClampNeg kd))), (a 3, .inl (D.2.2.1, 6, .inr (.inl KJ))), (a 4, .inl (D.2.2.2, 6, .inr (.inr (.inr (.inr L))))), (a 5, .inl (D.2.2.1, 16, .inr (.inl KE))), (b, .inr (1, fb))]) G hgf hP hD hS 2 rfl (hch) rfl dX1_addStep_16 (fun H locs hP hD hS => ?_)
  refine lv_aload_n hx hb dX1_addStep_17 rfl (lv_at hl 0 rfl) ?_
  refine mw_get G hgf (hP 0 _ rfl) rfl inX1 11 (by decide) qw1_237 rfl dX1_addStep_18 ?_
  refine lv_aload_n hx hb dX1_addStep_21 rfl (lv_at hl 0 rfl) ?_
  refine mw_get G hgf (hP 0 _ rfl) rfl inX1 5 (by decide) qw1_226 rfl dX1_addStep_22 ?_
  refine lv_lload_n hx hb dX1_addStep_25 rfl (lv_at hl 2 rfl) ?_
  refine mw_last (f := KJ) (w1 := [(a 0, .inr (1, iF a so lo hi al ch le gr sw su mn)), (a 1, nE f z), (a 2, .inl (D.2.1, 6, .inl (upd KI ch.toNatClampNeg kd))), (a 3, .inl (D.2.2.1, 6, .inr (.inl (vp_updL KJ ch.toNatClampNeg k)))), (a 4, .inl (D.2.2.2, 6, .inr (.inr (.inr (.inr L))))), (a 5, .inl (D.2.2.1, 16, .inr (.inl KE))), (b, .inr (1, fb))]) G hgf hP hD hS 3 rfl (hch) rfl dX1_addStep_26 (fun H locs hP hD hS => ?_)
  refine lv_aload_n hx hb dX1_addStep_27 rfl (lv_at hl 0 rfl) ?_
  refine mw_get G hgf (hP 0 _ rfl) rfl inX1 12 (by decide) qw1_238 rfl dX1_addStep_28 ?_
  refine lv_aload_n hx hb dX1_addStep_31 rfl (lv_at hl 0 rfl) ?_
  refine mw_get G hgf (hP 0 _ rfl) rfl inX1 5 (by decide) qw1_226 rfl dX1_addStep_32 ?_
  refine lv_aload hx hb dX1_addStep_35 (lv_at hl 3 rfl) ?_
  refine mw_aast (f := L) (w1 := [(a 0, .inr (1, iF a so lo hi al ch le gr sw su mn)), (a 1, nE f z), (a 2, .inl (D.2.1, 6, .inl (upd KI ch.toNatClampNeg kd))), (a 3, .inl (D.2.2.1, 6, .inr (.inl (vp_updL KJ ch.toNatClampNeg k)))), (a 4, .inl (D.2.2.2, 6, .inr (.inr (.inr (.inr (va_up L ch.toNatClampNeg (some b))))))), (a 5, .inl (D.2.2.1, 16, .inr (.inl KE))), (b, .inr (1, fb))]) G hgf hP hD hS 4 6 rfl rfl rfl rfl (hch) rfl dX1_addStep_37 (fun H locs hP hD hS => ?_)
  refine lv_aload_n hx hb dX1_addStep_38 rfl (lv_at hl 0 rfl) ?_
  refine lv_dup hx hb dX1_addStep_39 rfl ?_
  refine mw_get G hgf (hP 0 _ rfl) rfl inX1 5 (by decide) qw1_226 rfl dX1_addStep_40 ?_
  refine lv_iconst (v := 1) hx hb dX1_addStep_43 (by decide) ?_
  refine lv_iadd hx hb dX1_addStep_44 ?_
  refine mw_put (w1 := [(a 0, .inr (1, [.int so, .ref (a 1), .long lo, .long hi, .int al, .int (ch + 1), .long le, .long gr, .long sw, .long su, .ref (a 2), .ref (a 3), .ref (a 4), .ref (a 5), .int mn])), (a 1, nE f z), (a 2, .inl (D.2.1, 6, .inl (upd KI ch.toNatClampNeg kd))), (a 3, .inl (D.2.2.1, 6, .inr (.inl (vp_updL KJ ch.toNatClampNeg k)))), (a 4, .inl (D.2.2.2, 6, .inr (.inr (.inr (.inr (va_up L ch.toNatClampNeg (some b))))))), (a 5, .inl (D.2.2.1, 16, .inr (.inl KE))), (b, .inr (1, fb))]) G hgf hP hD hS 0 rfl rfl inX1 tyX1_ok nmX1 5 (by decide) qw1_226 rfl rfl rfl rfl (Nat.le_of_ble_eq_true rfl) rfl dX1_addStep_45 (fun H locs hP hD hS => ?_)
  refine lv_aload_n hx hb dX1_addStep_48 rfl (lv_at hl 0 rfl) ?_
  refine mw_get G hgf (hP 0 _ rfl) rfl inX1 5 (by decide) qw1_226 rfl dX1_addStep_49 ?_
  exact mE_iret () rfl hx hb hr hlocks hP hD hS dX1_addStep_52
set_option maxRecDepth 100000 in
set_option maxHeartbeats 4000000 in
theorem cz_drop (l : Launch) (D : mG) (a : Nat → Nat) (so : Int32) (lo hi : Int64) (al ch : Int32) (le gr sw su : Int64) (mn : Int32) (f z : Bool) (KI : Nat → Int32) (KJ : Nat → Int64) (L : Nat → Option Nat) (KE : Nat → Int64)  : cZ l D yX1_dropReadings cX1_dropReadings 2 (some .int) (rmP 0) [(a 0, .inr (1, iF a so lo hi al ch le gr sw su mn)), (a 1, nE f z), (a 2, .inl (D.2.1, 6, .inl KI)), (a 3, .inl (D.2.2.1, 6, .inr (.inl KJ))), (a 4, .inl (D.2.2.2, 6, .inr (.inr (.inr (.inr L))))), (a 5, .inl (D.2.2.1, 16, .inr (.inl KE)))] (fun _ => True) [.ref (a 0)] (S := Unit) (fun _ => some (.int (mn))) (fun _ => [(a 0, .inr (1, [.int so, .ref (a 1), .long lo, .long hi, .int al, .int ch, .long le, .long gr, .long sw, .long su, .ref (a 2), .ref (a 3), .ref (a 4), .ref (a 5), .int 0])), (a 1, nE f z), (a 2, .inl (D.2.1, 6, .inl KI)), (a 3, .inl (D.2.2.1, 6, .inr (.inl KJ))), (a 4, .inl (D.2.2.2, 6, .inr (.inr (.inr (.inr L))))), (a 5, .inl (D.2.2.1, 16, .inr (.inl KE)))]) := by
  refine cZ_of (by decide) (Nat.le_of_ble_eq_true rfl) ?_
  intro p e s m below meth c ls A hx hb hr hlocks G hnm hgf hA hpic hP hD hS hl
  have hl : lv_has ls 2 [(0, .ref (a 0))] := hl
  have hP : va_P D.1 vwCl [(a 0, .inr (1, iF a so lo hi al ch le gr sw su mn)), (a 1, nE f z), (a 2, .inl (D.2.1, 6, .inl KI)), (a 3, .inl (D.2.2.1, 6, .inr (.inl KJ))), (a 4, .inl (D.2.2.2, 6, .inr (.inr (.inr (.inr L))))), (a 5, .inl (D.2.2.1, 16, .inr (.inl KE)))] s.heap := hP
  have hD : va_D A [(a 0, .inr (1, iF a so lo hi al ch le gr sw su mn)), (a 1, nE f z), (a 2, .inl (D.2.1, 6, .inl KI)), (a 3, .inl (D.2.2.1, 6, .inr (.inl KJ))), (a 4, .inl (D.2.2.2, 6, .inr (.inr (.inr (.inr L))))), (a 5, .inl (D.2.2.1, 16, .inr (.inl KE)))] := hD
  refine lv_aload_n hx hb dX1_dropReadings_0 rfl (lv_at hl 0 rfl) ?_
  refine mw_get G hgf (hP 0 _ rfl) rfl inX1 14 (by decide) qw2_0 rfl dX1_dropReadings_1 ?_
  refine lv_istore_n (lv' := [(1, .int mn), (0, .ref (a 0))]) hx hb dX1_dropReadings_4 rfl hl (by decide) rfl (fun ls hl => ?_)
  refine lv_aload_n hx hb dX1_dropReadings_5 rfl (lv_at hl 1 rfl) ?_
  refine lv_iconst (v := 0) hx hb dX1_dropReadings_6 (by decide) ?_
  refine mw_put (w1 := [(a 0, .inr (1, [.int so, .ref (a 1), .long lo, .long hi, .int al, .int ch, .long le, .long gr, .long sw, .long su, .ref (a 2), .ref (a 3), .ref (a 4), .ref (a 5), .int 0])), (a 1, nE f z), (a 2, .inl (D.2.1, 6, .inl KI)), (a 3, .inl (D.2.2.1, 6, .inr (.inl KJ))), (a 4, .inl (D.2.2.2, 6, .inr (.inr (.inr (.inr L))))), (a 5, .inl (D.2.2.1, 16, .inr (.inl KE)))]) G hgf hP hD hS 0 rfl rfl inX1 tyX1_ok nmX1 14 (by decide) qw2_0 rfl rfl rfl rfl (Nat.le_of_ble_eq_true rfl) rfl dX1_dropReadings_7 (fun H locs hP hD hS => ?_)
  refine lv_iload_n hx hb dX1_dropReadings_10 rfl (lv_at hl 0 rfl) ?_
  exact mE_iret () rfl hx hb hr hlocks hP hD hS dX1_dropReadings_11
set_option maxRecDepth 100000 in
set_option maxHeartbeats 4000000 in
theorem cz_keepF (l : Launch) (D : mG) (a : Nat → Nat) (so : Int32) (lo hi : Int64) (al ch : Int32) (le gr sw su : Int64) (mn : Int32) (f z : Bool) (KI : Nat → Int32) (KJ : Nat → Int64) (L : Nat → Option Nat) (KE : Nat → Int64) (v : Int64) (h0 : mn = 0) : cZ l D yX1_keep cX1_keep 3 none (rmP 2) [(a 0, .inr (1, iF a so lo hi al ch le gr sw su mn)), (a 1, nE f z), (a 2, .inl (D.2.1, 6, .inl KI)), (a 3, .inl (D.2.2.1, 6, .inr (.inl KJ))), (a 4, .inl (D.2.2.2, 6, .inr (.inr (.inr (.inr L))))), (a 5, .inl (D.2.2.1, 16, .inr (.inl KE)))] (fun _ => True) [.ref (a 0), .long v] (S := Unit) (fun _ => none) (fun _ => [(a 0, .inr (1, [.int so, .ref (a 1), .long lo, .long hi, .int al, .int ch, .long v, .long v, .long 0, .long (gn_amount f z v), .ref (a 2), .ref (a 3), .ref (a 4), .ref (a 5), .int (mn + 1)])), (a 1, nE f z), (a 2, .inl (D.2.1, 6, .inl KI)), (a 3, .inl (D.2.2.1, 6, .inr (.inl KJ))), (a 4, .inl (D.2.2.2, 6, .inr (.inr (.inr (.inr L))))), (a 5, .inl (D.2.2.1, 16, .inr (.inl (vp_updL KE (mn &&& 15).toNatClampNeg v))))]) := by
  refine cZ_of (by decide) (Nat.le_of_ble_eq_true rfl) ?_
  intro p e s m below meth c ls A hx hb hr hlocks G hnm hgf hA hpic hP hD hS hl
  have hl : lv_has ls 3 [(0, .ref (a 0)), (1, .long v)] := hl
  have hP : va_P D.1 vwCl [(a 0, .inr (1, iF a so lo hi al ch le gr sw su mn)), (a 1, nE f z), (a 2, .inl (D.2.1, 6, .inl KI)), (a 3, .inl (D.2.2.1, 6, .inr (.inl KJ))), (a 4, .inl (D.2.2.2, 6, .inr (.inr (.inr (.inr L))))), (a 5, .inl (D.2.2.1, 16, .inr (.inl KE)))] s.heap := hP
  have hD : va_D A [(a 0, .inr (1, iF a so lo hi al ch le gr sw su mn)), (a 1, nE f z), (a 2, .inl (D.2.1, 6, .inl KI)), (a 3, .inl (D.2.2.1, 6, .inr (.inl KJ))), (a 4, .inl (D.2.2.2, 6, .inr (.inr (.inr (.inr L))))), (a 5, .inl (D.2.2.1, 16, .inr (.inl KE)))] := hD
  refine lv_aload_n hx hb dX1_keep_0 rfl (lv_at hl 0 rfl) ?_
  refine kV (C := RX1) G (cv_gi_hasRead l D a so lo hi al ch le gr sw su mn f z KI KJ L KE ) okX1_hasRead hgf (va_P.sub hP [0] rfl) (mw_recv hgf (hP 0 _ rfl) rfl) qw2_143 ⟨Nat.le_of_ble_eq_true rfl, Nat.le_of_ble_eq_true rfl⟩ ⟨(Nat.le_of_ble_eq_true rfl), (Nat.le_of_ble_eq_true rfl)⟩ hl.1 (Nat.le_of_ble_eq_true rfl) rfl dX1_keep_1 ?_
  rw [show gi_hasRead mn = 0 from if_pos h0]
  refine lv_if_eq (tgt := 82) hx hb dX1_keep_4 (by decide) (fun _ => ?_) (fun h => absurd (by decide) h)
  refine lv_aload_n hx hb dX1_keep_82 rfl (lv_at hl 0 rfl) ?_
  refine lv_lload_n hx hb dX1_keep_83 rfl (lv_at hl 1 rfl) ?_
  refine mw_put (w1 := [(a 0, .inr (1, [.int so, .ref (a 1), .long lo, .long hi, .int al, .int ch, .long v, .long gr, .long sw, .long su, .ref (a 2), .ref (a 3), .ref (a 4), .ref (a 5), .int mn])), (a 1, nE f z), (a 2, .inl (D.2.1, 6, .inl KI)), (a 3, .inl (D.2.2.1, 6, .inr (.inl KJ))), (a 4, .inl (D.2.2.2, 6, .inr (.inr (.inr (.inr L))))), (a 5, .inl (D.2.2.1, 16, .inr (.inl KE)))]) G hgf hP hD hS 0 rfl rfl inX1 tyX1_ok nmX1 6 (by decide) qw1_228 rfl rfl rfl rfl (Nat.le_of_ble_eq_true rfl) rfl dX1_keep_84 (fun H locs hP hD hS => ?_)
  refine lv_aload_n hx hb dX1_keep_87 rfl (lv_at hl 0 rfl) ?_
  refine lv_lload_n hx hb dX1_keep_88 rfl (lv_at hl 1 rfl) ?_
  refine mw_put (w1 := [(a 0, .inr (1, [.int so, .ref (a 1), .long lo, .long hi, .int al, .int ch, .long v, .long v, .long sw, .long su, .ref (a 2), .ref (a 3), .ref (a 4), .ref (a 5), .int mn])), (a 1, nE f z), (a 2, .inl (D.2.1, 6, .inl KI)), (a 3, .inl (D.2.2.1, 6, .inr (.inl KJ))), (a 4, .inl (D.2.2.2, 6, .inr (.inr (.inr (.inr L))))), (a 5, .inl (D.2.2.1, 16, .inr (.inl KE)))]) G hgf hP hD hS 0 rfl rfl inX1 tyX1_ok nmX1 7 (by decide) qw1_230 rfl rfl rfl rfl (Nat.le_of_ble_eq_true rfl) rfl dX1_keep_89 (fun H locs hP hD hS => ?_)
  refine lv_aload_n hx hb dX1_keep_92 rfl (lv_at hl 0 rfl) ?_
  refine lv_lconst (v := 0) hx hb dX1_keep_93 (by decide) ?_
  refine mw_put (w1 := [(a 0, .inr (1, [.int so, .ref (a 1), .long lo, .long hi, .int al, .int ch, .long v, .long v, .long 0, .long su, .ref (a 2), .ref (a 3), .ref (a 4), .ref (a 5), .int mn])), (a 1, nE f z), (a 2, .inl (D.2.1, 6, .inl KI)), (a 3, .inl (D.2.2.1, 6, .inr (.inl KJ))), (a 4, .inl (D.2.2.2, 6, .inr (.inr (.inr (.inr L))))), (a 5, .inl (D.2.2.1, 16, .inr (.inl KE)))]) G hgf hP hD hS 0 rfl rfl inX1 tyX1_ok nmX1 8 (by decide) qw1_232 rfl rfl rfl rfl (Nat.le_of_ble_eq_true rfl) rfl dX1_keep_94 (fun H locs hP hD hS => ?_)
  refine lv_aload_n hx hb dX1_keep_97 rfl (lv_at hl 0 rfl) ?_
  refine lv_aload_n hx hb dX1_keep_98 rfl (lv_at hl 0 rfl) ?_
  refine mw_get G hgf (hP 0 _ rfl) rfl inX1 1 (by decide) qw1_219 rfl dX1_keep_99 ?_
  refine lv_lload_n hx hb dX1_keep_102 rfl (lv_at hl 1 rfl) ?_
  refine kgn_amount (f := f) (z := z) v G hgf (hP 1 _ rfl) qw3_32 ⟨Nat.le_of_ble_eq_true rfl, Nat.le_of_ble_eq_true rfl⟩ ⟨(Nat.le_of_ble_eq_true rfl), (Nat.le_of_ble_eq_true rfl)⟩ hl.1 (Nat.le_of_ble_eq_true rfl) dX1_keep_103 ?_
  refine mw_put (w1 := [(a 0, .inr (1, [.int so, .ref (a 1), .long lo, .long hi, .int al, .int ch, .long v, .long v, .long 0, .long (gn_amount f z v), .ref (a 2), .ref (a 3), .ref (a 4), .ref (a 5), .int mn])), (a 1, nE f z), (a 2, .inl (D.2.1, 6, .inl KI)), (a 3, .inl (D.2.2.1, 6, .inr (.inl KJ))), (a 4, .inl (D.2.2.2, 6, .inr (.inr (.inr (.inr L))))), (a 5, .inl (D.2.2.1, 16, .inr (.inl KE)))]) G hgf hP hD hS 0 rfl rfl inX1 tyX1_ok nmX1 9 (by decide) qw1_234 rfl rfl rfl rfl (Nat.le_of_ble_eq_true rfl) rfl dX1_keep_106 (fun H locs hP hD hS => ?_)
  refine lv_aload_n hx hb dX1_keep_109 rfl (lv_at hl 0 rfl) ?_
  refine mw_get G hgf (hP 0 _ rfl) rfl inX1 13 (by decide) qw1_239 rfl dX1_keep_110 ?_
  refine lv_aload_n hx hb dX1_keep_113 rfl (lv_at hl 0 rfl) ?_
  refine mw_get G hgf (hP 0 _ rfl) rfl inX1 14 (by decide) qw2_0 rfl dX1_keep_114 ?_
  refine lv_bipush (v := 15) hx hb dX1_keep_117 (by decide) ?_
  refine lv_iand hx hb dX1_keep_119 ?_
  refine lv_lload_n hx hb dX1_keep_120 rfl (lv_at hl 1 rfl) ?_
  refine mw_last (f := KE) (w1 := [(a 0, .inr (1, [.int so, .ref (a 1), .long lo, .long hi, .int al, .int ch, .long v, .long v, .long 0, .long (gn_amount f z v), .ref (a 2), .ref (a 3), .ref (a 4), .ref (a 5), .int mn])), (a 1, nE f z), (a 2, .inl (D.2.1, 6, .inl KI)), (a 3, .inl (D.2.2.1, 6, .inr (.inl KJ))), (a 4, .inl (D.2.2.2, 6, .inr (.inr (.inr (.inr L))))), (a 5, .inl (D.2.2.1, 16, .inr (.inl (vp_updL KE (mn &&& 15).toNatClampNeg v))))]) G hgf hP hD hS 5 rfl (in16 _) rfl dX1_keep_121 (fun H locs hP hD hS => ?_)
  refine lv_aload_n hx hb dX1_keep_122 rfl (lv_at hl 0 rfl) ?_
  refine lv_dup hx hb dX1_keep_123 rfl ?_
  refine mw_get G hgf (hP 0 _ rfl) rfl inX1 14 (by decide) qw2_0 rfl dX1_keep_124 ?_
  refine lv_iconst (v := 1) hx hb dX1_keep_127 (by decide) ?_
  refine lv_iadd hx hb dX1_keep_128 ?_
  refine mw_put (w1 := [(a 0, .inr (1, [.int so, .ref (a 1), .long lo, .long hi, .int al, .int ch, .long v, .long v, .long 0, .long (gn_amount f z v), .ref (a 2), .ref (a 3), .ref (a 4), .ref (a 5), .int (mn + 1)])), (a 1, nE f z), (a 2, .inl (D.2.1, 6, .inl KI)), (a 3, .inl (D.2.2.1, 6, .inr (.inl KJ))), (a 4, .inl (D.2.2.2, 6, .inr (.inr (.inr (.inr L))))), (a 5, .inl (D.2.2.1, 16, .inr (.inl (vp_updL KE (mn &&& 15).toNatClampNeg v))))]) G hgf hP hD hS 0 rfl rfl inX1 tyX1_ok nmX1 14 (by decide) qw2_0 rfl rfl rfl rfl (Nat.le_of_ble_eq_true rfl) rfl dX1_keep_129 (fun H locs hP hD hS => ?_)
  exact mE_vret () rfl hx hb hr hlocks hP hD hS dX1_keep_132
set_option maxRecDepth 100000 in
set_option maxHeartbeats 4000000 in
theorem cz_keepN (l : Launch) (D : mG) (a : Nat → Nat) (so : Int32) (lo hi : Int64) (al ch : Int32) (le gr sw su : Int64) (mn : Int32) (f z : Bool) (KI : Nat → Int32) (KJ : Nat → Int64) (L : Nat → Option Nat) (KE : Nat → Int64) (v : Int64) (h0 : ¬ mn = 0) : cZ l D yX1_keep cX1_keep 3 none (rmP 4) [(a 0, .inr (1, iF a so lo hi al ch le gr sw su mn)), (a 1, nE f z), (a 2, .inl (D.2.1, 6, .inl KI)), (a 3, .inl (D.2.2.1, 6, .inr (.inl KJ))), (a 4, .inl (D.2.2.2, 6, .inr (.inr (.inr (.inr L))))), (a 5, .inl (D.2.2.1, 16, .inr (.inl KE)))] (fun _ => True) [.ref (a 0), .long v] (S := Unit) (fun _ => none) (fun _ => [(a 0, .inr (1, [.int so, .ref (a 1), .long lo, .long hi, .int al, .int ch, .long (gn_lesser f z le v), .long (gn_greater f z gr v), .long (gn_apart f z v (gi_latest mn KE 0)), .long (gn_plus f z su (gn_amount f z v)), .ref (a 2), .ref (a 3), .ref (a 4), .ref (a 5), .int (mn + 1)])), (a 1, nE f z), (a 2, .inl (D.2.1, 6, .inl KI)), (a 3, .inl (D.2.2.1, 6, .inr (.inl KJ))), (a 4, .inl (D.2.2.2, 6, .inr (.inr (.inr (.inr L))))), (a 5, .inl (D.2.2.1, 16, .inr (.inl (vp_updL KE (mn &&& 15).toNatClampNeg v))))]) := by
  refine cZ_of (by decide) (Nat.le_of_ble_eq_true rfl) ?_
  intro p e s m below meth c ls A hx hb hr hlocks G hnm hgf hA hpic hP hD hS hl
  have hl : lv_has ls 3 [(0, .ref (a 0)), (1, .long v)] := hl
  have hP : va_P D.1 vwCl [(a 0, .inr (1, iF a so lo hi al ch le gr sw su mn)), (a 1, nE f z), (a 2, .inl (D.2.1, 6, .inl KI)), (a 3, .inl (D.2.2.1, 6, .inr (.inl KJ))), (a 4, .inl (D.2.2.2, 6, .inr (.inr (.inr (.inr L))))), (a 5, .inl (D.2.2.1, 16, .inr (.inl KE)))] s.heap := hP
  have hD : va_D A [(a 0, .inr (1, iF a so lo hi al ch le gr sw su mn)), (a 1, nE f z), (a 2, .inl (D.2.1, 6, .inl KI)), (a 3, .inl (D.2.2.1, 6, .inr (.inl KJ))), (a 4, .inl (D.2.2.2, 6, .inr (.inr (.inr (.inr L))))), (a 5, .inl (D.2.2.1, 16, .inr (.inl KE)))] := hD
  refine lv_aload_n hx hb dX1_keep_0 rfl (lv_at hl 0 rfl) ?_
  refine kV (C := RX1) G (cv_gi_hasRead l D a so lo hi al ch le gr sw su mn f z KI KJ L KE ) okX1_hasRead hgf (va_P.sub hP [0] rfl) (mw_recv hgf (hP 0 _ rfl) rfl) qw2_143 ⟨Nat.le_of_ble_eq_true rfl, Nat.le_of_ble_eq_true rfl⟩ ⟨(Nat.le_of_ble_eq_true rfl), (Nat.le_of_ble_eq_true rfl)⟩ hl.1 (Nat.le_of_ble_eq_true rfl) rfl dX1_keep_1 ?_
  rw [show gi_hasRead mn = 1 from if_neg h0]
  refine lv_if_eq (tgt := 82) hx hb dX1_keep_4 (by decide) (fun h => absurd h (by decide)) (fun _ => ?_)
  refine lv_aload_n hx hb dX1_keep_7 rfl (lv_at hl 0 rfl) ?_
  refine lv_aload_n hx hb dX1_keep_8 rfl (lv_at hl 0 rfl) ?_
  refine mw_get G hgf (hP 0 _ rfl) rfl inX1 1 (by decide) qw1_219 rfl dX1_keep_9 ?_
  refine lv_aload_n hx hb dX1_keep_12 rfl (lv_at hl 0 rfl) ?_
  refine mw_get G hgf (hP 0 _ rfl) rfl inX1 6 (by decide) qw1_228 rfl dX1_keep_13 ?_
  refine lv_lload_n hx hb dX1_keep_16 rfl (lv_at hl 1 rfl) ?_
  refine kgn_lesser (f := f) (z := z) le v G hgf (hP 1 _ rfl) qw2_226 ⟨Nat.le_of_ble_eq_true rfl, Nat.le_of_ble_eq_true rfl⟩ ⟨(Nat.le_of_ble_eq_true rfl), (Nat.le_of_ble_eq_true rfl)⟩ hl.1 (Nat.le_of_ble_eq_true rfl) dX1_keep_17 ?_
  refine mw_put (w1 := [(a 0, .inr (1, [.int so, .ref (a 1), .long lo, .long hi, .int al, .int ch, .long (gn_lesser f z le v), .long gr, .long sw, .long su, .ref (a 2), .ref (a 3), .ref (a 4), .ref (a 5), .int mn])), (a 1, nE f z), (a 2, .inl (D.2.1, 6, .inl KI)), (a 3, .inl (D.2.2.1, 6, .inr (.inl KJ))), (a 4, .inl (D.2.2.2, 6, .inr (.inr (.inr (.inr L))))), (a 5, .inl (D.2.2.1, 16, .inr (.inl KE)))]) G hgf hP hD hS 0 rfl rfl inX1 tyX1_ok nmX1 6 (by decide) qw1_228 rfl rfl rfl rfl (Nat.le_of_ble_eq_true rfl) rfl dX1_keep_20 (fun H locs hP hD hS => ?_)
  refine lv_aload_n hx hb dX1_keep_23 rfl (lv_at hl 0 rfl) ?_
  refine lv_aload_n hx hb dX1_keep_24 rfl (lv_at hl 0 rfl) ?_
  refine mw_get G hgf (hP 0 _ rfl) rfl inX1 1 (by decide) qw1_219 rfl dX1_keep_25 ?_
  refine lv_aload_n hx hb dX1_keep_28 rfl (lv_at hl 0 rfl) ?_
  refine mw_get G hgf (hP 0 _ rfl) rfl inX1 7 (by decide) qw1_230 rfl dX1_keep_29 ?_
  refine lv_lload_n hx hb dX1_keep_32 rfl (lv_at hl 1 rfl) ?_
  refine kgn_greater (f := f) (z := z) gr v G hgf (hP 1 _ rfl) qw2_227 ⟨Nat.le_of_ble_eq_true rfl, Nat.le_of_ble_eq_true rfl⟩ ⟨(Nat.le_of_ble_eq_true rfl), (Nat.le_of_ble_eq_true rfl)⟩ hl.1 (Nat.le_of_ble_eq_true rfl) dX1_keep_33 ?_
  refine mw_put (w1 := [(a 0, .inr (1, [.int so, .ref (a 1), .long lo, .long hi, .int al, .int ch, .long (gn_lesser f z le v), .long (gn_greater f z gr v), .long sw, .long su, .ref (a 2), .ref (a 3), .ref (a 4), .ref (a 5), .int mn])), (a 1, nE f z), (a 2, .inl (D.2.1, 6, .inl KI)), (a 3, .inl (D.2.2.1, 6, .inr (.inl KJ))), (a 4, .inl (D.2.2.2, 6, .inr (.inr (.inr (.inr L))))), (a 5, .inl (D.2.2.1, 16, .inr (.inl KE)))]) G hgf hP hD hS 0 rfl rfl inX1 tyX1_ok nmX1 7 (by decide) qw1_230 rfl rfl rfl rfl (Nat.le_of_ble_eq_true rfl) rfl dX1_keep_36 (fun H locs hP hD hS => ?_)
  refine lv_aload_n hx hb dX1_keep_39 rfl (lv_at hl 0 rfl) ?_
  refine lv_aload_n hx hb dX1_keep_40 rfl (lv_at hl 0 rfl) ?_
  refine mw_get G hgf (hP 0 _ rfl) rfl inX1 1 (by decide) qw1_219 rfl dX1_keep_41 ?_
  refine lv_lload_n hx hb dX1_keep_44 rfl (lv_at hl 1 rfl) ?_
  refine lv_aload_n hx hb dX1_keep_45 rfl (lv_at hl 0 rfl) ?_
  refine lv_iconst (v := 0) hx hb dX1_keep_46 (by decide) ?_
  refine kV (C := RX1) G (cv_gi_latest l D a so lo hi al ch (gn_lesser f z le v) (gn_greater f z gr v) sw su mn f z KI KJ L KE 0) okX1_latest hgf (va_P.sub hP [0, 5] rfl) (mw_recv hgf (hP 0 _ rfl) rfl) qw2_147 ⟨Nat.le_of_ble_eq_true rfl, Nat.le_of_ble_eq_true rfl⟩ ⟨(Nat.le_of_ble_eq_true rfl), (Nat.le_of_ble_eq_true rfl)⟩ hl.1 (Nat.le_of_ble_eq_true rfl) rfl dX1_keep_47 ?_
  refine kgn_apart (f := f) (z := z) v (gi_latest mn KE 0) G hgf (hP 1 _ rfl) qw2_228 ⟨Nat.le_of_ble_eq_true rfl, Nat.le_of_ble_eq_true rfl⟩ ⟨(Nat.le_of_ble_eq_true rfl), (Nat.le_of_ble_eq_true rfl)⟩ hl.1 (Nat.le_of_ble_eq_true rfl) dX1_keep_50 ?_
  refine mw_put (w1 := [(a 0, .inr (1, [.int so, .ref (a 1), .long lo, .long hi, .int al, .int ch, .long (gn_lesser f z le v), .long (gn_greater f z gr v), .long (gn_apart f z v (gi_latest mn KE 0)), .long su, .ref (a 2), .ref (a 3), .ref (a 4), .ref (a 5), .int mn])), (a 1, nE f z), (a 2, .inl (D.2.1, 6, .inl KI)), (a 3, .inl (D.2.2.1, 6, .inr (.inl KJ))), (a 4, .inl (D.2.2.2, 6, .inr (.inr (.inr (.inr L))))), (a 5, .inl (D.2.2.1, 16, .inr (.inl KE)))]) G hgf hP hD hS 0 rfl rfl inX1 tyX1_ok nmX1 8 (by decide) qw1_232 rfl rfl rfl rfl (Nat.le_of_ble_eq_true rfl) rfl dX1_keep_53 (fun H locs hP hD hS => ?_)
  refine lv_aload_n hx hb dX1_keep_56 rfl (lv_at hl 0 rfl) ?_
  refine lv_aload_n hx hb dX1_keep_57 rfl (lv_at hl 0 rfl) ?_
  refine mw_get G hgf (hP 0 _ rfl) rfl inX1 1 (by decide) qw1_219 rfl dX1_keep_58 ?_
  refine lv_aload_n hx hb dX1_keep_61 rfl (lv_at hl 0 rfl) ?_
  refine mw_get G hgf (hP 0 _ rfl) rfl inX1 9 (by decide) qw1_234 rfl dX1_keep_62 ?_
  refine lv_aload_n hx hb dX1_keep_65 rfl (lv_at hl 0 rfl) ?_
  refine mw_get G hgf (hP 0 _ rfl) rfl inX1 1 (by decide) qw1_219 rfl dX1_keep_66 ?_
  refine lv_lload_n hx hb dX1_keep_69 rfl (lv_at hl 1 rfl) ?_
  refine kgn_amount (f := f) (z := z) v G hgf (hP 1 _ rfl) qw3_32 ⟨Nat.le_of_ble_eq_true rfl, Nat.le_of_ble_eq_true rfl⟩ ⟨(Nat.le_of_ble_eq_true rfl), (Nat.le_of_ble_eq_true rfl)⟩ hl.1 (Nat.le_of_ble_eq_true rfl) dX1_keep_70 ?_
  refine kgn_plus (f := f) (z := z) su (gn_amount f z v) G hgf (hP 1 _ rfl) qw3_33 ⟨Nat.le_of_ble_eq_true rfl, Nat.le_of_ble_eq_true rfl⟩ ⟨(Nat.le_of_ble_eq_true rfl), (Nat.le_of_ble_eq_true rfl)⟩ hl.1 (Nat.le_of_ble_eq_true rfl) dX1_keep_73 ?_
  refine mw_put (w1 := [(a 0, .inr (1, [.int so, .ref (a 1), .long lo, .long hi, .int al, .int ch, .long (gn_lesser f z le v), .long (gn_greater f z gr v), .long (gn_apart f z v (gi_latest mn KE 0)), .long (gn_plus f z su (gn_amount f z v)), .ref (a 2), .ref (a 3), .ref (a 4), .ref (a 5), .int mn])), (a 1, nE f z), (a 2, .inl (D.2.1, 6, .inl KI)), (a 3, .inl (D.2.2.1, 6, .inr (.inl KJ))), (a 4, .inl (D.2.2.2, 6, .inr (.inr (.inr (.inr L))))), (a 5, .inl (D.2.2.1, 16, .inr (.inl KE)))]) G hgf hP hD hS 0 rfl rfl inX1 tyX1_ok nmX1 9 (by decide) qw1_234 rfl rfl rfl rfl (Nat.le_of_ble_eq_true rfl) rfl dX1_keep_76 (fun H locs hP hD hS => ?_)
  refine lv_goto (tgt := 109) hx hb dX1_keep_79 (by decide) ?_
  refine lv_aload_n hx hb dX1_keep_109 rfl (lv_at hl 0 rfl) ?_
  refine mw_get G hgf (hP 0 _ rfl) rfl inX1 13 (by decide) qw1_239 rfl dX1_keep_110 ?_
  refine lv_aload_n hx hb dX1_keep_113 rfl (lv_at hl 0 rfl) ?_
  refine mw_get G hgf (hP 0 _ rfl) rfl inX1 14 (by decide) qw2_0 rfl dX1_keep_114 ?_
  refine lv_bipush (v := 15) hx hb dX1_keep_117 (by decide) ?_
  refine lv_iand hx hb dX1_keep_119 ?_
  refine lv_lload_n hx hb dX1_keep_120 rfl (lv_at hl 1 rfl) ?_
  refine mw_last (f := KE) (w1 := [(a 0, .inr (1, [.int so, .ref (a 1), .long lo, .long hi, .int al, .int ch, .long (gn_lesser f z le v), .long (gn_greater f z gr v), .long (gn_apart f z v (gi_latest mn KE 0)), .long (gn_plus f z su (gn_amount f z v)), .ref (a 2), .ref (a 3), .ref (a 4), .ref (a 5), .int mn])), (a 1, nE f z), (a 2, .inl (D.2.1, 6, .inl KI)), (a 3, .inl (D.2.2.1, 6, .inr (.inl KJ))), (a 4, .inl (D.2.2.2, 6, .inr (.inr (.inr (.inr L))))), (a 5, .inl (D.2.2.1, 16, .inr (.inl (vp_updL KE (mn &&& 15).toNatClampNeg v))))]) G hgf hP hD hS 5 rfl (in16 _) rfl dX1_keep_121 (fun H locs hP hD hS => ?_)
  refine lv_aload_n hx hb dX1_keep_122 rfl (lv_at hl 0 rfl) ?_
  refine lv_dup hx hb dX1_keep_123 rfl ?_
  refine mw_get G hgf (hP 0 _ rfl) rfl inX1 14 (by decide) qw2_0 rfl dX1_keep_124 ?_
  refine lv_iconst (v := 1) hx hb dX1_keep_127 (by decide) ?_
  refine lv_iadd hx hb dX1_keep_128 ?_
  refine mw_put (w1 := [(a 0, .inr (1, [.int so, .ref (a 1), .long lo, .long hi, .int al, .int ch, .long (gn_lesser f z le v), .long (gn_greater f z gr v), .long (gn_apart f z v (gi_latest mn KE 0)), .long (gn_plus f z su (gn_amount f z v)), .ref (a 2), .ref (a 3), .ref (a 4), .ref (a 5), .int (mn + 1)])), (a 1, nE f z), (a 2, .inl (D.2.1, 6, .inl KI)), (a 3, .inl (D.2.2.1, 6, .inr (.inl KJ))), (a 4, .inl (D.2.2.2, 6, .inr (.inr (.inr (.inr L))))), (a 5, .inl (D.2.2.1, 16, .inr (.inl (vp_updL KE (mn &&& 15).toNatClampNeg v))))]) G hgf hP hD hS 0 rfl rfl inX1 tyX1_ok nmX1 14 (by decide) qw2_0 rfl rfl rfl rfl (Nat.le_of_ble_eq_true rfl) rfl dX1_keep_129 (fun H locs hP hD hS => ?_)
  exact mE_vret () rfl hx hb hr hlocks hP hD hS dX1_keep_132
