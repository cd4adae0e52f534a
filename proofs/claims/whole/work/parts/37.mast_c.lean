/-! THE MAST: what it does -/
set_option maxRecDepth 100000 in
set_option maxHeartbeats 4000000 in
theorem cz_step_1 (l : Launch) (D : mG) (x xa : Nat) (n rd ae se : Int32) (IA : Nat → Option Nat) (a : Nat → Nat) (so : Int32) (lo hi : Int64) (al ch : Int32) (le gr sw su : Int64) (mn : Int32) (f z : Bool) (KI : Nat → Int32) (KJ : Nat → Int64) (L : Nat → Option Nat) (KE : Nat → Int64) (st : Int32) (k : Int64) {N : Nat} (hn : n = nI N) (hN : N ≤ 8) {j : Nat} (hj : j < N) (hq : IA j = some (a 0)) (hch : vp_in ch 6) (h1 : ¬ gn_hasStep f z st = 0) (h2 : fX4_takesK st = 0) (h4 : gi_chainIsFull ch = 0) : cZ l D yX4_step cX4_step 9 (some .int) (rmP 2) [(x, .inr (3, xF xa n rd ae se)), (xa, .inl (D.2.2.2, 8, .inr (.inr (.inr (.inr IA))))), (a 0, .inr (1, iF a so lo hi al ch le gr sw su mn)), (a 1, nE f z), (a 2, .inl (D.2.1, 6, .inl KI)), (a 3, .inl (D.2.2.1, 6, .inr (.inl KJ))), (a 4, .inl (D.2.2.2, 6, .inr (.inr (.inr (.inr L))))), (a 5, .inl (D.2.2.1, 16, .inr (.inl KE)))] (fun _ => True) [.ref x, .int (nI j), .int st, .long k] (S := Unit) (fun _ => some (.int (ch + 1))) (fun _ => [(x, .inr (3, xF xa n rd ae se)), (xa, .inl (D.2.2.2, 8, .inr (.inr (.inr (.inr IA))))), (a 0, .inr (1, [.int so, .ref (a 1), .long lo, .long hi, .int al, .int (ch + 1), .long le, .long gr, .long sw, .long su, .ref (a 2), .ref (a 3), .ref (a 4), .ref (a 5), .int mn])), (a 1, nE f z), (a 2, .inl (D.2.1, 6, .inl (upd KI ch.toNatClampNeg st))), (a 3, .inl (D.2.2.1, 6, .inr (.inl (vp_updL KJ ch.toNatClampNeg (gn_ofWidth f z k))))), (a 4, .inl (D.2.2.2, 6, .inr (.inr (.inr (.inr (va_up L ch.toNatClampNeg none)))))), (a 5, .inl (D.2.2.1, 16, .inr (.inl KE)))]) := by
  refine cZ_of (by decide) (Nat.le_of_ble_eq_true rfl) ?_
  intro p e s m below meth c ls A hx hb hr hlocks G hnm hgf hA hK hP hD hS hl
  have hP : va_P D.1 vwCl [(x, .inr (3, xF xa n rd ae se)), (xa, .inl (D.2.2.2, 8, .inr (.inr (.inr (.inr IA))))), (a 0, .inr (1, iF a so lo hi al ch le gr sw su mn)), (a 1, nE f z), (a 2, .inl (D.2.1, 6, .inl KI)), (a 3, .inl (D.2.2.1, 6, .inr (.inl KJ))), (a 4, .inl (D.2.2.2, 6, .inr (.inr (.inr (.inr L))))), (a 5, .inl (D.2.2.1, 16, .inr (.inl KE)))] s.heap := hP
  have hD : va_D A [(x, .inr (3, xF xa n rd ae se)), (xa, .inl (D.2.2.2, 8, .inr (.inr (.inr (.inr IA))))), (a 0, .inr (1, iF a so lo hi al ch le gr sw su mn)), (a 1, nE f z), (a 2, .inl (D.2.1, 6, .inl KI)), (a 3, .inl (D.2.2.1, 6, .inr (.inl KJ))), (a 4, .inl (D.2.2.2, 6, .inr (.inr (.inr (.inr L))))), (a 5, .inl (D.2.2.1, 16, .inr (.inl KE)))] := hD
  have hl : lv_has ls 9 [(0, .ref x), (1, .int (nI j)), (2, .int st), (3, .long k)] := hl
  refine lv_aload_n hx hb dX4_step_0 rfl (lv_at hl 0 rfl) ?_
  refine lv_iload_n hx hb dX4_step_1 rfl (lv_at hl 1 rfl) ?_
  refine kV (C := RX4) G (cv_instAt l D x xa n rd ae se IA hn hN hj hq) okX4_instrumentAt hgf (va_P.sub hP [0, 1] rfl) (mw_recv hgf (hP 0 _ rfl) rfl) qw2_43 ⟨Nat.le_of_ble_eq_true rfl, Nat.le_of_ble_eq_true rfl⟩ ⟨(Nat.le_of_ble_eq_true rfl), (Nat.le_of_ble_eq_true rfl)⟩ hl.1 (Nat.le_of_ble_eq_true rfl) rfl dX4_step_2 ?_
  refine lv_astore (lv' := [(5, .ref (a 0)), (0, .ref x), (1, .int (nI j)), (2, .int st), (3, .long k)]) hx hb dX4_step_5 hl (by decide) rfl (fun ls hl => ?_)
  refine lv_aload hx hb dX4_step_7 (lv_at hl 0 rfl) ?_
  refine mw_get G hgf (hP 2 _ rfl) rfl inX1 1 (by decide) qw1_220 rfl dX4_step_9 ?_
  refine lv_astore (lv' := [(6, .ref (a 1)), (5, .ref (a 0)), (0, .ref x), (1, .int (nI j)), (2, .int st), (3, .long k)]) hx hb dX4_step_12 hl (by decide) rfl (fun ls hl => ?_)
  refine lv_aload hx hb dX4_step_14 (lv_at hl 0 rfl) ?_
  refine lv_iload_n hx hb dX4_step_16 rfl (lv_at hl 4 rfl) ?_
  refine kgn_hasStep (f := f) (z := z) st G hgf (hP 3 _ rfl) qw2_63 ⟨Nat.le_of_ble_eq_true rfl, Nat.le_of_ble_eq_true rfl⟩ ⟨(Nat.le_of_ble_eq_true rfl), (Nat.le_of_ble_eq_true rfl)⟩ hl.1 (Nat.le_of_ble_eq_true rfl) dX4_step_17 ?_
  refine lv_if_ne (tgt := 33) hx hb dX4_step_20 (by decide) (fun _ => ?_) (fun h => absurd h h1)
  refine lv_aload hx hb dX4_step_33 (lv_at hl 0 rfl) ?_
  refine lv_lload_n hx hb dX4_step_35 rfl (lv_at hl 5 rfl) ?_
  refine kgn_ofWidth (f := f) (z := z) k G hgf (hP 3 _ rfl) qw2_70 ⟨Nat.le_of_ble_eq_true rfl, Nat.le_of_ble_eq_true rfl⟩ ⟨(Nat.le_of_ble_eq_true rfl), (Nat.le_of_ble_eq_true rfl)⟩ hl.1 (Nat.le_of_ble_eq_true rfl) dX4_step_36 ?_
  refine lv_lstore (lv' := [(7, .long (gn_ofWidth f z k)), (6, .ref (a 1)), (5, .ref (a 0)), (0, .ref x), (1, .int (nI j)), (2, .int st), (3, .long k)]) hx hb dX4_step_39 hl (by decide) rfl (fun ls hl => ?_)
  refine lv_iload_n hx hb dX4_step_41 rfl (lv_at hl 5 rfl) ?_
  refine kS G (cvX4_takesK l D st) okX4_takesK hgf trivial qw2_76 ⟨Nat.le_of_ble_eq_true rfl, Nat.le_of_ble_eq_true rfl⟩ ⟨(Nat.le_of_ble_eq_true rfl), (Nat.le_of_ble_eq_true rfl)⟩ hl.1 (Nat.le_of_ble_eq_true rfl) rfl dX4_step_42 ?_
  refine lv_if_eq (tgt := 68) hx hb dX4_step_45 (by decide) (fun _ => ?_) (fun h => absurd h2 h)
  refine lv_aload hx hb dX4_step_68 (lv_at hl 2 rfl) ?_
  refine kV (C := RX1) G (cv_gi_chainIsFull l D a so lo hi al ch le gr sw su mn f z KI KJ L KE ) okX1_chainIsFull hgf (va_P.sub hP [2, 4] rfl) (mw_recv hgf (hP 2 _ rfl) rfl) qw2_93 ⟨Nat.le_of_ble_eq_true rfl, Nat.le_of_ble_eq_true rfl⟩ ⟨(Nat.le_of_ble_eq_true rfl), (Nat.le_of_ble_eq_true rfl)⟩ hl.1 (Nat.le_of_ble_eq_true rfl) rfl dX4_step_70 ?_
  refine lv_if_eq (tgt := 86) hx hb dX4_step_73 (by decide) (fun _ => ?_) (fun h => absurd h4 h)
  refine lv_aload hx hb dX4_step_86 (lv_at hl 2 rfl) ?_
  refine lv_iload_n hx hb dX4_step_88 rfl (lv_at hl 5 rfl) ?_
  refine lv_lload hx hb dX4_step_89 (lv_at hl 0 rfl) ?_
  refine lv_null hx hb dX4_step_91 ?_
  refine kZ (C := RX1) (wr := [(x, .inr (3, xF xa n rd ae se)), (xa, .inl (D.2.2.2, 8, .inr (.inr (.inr (.inr IA)))))]) G (cz_addStep_n l D a so lo hi al ch le gr sw su mn f z KI KJ L KE st (gn_ofWidth f z k) hch h4) okO_X1_addStep hgf hP hD hS hA trivial [2, 3, 4, 5, 6, 7] [0, 1] rfl rfl rfl rfl (by decide) (mw_recv hgf (hP 2 _ rfl) rfl) qw2_113 ⟨Nat.le_of_ble_eq_true rfl, Nat.le_of_ble_eq_true rfl⟩ ⟨(Nat.le_of_ble_eq_true rfl), (Nat.le_of_ble_eq_true rfl)⟩ hl.1 (Nat.le_of_ble_eq_true rfl) rfl dX4_step_92 (fun _ H locs hP hD hS => ?_)
  have hP : va_P D.1 vwCl [(x, .inr (3, xF xa n rd ae se)), (xa, .inl (D.2.2.2, 8, .inr (.inr (.inr (.inr IA))))), (a 0, .inr (1, [.int so, .ref (a 1), .long lo, .long hi, .int al, .int (ch + 1), .long le, .long gr, .long sw, .long su, .ref (a 2), .ref (a 3), .ref (a 4), .ref (a 5), .int mn])), (a 1, nE f z), (a 2, .inl (D.2.1, 6, .inl (upd KI ch.toNatClampNeg st))), (a 3, .inl (D.2.2.1, 6, .inr (.inl (vp_updL KJ ch.toNatClampNeg (gn_ofWidth f z k))))), (a 4, .inl (D.2.2.2, 6, .inr (.inr (.inr (.inr (va_up L ch.toNatClampNeg none)))))), (a 5, .inl (D.2.2.1, 16, .inr (.inl KE)))] H := hP
  have hD : va_D A [(x, .inr (3, xF xa n rd ae se)), (xa, .inl (D.2.2.2, 8, .inr (.inr (.inr (.inr IA))))), (a 0, .inr (1, [.int so, .ref (a 1), .long lo, .long hi, .int al, .int (ch + 1), .long le, .long gr, .long sw, .long su, .ref (a 2), .ref (a 3), .ref (a 4), .ref (a 5), .int mn])), (a 1, nE f z), (a 2, .inl (D.2.1, 6, .inl (upd KI ch.toNatClampNeg st))), (a 3, .inl (D.2.2.1, 6, .inr (.inl (vp_updL KJ ch.toNatClampNeg (gn_ofWidth f z k))))), (a 4, .inl (D.2.2.2, 6, .inr (.inr (.inr (.inr (va_up L ch.toNatClampNeg none)))))), (a 5, .inl (D.2.2.1, 16, .inr (.inl KE)))] := hD
  exact mE_iret () (congrArg (fun t : Int32 => some (Value.int t)) (rfl)) hx hb hr hlocks hP hD hS dX4_step_95
set_option maxRecDepth 100000 in
set_option maxHeartbeats 4000000 in
theorem cz_step_2 (l : Launch) (D : mG) (x xa : Nat) (n rd ae se : Int32) (IA : Nat → Option Nat) (a : Nat → Nat) (so : Int32) (lo hi : Int64) (al ch : Int32) (le gr sw su : Int64) (mn : Int32) (f z : Bool) (KI : Nat → Int32) (KJ : Nat → Int64) (L : Nat → Option Nat) (KE : Nat → Int64) (st : Int32) (k : Int64) {N : Nat} (hn : n = nI N) (hN : N ≤ 8) {j : Nat} (hj : j < N) (hq : IA j = some (a 0)) (hch : vp_in ch 6) (h1 : ¬ gn_hasStep f z st = 0) (h2 : ¬ fX4_takesK st = 0) (h3 : ¬ gn_isNumber f z (gn_ofWidth f z k) = 0) (h4 : gi_chainIsFull ch = 0) : cZ l D yX4_step cX4_step 9 (some .int) (rmP 2) [(x, .inr (3, xF xa n rd ae se)), (xa, .inl (D.2.2.2, 8, .inr (.inr (.inr (.inr IA))))), (a 0, .inr (1, iF a so lo hi al ch le gr sw su mn)), (a 1, nE f z), (a 2, .inl (D.2.1, 6, .inl KI)), (a 3, .inl (D.2.2.1, 6, .inr (.inl KJ))), (a 4, .inl (D.2.2.2, 6, .inr (.inr (.inr (.inr L))))), (a 5, .inl (D.2.2.1, 16, .inr (.inl KE)))] (fun _ => True) [.ref x, .int (nI j), .int st, .long k] (S := Unit) (fun _ => some (.int (ch + 1))) (fun _ => [(x, .inr (3, xF xa n rd ae se)), (xa, .inl (D.2.2.2, 8, .inr (.inr (.inr (.inr IA))))), (a 0, .inr (1, [.int so, .ref (a 1), .long lo, .long hi, .int al, .int (ch + 1), .long le, .long gr, .long sw, .long su, .ref (a 2), .ref (a 3), .ref (a 4), .ref (a 5), .int mn])), (a 1, nE f z), (a 2, .inl (D.2.1, 6, .inl (upd KI ch.toNatClampNeg st))), (a 3, .inl (D.2.2.1, 6, .inr (.inl (vp_updL KJ ch.toNatClampNeg (gn_ofWidth f z k))))), (a 4, .inl (D.2.2.2, 6, .inr (.inr (.inr (.inr (va_up L ch.toNatClampNeg none)))))), (a 5, .inl (D.2.2.1, 16, .inr (.inl KE)))]) := by
  refine cZ_of (by decide) (Nat.le_of_ble_eq_true rfl) ?_
  intro p e s m below meth c ls A hx hb hr hlocks G hnm hgf hA hK hP hD hS hl
  have hP : va_P D.1 vwCl [(x, .inr (3, xF xa n rd ae se)), (xa, .inl (D.2.2.2, 8, .inr (.inr (.inr (.inr IA))))), (a 0, .inr (1, iF a so lo hi al ch le gr sw su mn)), (a 1, nE f z), (a 2, .inl (D.2.1, 6, .inl KI)), (a 3, .inl (D.2.2.1, 6, .inr (.inl KJ))), (a 4, .inl (D.2.2.2, 6, .inr (.inr (.inr (.inr L))))), (a 5, .inl (D.2.2.1, 16, .inr (.inl KE)))] s.heap := hP
  have hD : va_D A [(x, .inr (3, xF xa n rd ae se)), (xa, .inl (D.2.2.2, 8, .inr (.inr (.inr (.inr IA))))), (a 0, .inr (1, iF a so lo hi al ch le gr sw su mn)), (a 1, nE f z), (a 2, .inl (D.2.1, 6, .inl KI)), (a 3, .inl (D.2.2.1, 6, .inr (.inl KJ))), (a 4, .inl (D.2.2.2, 6, .inr (.inr (.inr (.inr L))))), (a 5, .inl (D.2.2.1, 16, .inr (.inl KE)))] := hD
  have hl : lv_has ls 9 [(0, .ref x), (1, .int (nI j)), (2, .int st), (3, .long k)] := hl
  refine lv_aload_n hx hb dX4_step_0 rfl (lv_at hl 0 rfl) ?_
  refine lv_iload_n hx hb dX4_step_1 rfl (lv_at hl 1 rfl) ?_
  refine kV (C := RX4) G (cv_instAt l D x xa n rd ae se IA hn hN hj hq) okX4_instrumentAt hgf (va_P.sub hP [0, 1] rfl) (mw_recv hgf (hP 0 _ rfl) rfl) qw2_43 ⟨Nat.le_of_ble_eq_true rfl, Nat.le_of_ble_eq_true rfl⟩ ⟨(Nat.le_of_ble_eq_true rfl), (Nat.le_of_ble_eq_true rfl)⟩ hl.1 (Nat.le_of_ble_eq_true rfl) rfl dX4_step_2 ?_
  refine lv_astore (lv' := [(5, .ref (a 0)), (0, .ref x), (1, .int (nI j)), (2, .int st), (3, .long k)]) hx hb dX4_step_5 hl (by decide) rfl (fun ls hl => ?_)
  refine lv_aload hx hb dX4_step_7 (lv_at hl 0 rfl) ?_
  refine mw_get G hgf (hP 2 _ rfl) rfl inX1 1 (by decide) qw1_220 rfl dX4_step_9 ?_
  refine lv_astore (lv' := [(6, .ref (a 1)), (5, .ref (a 0)), (0, .ref x), (1, .int (nI j)), (2, .int st), (3, .long k)]) hx hb dX4_step_12 hl (by decide) rfl (fun ls hl => ?_)
  refine lv_aload hx hb dX4_step_14 (lv_at hl 0 rfl) ?_
  refine lv_iload_n hx hb dX4_step_16 rfl (lv_at hl 4 rfl) ?_
  refine kgn_hasStep (f := f) (z := z) st G hgf (hP 3 _ rfl) qw2_63 ⟨Nat.le_of_ble_eq_true rfl, Nat.le_of_ble_eq_true rfl⟩ ⟨(Nat.le_of_ble_eq_true rfl), (Nat.le_of_ble_eq_true rfl)⟩ hl.1 (Nat.le_of_ble_eq_true rfl) dX4_step_17 ?_
  refine lv_if_ne (tgt := 33) hx hb dX4_step_20 (by decide) (fun _ => ?_) (fun h => absurd h h1)
  refine lv_aload hx hb dX4_step_33 (lv_at hl 0 rfl) ?_
  refine lv_lload_n hx hb dX4_step_35 rfl (lv_at hl 5 rfl) ?_
  refine kgn_ofWidth (f := f) (z := z) k G hgf (hP 3 _ rfl) qw2_70 ⟨Nat.le_of_ble_eq_true rfl, Nat.le_of_ble_eq_true rfl⟩ ⟨(Nat.le_of_ble_eq_true rfl), (Nat.le_of_ble_eq_true rfl)⟩ hl.1 (Nat.le_of_ble_eq_true rfl) dX4_step_36 ?_
  refine lv_lstore (lv' := [(7, .long (gn_ofWidth f z k)), (6, .ref (a 1)), (5, .ref (a 0)), (0, .ref x), (1, .int (nI j)), (2, .int st), (3, .long k)]) hx hb dX4_step_39 hl (by decide) rfl (fun ls hl => ?_)
  refine lv_iload_n hx hb dX4_step_41 rfl (lv_at hl 5 rfl) ?_
  refine kS G (cvX4_takesK l D st) okX4_takesK hgf trivial qw2_76 ⟨Nat.le_of_ble_eq_true rfl, Nat.le_of_ble_eq_true rfl⟩ ⟨(Nat.le_of_ble_eq_true rfl), (Nat.le_of_ble_eq_true rfl)⟩ hl.1 (Nat.le_of_ble_eq_true rfl) rfl dX4_step_42 ?_
  refine lv_if_eq (tgt := 68) hx hb dX4_step_45 (by decide) (fun h => absurd h h2) (fun _ => ?_)
  refine lv_aload hx hb dX4_step_48 (lv_at hl 1 rfl) ?_
  refine lv_lload hx hb dX4_step_50 (lv_at hl 0 rfl) ?_
  refine kgn_isNumber (f := f) (z := z) (gn_ofWidth f z k) G hgf (hP 3 _ rfl) qw2_79 ⟨Nat.le_of_ble_eq_true rfl, Nat.le_of_ble_eq_true rfl⟩ ⟨(Nat.le_of_ble_eq_true rfl), (Nat.le_of_ble_eq_true rfl)⟩ hl.1 (Nat.le_of_ble_eq_true rfl) dX4_step_52 ?_
  refine lv_if_ne (tgt := 68) hx hb dX4_step_55 (by decide) (fun _ => ?_) (fun h => absurd h h3)
  refine lv_aload hx hb dX4_step_68 (lv_at hl 2 rfl) ?_
  refine kV (C := RX1) G (cv_gi_chainIsFull l D a so lo hi al ch le gr sw su mn f z KI KJ L KE ) okX1_chainIsFull hgf (va_P.sub hP [2, 4] rfl) (mw_recv hgf (hP 2 _ rfl) rfl) qw2_93 ⟨Nat.le_of_ble_eq_true rfl, Nat.le_of_ble_eq_true rfl⟩ ⟨(Nat.le_of_ble_eq_true rfl), (Nat.le_of_ble_eq_true rfl)⟩ hl.1 (Nat.le_of_ble_eq_true rfl) rfl dX4_step_70 ?_
  refine lv_if_eq (tgt := 86) hx hb dX4_step_73 (by decide) (fun _ => ?_) (fun h => absurd h4 h)
  refine lv_aload hx hb dX4_step_86 (lv_at hl 2 rfl) ?_
  refine lv_iload_n hx hb dX4_step_88 rfl (lv_at hl 5 rfl) ?_
  refine lv_lload hx hb dX4_step_89 (lv_at hl 0 rfl) ?_
  refine lv_null hx hb dX4_step_91 ?_
  refine kZ (C := RX1) (wr := [(x, .inr (3, xF xa n rd ae se)), (xa, .inl (D.2.2.2, 8, .inr (.inr (.inr (.inr IA)))))]) G (cz_addStep_n l D a so lo hi al ch le gr sw su mn f z KI KJ L KE st (gn_ofWidth f z k) hch h4) okO_X1_addStep hgf hP hD hS hA trivial [2, 3, 4, 5, 6, 7] [0, 1] rfl rfl rfl rfl (by decide) (mw_recv hgf (hP 2 _ rfl) rfl) qw2_113 ⟨Nat.le_of_ble_eq_true rfl, Nat.le_of_ble_eq_true rfl⟩ ⟨(Nat.le_of_ble_eq_true rfl), (Nat.le_of_ble_eq_true rfl)⟩ hl.1 (Nat.le_of_ble_eq_true rfl) rfl dX4_step_92 (fun _ H locs hP hD hS => ?_)
  have hP : va_P D.1 vwCl [(x, .inr (3, xF xa n rd ae se)), (xa, .inl (D.2.2.2, 8, .inr (.inr (.inr (.inr IA))))), (a 0, .inr (1, [.int so, .ref (a 1), .long lo, .long hi, .int al, .int (ch + 1), .long le, .long gr, .long sw, .long su, .ref (a 2), .ref (a 3), .ref (a 4), .ref (a 5), .int mn])), (a 1, nE f z), (a 2, .inl (D.2.1, 6, .inl (upd KI ch.toNatClampNeg st))), (a 3, .inl (D.2.2.1, 6, .inr (.inl (vp_updL KJ ch.toNatClampNeg (gn_ofWidth f z k))))), (a 4, .inl (D.2.2.2, 6, .inr (.inr (.inr (.inr (va_up L ch.toNatClampNeg none)))))), (a 5, .inl (D.2.2.1, 16, .inr (.inl KE)))] H := hP
  have hD : va_D A [(x, .inr (3, xF xa n rd ae se)), (xa, .inl (D.2.2.2, 8, .inr (.inr (.inr (.inr IA))))), (a 0, .inr (1, [.int so, .ref (a 1), .long lo, .long hi, .int al, .int (ch + 1), .long le, .long gr, .long sw, .long su, .ref (a 2), .ref (a 3), .ref (a 4), .ref (a 5), .int mn])), (a 1, nE f z), (a 2, .inl (D.2.1, 6, .inl (upd KI ch.toNatClampNeg st))), (a 3, .inl (D.2.2.1, 6, .inr (.inl (vp_updL KJ ch.toNatClampNeg (gn_ofWidth f z k))))), (a 4, .inl (D.2.2.2, 6, .inr (.inr (.inr (.inr (va_up L ch.toNatClampNeg none)))))), (a 5, .inl (D.2.2.1, 16, .inr (.inl KE)))] := hD
  exact mE_iret () (congrArg (fun t : Int32 => some (Value.int t)) (rfl)) hx hb hr hlocks hP hD hS dX4_step_95
set_option maxRecDepth 100000 in
set_option maxHeartbeats 4000000 in
theorem cz_follow_o (l : Launch) (D : mG) (x xa : Nat) (n rd ae se : Int32) (IA : Nat → Option Nat) (a : Nat → Nat) (so : Int32) (lo hi : Int64) (al ch : Int32) (le gr sw su : Int64) (mn : Int32) (f z : Bool) (KI : Nat → Int32) (KJ : Nat → Int64) (L : Nat → Option Nat) (KE : Nat → Int64) (a2 : Nat → Nat) (so2 : Int32) (lo2 hi2 : Int64) (al2 ch2 : Int32) (le2 gr2 sw2 su2 : Int64) (mn2 : Int32) (st : Int32) {N : Nat} (hn : n = nI N) (hN : N ≤ 8) {j : Nat} (hj : j < N) (hq : IA j = some (a 0)) {o : Nat} (ho : o < N) (hqo : IA o = some (a2 0)) (hch : vp_in ch 6) (h1 : ¬ gn_hasStep f z st = 0) (h2 : ¬ fX4_takesK st = 0) (h3 : so = so2) (h4 : gi_chainIsFull ch = 0) : cZ l D yX4_follow cX4_follow 6 (some .int) (rmP 2) [(x, .inr (3, xF xa n rd ae se)), (xa, .inl (D.2.2.2, 8, .inr (.inr (.inr (.inr IA))))), (a 0, .inr (1, iF a so lo hi al ch le gr sw su mn)), (a 1, nE f z), (a 2, .inl (D.2.1, 6, .inl KI)), (a 3, .inl (D.2.2.1, 6, .inr (.inl KJ))), (a 4, .inl (D.2.2.2, 6, .inr (.inr (.inr (.inr L))))), (a 5, .inl (D.2.2.1, 16, .inr (.inl KE))), (a2 0, .inr (1, iF a2 so2 lo2 hi2 al2 ch2 le2 gr2 sw2 su2 mn2))] (fun _ => True) [.ref x, .int (nI j), .int st, .int (nI o)] (S := Unit) (fun _ => some (.int (ch + 1))) (fun _ => [(x, .inr (3, xF xa n rd ae se)), (xa, .inl (D.2.2.2, 8, .inr (.inr (.inr (.inr IA))))), (a 0, .inr (1, [.int so, .ref (a 1), .long lo, .long hi, .int al, .int (ch + 1), .long le, .long gr, .long sw, .long su, .ref (a 2), .ref (a 3), .ref (a 4), .ref (a 5), .int mn])), (a 1, nE f z), (a 2, .inl (D.2.1, 6, .inl (upd KI ch.toNatClampNeg st))), (a 3, .inl (D.2.2.1, 6, .inr (.inl (vp_updL KJ ch.toNatClampNeg 0)))), (a 4, .inl (D.2.2.2, 6, .inr (.inr (.inr (.inr (va_up L ch.toNatClampNeg (some (a2 0)))))))), (a 5, .inl (D.2.2.1, 16, .inr (.inl KE))), (a2 0, .inr (1, (iF a2 so2 lo2 hi2 al2 ch2 le2 gr2 sw2 su2 mn2)))]) := by
  refine cZ_of (by decide) (Nat.le_of_ble_eq_true rfl) ?_
  intro p e s m below meth c ls A hx hb hr hlocks G hnm hgf hA hK hP hD hS hl
  have hP : va_P D.1 vwCl [(x, .inr (3, xF xa n rd ae se)), (xa, .inl (D.2.2.2, 8, .inr (.inr (.inr (.inr IA))))), (a 0, .inr (1, iF a so lo hi al ch le gr sw su mn)), (a 1, nE f z), (a 2, .inl (D.2.1, 6, .inl KI)), (a 3, .inl (D.2.2.1, 6, .inr (.inl KJ))), (a 4, .inl (D.2.2.2, 6, .inr (.inr (.inr (.inr L))))), (a 5, .inl (D.2.2.1, 16, .inr (.inl KE))), (a2 0, .inr (1, iF a2 so2 lo2 hi2 al2 ch2 le2 gr2 sw2 su2 mn2))] s.heap := hP
  have hD : va_D A [(x, .inr (3, xF xa n rd ae se)), (xa, .inl (D.2.2.2, 8, .inr (.inr (.inr (.inr IA))))), (a 0, .inr (1, iF a so lo hi al ch le gr sw su mn)), (a 1, nE f z), (a 2, .inl (D.2.1, 6, .inl KI)), (a 3, .inl (D.2.2.1, 6, .inr (.inl KJ))), (a 4, .inl (D.2.2.2, 6, .inr (.inr (.inr (.inr L))))), (a 5, .inl (D.2.2.1, 16, .inr (.inl KE))), (a2 0, .inr (1, iF a2 so2 lo2 hi2 al2 ch2 le2 gr2 sw2 su2 mn2))] := hD
  have hl : lv_has ls 6 [(0, .ref x), (1, .int (nI j)), (2, .int st), (3, .int (nI o))] := hl
  refine lv_aload_n hx hb dX4_follow_0 rfl (lv_at hl 0 rfl) ?_
  refine lv_iload_n hx hb dX4_follow_1 rfl (lv_at hl 1 rfl) ?_
  refine kV (C := RX4) G (cv_instAt l D x xa n rd ae se IA hn hN hj hq) okX4_instrumentAt hgf (va_P.sub hP [0, 1] rfl) (mw_recv hgf (hP 0 _ rfl) rfl) qw2_43 ⟨Nat.le_of_ble_eq_true rfl, Nat.le_of_ble_eq_true rfl⟩ ⟨(Nat.le_of_ble_eq_true rfl), (Nat.le_of_ble_eq_true rfl)⟩ hl.1 (Nat.le_of_ble_eq_true rfl) rfl dX4_follow_2 ?_
  refine lv_astore (lv' := [(4, .ref (a 0)), (0, .ref x), (1, .int (nI j)), (2, .int st), (3, .int (nI o))]) hx hb dX4_follow_5 hl (by decide) rfl (fun ls hl => ?_)
  refine lv_aload_n hx hb dX4_follow_7 rfl (lv_at hl 1 rfl) ?_
  refine lv_iload_n hx hb dX4_follow_8 rfl (lv_at hl 4 rfl) ?_
  refine kV (C := RX4) G (cv_instAt l D x xa n rd ae se IA hn hN ho hqo) okX4_instrumentAt hgf (va_P.sub hP [0, 1] rfl) (mw_recv hgf (hP 0 _ rfl) rfl) qw2_43 ⟨Nat.le_of_ble_eq_true rfl, Nat.le_of_ble_eq_true rfl⟩ ⟨(Nat.le_of_ble_eq_true rfl), (Nat.le_of_ble_eq_true rfl)⟩ hl.1 (Nat.le_of_ble_eq_true rfl) rfl dX4_follow_9 ?_
  refine lv_astore (lv' := [(5, .ref (a2 0)), (4, .ref (a 0)), (0, .ref x), (1, .int (nI j)), (2, .int st), (3, .int (nI o))]) hx hb dX4_follow_12 hl (by decide) rfl (fun ls hl => ?_)
  refine lv_aload hx hb dX4_follow_14 (lv_at hl 1 rfl) ?_
  refine mw_get G hgf (hP 2 _ rfl) rfl inX1 1 (by decide) qw1_220 rfl dX4_follow_16 ?_
  refine lv_iload_n hx hb dX4_follow_19 rfl (lv_at hl 4 rfl) ?_
  refine kgn_hasStep (f := f) (z := z) st G hgf (hP 3 _ rfl) qw2_63 ⟨Nat.le_of_ble_eq_true rfl, Nat.le_of_ble_eq_true rfl⟩ ⟨(Nat.le_of_ble_eq_true rfl), (Nat.le_of_ble_eq_true rfl)⟩ hl.1 (Nat.le_of_ble_eq_true rfl) dX4_follow_20 ?_
  refine lv_if_eq (tgt := 33) hx hb dX4_follow_23 (by decide) (fun h => absurd h h1) (fun _ => ?_)
  refine lv_iload_n hx hb dX4_follow_26 rfl (lv_at hl 4 rfl) ?_
  refine kS G (cvX4_takesK l D st) okX4_takesK hgf trivial qw2_76 ⟨Nat.le_of_ble_eq_true rfl, Nat.le_of_ble_eq_true rfl⟩ ⟨(Nat.le_of_ble_eq_true rfl), (Nat.le_of_ble_eq_true rfl)⟩ hl.1 (Nat.le_of_ble_eq_true rfl) rfl dX4_follow_27 ?_
  refine lv_if_ne (tgt := 43) hx hb dX4_follow_30 (by decide) (fun _ => ?_) (fun h => absurd h h2)
  refine lv_aload hx hb dX4_follow_43 (lv_at hl 1 rfl) ?_
  refine mw_get G hgf (hP 2 _ rfl) rfl inX1 0 (by decide) qw1_218 rfl dX4_follow_45 ?_
  refine lv_aload hx hb dX4_follow_48 (lv_at hl 0 rfl) ?_
  refine mw_get G hgf (hP 8 _ rfl) rfl inX1 0 (by decide) qw1_218 rfl dX4_follow_50 ?_
  refine lv_icmp_eq (tgt := 66) hx hb dX4_follow_53 (by decide) (fun _ => ?_) (fun h => absurd h3 h)
  refine lv_aload hx hb dX4_follow_66 (lv_at hl 1 rfl) ?_
  refine kV (C := RX1) G (cv_gi_chainIsFull l D a so lo hi al ch le gr sw su mn f z KI KJ L KE ) okX1_chainIsFull hgf (va_P.sub hP [2, 4] rfl) (mw_recv hgf (hP 2 _ rfl) rfl) qw2_93 ⟨Nat.le_of_ble_eq_true rfl, Nat.le_of_ble_eq_true rfl⟩ ⟨(Nat.le_of_ble_eq_true rfl), (Nat.le_of_ble_eq_true rfl)⟩ hl.1 (Nat.le_of_ble_eq_true rfl) rfl dX4_follow_68 ?_
  refine lv_if_eq (tgt := 84) hx hb dX4_follow_71 (by decide) (fun _ => ?_) (fun h => absurd h4 h)
  refine lv_aload hx hb dX4_follow_84 (lv_at hl 1 rfl) ?_
  refine lv_iload_n hx hb dX4_follow_86 rfl (lv_at hl 4 rfl) ?_
  refine lv_lconst (v := 0) hx hb dX4_follow_87 (by decide) ?_
  refine lv_aload hx hb dX4_follow_88 (lv_at hl 0 rfl) ?_
  refine kZ (C := RX1) (wr := [(x, .inr (3, xF xa n rd ae se)), (xa, .inl (D.2.2.2, 8, .inr (.inr (.inr (.inr IA)))))]) G (cz_addStep_o l D a so lo hi al ch le gr sw su mn f z KI KJ L KE st 0 (a2 0) (iF a2 so2 lo2 hi2 al2 ch2 le2 gr2 sw2 su2 mn2) hch h4) okO_X1_addStep hgf hP hD hS hA trivial [2, 3, 4, 5, 6, 7, 8] [0, 1] rfl rfl rfl rfl (by decide) (mw_recv hgf (hP 2 _ rfl) rfl) qw2_113 ⟨Nat.le_of_ble_eq_true rfl, Nat.le_of_ble_eq_true rfl⟩ ⟨(Nat.le_of_ble_eq_true rfl), (Nat.le_of_ble_eq_true rfl)⟩ hl.1 (Nat.le_of_ble_eq_true rfl) rfl dX4_follow_90 (fun _ H locs hP hD hS => ?_)
  have hP : va_P D.1 vwCl [(x, .inr (3, xF xa n rd ae se)), (xa, .inl (D.2.2.2, 8, .inr (.inr (.inr (.inr IA))))), (a 0, .inr (1, [.int so, .ref (a 1), .long lo, .long hi, .int al, .int (ch + 1), .long le, .long gr, .long sw, .long su, .ref (a 2), .ref (a 3), .ref (a 4), .ref (a 5), .int mn])), (a 1, nE f z), (a 2, .inl (D.2.1, 6, .inl (upd KI ch.toNatClampNeg st))), (a 3, .inl (D.2.2.1, 6, .inr (.inl (vp_updL KJ ch.toNatClampNeg 0)))), (a 4, .inl (D.2.2.2, 6, .inr (.inr (.inr (.inr (va_up L ch.toNatClampNeg (some (a2 0)))))))), (a 5, .inl (D.2.2.1, 16, .inr (.inl KE))), (a2 0, .inr (1, (iF a2 so2 lo2 hi2 al2 ch2 le2 gr2 sw2 su2 mn2)))] H := hP
  have hD : va_D A [(x, .inr (3, xF xa n rd ae se)), (xa, .inl (D.2.2.2, 8, .inr (.inr (.inr (.inr IA))))), (a 0, .inr (1, [.int so, .ref (a 1), .long lo, .long hi, .int al, .int (ch + 1), .long le, .long gr, .long sw, .long su, .ref (a 2), .ref (a 3), .ref (a 4), .ref (a 5), .int mn])), (a 1, nE f z), (a 2, .inl (D.2.1, 6, .inl (upd KI ch.toNatClampNeg st))), (a 3, .inl (D.2.2.1, 6, .inr (.inl (vp_updL KJ ch.toNatClampNeg 0)))), (a 4, .inl (D.2.2.2, 6, .inr (.inr (.inr (.inr (va_up L ch.toNatClampNeg (some (a2 0)))))))), (a 5, .inl (D.2.2.1, 16, .inr (.inl KE))), (a2 0, .inr (1, (iF a2 so2 lo2 hi2 al2 ch2 le2 gr2 sw2 su2 mn2)))] := hD
  exact mE_iret () (congrArg (fun t : Int32 => some (Value.int t)) (rfl)) hx hb hr hlocks hP hD hS dX4_follow_93
set_option maxRecDepth 100000 in
set_option maxHeartbeats 4000000 in
theorem cz_follow_s (l : Launch) (D : mG) (x xa : Nat) (n rd ae se : Int32) (IA : Nat → Option Nat) (a : Nat → Nat) (so : Int32) (lo hi : Int64) (al ch : Int32) (le gr sw su : Int64) (mn : Int32) (f z : Bool) (KI : Nat → Int32) (KJ : Nat → Int64) (L : Nat → Option Nat) (KE : Nat → Int64) (st : Int32) {N : Nat} (hn : n = nI N) (hN : N ≤ 8) {j : Nat} (hj : j < N) (hq : IA j = some (a 0)) (hch : vp_in ch 6) (h1 : ¬ gn_hasStep f z st = 0) (h2 : ¬ fX4_takesK st = 0) (h4 : gi_chainIsFull ch = 0) : cZ l D yX4_follow cX4_follow 6 (some .int) (rmP 2) [(x, .inr (3, xF xa n rd ae se)), (xa, .inl (D.2.2.2, 8, .inr (.inr (.inr (.inr IA))))), (a 0, .inr (1, iF a so lo hi al ch le gr sw su mn)), (a 1, nE f z), (a 2, .inl (D.2.1, 6, .inl KI)), (a 3, .inl (D.2.2.1, 6, .inr (.inl KJ))), (a 4, .inl (D.2.2.2, 6, .inr (.inr (.inr (.inr L))))), (a 5, .inl (D.2.2.1, 16, .inr (.inl KE)))] (fun _ => True) [.ref x, .int (nI j), .int st, .int (nI j)] (S := Unit) (fun _ => some (.int (ch + 1))) (fun _ => [(x, .inr (3, xF xa n rd ae se)), (xa, .inl (D.2.2.2, 8, .inr (.inr (.inr (.inr IA))))), (a 0, .inr (1, [.int so, .ref (a 1), .long lo, .long hi, .int al, .int (ch + 1), .long le, .long gr, .long sw, .long su, .ref (a 2), .ref (a 3), .ref (a 4), .ref (a 5), .int mn])), (a 1, nE f z), (a 2, .inl (D.2.1, 6, .inl (upd KI ch.toNatClampNeg st))), (a 3, .inl (D.2.2.1, 6, .inr (.inl (vp_updL KJ ch.toNatClampNeg 0)))), (a 4, .inl (D.2.2.2, 6, .inr (.inr (.inr (.inr (va_up L ch.toNatClampNeg (some ((a 0))))))))), (a 5, .inl (D.2.2.1, 16, .inr (.inl KE)))]) := by
  refine cZ_of (by decide) (Nat.le_of_ble_eq_true rfl) ?_
  intro p e s m below meth c ls A hx hb hr hlocks G hnm hgf hA hK hP hD hS hl
  have hP : va_P D.1 vwCl [(x, .inr (3, xF xa n rd ae se)), (xa, .inl (D.2.2.2, 8, .inr (.inr (.inr (.inr IA))))), (a 0, .inr (1, iF a so lo hi al ch le gr sw su mn)), (a 1, nE f z), (a 2, .inl (D.2.1, 6, .inl KI)), (a 3, .inl (D.2.2.1, 6, .inr (.inl KJ))), (a 4, .inl (D.2.2.2, 6, .inr (.inr (.inr (.inr L))))), (a 5, .inl (D.2.2.1, 16, .inr (.inl KE)))] s.heap := hP
  have hD : va_D A [(x, .inr (3, xF xa n rd ae se)), (xa, .inl (D.2.2.2, 8, .inr (.inr (.inr (.inr IA))))), (a 0, .inr (1, iF a so lo hi al ch le gr sw su mn)), (a 1, nE f z), (a 2, .inl (D.2.1, 6, .inl KI)), (a 3, .inl (D.2.2.1, 6, .inr (.inl KJ))), (a 4, .inl (D.2.2.2, 6, .inr (.inr (.inr (.inr L))))), (a 5, .inl (D.2.2.1, 16, .inr (.inl KE)))] := hD
  have hl : lv_has ls 6 [(0, .ref x), (1, .int (nI j)), (2, .int st), (3, .int (nI j))] := hl
  refine lv_aload_n hx hb dX4_follow_0 rfl (lv_at hl 0 rfl) ?_
  refine lv_iload_n hx hb dX4_follow_1 rfl (lv_at hl 1 rfl) ?_
  refine kV (C := RX4) G (cv_instAt l D x xa n rd ae se IA hn hN hj hq) okX4_instrumentAt hgf (va_P.sub hP [0, 1] rfl) (mw_recv hgf (hP 0 _ rfl) rfl) qw2_43 ⟨Nat.le_of_ble_eq_true rfl, Nat.le_of_ble_eq_true rfl⟩ ⟨(Nat.le_of_ble_eq_true rfl), (Nat.le_of_ble_eq_true rfl)⟩ hl.1 (Nat.le_of_ble_eq_true rfl) rfl dX4_follow_2 ?_
  refine lv_astore (lv' := [(4, .ref (a 0)), (0, .ref x), (1, .int (nI j)), (2, .int st), (3, .int (nI j))]) hx hb dX4_follow_5 hl (by decide) rfl (fun ls hl => ?_)
  refine lv_aload_n hx hb dX4_follow_7 rfl (lv_at hl 1 rfl) ?_
  refine lv_iload_n hx hb dX4_follow_8 rfl (lv_at hl 4 rfl) ?_
  refine kV (C := RX4) G (cv_instAt l D x xa n rd ae se IA hn hN hj hq) okX4_instrumentAt hgf (va_P.sub hP [0, 1] rfl) (mw_recv hgf (hP 0 _ rfl) rfl) qw2_43 ⟨Nat.le_of_ble_eq_true rfl, Nat.le_of_ble_eq_true rfl⟩ ⟨(Nat.le_of_ble_eq_true rfl), (Nat.le_of_ble_eq_true rfl)⟩ hl.1 (Nat.le_of_ble_eq_true rfl) rfl dX4_follow_9 ?_
  refine lv_astore (lv' := [(5, .ref (a 0)), (4, .ref (a 0)), (0, .ref x), (1, .int (nI j)), (2, .int st), (3, .int (nI j))]) hx hb dX4_follow_12 hl (by decide) rfl (fun ls hl => ?_)
  refine lv_aload hx hb dX4_follow_14 (lv_at hl 1 rfl) ?_
  refine mw_get G hgf (hP 2 _ rfl) rfl inX1 1 (by decide) qw1_220 rfl dX4_follow_16 ?_
  refine lv_iload_n hx hb dX4_follow_19 rfl (lv_at hl 4 rfl) ?_
  refine kgn_hasStep (f := f) (z := z) st G hgf (hP 3 _ rfl) qw2_63 ⟨Nat.le_of_ble_eq_true rfl, Nat.le_of_ble_eq_true rfl⟩ ⟨(Nat.le_of_ble_eq_true rfl), (Nat.le_of_ble_eq_true rfl)⟩ hl.1 (Nat.le_of_ble_eq_true rfl) dX4_follow_20 ?_
  refine lv_if_eq (tgt := 33) hx hb dX4_follow_23 (by decide) (fun h => absurd h h1) (fun _ => ?_)
  refine lv_iload_n hx hb dX4_follow_26 rfl (lv_at hl 4 rfl) ?_
  refine kS G (cvX4_takesK l D st) okX4_takesK hgf trivial qw2_76 ⟨Nat.le_of_ble_eq_true rfl, Nat.le_of_ble_eq_true rfl⟩ ⟨(Nat.le_of_ble_eq_true rfl), (Nat.le_of_ble_eq_true rfl)⟩ hl.1 (Nat.le_of_ble_eq_true rfl) rfl dX4_follow_27 ?_
  refine lv_if_ne (tgt := 43) hx hb dX4_follow_30 (by decide) (fun _ => ?_) (fun h => absurd h h2)
  refine lv_aload hx hb dX4_follow_43 (lv_at hl 1 rfl) ?_
  refine mw_get G hgf (hP 2 _ rfl) rfl inX1 0 (by decide) qw1_218 rfl dX4_follow_45 ?_
  refine lv_aload hx hb dX4_follow_48 (lv_at hl 0 rfl) ?_
  refine mw_get G hgf (hP 2 _ rfl) rfl inX1 0 (by decide) qw1_218 rfl dX4_follow_50 ?_
  refine lv_icmp_eq (tgt := 66) hx hb dX4_follow_53 (by decide) (fun _ => ?_) (fun h => absurd rfl h)
  refine lv_aload hx hb dX4_follow_66 (lv_at hl 1 rfl) ?_
  refine kV (C := RX1) G (cv_gi_chainIsFull l D a so lo hi al ch le gr sw su mn f z KI KJ L KE ) okX1_chainIsFull hgf (va_P.sub hP [2, 4] rfl) (mw_recv hgf (hP 2 _ rfl) rfl) qw2_93 ⟨Nat.le_of_ble_eq_true rfl, Nat.le_of_ble_eq_true rfl⟩ ⟨(Nat.le_of_ble_eq_true rfl), (Nat.le_of_ble_eq_true rfl)⟩ hl.1 (Nat.le_of_ble_eq_true rfl) rfl dX4_follow_68 ?_
  refine lv_if_eq (tgt := 84) hx hb dX4_follow_71 (by decide) (fun _ => ?_) (fun h => absurd h4 h)
  refine lv_aload hx hb dX4_follow_84 (lv_at hl 1 rfl) ?_
  refine lv_iload_n hx hb dX4_follow_86 rfl (lv_at hl 4 rfl) ?_
  refine lv_lconst (v := 0) hx hb dX4_follow_87 (by decide) ?_
  refine lv_aload hx hb dX4_follow_88 (lv_at hl 0 rfl) ?_
  refine kZ (C := RX1) (wr := [(x, .inr (3, xF xa n rd ae se)), (xa, .inl (D.2.2.2, 8, .inr (.inr (.inr (.inr IA)))))]) G (cz_addStep_s l D a so lo hi al ch le gr sw su mn f z KI KJ L KE st 0 hch h4) okO_X1_addStep hgf hP hD hS hA trivial [2, 3, 4, 5, 6, 7] [0, 1] rfl rfl rfl rfl (by decide) (mw_recv hgf (hP 2 _ rfl) rfl) qw2_113 ⟨Nat.le_of_ble_eq_true rfl, Nat.le_of_ble_eq_true rfl⟩ ⟨(Nat.le_of_ble_eq_true rfl), (Nat.le_of_ble_eq_true rfl)⟩ hl.1 (Nat.le_of_ble_eq_true rfl) rfl dX4_follow_90 (fun _ H locs hP hD hS => ?_)
  have hP : va_P D.1 vwCl [(x, .inr (3, xF xa n rd ae se)), (xa, .inl (D.2.2.2, 8, .inr (.inr (.inr (.inr IA))))), (a 0, .inr (1, [.int so, .ref (a 1), .long lo, .long hi, .int al, .int (ch + 1), .long le, .long gr, .long sw, .long su, .ref (a 2), .ref (a 3), .ref (a 4), .ref (a 5), .int mn])), (a 1, nE f z), (a 2, .inl (D.2.1, 6, .inl (upd KI ch.toNatClampNeg st))), (a 3, .inl (D.2.2.1, 6, .inr (.inl (vp_updL KJ ch.toNatClampNeg 0)))), (a 4, .inl (D.2.2.2, 6, .inr (.inr (.inr (.inr (va_up L ch.toNatClampNeg (some ((a 0))))))))), (a 5, .inl (D.2.2.1, 16, .inr (.inl KE)))] H := hP
  have hD : va_D A [(x, .inr (3, xF xa n rd ae se)), (xa, .inl (D.2.2.2, 8, .inr (.inr (.inr (.inr IA))))), (a 0, .inr (1, [.int so, .ref (a 1), .long lo, .long hi, .int al, .int (ch + 1), .long le, .long gr, .long sw, .long su, .ref (a 2), .ref (a 3), .ref (a 4), .ref (a 5), .int mn])), (a 1, nE f z), (a 2, .inl (D.2.1, 6, .inl (upd KI ch.toNatClampNeg st))), (a 3, .inl (D.2.2.1, 6, .inr (.inl (vp_updL KJ ch.toNatClampNeg 0)))), (a 4, .inl (D.2.2.2, 6, .inr (.inr (.inr (.inr (va_up L ch.toNatClampNeg (some ((a 0))))))))), (a 5, .inl (D.2.2.1, 16, .inr (.inl KE)))] := hD
  exact mE_iret () (congrArg (fun t : Int32 => some (Value.int t)) (rfl)) hx hb hr hlocks hP hD hS dX4_follow_93
set_option maxRecDepth 100000 in
set_option maxHeartbeats 4000000 in
theorem cz_limits (l : Launch) (D : mG) (x xa : Nat) (n rd ae se : Int32) (IA : Nat → Option Nat) (a : Nat → Nat) (so : Int32) (lo hi : Int64) (al ch : Int32) (le gr sw su : Int64) (mn : Int32) (f z : Bool) (KI : Nat → Int32) (KJ : Nat → Int64) (L : Nat → Option Nat) (KE : Nat → Int64) (u w : Int64) {N : Nat} (hn : n = nI N) (hN : N ≤ 8) {j : Nat} (hj : j < N) (hq : IA j = some (a 0)) (h1 : ¬ gn_isNumber f z (gn_ofWidth f z u) = 0) (h2 : ¬ gn_isNumber f z (gn_ofWidth f z w) = 0) : cZ l D yX4_limits cX4_limits 12 (some .boolean) (rmP 3) [(x, .inr (3, xF xa n rd ae se)), (xa, .inl (D.2.2.2, 8, .inr (.inr (.inr (.inr IA))))), (a 0, .inr (1, iF a so lo hi al ch le gr sw su mn)), (a 1, nE f z), (a 2, .inl (D.2.1, 6, .inl KI)), (a 3, .inl (D.2.2.1, 6, .inr (.inl KJ))), (a 4, .inl (D.2.2.2, 6, .inr (.inr (.inr (.inr L))))), (a 5, .inl (D.2.2.1, 16, .inr (.inl KE)))] (fun _ => True) [.ref x, .int (nI j), .long u, .long w] (S := Unit) (fun _ => some (.int (if (gn_isAbove f z (gn_ofWidth f z u) (gn_ofWidth f z w)) = 0 then 1 else 0))) (fun _ => [(x, .inr (3, xF xa n rd ae se)), (xa, .inl (D.2.2.2, 8, .inr (.inr (.inr (.inr IA))))), (a 0, .inr (1, [.int so, .ref (a 1), .long (gn_ofWidth f z u), .long (gn_ofWidth f z w), .int al, .int ch, .long le, .long gr, .long sw, .long su, .ref (a 2), .ref (a 3), .ref (a 4), .ref (a 5), .int mn])), (a 1, nE f z), (a 2, .inl (D.2.1, 6, .inl KI)), (a 3, .inl (D.2.2.1, 6, .inr (.inl KJ))), (a 4, .inl (D.2.2.2, 6, .inr (.inr (.inr (.inr L))))), (a 5, .inl (D.2.2.1, 16, .inr (.inl KE)))]) := by
  refine cZ_of (by decide) (Nat.le_of_ble_eq_true rfl) ?_
  intro p e s m below meth c ls A hx hb hr hlocks G hnm hgf hA hK hP hD hS hl
  have hP : va_P D.1 vwCl [(x, .inr (3, xF xa n rd ae se)), (xa, .inl (D.2.2.2, 8, .inr (.inr (.inr (.inr IA))))), (a 0, .inr (1, iF a so lo hi al ch le gr sw su mn)), (a 1, nE f z), (a 2, .inl (D.2.1, 6, .inl KI)), (a 3, .inl (D.2.2.1, 6, .inr (.inl KJ))), (a 4, .inl (D.2.2.2, 6, .inr (.inr (.inr (.inr L))))), (a 5, .inl (D.2.2.1, 16, .inr (.inl KE)))] s.heap := hP
  have hD : va_D A [(x, .inr (3, xF xa n rd ae se)), (xa, .inl (D.2.2.2, 8, .inr (.inr (.inr (.inr IA))))), (a 0, .inr (1, iF a so lo hi al ch le gr sw su mn)), (a 1, nE f z), (a 2, .inl (D.2.1, 6, .inl KI)), (a 3, .inl (D.2.2.1, 6, .inr (.inl KJ))), (a 4, .inl (D.2.2.2, 6, .inr (.inr (.inr (.inr L))))), (a 5, .inl (D.2.2.1, 16, .inr (.inl KE)))] := hD
  have hl : lv_has ls 12 [(0, .ref x), (1, .int (nI j)), (2, .long u), (4, .long w)] := hl
  refine lv_aload_n hx hb dX4_limits_0 rfl (lv_at hl 0 rfl) ?_
  refine lv_iload_n hx hb dX4_limits_1 rfl (lv_at hl 1 rfl) ?_
  refine kV (C := RX4) G (cv_instAt l D x xa n rd ae se IA hn hN hj hq) okX4_instrumentAt hgf (va_P.sub hP [0, 1] rfl) (mw_recv hgf (hP 0 _ rfl) rfl) qw2_43 ⟨Nat.le_of_ble_eq_true rfl, Nat.le_of_ble_eq_true rfl⟩ ⟨(Nat.le_of_ble_eq_true rfl), (Nat.le_of_ble_eq_true rfl)⟩ hl.1 (Nat.le_of_ble_eq_true rfl) rfl dX4_limits_2 ?_
  refine lv_astore (lv' := [(6, .ref (a 0)), (0, .ref x), (1, .int (nI j)), (2, .long u), (4, .long w)]) hx hb dX4_limits_5 hl (by decide) rfl (fun ls hl => ?_)
  refine lv_aload hx hb dX4_limits_7 (lv_at hl 0 rfl) ?_
  refine mw_get G hgf (hP 2 _ rfl) rfl inX1 1 (by decide) qw1_220 rfl dX4_limits_9 ?_
  refine lv_astore (lv' := [(7, .ref (a 1)), (6, .ref (a 0)), (0, .ref x), (1, .int (nI j)), (2, .long u), (4, .long w)]) hx hb dX4_limits_12 hl (by decide) rfl (fun ls hl => ?_)
  refine lv_aload hx hb dX4_limits_14 (lv_at hl 0 rfl) ?_
  refine lv_lload_n hx hb dX4_limits_16 rfl (lv_at hl 4 rfl) ?_
  refine kgn_ofWidth (f := f) (z := z) u G hgf (hP 3 _ rfl) qw2_70 ⟨Nat.le_of_ble_eq_true rfl, Nat.le_of_ble_eq_true rfl⟩ ⟨(Nat.le_of_ble_eq_true rfl), (Nat.le_of_ble_eq_true rfl)⟩ hl.1 (Nat.le_of_ble_eq_true rfl) dX4_limits_17 ?_
  refine lv_lstore (lv' := [(8, .long (gn_ofWidth f z u)), (7, .ref (a 1)), (6, .ref (a 0)), (0, .ref x), (1, .int (nI j)), (2, .long u), (4, .long w)]) hx hb dX4_limits_20 hl (by decide) rfl (fun ls hl => ?_)
  refine lv_aload hx hb dX4_limits_22 (lv_at hl 1 rfl) ?_
  refine lv_lload hx hb dX4_limits_24 (lv_at hl 6 rfl) ?_
  refine kgn_ofWidth (f := f) (z := z) w G hgf (hP 3 _ rfl) qw2_70 ⟨Nat.le_of_ble_eq_true rfl, Nat.le_of_ble_eq_true rfl⟩ ⟨(Nat.le_of_ble_eq_true rfl), (Nat.le_of_ble_eq_true rfl)⟩ hl.1 (Nat.le_of_ble_eq_true rfl) dX4_limits_26 ?_
  refine lv_lstore (lv' := [(10, .long (gn_ofWidth f z w)), (8, .long (gn_ofWidth f z u)), (7, .ref (a 1)), (6, .ref (a 0)), (0, .ref x), (1, .int (nI j)), (2, .long u), (4, .long w)]) hx hb dX4_limits_29 hl (by decide) rfl (fun ls hl => ?_)
  refine lv_aload hx hb dX4_limits_31 (lv_at hl 2 rfl) ?_
  refine lv_lload hx hb dX4_limits_33 (lv_at hl 1 rfl) ?_
  refine kgn_isNumber (f := f) (z := z) (gn_ofWidth f z u) G hgf (hP 3 _ rfl) qw2_79 ⟨Nat.le_of_ble_eq_true rfl, Nat.le_of_ble_eq_true rfl⟩ ⟨(Nat.le_of_ble_eq_true rfl), (Nat.le_of_ble_eq_true rfl)⟩ hl.1 (Nat.le_of_ble_eq_true rfl) dX4_limits_35 ?_
  refine lv_if_eq (tgt := 51) hx hb dX4_limits_38 (by decide) (fun h => absurd h h1) (fun _ => ?_)
  refine lv_aload hx hb dX4_limits_41 (lv_at hl 2 rfl) ?_
  refine lv_lload hx hb dX4_limits_43 (lv_at hl 0 rfl) ?_
  refine kgn_isNumber (f := f) (z := z) (gn_ofWidth f z w) G hgf (hP 3 _ rfl) qw2_79 ⟨Nat.le_of_ble_eq_true rfl, Nat.le_of_ble_eq_true rfl⟩ ⟨(Nat.le_of_ble_eq_true rfl), (Nat.le_of_ble_eq_true rfl)⟩ hl.1 (Nat.le_of_ble_eq_true rfl) dX4_limits_45 ?_
  refine lv_if_ne (tgt := 61) hx hb dX4_limits_48 (by decide) (fun _ => ?_) (fun h => absurd h h2)
  refine lv_aload hx hb dX4_limits_61 (lv_at hl 3 rfl) ?_
  refine lv_lload hx hb dX4_limits_63 (lv_at hl 1 rfl) ?_
  refine mw_put (w1 := [(x, .inr (3, xF xa n rd ae se)), (xa, .inl (D.2.2.2, 8, .inr (.inr (.inr (.inr IA))))), (a 0, .inr (1, [.int so, .ref (a 1), .long (gn_ofWidth f z u), .long hi, .int al, .int ch, .long le, .long gr, .long sw, .long su, .ref (a 2), .ref (a 3), .ref (a 4), .ref (a 5), .int mn])), (a 1, nE f z), (a 2, .inl (D.2.1, 6, .inl KI)), (a 3, .inl (D.2.2.1, 6, .inr (.inl KJ))), (a 4, .inl (D.2.2.2, 6, .inr (.inr (.inr (.inr L))))), (a 5, .inl (D.2.2.1, 16, .inr (.inl KE)))]) G hgf hP hD hS 2 rfl rfl inX1 tyX1_ok nmX1 2 (by decide) qw1_222 rfl rfl rfl rfl (Nat.le_of_ble_eq_true rfl) rfl dX4_limits_65 (fun H locs hP hD hS => ?_)
  refine lv_aload hx hb dX4_limits_68 (lv_at hl 3 rfl) ?_
  refine lv_lload hx hb dX4_limits_70 (lv_at hl 0 rfl) ?_
  refine mw_put (w1 := [(x, .inr (3, xF xa n rd ae se)), (xa, .inl (D.2.2.2, 8, .inr (.inr (.inr (.inr IA))))), (a 0, .inr (1, [.int so, .ref (a 1), .long (gn_ofWidth f z u), .long (gn_ofWidth f z w), .int al, .int ch, .long le, .long gr, .long sw, .long su, .ref (a 2), .ref (a 3), .ref (a 4), .ref (a 5), .int mn])), (a 1, nE f z), (a 2, .inl (D.2.1, 6, .inl KI)), (a 3, .inl (D.2.2.1, 6, .inr (.inl KJ))), (a 4, .inl (D.2.2.2, 6, .inr (.inr (.inr (.inr L))))), (a 5, .inl (D.2.2.1, 16, .inr (.inl KE)))]) G hgf hP hD hS 2 rfl rfl inX1 tyX1_ok nmX1 3 (by decide) qw1_224 rfl rfl rfl rfl (Nat.le_of_ble_eq_true rfl) rfl dX4_limits_72 (fun H locs hP hD hS => ?_)
  refine lv_aload hx hb dX4_limits_75 (lv_at hl 2 rfl) ?_
  refine lv_lload hx hb dX4_limits_77 (lv_at hl 1 rfl) ?_
  refine lv_lload hx hb dX4_limits_79 (lv_at hl 0 rfl) ?_
  refine kgn_isAbove (f := f) (z := z) (gn_ofWidth f z u) (gn_ofWidth f z w) G hgf (hP 3 _ rfl) qw3_128 ⟨Nat.le_of_ble_eq_true rfl, Nat.le_of_ble_eq_true rfl⟩ ⟨(Nat.le_of_ble_eq_true rfl), (Nat.le_of_ble_eq_true rfl)⟩ hl.1 (Nat.le_of_ble_eq_true rfl) dX4_limits_81 ?_
  refine lv_if_ne (tgt := 91) hx hb dX4_limits_84 (by decide) (fun c_1 => ?_) (fun c_1 => ?_)
  · refine lv_iconst (v := 0) hx hb dX4_limits_91 (by decide) ?_
    exact mE_zret () (congrArg (fun t : Int32 => some (Value.int t)) ((if_neg c_1).trans (rfl))) hx hb hr hlocks (Or.inl rfl) hP hD hS dX4_limits_92
  · refine lv_iconst (v := 1) hx hb dX4_limits_87 (by decide) ?_
    refine lv_goto (tgt := 92) hx hb dX4_limits_88 (by decide) ?_
    exact mE_zret () (congrArg (fun t : Int32 => some (Value.int t)) ((if_pos c_1).trans (rfl))) hx hb hr hlocks (Or.inr rfl) hP hD hS dX4_limits_92
set_option maxRecDepth 100000 in
set_option maxHeartbeats 4000000 in
theorem cz_forget (l : Launch) (D : mG) (x xa : Nat) (n rd ae se : Int32) (IA : Nat → Option Nat) (a : Nat → Nat) (so : Int32) (lo hi : Int64) (al ch : Int32) (le gr sw su : Int64) (mn : Int32) (f z : Bool) (KI : Nat → Int32) (KJ : Nat → Int64) (L : Nat → Option Nat) (KE : Nat → Int64) {N : Nat} (hn : n = nI N) (hN : N ≤ 8) {j : Nat} (hj : j < N) (hq : IA j = some (a 0)) : cZ l D yX4_forget cX4_forget 2 (some .int) (rmP 1) [(x, .inr (3, xF xa n rd ae se)), (xa, .inl (D.2.2.2, 8, .inr (.inr (.inr (.inr IA))))), (a 0, .inr (1, iF a so lo hi al ch le gr sw su mn)), (a 1, nE f z), (a 2, .inl (D.2.1, 6, .inl KI)), (a 3, .inl (D.2.2.1, 6, .inr (.inl KJ))), (a 4, .inl (D.2.2.2, 6, .inr (.inr (.inr (.inr L))))), (a 5, .inl (D.2.2.1, 16, .inr (.inl KE)))] (fun _ => True) [.ref x, .int (nI j)] (S := Unit) (fun _ => some (.int (mn))) (fun _ => [(x, .inr (3, xF xa n rd ae se)), (xa, .inl (D.2.2.2, 8, .inr (.inr (.inr (.inr IA))))), (a 0, .inr (1, [.int so, .ref (a 1), .long lo, .long hi, .int al, .int ch, .long le, .long gr, .long sw, .long su, .ref (a 2), .ref (a 3), .ref (a 4), .ref (a 5), .int 0])), (a 1, nE f z), (a 2, .inl (D.2.1, 6, .inl KI)), (a 3, .inl (D.2.2.1, 6, .inr (.inl KJ))), (a 4, .inl (D.2.2.2, 6, .inr (.inr (.inr (.inr L))))), (a 5, .inl (D.2.2.1, 16, .inr (.inl KE)))]) := by
  refine cZ_of (by decide) (Nat.le_of_ble_eq_true rfl) ?_
  intro p e s m below meth c ls A hx hb hr hlocks G hnm hgf hA hK hP hD hS hl
  have hP : va_P D.1 vwCl [(x, .inr (3, xF xa n rd ae se)), (xa, .inl (D.2.2.2, 8, .inr (.inr (.inr (.inr IA))))), (a 0, .inr (1, iF a so lo hi al ch le gr sw su mn)), (a 1, nE f z), (a 2, .inl (D.2.1, 6, .inl KI)), (a 3, .inl (D.2.2.1, 6, .inr (.inl KJ))), (a 4, .inl (D.2.2.2, 6, .inr (.inr (.inr (.inr L))))), (a 5, .inl (D.2.2.1, 16, .inr (.inl KE)))] s.heap := hP
  have hD : va_D A [(x, .inr (3, xF xa n rd ae se)), (xa, .inl (D.2.2.2, 8, .inr (.inr (.inr (.inr IA))))), (a 0, .inr (1, iF a so lo hi al ch le gr sw su mn)), (a 1, nE f z), (a 2, .inl (D.2.1, 6, .inl KI)), (a 3, .inl (D.2.2.1, 6, .inr (.inl KJ))), (a 4, .inl (D.2.2.2, 6, .inr (.inr (.inr (.inr L))))), (a 5, .inl (D.2.2.1, 16, .inr (.inl KE)))] := hD
  have hl : lv_has ls 2 [(0, .ref x), (1, .int (nI j))] := hl
  refine lv_aload_n hx hb dX4_forget_0 rfl (lv_at hl 0 rfl) ?_
  refine lv_iload_n hx hb dX4_forget_1 rfl (lv_at hl 1 rfl) ?_
  refine kV (C := RX4) G (cv_instAt l D x xa n rd ae se IA hn hN hj hq) okX4_instrumentAt hgf (va_P.sub hP [0, 1] rfl) (mw_recv hgf (hP 0 _ rfl) rfl) qw2_43 ⟨Nat.le_of_ble_eq_true rfl, Nat.le_of_ble_eq_true rfl⟩ ⟨(Nat.le_of_ble_eq_true rfl), (Nat.le_of_ble_eq_true rfl)⟩ hl.1 (Nat.le_of_ble_eq_true rfl) rfl dX4_forget_2 ?_
  refine kZ (C := RX1) (wr := [(x, .inr (3, xF xa n rd ae se)), (xa, .inl (D.2.2.2, 8, .inr (.inr (.inr (.inr IA)))))]) G (cz_drop l D a so lo hi al ch le gr sw su mn f z KI KJ L KE) okO_X1_dropReadings hgf hP hD hS hA trivial [2, 3, 4, 5, 6, 7] [0, 1] rfl rfl rfl rfl (by decide) (mw_recv hgf (hP 2 _ rfl) rfl) qw3_145 ⟨Nat.le_of_ble_eq_true rfl, Nat.le_of_ble_eq_true rfl⟩ ⟨(Nat.le_of_ble_eq_true rfl), (Nat.le_of_ble_eq_true rfl)⟩ hl.1 (Nat.le_of_ble_eq_true rfl) rfl dX4_forget_5 (fun _ H locs hP hD hS => ?_)
  have hP : va_P D.1 vwCl [(x, .inr (3, xF xa n rd ae se)), (xa, .inl (D.2.2.2, 8, .inr (.inr (.inr (.inr IA))))), (a 0, .inr (1, [.int so, .ref (a 1), .long lo, .long hi, .int al, .int ch, .long le, .long gr, .long sw, .long su, .ref (a 2), .ref (a 3), .ref (a 4), .ref (a 5), .int 0])), (a 1, nE f z), (a 2, .inl (D.2.1, 6, .inl KI)), (a 3, .inl (D.2.2.1, 6, .inr (.inl KJ))), (a 4, .inl (D.2.2.2, 6, .inr (.inr (.inr (.inr L))))), (a 5, .inl (D.2.2.1, 16, .inr (.inl KE)))] H := hP
  have hD : va_D A [(x, .inr (3, xF xa n rd ae se)), (xa, .inl (D.2.2.2, 8, .inr (.inr (.inr (.inr IA))))), (a 0, .inr (1, [.int so, .ref (a 1), .long lo, .long hi, .int al, .int ch, .long le, .long gr, .long sw, .long su, .ref (a 2), .ref (a 3), .ref (a 4), .ref (a 5), .int 0])), (a 1, nE f z), (a 2, .inl (D.2.1, 6, .inl KI)), (a 3, .inl (D.2.2.1, 6, .inr (.inl KJ))), (a 4, .inl (D.2.2.2, 6, .inr (.inr (.inr (.inr L))))), (a 5, .inl (D.2.2.1, 16, .inr (.inl KE)))] := hD
  exact mE_iret () (congrArg (fun t : Int32 => some (Value.int t)) (rfl)) hx hb hr hlocks hP hD hS dX4_forget_8
set_option maxRecDepth 100000 in
set_option maxHeartbeats 4000000 in
theorem cz_readF0 (l : Launch) (D : mG) (x xa : Nat) (n rd ae se : Int32) (IA : Nat → Option Nat) (a : Nat → Nat) (so : Int32) (lo hi : Int64) (al ch : Int32) (le gr sw su : Int64) (mn : Int32) (f z : Bool) (KI : Nat → Int32) (KJ : Nat → Int64) (L : Nat → Option Nat) (KE : Nat → Int64) (kk : Nat → Int64) (bits : Int64) {N : Nat} (hn : n = nI N) (hN : N ≤ 8) {j : Nat} (hj : j < N) (hq : IA j = some (a 0)) {cN : Nat} (hc : ch = nI cN) (hc6 : cN ≤ 6) (h1 : ¬ gn_isNumber f z (gn_ofWidth f z bits) = 0) {v : Int64} (hv : gThr f z KI kk cN (gn_ofWidth f z bits) = v) (h0 : mn = 0) (h2 : gi_isBeyondLimits lo hi f z v = 0) : cZ l D yX4_read cX4_read 9 (some .long) (rmP 6) [(x, .inr (3, xF xa n rd ae se)), (xa, .inl (D.2.2.2, 8, .inr (.inr (.inr (.inr IA))))), (a 0, .inr (1, iF a so lo hi al ch le gr sw su mn)), (a 1, nE f z), (a 2, .inl (D.2.1, 6, .inl KI)), (a 3, .inl (D.2.2.1, 6, .inr (.inl KJ))), (a 4, .inl (D.2.2.2, 6, .inr (.inr (.inr (.inr L))))), (a 5, .inl (D.2.2.1, 16, .inr (.inl KE)))] (fun H => ∀ c, c < cN → leadOK D KJ L kk H c) [.ref x, .int (nI j), .long bits] (S := Unit) (fun _ => some (.long (v))) (fun _ => [(x, .inr (3, [.ref xa, .int n, .int (rd + 1), .int ae, .int (se + ch)])), (xa, .inl (D.2.2.2, 8, .inr (.inr (.inr (.inr IA))))), (a 0, .inr (1, [.int so, .ref (a 1), .long lo, .long hi, .int al, .int ch, .long v, .long v, .long 0, .long (gn_amount f z v), .ref (a 2), .ref (a 3), .ref (a 4), .ref (a 5), .int (mn + 1)])), (a 1, nE f z), (a 2, .inl (D.2.1, 6, .inl KI)), (a 3, .inl (D.2.2.1, 6, .inr (.inl KJ))), (a 4, .inl (D.2.2.2, 6, .inr (.inr (.inr (.inr L))))), (a 5, .inl (D.2.2.1, 16, .inr (.inl (vp_updL KE (mn &&& 15).toNatClampNeg v))))]) := by
  refine cZ_of (by decide) (Nat.le_of_ble_eq_true rfl) ?_
  intro p e s m below meth c ls A hx hb hr hlocks G hnm hgf hA hK hP hD hS hl
  have hP : va_P D.1 vwCl [(x, .inr (3, xF xa n rd ae se)), (xa, .inl (D.2.2.2, 8, .inr (.inr (.inr (.inr IA))))), (a 0, .inr (1, iF a so lo hi al ch le gr sw su mn)), (a 1, nE f z), (a 2, .inl (D.2.1, 6, .inl KI)), (a 3, .inl (D.2.2.1, 6, .inr (.inl KJ))), (a 4, .inl (D.2.2.2, 6, .inr (.inr (.inr (.inr L))))), (a 5, .inl (D.2.2.1, 16, .inr (.inl KE)))] s.heap := hP
  have hD : va_D A [(x, .inr (3, xF xa n rd ae se)), (xa, .inl (D.2.2.2, 8, .inr (.inr (.inr (.inr IA))))), (a 0, .inr (1, iF a so lo hi al ch le gr sw su mn)), (a 1, nE f z), (a 2, .inl (D.2.1, 6, .inl KI)), (a 3, .inl (D.2.2.1, 6, .inr (.inl KJ))), (a 4, .inl (D.2.2.2, 6, .inr (.inr (.inr (.inr L))))), (a 5, .inl (D.2.2.1, 16, .inr (.inl KE)))] := hD
  have hl : lv_has ls 9 [(0, .ref x), (1, .int (nI j)), (2, .long bits)] := hl
  refine lv_aload_n hx hb dX4_read_0 rfl (lv_at hl 0 rfl) ?_
  refine lv_iload_n hx hb dX4_read_1 rfl (lv_at hl 1 rfl) ?_
  refine kV (C := RX4) G (cv_instAt l D x xa n rd ae se IA hn hN hj hq) okX4_instrumentAt hgf (va_P.sub hP [0, 1] rfl) (mw_recv hgf (hP 0 _ rfl) rfl) qw2_43 ⟨Nat.le_of_ble_eq_true rfl, Nat.le_of_ble_eq_true rfl⟩ ⟨(Nat.le_of_ble_eq_true rfl), (Nat.le_of_ble_eq_true rfl)⟩ hl.1 (Nat.le_of_ble_eq_true rfl) rfl dX4_read_2 ?_
  refine lv_astore (lv' := [(4, .ref (a 0)), (0, .ref x), (1, .int (nI j)), (2, .long bits)]) hx hb dX4_read_5 hl (by decide) rfl (fun ls hl => ?_)
  refine lv_aload hx hb dX4_read_7 (lv_at hl 0 rfl) ?_
  refine mw_get G hgf (hP 2 _ rfl) rfl inX1 1 (by decide) qw1_220 rfl dX4_read_9 ?_
  refine lv_lload_n hx hb dX4_read_12 rfl (lv_at hl 3 rfl) ?_
  refine kgn_ofWidth (f := f) (z := z) bits G hgf (hP 3 _ rfl) qw2_70 ⟨Nat.le_of_ble_eq_true rfl, Nat.le_of_ble_eq_true rfl⟩ ⟨(Nat.le_of_ble_eq_true rfl), (Nat.le_of_ble_eq_true rfl)⟩ hl.1 (Nat.le_of_ble_eq_true rfl) dX4_read_13 ?_
  refine lv_lstore (lv' := [(5, .long (gn_ofWidth f z bits)), (4, .ref (a 0)), (0, .ref x), (1, .int (nI j)), (2, .long bits)]) hx hb dX4_read_16 hl (by decide) rfl (fun ls hl => ?_)
  refine lv_aload hx hb dX4_read_18 (lv_at hl 1 rfl) ?_
  refine mw_get G hgf (hP 2 _ rfl) rfl inX1 1 (by decide) qw1_220 rfl dX4_read_20 ?_
  refine lv_lload hx hb dX4_read_23 (lv_at hl 0 rfl) ?_
  refine kgn_isNumber (f := f) (z := z) (gn_ofWidth f z bits) G hgf (hP 3 _ rfl) qw2_79 ⟨Nat.le_of_ble_eq_true rfl, Nat.le_of_ble_eq_true rfl⟩ ⟨(Nat.le_of_ble_eq_true rfl), (Nat.le_of_ble_eq_true rfl)⟩ hl.1 (Nat.le_of_ble_eq_true rfl) dX4_read_25 ?_
  refine lv_if_ne (tgt := 41) hx hb dX4_read_28 (by decide) (fun _ => ?_) (fun h => absurd h h1)
  refine lv_aload hx hb dX4_read_41 (lv_at hl 1 rfl) ?_
  refine lv_lload hx hb dX4_read_43 (lv_at hl 0 rfl) ?_
  refine kV (C := RX1) G (cv_gThr l D a so lo hi al ch le gr sw su mn f z KI KJ L KE kk (gn_ofWidth f z bits) hc hc6) okX1_throughChain hgf ⟨va_P.sub hP [2, 3, 4, 5, 6] rfl, hK⟩ (mw_recv hgf (hP 2 _ rfl) rfl) qw2_135 ⟨Nat.le_of_ble_eq_true rfl, Nat.le_of_ble_eq_true rfl⟩ ⟨(Nat.le_of_ble_eq_true rfl), (Nat.le_of_ble_eq_true rfl)⟩ hl.1 (Nat.le_of_ble_eq_true rfl) rfl dX4_read_45 ?_
  rw [show gThr f z KI kk cN (gn_ofWidth f z bits) = v from hv]
  refine lv_lstore (lv' := [(7, .long v), (5, .long (gn_ofWidth f z bits)), (4, .ref (a 0)), (0, .ref x), (1, .int (nI j)), (2, .long bits)]) hx hb dX4_read_48 hl (by decide) rfl (fun ls hl => ?_)
  refine lv_aload hx hb dX4_read_50 (lv_at hl 2 rfl) ?_
  refine lv_lload hx hb dX4_read_52 (lv_at hl 0 rfl) ?_
  refine kZ (C := RX1) (wr := [(x, .inr (3, xF xa n rd ae se)), (xa, .inl (D.2.2.2, 8, .inr (.inr (.inr (.inr IA)))))]) G (cz_keepF l D a so lo hi al ch le gr sw su mn f z KI KJ L KE v h0) okO_X1_keep hgf hP hD hS hA trivial [2, 3, 4, 5, 6, 7] [0, 1] rfl rfl rfl rfl (by decide) (mw_recv hgf (hP 2 _ rfl) rfl) qw2_222 ⟨Nat.le_of_ble_eq_true rfl, Nat.le_of_ble_eq_true rfl⟩ ⟨(Nat.le_of_ble_eq_true rfl), (Nat.le_of_ble_eq_true rfl)⟩ hl.1 (Nat.le_of_ble_eq_true rfl) rfl dX4_read_54 (fun _ H locs hP hD hS => ?_)
  have hP : va_P D.1 vwCl [(x, .inr (3, xF xa n rd ae se)), (xa, .inl (D.2.2.2, 8, .inr (.inr (.inr (.inr IA))))), (a 0, .inr (1, [.int so, .ref (a 1), .long lo, .long hi, .int al, .int ch, .long v, .long v, .long 0, .long (gn_amount f z v), .ref (a 2), .ref (a 3), .ref (a 4), .ref (a 5), .int (mn + 1)])), (a 1, nE f z), (a 2, .inl (D.2.1, 6, .inl KI)), (a 3, .inl (D.2.2.1, 6, .inr (.inl KJ))), (a 4, .inl (D.2.2.2, 6, .inr (.inr (.inr (.inr L))))), (a 5, .inl (D.2.2.1, 16, .inr (.inl (vp_updL KE (mn &&& 15).toNatClampNeg v))))] H := hP
  have hD : va_D A [(x, .inr (3, xF xa n rd ae se)), (xa, .inl (D.2.2.2, 8, .inr (.inr (.inr (.inr IA))))), (a 0, .inr (1, [.int so, .ref (a 1), .long lo, .long hi, .int al, .int ch, .long v, .long v, .long 0, .long (gn_amount f z v), .ref (a 2), .ref (a 3), .ref (a 4), .ref (a 5), .int (mn + 1)])), (a 1, nE f z), (a 2, .inl (D.2.1, 6, .inl KI)), (a 3, .inl (D.2.2.1, 6, .inr (.inl KJ))), (a 4, .inl (D.2.2.2, 6, .inr (.inr (.inr (.inr L))))), (a 5, .inl (D.2.2.1, 16, .inr (.inl (vp_updL KE (mn &&& 15).toNatClampNeg v))))] := hD
  refine lv_aload_n hx hb dX4_read_57 rfl (lv_at hl 3 rfl) ?_
  refine lv_dup hx hb dX4_read_58 rfl ?_
  refine mw_get G hgf (hP 0 _ rfl) rfl inX4 2 (by decide) qw1_31 rfl dX4_read_59 ?_
  refine lv_iconst (v := 1) hx hb dX4_read_62 (by decide) ?_
  refine lv_iadd hx hb dX4_read_63 ?_
  refine mw_put (w1 := [(x, .inr (3, [.ref xa, .int n, .int (rd + 1), .int ae, .int se])), (xa, .inl (D.2.2.2, 8, .inr (.inr (.inr (.inr IA))))), (a 0, .inr (1, [.int so, .ref (a 1), .long lo, .long hi, .int al, .int ch, .long v, .long v, .long 0, .long (gn_amount f z v), .ref (a 2), .ref (a 3), .ref (a 4), .ref (a 5), .int (mn + 1)])), (a 1, nE f z), (a 2, .inl (D.2.1, 6, .inl KI)), (a 3, .inl (D.2.2.1, 6, .inr (.inl KJ))), (a 4, .inl (D.2.2.2, 6, .inr (.inr (.inr (.inr L))))), (a 5, .inl (D.2.2.1, 16, .inr (.inl (vp_updL KE (mn &&& 15).toNatClampNeg v))))]) G hgf hP hD hS 0 rfl rfl inX4 tyX4_ok nmX4 2 (by decide) qw1_31 rfl rfl rfl rfl (Nat.le_of_ble_eq_true rfl) rfl dX4_read_64 (fun H locs hP hD hS => ?_)
  refine lv_aload_n hx hb dX4_read_67 rfl (lv_at hl 3 rfl) ?_
  refine lv_dup hx hb dX4_read_68 rfl ?_
  refine mw_get G hgf (hP 0 _ rfl) rfl inX4 4 (by decide) qw1_33 rfl dX4_read_69 ?_
  refine lv_aload hx hb dX4_read_72 (lv_at hl 2 rfl) ?_
  refine mw_get G hgf (hP 2 _ rfl) rfl inX1 5 (by decide) qw1_227 rfl dX4_read_74 ?_
  refine lv_iadd hx hb dX4_read_77 ?_
  refine mw_put (w1 := [(x, .inr (3, [.ref xa, .int n, .int (rd + 1), .int ae, .int (se + ch)])), (xa, .inl (D.2.2.2, 8, .inr (.inr (.inr (.inr IA))))), (a 0, .inr (1, [.int so, .ref (a 1), .long lo, .long hi, .int al, .int ch, .long v, .long v, .long 0, .long (gn_amount f z v), .ref (a 2), .ref (a 3), .ref (a 4), .ref (a 5), .int (mn + 1)])), (a 1, nE f z), (a 2, .inl (D.2.1, 6, .inl KI)), (a 3, .inl (D.2.2.1, 6, .inr (.inl KJ))), (a 4, .inl (D.2.2.2, 6, .inr (.inr (.inr (.inr L))))), (a 5, .inl (D.2.2.1, 16, .inr (.inl (vp_updL KE (mn &&& 15).toNatClampNeg v))))]) G hgf hP hD hS 0 rfl rfl inX4 tyX4_ok nmX4 4 (by decide) qw1_33 rfl rfl rfl rfl (Nat.le_of_ble_eq_true rfl) rfl dX4_read_78 (fun H locs hP hD hS => ?_)
  refine lv_aload hx hb dX4_read_81 (lv_at hl 2 rfl) ?_
  refine lv_lload hx hb dX4_read_83 (lv_at hl 0 rfl) ?_
  refine kV (C := RX1) G (cv_gi_isBeyondLimits l D a so lo hi al ch v v 0 (gn_amount f z v) (mn + 1) f z KI KJ L (vp_updL KE (mn &&& 15).toNatClampNeg v) v) okX1_isBeyondLimits hgf (va_P.sub hP [2, 3] rfl) (mw_recv hgf (hP 2 _ rfl) rfl) qw3_40 ⟨Nat.le_of_ble_eq_true rfl, Nat.le_of_ble_eq_true rfl⟩ ⟨(Nat.le_of_ble_eq_true rfl), (Nat.le_of_ble_eq_true rfl)⟩ hl.1 (Nat.le_of_ble_eq_true rfl) rfl dX4_read_85 ?_
  refine lv_if_eq (tgt := 112) hx hb dX4_read_88 (by decide) (fun _ => ?_) (fun h => absurd h2 h)
  refine lv_lload hx hb dX4_read_112 (lv_at hl 0 rfl) ?_
  exact mE_lret () (congrArg (fun t : Int64 => some (Value.long t)) (rfl)) hx hb hr hlocks hP hD hS dX4_read_114
set_option maxRecDepth 100000 in
set_option maxHeartbeats 4000000 in
theorem cz_readF1 (l : Launch) (D : mG) (x xa : Nat) (n rd ae se : Int32) (IA : Nat → Option Nat) (a : Nat → Nat) (so : Int32) (lo hi : Int64) (al ch : Int32) (le gr sw su : Int64) (mn : Int32) (f z : Bool) (KI : Nat → Int32) (KJ : Nat → Int64) (L : Nat → Option Nat) (KE : Nat → Int64) (kk : Nat → Int64) (bits : Int64) {N : Nat} (hn : n = nI N) (hN : N ≤ 8) {j : Nat} (hj : j < N) (hq : IA j = some (a 0)) {cN : Nat} (hc : ch = nI cN) (hc6 : cN ≤ 6) (h1 : ¬ gn_isNumber f z (gn_ofWidth f z bits) = 0) {v : Int64} (hv : gThr f z KI kk cN (gn_ofWidth f z bits) = v) (h0 : mn = 0) (h2 : ¬ gi_isBeyondLimits lo hi f z v = 0) : cZ l D yX4_read cX4_read 9 (some .long) (rmP 6) [(x, .inr (3, xF xa n rd ae se)), (xa, .inl (D.2.2.2, 8, .inr (.inr (.inr (.inr IA))))), (a 0, .inr (1, iF a so lo hi al ch le gr sw su mn)), (a 1, nE f z), (a 2, .inl (D.2.1, 6, .inl KI)), (a 3, .inl (D.2.2.1, 6, .inr (.inl KJ))), (a 4, .inl (D.2.2.2, 6, .inr (.inr (.inr (.inr L))))), (a 5, .inl (D.2.2.1, 16, .inr (.inl KE)))] (fun H => ∀ c, c < cN → leadOK D KJ L kk H c) [.ref x, .int (nI j), .long bits] (S := Unit) (fun _ => some (.long (v))) (fun _ => [(x, .inr (3, [.ref xa, .int n, .int (rd + 1), .int (ae + 1), .int (se + ch)])), (xa, .inl (D.2.2.2, 8, .inr (.inr (.inr (.inr IA))))), (a 0, .inr (1, [.int so, .ref (a 1), .long lo, .long hi, .int (al + 1), .int ch, .long v, .long v, .long 0, .long (gn_amount f z v), .ref (a 2), .ref (a 3), .ref (a 4), .ref (a 5), .int (mn + 1)])), (a 1, nE f z), (a 2, .inl (D.2.1, 6, .inl KI)), (a 3, .inl (D.2.2.1, 6, .inr (.inl KJ))), (a 4, .inl (D.2.2.2, 6, .inr (.inr (.inr (.inr L))))), (a 5, .inl (D.2.2.1, 16, .inr (.inl (vp_updL KE (mn &&& 15).toNatClampNeg v))))]) := by
  refine cZ_of (by decide) (Nat.le_of_ble_eq_true rfl) ?_
  intro p e s m below meth c ls A hx hb hr hlocks G hnm hgf hA hK hP hD hS hl
  have hP : va_P D.1 vwCl [(x, .inr (3, xF xa n rd ae se)), (xa, .inl (D.2.2.2, 8, .inr (.inr (.inr (.inr IA))))), (a 0, .inr (1, iF a so lo hi al ch le gr sw su mn)), (a 1, nE f z), (a 2, .inl (D.2.1, 6, .inl KI)), (a 3, .inl (D.2.2.1, 6, .inr (.inl KJ))), (a 4, .inl (D.2.2.2, 6, .inr (.inr (.inr (.inr L))))), (a 5, .inl (D.2.2.1, 16, .inr (.inl KE)))] s.heap := hP
  have hD : va_D A [(x, .inr (3, xF xa n rd ae se)), (xa, .inl (D.2.2.2, 8, .inr (.inr (.inr (.inr IA))))), (a 0, .inr (1, iF a so lo hi al ch le gr sw su mn)), (a 1, nE f z), (a 2, .inl (D.2.1, 6, .inl KI)), (a 3, .inl (D.2.2.1, 6, .inr (.inl KJ))), (a 4, .inl (D.2.2.2, 6, .inr (.inr (.inr (.inr L))))), (a 5, .inl (D.2.2.1, 16, .inr (.inl KE)))] := hD
  have hl : lv_has ls 9 [(0, .ref x), (1, .int (nI j)), (2, .long bits)] := hl
  refine lv_aload_n hx hb dX4_read_0 rfl (lv_at hl 0 rfl) ?_
  refine lv_iload_n hx hb dX4_read_1 rfl (lv_at hl 1 rfl) ?_
  refine kV (C := RX4) G (cv_instAt l D x xa n rd ae se IA hn hN hj hq) okX4_instrumentAt hgf (va_P.sub hP [0, 1] rfl) (mw_recv hgf (hP 0 _ rfl) rfl) qw2_43 ⟨Nat.le_of_ble_eq_true rfl, Nat.le_of_ble_eq_true rfl⟩ ⟨(Nat.le_of_ble_eq_true rfl), (Nat.le_of_ble_eq_true rfl)⟩ hl.1 (Nat.le_of_ble_eq_true rfl) rfl dX4_read_2 ?_
  refine lv_astore (lv' := [(4, .ref (a 0)), (0, .ref x), (1, .int (nI j)), (2, .long bits)]) hx hb dX4_read_5 hl (by decide) rfl (fun ls hl => ?_)
  refine lv_aload hx hb dX4_read_7 (lv_at hl 0 rfl) ?_
  refine mw_get G hgf (hP 2 _ rfl) rfl inX1 1 (by decide) qw1_220 rfl dX4_read_9 ?_
  refine lv_lload_n hx hb dX4_read_12 rfl (lv_at hl 3 rfl) ?_
  refine kgn_ofWidth (f := f) (z := z) bits G hgf (hP 3 _ rfl) qw2_70 ⟨Nat.le_of_ble_eq_true rfl, Nat.le_of_ble_eq_true rfl⟩ ⟨(Nat.le_of_ble_eq_true rfl), (Nat.le_of_ble_eq_true rfl)⟩ hl.1 (Nat.le_of_ble_eq_true rfl) dX4_read_13 ?_
  refine lv_lstore (lv' := [(5, .long (gn_ofWidth f z bits)), (4, .ref (a 0)), (0, .ref x), (1, .int (nI j)), (2, .long bits)]) hx hb dX4_read_16 hl (by decide) rfl (fun ls hl => ?_)
  refine lv_aload hx hb dX4_read_18 (lv_at hl 1 rfl) ?_
  refine mw_get G hgf (hP 2 _ rfl) rfl inX1 1 (by decide) qw1_220 rfl dX4_read_20 ?_
  refine lv_lload hx hb dX4_read_23 (lv_at hl 0 rfl) ?_
  refine kgn_isNumber (f := f) (z := z) (gn_ofWidth f z bits) G hgf (hP 3 _ rfl) qw2_79 ⟨Nat.le_of_ble_eq_true rfl, Nat.le_of_ble_eq_true rfl⟩ ⟨(Nat.le_of_ble_eq_true rfl), (Nat.le_of_ble_eq_true rfl)⟩ hl.1 (Nat.le_of_ble_eq_true rfl) dX4_read_25 ?_
  refine lv_if_ne (tgt := 41) hx hb dX4_read_28 (by decide) (fun _ => ?_) (fun h => absurd h h1)
  refine lv_aload hx hb dX4_read_41 (lv_at hl 1 rfl) ?_
  refine lv_lload hx hb dX4_read_43 (lv_at hl 0 rfl) ?_
  refine kV (C := RX1) G (cv_gThr l D a so lo hi al ch le gr sw su mn f z KI KJ L KE kk (gn_ofWidth f z bits) hc hc6) okX1_throughChain hgf ⟨va_P.sub hP [2, 3, 4, 5, 6] rfl, hK⟩ (mw_recv hgf (hP 2 _ rfl) rfl) qw2_135 ⟨Nat.le_of_ble_eq_true rfl, Nat.le_of_ble_eq_true rfl⟩ ⟨(Nat.le_of_ble_eq_true rfl), (Nat.le_of_ble_eq_true rfl)⟩ hl.1 (Nat.le_of_ble_eq_true rfl) rfl dX4_read_45 ?_
  rw [show gThr f z KI kk cN (gn_ofWidth f z bits) = v from hv]
  refine lv_lstore (lv' := [(7, .long v), (5, .long (gn_ofWidth f z bits)), (4, .ref (a 0)), (0, .ref x), (1, .int (nI j)), (2, .long bits)]) hx hb dX4_read_48 hl (by decide) rfl (fun ls hl => ?_)
  refine lv_aload hx hb dX4_read_50 (lv_at hl 2 rfl) ?_
  refine lv_lload hx hb dX4_read_52 (lv_at hl 0 rfl) ?_
  refine kZ (C := RX1) (wr := [(x, .inr (3, xF xa n rd ae se)), (xa, .inl (D.2.2.2, 8, .inr (.inr (.inr (.inr IA)))))]) G (cz_keepF l D a so lo hi al ch le gr sw su mn f z KI KJ L KE v h0) okO_X1_keep hgf hP hD hS hA trivial [2, 3, 4, 5, 6, 7] [0, 1] rfl rfl rfl rfl (by decide) (mw_recv hgf (hP 2 _ rfl) rfl) qw2_222 ⟨Nat.le_of_ble_eq_true rfl, Nat.le_of_ble_eq_true rfl⟩ ⟨(Nat.le_of_ble_eq_true rfl), (Nat.le_of_ble_eq_true rfl)⟩ hl.1 (Nat.le_of_ble_eq_true rfl) rfl dX4_read_54 (fun _ H locs hP hD hS => ?_)
  have hP : va_P D.1 vwCl [(x, .inr (3, xF xa n rd ae se)), (xa, .inl (D.2.2.2, 8, .inr (.inr (.inr (.inr IA))))), (a 0, .inr (1, [.int so, .ref (a 1), .long lo, .long hi, .int al, .int ch, .long v, .long v, .long 0, .long (gn_amount f z v), .ref (a 2), .ref (a 3), .ref (a 4), .ref (a 5), .int (mn + 1)])), (a 1, nE f z), (a 2, .inl (D.2.1, 6, .inl KI)), (a 3, .inl (D.2.2.1, 6, .inr (.inl KJ))), (a 4, .inl (D.2.2.2, 6, .inr (.inr (.inr (.inr L))))), (a 5, .inl (D.2.2.1, 16, .inr (.inl (vp_updL KE (mn &&& 15).toNatClampNeg v))))] H := hP
  have hD : va_D A [(x, .inr (3, xF xa n rd ae se)), (xa, .inl (D.2.2.2, 8, .inr (.inr (.inr (.inr IA))))), (a 0, .inr (1, [.int so, .ref (a 1), .long lo, .long hi, .int al, .int ch, .long v, .long v, .long 0, .long (gn_amount f z v), .ref (a 2), .ref (a 3), .ref (a 4), .ref (a 5), .int (mn + 1)])), (a 1, nE f z), (a 2, .inl (D.2.1, 6, .inl KI)), (a 3, .inl (D.2.2.1, 6, .inr (.inl KJ))), (a 4, .inl (D.2.2.2, 6, .inr (.inr (.inr (.inr L))))), (a 5, .inl (D.2.2.1, 16, .inr (.inl (vp_updL KE (mn &&& 15).toNatClampNeg v))))] := hD
  refine lv_aload_n hx hb dX4_read_57 rfl (lv_at hl 3 rfl) ?_
  refine lv_dup hx hb dX4_read_58 rfl ?_
  refine mw_get G hgf (hP 0 _ rfl) rfl inX4 2 (by decide) qw1_31 rfl dX4_read_59 ?_
  refine lv_iconst (v := 1) hx hb dX4_read_62 (by decide) ?_
  refine lv_iadd hx hb dX4_read_63 ?_
  refine mw_put (w1 := [(x, .inr (3, [.ref xa, .int n, .int (rd + 1), .int ae, .int se])), (xa, .inl (D.2.2.2, 8, .inr (.inr (.inr (.inr IA))))), (a 0, .inr (1, [.int so, .ref (a 1), .long lo, .long hi, .int al, .int ch, .long v, .long v, .long 0, .long (gn_amount f z v), .ref (a 2), .ref (a 3), .ref (a 4), .ref (a 5), .int (mn + 1)])), (a 1, nE f z), (a 2, .inl (D.2.1, 6, .inl KI)), (a 3, .inl (D.2.2.1, 6, .inr (.inl KJ))), (a 4, .inl (D.2.2.2, 6, .inr (.inr (.inr (.inr L))))), (a 5, .inl (D.2.2.1, 16, .inr (.inl (vp_updL KE (mn &&& 15).toNatClampNeg v))))]) G hgf hP hD hS 0 rfl rfl inX4 tyX4_ok nmX4 2 (by decide) qw1_31 rfl rfl rfl rfl (Nat.le_of_ble_eq_true rfl) rfl dX4_read_64 (fun H locs hP hD hS => ?_)
  refine lv_aload_n hx hb dX4_read_67 rfl (lv_at hl 3 rfl) ?_
  refine lv_dup hx hb dX4_read_68 rfl ?_
  refine mw_get G hgf (hP 0 _ rfl) rfl inX4 4 (by decide) qw1_33 rfl dX4_read_69 ?_
  refine lv_aload hx hb dX4_read_72 (lv_at hl 2 rfl) ?_
  refine mw_get G hgf (hP 2 _ rfl) rfl inX1 5 (by decide) qw1_227 rfl dX4_read_74 ?_
  refine lv_iadd hx hb dX4_read_77 ?_
  refine mw_put (w1 := [(x, .inr (3, [.ref xa, .int n, .int (rd + 1), .int ae, .int (se + ch)])), (xa, .inl (D.2.2.2, 8, .inr (.inr (.inr (.inr IA))))), (a 0, .inr (1, [.int so, .ref (a 1), .long lo, .long hi, .int al, .int ch, .long v, .long v, .long 0, .long (gn_amount f z v), .ref (a 2), .ref (a 3), .ref (a 4), .ref (a 5), .int (mn + 1)])), (a 1, nE f z), (a 2, .inl (D.2.1, 6, .inl KI)), (a 3, .inl (D.2.2.1, 6, .inr (.inl KJ))), (a 4, .inl (D.2.2.2, 6, .inr (.inr (.inr (.inr L))))), (a 5, .inl (D.2.2.1, 16, .inr (.inl (vp_updL KE (mn &&& 15).toNatClampNeg v))))]) G hgf hP hD hS 0 rfl rfl inX4 tyX4_ok nmX4 4 (by decide) qw1_33 rfl rfl rfl rfl (Nat.le_of_ble_eq_true rfl) rfl dX4_read_78 (fun H locs hP hD hS => ?_)
  refine lv_aload hx hb dX4_read_81 (lv_at hl 2 rfl) ?_
  refine lv_lload hx hb dX4_read_83 (lv_at hl 0 rfl) ?_
  refine kV (C := RX1) G (cv_gi_isBeyondLimits l D a so lo hi al ch v v 0 (gn_amount f z v) (mn + 1) f z KI KJ L (vp_updL KE (mn &&& 15).toNatClampNeg v) v) okX1_isBeyondLimits hgf (va_P.sub hP [2, 3] rfl) (mw_recv hgf (hP 2 _ rfl) rfl) qw3_40 ⟨Nat.le_of_ble_eq_true rfl, Nat.le_of_ble_eq_true rfl⟩ ⟨(Nat.le_of_ble_eq_true rfl), (Nat.le_of_ble_eq_true rfl)⟩ hl.1 (Nat.le_of_ble_eq_true rfl) rfl dX4_read_85 ?_
  refine lv_if_eq (tgt := 112) hx hb dX4_read_88 (by decide) (fun h => absurd h h2) (fun _ => ?_)
  refine lv_aload hx hb dX4_read_91 (lv_at hl 2 rfl) ?_
  refine lv_dup hx hb dX4_read_93 rfl ?_
  refine mw_get G hgf (hP 2 _ rfl) rfl inX1 4 (by decide) qw1_225 rfl dX4_read_94 ?_
  refine lv_iconst (v := 1) hx hb dX4_read_97 (by decide) ?_
  refine lv_iadd hx hb dX4_read_98 ?_
  refine mw_put (w1 := [(x, .inr (3, [.ref xa, .int n, .int (rd + 1), .int ae, .int (se + ch)])), (xa, .inl (D.2.2.2, 8, .inr (.inr (.inr (.inr IA))))), (a 0, .inr (1, [.int so, .ref (a 1), .long lo, .long hi, .int (al + 1), .int ch, .long v, .long v, .long 0, .long (gn_amount f z v), .ref (a 2), .ref (a 3), .ref (a 4), .ref (a 5), .int (mn + 1)])), (a 1, nE f z), (a 2, .inl (D.2.1, 6, .inl KI)), (a 3, .inl (D.2.2.1, 6, .inr (.inl KJ))), (a 4, .inl (D.2.2.2, 6, .inr (.inr (.inr (.inr L))))), (a 5, .inl (D.2.2.1, 16, .inr (.inl (vp_updL KE (mn &&& 15).toNatClampNeg v))))]) G hgf hP hD hS 2 rfl rfl inX1 tyX1_ok nmX1 4 (by decide) qw1_225 rfl rfl rfl rfl (Nat.le_of_ble_eq_true rfl) rfl dX4_read_99 (fun H locs hP hD hS => ?_)
  refine lv_aload_n hx hb dX4_read_102 rfl (lv_at hl 3 rfl) ?_
  refine lv_dup hx hb dX4_read_103 rfl ?_
  refine mw_get G hgf (hP 0 _ rfl) rfl inX4 3 (by decide) qw1_32 rfl dX4_read_104 ?_
  refine lv_iconst (v := 1) hx hb dX4_read_107 (by decide) ?_
  refine lv_iadd hx hb dX4_read_108 ?_
  refine mw_put (w1 := [(x, .inr (3, [.ref xa, .int n, .int (rd + 1), .int (ae + 1), .int (se + ch)])), (xa, .inl (D.2.2.2, 8, .inr (.inr (.inr (.inr IA))))), (a 0, .inr (1, [.int so, .ref (a 1), .long lo, .long hi, .int (al + 1), .int ch, .long v, .long v, .long 0, .long (gn_amount f z v), .ref (a 2), .ref (a 3), .ref (a 4), .ref (a 5), .int (mn + 1)])), (a 1, nE f z), (a 2, .inl (D.2.1, 6, .inl KI)), (a 3, .inl (D.2.2.1, 6, .inr (.inl KJ))), (a 4, .inl (D.2.2.2, 6, .inr (.inr (.inr (.inr L))))), (a 5, .inl (D.2.2.1, 16, .inr (.inl (vp_updL KE (mn &&& 15).toNatClampNeg v))))]) G hgf hP hD hS 0 rfl rfl inX4 tyX4_ok nmX4 3 (by decide) qw1_32 rfl rfl rfl rfl (Nat.le_of_ble_eq_true rfl) rfl dX4_read_109 (fun H locs hP hD hS => ?_)
  refine lv_lload hx hb dX4_read_112 (lv_at hl 0 rfl) ?_
  exact mE_lret () (congrArg (fun t : Int64 => some (Value.long t)) (rfl)) hx hb hr hlocks hP hD hS dX4_read_114
set_option maxRecDepth 100000 in
set_option maxHeartbeats 4000000 in
theorem cz_readN0 (l : Launch) (D : mG) (x xa : Nat) (n rd ae se : Int32) (IA : Nat → Option Nat) (a : Nat → Nat) (so : Int32) (lo hi : Int64) (al ch : Int32) (le gr sw su : Int64) (mn : Int32) (f z : Bool) (KI : Nat → Int32) (KJ : Nat → Int64) (L : Nat → Option Nat) (KE : Nat → Int64) (kk : Nat → Int64) (bits : Int64) {N : Nat} (hn : n = nI N) (hN : N ≤ 8) {j : Nat} (hj : j < N) (hq : IA j = some (a 0)) {cN : Nat} (hc : ch = nI cN) (hc6 : cN ≤ 6) (h1 : ¬ gn_isNumber f z (gn_ofWidth f z bits) = 0) {v : Int64} (hv : gThr f z KI kk cN (gn_ofWidth f z bits) = v) (h0 : ¬ mn = 0) (h2 : gi_isBeyondLimits lo hi f z v = 0) : cZ l D yX4_read cX4_read 9 (some .long) (rmP 6) [(x, .inr (3, xF xa n rd ae se)), (xa, .inl (D.2.2.2, 8, .inr (.inr (.inr (.inr IA))))), (a 0, .inr (1, iF a so lo hi al ch le gr sw su mn)), (a 1, nE f z), (a 2, .inl (D.2.1, 6, .inl KI)), (a 3, .inl (D.2.2.1, 6, .inr (.inl KJ))), (a 4, .inl (D.2.2.2, 6, .inr (.inr (.inr (.inr L))))), (a 5, .inl (D.2.2.1, 16, .inr (.inl KE)))] (fun H => ∀ c, c < cN → leadOK D KJ L kk H c) [.ref x, .int (nI j), .long bits] (S := Unit) (fun _ => some (.long (v))) (fun _ => [(x, .inr (3, [.ref xa, .int n, .int (rd + 1), .int ae, .int (se + ch)])), (xa, .inl (D.2.2.2, 8, .inr (.inr (.inr (.inr IA))))), (a 0, .inr (1, [.int so, .ref (a 1), .long lo, .long hi, .int al, .int ch, .long (gn_lesser f z le v), .long (gn_greater f z gr v), .long (gn_apart f z v (gi_latest mn KE 0)), .long (gn_plus f z su (gn_amount f z v)), .ref (a 2), .ref (a 3), .ref (a 4), .ref (a 5), .int (mn + 1)])), (a 1, nE f z), (a 2, .inl (D.2.1, 6, .inl KI)), (a 3, .inl (D.2.2.1, 6, .inr (.inl KJ))), (a 4, .inl (D.2.2.2, 6, .inr (.inr (.inr (.inr L))))), (a 5, .inl (D.2.2.1, 16, .inr (.inl (vp_updL KE (mn &&& 15).toNatClampNeg v))))]) := by
  refine cZ_of (by decide) (Nat.le_of_ble_eq_true rfl) ?_
  intro p e s m below meth c ls A hx hb hr hlocks G hnm hgf hA hK hP hD hS hl
  have hP : va_P D.1 vwCl [(x, .inr (3, xF xa n rd ae se)), (xa, .inl (D.2.2.2, 8, .inr (.inr (.inr (.inr IA))))), (a 0, .inr (1, iF a so lo hi al ch le gr sw su mn)), (a 1, nE f z), (a 2, .inl (D.2.1, 6, .inl KI)), (a 3, .inl (D.2.2.1, 6, .inr (.inl KJ))), (a 4, .inl (D.2.2.2, 6, .inr (.inr (.inr (.inr L))))), (a 5, .inl (D.2.2.1, 16, .inr (.inl KE)))] s.heap := hP
  have hD : va_D A [(x, .inr (3, xF xa n rd ae se)), (xa, .inl (D.2.2.2, 8, .inr (.inr (.inr (.inr IA))))), (a 0, .inr (1, iF a so lo hi al ch le gr sw su mn)), (a 1, nE f z), (a 2, .inl (D.2.1, 6, .inl KI)), (a 3, .inl (D.2.2.1, 6, .inr (.inl KJ))), (a 4, .inl (D.2.2.2, 6, .inr (.inr (.inr (.inr L))))), (a 5, .inl (D.2.2.1, 16, .inr (.inl KE)))] := hD
  have hl : lv_has ls 9 [(0, .ref x), (1, .int (nI j)), (2, .long bits)] := hl
  refine lv_aload_n hx hb dX4_read_0 rfl (lv_at hl 0 rfl) ?_
  refine lv_iload_n hx hb dX4_read_1 rfl (lv_at hl 1 rfl) ?_
  refine kV (C := RX4) G (cv_instAt l D x xa n rd ae se IA hn hN hj hq) okX4_instrumentAt hgf (va_P.sub hP [0, 1] rfl) (mw_recv hgf (hP 0 _ rfl) rfl) qw2_43 ⟨Nat.le_of_ble_eq_true rfl, Nat.le_of_ble_eq_true rfl⟩ ⟨(Nat.le_of_ble_eq_true rfl), (Nat.le_of_ble_eq_true rfl)⟩ hl.1 (Nat.le_of_ble_eq_true rfl) rfl dX4_read_2 ?_
  refine lv_astore (lv' := [(4, .ref (a 0)), (0, .ref x), (1, .int (nI j)), (2, .long bits)]) hx hb dX4_read_5 hl (by decide) rfl (fun ls hl => ?_)
  refine lv_aload hx hb dX4_read_7 (lv_at hl 0 rfl) ?_
  refine mw_get G hgf (hP 2 _ rfl) rfl inX1 1 (by decide) qw1_220 rfl dX4_read_9 ?_
  refine lv_lload_n hx hb dX4_read_12 rfl (lv_at hl 3 rfl) ?_
  refine kgn_ofWidth (f := f) (z := z) bits G hgf (hP 3 _ rfl) qw2_70 ⟨Nat.le_of_ble_eq_true rfl, Nat.le_of_ble_eq_true rfl⟩ ⟨(Nat.le_of_ble_eq_true rfl), (Nat.le_of_ble_eq_true rfl)⟩ hl.1 (Nat.le_of_ble_eq_true rfl) dX4_read_13 ?_
  refine lv_lstore (lv' := [(5, .long (gn_ofWidth f z bits)), (4, .ref (a 0)), (0, .ref x), (1, .int (nI j)), (2, .long bits)]) hx hb dX4_read_16 hl (by decide) rfl (fun ls hl => ?_)
  refine lv_aload hx hb dX4_read_18 (lv_at hl 1 rfl) ?_
  refine mw_get G hgf (hP 2 _ rfl) rfl inX1 1 (by decide) qw1_220 rfl dX4_read_20 ?_
  refine lv_lload hx hb dX4_read_23 (lv_at hl 0 rfl) ?_
  refine kgn_isNumber (f := f) (z := z) (gn_ofWidth f z bits) G hgf (hP 3 _ rfl) qw2_79 ⟨Nat.le_of_ble_eq_true rfl, Nat.le_of_ble_eq_true rfl⟩ ⟨(Nat.le_of_ble_eq_true rfl), (Nat.le_of_ble_eq_true rfl)⟩ hl.1 (Nat.le_of_ble_eq_true rfl) dX4_read_25 ?_
  refine lv_if_ne (tgt := 41) hx hb dX4_read_28 (by decide) (fun _ => ?_) (fun h => absurd h h1)
  refine lv_aload hx hb dX4_read_41 (lv_at hl 1 rfl) ?_
  refine lv_lload hx hb dX4_read_43 (lv_at hl 0 rfl) ?_
  refine kV (C := RX1) G (cv_gThr l D a so lo hi al ch le gr sw su mn f z KI KJ L KE kk (gn_ofWidth f z bits) hc hc6) okX1_throughChain hgf ⟨va_P.sub hP [2, 3, 4, 5, 6] rfl, hK⟩ (mw_recv hgf (hP 2 _ rfl) rfl) qw2_135 ⟨Nat.le_of_ble_eq_true rfl, Nat.le_of_ble_eq_true rfl⟩ ⟨(Nat.le_of_ble_eq_true rfl), (Nat.le_of_ble_eq_true rfl)⟩ hl.1 (Nat.le_of_ble_eq_true rfl) rfl dX4_read_45 ?_
  rw [show gThr f z KI kk cN (gn_ofWidth f z bits) = v from hv]
  refine lv_lstore (lv' := [(7, .long v), (5, .long (gn_ofWidth f z bits)), (4, .ref (a 0)), (0, .ref x), (1, .int (nI j)), (2, .long bits)]) hx hb dX4_read_48 hl (by decide) rfl (fun ls hl => ?_)
  refine lv_aload hx hb dX4_read_50 (lv_at hl 2 rfl) ?_
  refine lv_lload hx hb dX4_read_52 (lv_at hl 0 rfl) ?_
  refine kZ (C := RX1) (wr := [(x, .inr (3, xF xa n rd ae se)), (xa, .inl (D.2.2.2, 8, .inr (.inr (.inr (.inr IA)))))]) G (cz_keepN l D a so lo hi al ch le gr sw su mn f z KI KJ L KE v h0) okO_X1_keep hgf hP hD hS hA trivial [2, 3, 4, 5, 6, 7] [0, 1] rfl rfl rfl rfl (by decide) (mw_recv hgf (hP 2 _ rfl) rfl) qw2_222 ⟨Nat.le_of_ble_eq_true rfl, Nat.le_of_ble_eq_true rfl⟩ ⟨(Nat.le_of_ble_eq_true rfl), (Nat.le_of_ble_eq_true rfl)⟩ hl.1 (Nat.le_of_ble_eq_true rfl) rfl dX4_read_54 (fun _ H locs hP hD hS => ?_)
  have hP : va_P D.1 vwCl [(x, .inr (3, xF xa n rd ae se)), (xa, .inl (D.2.2.2, 8, .inr (.inr (.inr (.inr IA))))), (a 0, .inr (1, [.int so, .ref (a 1), .long lo, .long hi, .int al, .int ch, .long (gn_lesser f z le v), .long (gn_greater f z gr v), .long (gn_apart f z v (gi_latest mn KE 0)), .long (gn_plus f z su (gn_amount f z v)), .ref (a 2), .ref (a 3), .ref (a 4), .ref (a 5), .int (mn + 1)])), (a 1, nE f z), (a 2, .inl (D.2.1, 6, .inl KI)), (a 3, .inl (D.2.2.1, 6, .inr (.inl KJ))), (a 4, .inl (D.2.2.2, 6, .inr (.inr (.inr (.inr L))))), (a 5, .inl (D.2.2.1, 16, .inr (.inl (vp_updL KE (mn &&& 15).toNatClampNeg v))))] H := hP
  have hD : va_D A [(x, .inr (3, xF xa n rd ae se)), (xa, .inl (D.2.2.2, 8, .inr (.inr (.inr (.inr IA))))), (a 0, .inr (1, [.int so, .ref (a 1), .long lo, .long hi, .int al, .int ch, .long (gn_lesser f z le v), .long (gn_greater f z gr v), .long (gn_apart f z v (gi_latest mn KE 0)), .long (gn_plus f z su (gn_amount f z v)), .ref (a 2), .ref (a 3), .ref (a 4), .ref (a 5), .int (mn + 1)])), (a 1, nE f z), (a 2, .inl (D.2.1, 6, .inl KI)), (a 3, .inl (D.2.2.1, 6, .inr (.inl KJ))), (a 4, .inl (D.2.2.2, 6, .inr (.inr (.inr (.inr L))))), (a 5, .inl (D.2.2.1, 16, .inr (.inl (vp_updL KE (mn &&& 15).toNatClampNeg v))))] := hD
  refine lv_aload_n hx hb dX4_read_57 rfl (lv_at hl 3 rfl) ?_
  refine lv_dup hx hb dX4_read_58 rfl ?_
  refine mw_get G hgf (hP 0 _ rfl) rfl inX4 2 (by decide) qw1_31 rfl dX4_read_59 ?_
  refine lv_iconst (v := 1) hx hb dX4_read_62 (by decide) ?_
  refine lv_iadd hx hb dX4_read_63 ?_
  refine mw_put (w1 := [(x, .inr (3, [.ref xa, .int n, .int (rd + 1), .int ae, .int se])), (xa, .inl (D.2.2.2, 8, .inr (.inr (.inr (.inr IA))))), (a 0, .inr (1, [.int so, .ref (a 1), .long lo, .long hi, .int al, .int ch, .long (gn_lesser f z le v), .long (gn_greater f z gr v), .long (gn_apart f z v (gi_latest mn KE 0)), .long (gn_plus f z su (gn_amount f z v)), .ref (a 2), .ref (a 3), .ref (a 4), .ref (a 5), .int (mn + 1)])), (a 1, nE f z), (a 2, .inl (D.2.1, 6, .inl KI)), (a 3, .inl (D.2.2.1, 6, .inr (.inl KJ))), (a 4, .inl (D.2.2.2, 6, .inr (.inr (.inr (.inr L))))), (a 5, .inl (D.2.2.1, 16, .inr (.inl (vp_updL KE (mn &&& 15).toNatClampNeg v))))]) G hgf hP hD hS 0 rfl rfl inX4 tyX4_ok nmX4 2 (by decide) qw1_31 rfl rfl rfl rfl (Nat.le_of_ble_eq_true rfl) rfl dX4_read_64 (fun H locs hP hD hS => ?_)
  refine lv_aload_n hx hb dX4_read_67 rfl (lv_at hl 3 rfl) ?_
  refine lv_dup hx hb dX4_read_68 rfl ?_
  refine mw_get G hgf (hP 0 _ rfl) rfl inX4 4 (by decide) qw1_33 rfl dX4_read_69 ?_
  refine lv_aload hx hb dX4_read_72 (lv_at hl 2 rfl) ?_
  refine mw_get G hgf (hP 2 _ rfl) rfl inX1 5 (by decide) qw1_227 rfl dX4_read_74 ?_
  refine lv_iadd hx hb dX4_read_77 ?_
  refine mw_put (w1 := [(x, .inr (3, [.ref xa, .int n, .int (rd + 1), .int ae, .int (se + ch)])), (xa, .inl (D.2.2.2, 8, .inr (.inr (.inr (.inr IA))))), (a 0, .inr (1, [.int so, .ref (a 1), .long lo, .long hi, .int al, .int ch, .long (gn_lesser f z le v), .long (gn_greater f z gr v), .long (gn_apart f z v (gi_latest mn KE 0)), .long (gn_plus f z su (gn_amount f z v)), .ref (a 2), .ref (a 3), .ref (a 4), .ref (a 5), .int (mn + 1)])), (a 1, nE f z), (a 2, .inl (D.2.1, 6, .inl KI)), (a 3, .inl (D.2.2.1, 6, .inr (.inl KJ))), (a 4, .inl (D.2.2.2, 6, .inr (.inr (.inr (.inr L))))), (a 5, .inl (D.2.2.1, 16, .inr (.inl (vp_updL KE (mn &&& 15).toNatClampNeg v))))]) G hgf hP hD hS 0 rfl rfl inX4 tyX4_ok nmX4 4 (by decide) qw1_33 rfl rfl rfl rfl (Nat.le_of_ble_eq_true rfl) rfl dX4_read_78 (fun H locs hP hD hS => ?_)
  refine lv_aload hx hb dX4_read_81 (lv_at hl 2 rfl) ?_
  refine lv_lload hx hb dX4_read_83 (lv_at hl 0 rfl) ?_
  refine kV (C := RX1) G (cv_gi_isBeyondLimits l D a so lo hi al ch (gn_lesser f z le v) (gn_greater f z gr v) (gn_apart f z v (gi_latest mn KE 0)) (gn_plus f z su (gn_amount f z v)) (mn + 1) f z KI KJ L (vp_updL KE (mn &&& 15).toNatClampNeg v) v) okX1_isBeyondLimits hgf (va_P.sub hP [2, 3] rfl) (mw_recv hgf (hP 2 _ rfl) rfl) qw3_40 ⟨Nat.le_of_ble_eq_true rfl, Nat.le_of_ble_eq_true rfl⟩ ⟨(Nat.le_of_ble_eq_true rfl), (Nat.le_of_ble_eq_true rfl)⟩ hl.1 (Nat.le_of_ble_eq_true rfl) rfl dX4_read_85 ?_
  refine lv_if_eq (tgt := 112) hx hb dX4_read_88 (by decide) (fun _ => ?_) (fun h => absurd h2 h)
  refine lv_lload hx hb dX4_read_112 (lv_at hl 0 rfl) ?_
  exact mE_lret () (congrArg (fun t : Int64 => some (Value.long t)) (rfl)) hx hb hr hlocks hP hD hS dX4_read_114
set_option maxRecDepth 100000 in
set_option maxHeartbeats 4000000 in
theorem cz_readN1 (l : Launch) (D : mG) (x xa : Nat) (n rd ae se : Int32) (IA : Nat → Option Nat) (a : Nat → Nat) (so : Int32) (lo hi : Int64) (al ch : Int32) (le gr sw su : Int64) (mn : Int32) (f z : Bool) (KI : Nat → Int32) (KJ : Nat → Int64) (L : Nat → Option Nat) (KE : Nat → Int64) (kk : Nat → Int64) (bits : Int64) {N : Nat} (hn : n = nI N) (hN : N ≤ 8) {j : Nat} (hj : j < N) (hq : IA j = some (a 0)) {cN : Nat} (hc : ch = nI cN) (hc6 : cN ≤ 6) (h1 : ¬ gn_isNumber f z (gn_ofWidth f z bits) = 0) {v : Int64} (hv : gThr f z KI kk cN (gn_ofWidth f z bits) = v) (h0 : ¬ mn = 0) (h2 : ¬ gi_isBeyondLimits lo hi f z v = 0) : cZ l D yX4_read cX4_read 9 (some .long) (rmP 6) [(x, .inr (3, xF xa n rd ae se)), (xa, .inl (D.2.2.2, 8, .inr (.inr (.inr (.inr IA))))), (a 0, .inr (1, iF a so lo hi al ch le gr sw su mn)), (a 1, nE f z), (a 2, .inl (D.2.1, 6, .inl KI)), (a 3, .inl (D.2.2.1, 6, .inr (.inl KJ))), (a 4, .inl (D.2.2.2, 6, .inr (.inr (.inr (.inr L))))), (a 5, .inl (D.2.2.1, 16, .inr (.inl KE)))] (fun H => ∀ c, c < cN → leadOK D KJ L kk H c) [.ref x, .int (nI j), .long bits] (S := Unit) (fun _ => some (.long (v))) (fun _ => [(x, .inr (3, [.ref xa, .int n, .int (rd + 1), .int (ae + 1), .int (se + ch)])), (xa, .inl (D.2.2.2, 8, .inr (.inr (.inr (.inr IA))))), (a 0, .inr (1, [.int so, .ref (a 1), .long lo, .long hi, .int (al + 1), .int ch, .long (gn_lesser f z le v), .long (gn_greater f z gr v), .long (gn_apart f z v (gi_latest mn KE 0)), .long (gn_plus f z su (gn_amount f z v)), .ref (a 2), .ref (a 3), .ref (a 4), .ref (a 5), .int (mn + 1)])), (a 1, nE f z), (a 2, .inl (D.2.1, 6, .inl KI)), (a 3, .inl (D.2.2.1, 6, .inr (.inl KJ))), (a 4, .inl (D.2.2.2, 6, .inr (.inr (.inr (.inr L))))), (a 5, .inl (D.2.2.1, 16, .inr (.inl (vp_updL KE (mn &&& 15).toNatClampNeg v))))]) := by
  refine cZ_of (by decide) (Nat.le_of_ble_eq_true rfl) ?_
  intro p e s m below meth c ls A hx hb hr hlocks G hnm hgf hA hK hP hD hS hl
  have hP : va_P D.1 vwCl [(x, .inr (3, xF xa n rd ae se)), (xa, .inl (D.2.2.2, 8, .inr (.inr (.inr (.inr IA))))), (a 0, .inr (1, iF a so lo hi al ch le gr sw su mn)), (a 1, nE f z), (a 2, .inl (D.2.1, 6, .inl KI)), (a 3, .inl (D.2.2.1, 6, .inr (.inl KJ))), (a 4, .inl (D.2.2.2, 6, .inr (.inr (.inr (.inr L))))), (a 5, .inl (D.2.2.1, 16, .inr (.inl KE)))] s.heap := hP
  have hD : va_D A [(x, .inr (3, xF xa n rd ae se)), (xa, .inl (D.2.2.2, 8, .inr (.inr (.inr (.inr IA))))), (a 0, .inr (1, iF a so lo hi al ch le gr sw su mn)), (a 1, nE f z), (a 2, .inl (D.2.1, 6, .inl KI)), (a 3, .inl (D.2.2.1, 6, .inr (.inl KJ))), (a 4, .inl (D.2.2.2, 6, .inr (.inr (.inr (.inr L))))), (a 5, .inl (D.2.2.1, 16, .inr (.inl KE)))] := hD
  have hl : lv_has ls 9 [(0, .ref x), (1, .int (nI j)), (2, .long bits)] := hl
  refine lv_aload_n hx hb dX4_read_0 rfl (lv_at hl 0 rfl) ?_
  refine lv_iload_n hx hb dX4_read_1 rfl (lv_at hl 1 rfl) ?_
  refine kV (C := RX4) G (cv_instAt l D x xa n rd ae se IA hn hN hj hq) okX4_instrumentAt hgf (va_P.sub hP [0, 1] rfl) (mw_recv hgf (hP 0 _ rfl) rfl) qw2_43 ⟨Nat.le_of_ble_eq_true rfl, Nat.le_of_ble_eq_true rfl⟩ ⟨(Nat.le_of_ble_eq_true rfl), (Nat.le_of_ble_eq_true rfl)⟩ hl.1 (Nat.le_of_ble_eq_true rfl) rfl dX4_read_2 ?_
  refine lv_astore (lv' := [(4, .ref (a 0)), (0, .ref x), (1, .int (nI j)), (2, .long bits)]) hx hb dX4_read_5 hl (by decide) rfl (fun ls hl => ?_)
  refine lv_aload hx hb dX4_read_7 (lv_at hl 0 rfl) ?_
  refine mw_get G hgf (hP 2 _ rfl) rfl inX1 1 (by decide) qw1_220 rfl dX4_read_9 ?_
  refine lv_lload_n hx hb dX4_read_12 rfl (lv_at hl 3 rfl) ?_
  refine kgn_ofWidth (f := f) (z := z) bits G hgf (hP 3 _ rfl) qw2_70 ⟨Nat.le_of_ble_eq_true rfl, Nat.le_of_ble_eq_true rfl⟩ ⟨(Nat.le_of_ble_eq_true rfl), (Nat.le_of_ble_eq_true rfl)⟩ hl.1 (Nat.le_of_ble_eq_true rfl) dX4_read_13 ?_
  refine lv_lstore (lv' := [(5, .long (gn_ofWidth f z bits)), (4, .ref (a 0)), (0, .ref x), (1, .int (nI j)), (2, .long bits)]) hx hb dX4_read_16 hl (by decide) rfl (fun ls hl => ?_)
  refine lv_aload hx hb dX4_read_18 (lv_at hl 1 rfl) ?_
  refine mw_get G hgf (hP 2 _ rfl) rfl inX1 1 (by decide) qw1_220 rfl dX4_read_20 ?_
  refine lv_lload hx hb dX4_read_23 (lv_at hl 0 rfl) ?_
  refine kgn_isNumber (f := f) (z := z) (gn_ofWidth f z bits) G hgf (hP 3 _ rfl) qw2_79 ⟨Nat.le_of_ble_eq_true rfl, Nat.le_of_ble_eq_true rfl⟩ ⟨(Nat.le_of_ble_eq_true rfl), (Nat.le_of_ble_eq_true rfl)⟩ hl.1 (Nat.le_of_ble_eq_true rfl) dX4_read_25 ?_
  refine lv_if_ne (tgt := 41) hx hb dX4_read_28 (by decide) (fun _ => ?_) (fun h => absurd h h1)
  refine lv_aload hx hb dX4_read_41 (lv_at hl 1 rfl) ?_
  refine lv_lload hx hb dX4_read_43 (lv_at hl 0 rfl) ?_
  refine kV (C := RX1) G (cv_gThr l D a so lo hi al ch le gr sw su mn f z KI KJ L KE kk (gn_ofWidth f z bits) hc hc6) okX1_throughChain hgf ⟨va_P.sub hP [2, 3, 4, 5, 6] rfl, hK⟩ (mw_recv hgf (hP 2 _ rfl) rfl) qw2_135 ⟨Nat.le_of_ble_eq_true rfl, Nat.le_of_ble_eq_true rfl⟩ ⟨(Nat.le_of_ble_eq_true rfl), (Nat.le_of_ble_eq_true rfl)⟩ hl.1 (Nat.le_of_ble_eq_true rfl) rfl dX4_read_45 ?_
  rw [show gThr f z KI kk cN (gn_ofWidth f z bits) = v from hv]
  refine lv_lstore (lv' := [(7, .long v), (5, .long (gn_ofWidth f z bits)), (4, .ref (a 0)), (0, .ref x), (1, .int (nI j)), (2, .long bits)]) hx hb dX4_read_48 hl (by decide) rfl (fun ls hl => ?_)
  refine lv_aload hx hb dX4_read_50 (lv_at hl 2 rfl) ?_
  refine lv_lload hx hb dX4_read_52 (lv_at hl 0 rfl) ?_
  refine kZ (C := RX1) (wr := [(x, .inr (3, xF xa n rd ae se)), (xa, .inl (D.2.2.2, 8, .inr (.inr (.inr (.inr IA)))))]) G (cz_keepN l D a so lo hi al ch le gr sw su mn f z KI KJ L KE v h0) okO_X1_keep hgf hP hD hS hA trivial [2, 3, 4, 5, 6, 7] [0, 1] rfl rfl rfl rfl (by decide) (mw_recv hgf (hP 2 _ rfl) rfl) qw2_222 ⟨Nat.le_of_ble_eq_true rfl, Nat.le_of_ble_eq_true rfl⟩ ⟨(Nat.le_of_ble_eq_true rfl), (Nat.le_of_ble_eq_true rfl)⟩ hl.1 (Nat.le_of_ble_eq_true rfl) rfl dX4_read_54 (fun _ H locs hP hD hS => ?_)
  have hP : va_P D.1 vwCl [(x, .inr (3, xF xa n rd ae se)), (xa, .inl (D.2.2.2, 8, .inr (.inr (.inr (.inr IA))))), (a 0, .inr (1, [.int so, .ref (a 1), .long lo, .long hi, .int al, .int ch, .long (gn_lesser f z le v), .long (gn_greater f z gr v), .long (gn_apart f z v (gi_latest mn KE 0)), .long (gn_plus f z su (gn_amount f z v)), .ref (a 2), .ref (a 3), .ref (a 4), .ref (a 5), .int (mn + 1)])), (a 1, nE f z), (a 2, .inl (D.2.1, 6, .inl KI)), (a 3, .inl (D.2.2.1, 6, .inr (.inl KJ))), (a 4, .inl (D.2.2.2, 6, .inr (.inr (.inr (.inr L))))), (a 5, .inl (D.2.2.1, 16, .inr (.inl (vp_updL KE (mn &&& 15).toNatClampNeg v))))] H := hP
  have hD : va_D A [(x, .inr (3, xF xa n rd ae se)), (xa, .inl (D.2.2.2, 8, .inr (.inr (.inr (.inr IA))))), (a 0, .inr (1, [.int so, .ref (a 1), .long lo, .long hi, .int al, .int ch, .long (gn_lesser f z le v), .long (gn_greater f z gr v), .long (gn_apart f z v (gi_latest mn KE 0)), .long (gn_plus f z su (gn_amount f z v)), .ref (a 2), .ref (a 3), .ref (a 4), .ref (a 5), .int (mn + 1)])), (a 1, nE f z), (a 2, .inl (D.2.1, 6, .inl KI)), (a 3, .inl (D.2.2.1, 6, .inr (.inl KJ))), (a 4, .inl (D.2.2.2, 6, .inr (.inr (.inr (.inr L))))), (a 5, .inl (D.2.2.1, 16, .inr (.inl (vp_updL KE (mn &&& 15).toNatClampNeg v))))] := hD
  refine lv_aload_n hx hb dX4_read_57 rfl (lv_at hl 3 rfl) ?_
  refine lv_dup hx hb dX4_read_58 rfl ?_
  refine mw_get G hgf (hP 0 _ rfl) rfl inX4 2 (by decide) qw1_31 rfl dX4_read_59 ?_
  refine lv_iconst (v := 1) hx hb dX4_read_62 (by decide) ?_
  refine lv_iadd hx hb dX4_read_63 ?_
  refine mw_put (w1 := [(x, .inr (3, [.ref xa, .int n, .int (rd + 1), .int ae, .int se])), (xa, .inl (D.2.2.2, 8, .inr (.inr (.inr (.inr IA))))), (a 0, .inr (1, [.int so, .ref (a 1), .long lo, .long hi, .int al, .int ch, .long (gn_lesser f z le v), .long (gn_greater f z gr v), .long (gn_apart f z v (gi_latest mn KE 0)), .long (gn_plus f z su (gn_amount f z v)), .ref (a 2), .ref (a 3), .ref (a 4), .ref (a 5), .int (mn + 1)])), (a 1, nE f z), (a 2, .inl (D.2.1, 6, .inl KI)), (a 3, .inl (D.2.2.1, 6, .inr (.inl KJ))), (a 4, .inl (D.2.2.2, 6, .inr (.inr (.inr (.inr L))))), (a 5, .inl (D.2.2.1, 16, .inr (.inl (vp_updL KE (mn &&& 15).toNatClampNeg v))))]) G hgf hP hD hS 0 rfl rfl inX4 tyX4_ok nmX4 2 (by decide) qw1_31 rfl rfl rfl rfl (Nat.le_of_ble_eq_true rfl) rfl dX4_read_64 (fun H locs hP hD hS => ?_)
  refine lv_aload_n hx hb dX4_read_67 rfl (lv_at hl 3 rfl) ?_
  refine lv_dup hx hb dX4_read_68 rfl ?_
  refine mw_get G hgf (hP 0 _ rfl) rfl inX4 4 (by decide) qw1_33 rfl dX4_read_69 ?_
  refine lv_aload hx hb dX4_read_72 (lv_at hl 2 rfl) ?_
  refine mw_get G hgf (hP 2 _ rfl) rfl inX1 5 (by decide) qw1_227 rfl dX4_read_74 ?_
  refine lv_iadd hx hb dX4_read_77 ?_
  refine mw_put (w1 := [(x, .inr (3, [.ref xa, .int n, .int (rd + 1), .int ae, .int (se + ch)])), (xa, .inl (D.2.2.2, 8, .inr (.inr (.inr (.inr IA))))), (a 0, .inr (1, [.int so, .ref (a 1), .long lo, .long hi, .int al, .int ch, .long (gn_lesser f z le v), .long (gn_greater f z gr v), .long (gn_apart f z v (gi_latest mn KE 0)), .long (gn_plus f z su (gn_amount f z v)), .ref (a 2), .ref (a 3), .ref (a 4), .ref (a 5), .int (mn + 1)])), (a 1, nE f z), (a 2, .inl (D.2.1, 6, .inl KI)), (a 3, .inl (D.2.2.1, 6, .inr (.inl KJ))), (a 4, .inl (D.2.2.2, 6, .inr (.inr (.inr (.inr L))))), (a 5, .inl (D.2.2.1, 16, .inr (.inl (vp_updL KE (mn &&& 15).toNatClampNeg v))))]) G hgf hP hD hS 0 rfl rfl inX4 tyX4_ok nmX4 4 (by decide) qw1_33 rfl rfl rfl rfl (Nat.le_of_ble_eq_true rfl) rfl dX4_read_78 (fun H locs hP hD hS => ?_)
  refine lv_aload hx hb dX4_read_81 (lv_at hl 2 rfl) ?_
  refine lv_lload hx hb dX4_read_83 (lv_at hl 0 rfl) ?_
  refine kV (C := RX1) G (cv_gi_isBeyondLimits l D a so lo hi al ch (gn_lesser f z le v) (gn_greater f z gr v) (gn_apart f z v (gi_latest mn KE 0)) (gn_plus f z su (gn_amount f z v)) (mn + 1) f z KI KJ L (vp_updL KE (mn &&& 15).toNatClampNeg v) v) okX1_isBeyondLimits hgf (va_P.sub hP [2, 3] rfl) (mw_recv hgf (hP 2 _ rfl) rfl) qw3_40 ⟨Nat.le_of_ble_eq_true rfl, Nat.le_of_ble_eq_true rfl⟩ ⟨(Nat.le_of_ble_eq_true rfl), (Nat.le_of_ble_eq_true rfl)⟩ hl.1 (Nat.le_of_ble_eq_true rfl) rfl dX4_read_85 ?_
  refine lv_if_eq (tgt := 112) hx hb dX4_read_88 (by decide) (fun h => absurd h h2) (fun _ => ?_)
  refine lv_aload hx hb dX4_read_91 (lv_at hl 2 rfl) ?_
  refine lv_dup hx hb dX4_read_93 rfl ?_
  refine mw_get G hgf (hP 2 _ rfl) rfl inX1 4 (by decide) qw1_225 rfl dX4_read_94 ?_
  refine lv_iconst (v := 1) hx hb dX4_read_97 (by decide) ?_
  refine lv_iadd hx hb dX4_read_98 ?_
  refine mw_put (w1 := [(x, .inr (3, [.ref xa, .int n, .int (rd + 1), .int ae, .int (se + ch)])), (xa, .inl (D.2.2.2, 8, .inr (.inr (.inr (.inr IA))))), (a 0, .inr (1, [.int so, .ref (a 1), .long lo, .long hi, .int (al + 1), .int ch, .long (gn_lesser f z le v), .long (gn_greater f z gr v), .long (gn_apart f z v (gi_latest mn KE 0)), .long (gn_plus f z su (gn_amount f z v)), .ref (a 2), .ref (a 3), .ref (a 4), .ref (a 5), .int (mn + 1)])), (a 1, nE f z), (a 2, .inl (D.2.1, 6, .inl KI)), (a 3, .inl (D.2.2.1, 6, .inr (.inl KJ))), (a 4, .inl (D.2.2.2, 6, .inr (.inr (.inr (.inr L))))), (a 5, .inl (D.2.2.1, 16, .inr (.inl (vp_updL KE (mn &&& 15).toNatClampNeg v))))]) G hgf hP hD hS 2 rfl rfl inX1 tyX1_ok nmX1 4 (by decide) qw1_225 rfl rfl rfl rfl (Nat.le_of_ble_eq_true rfl) rfl dX4_read_99 (fun H locs hP hD hS => ?_)
  refine lv_aload_n hx hb dX4_read_102 rfl (lv_at hl 3 rfl) ?_
  refine lv_dup hx hb dX4_read_103 rfl ?_
  refine mw_get G hgf (hP 0 _ rfl) rfl inX4 3 (by decide) qw1_32 rfl dX4_read_104 ?_
  refine lv_iconst (v := 1) hx hb dX4_read_107 (by decide) ?_
  refine lv_iadd hx hb dX4_read_108 ?_
  refine mw_put (w1 := [(x, .inr (3, [.ref xa, .int n, .int (rd + 1), .int (ae + 1), .int (se + ch)])), (xa, .inl (D.2.2.2, 8, .inr (.inr (.inr (.inr IA))))), (a 0, .inr (1, [.int so, .ref (a 1), .long lo, .long hi, .int (al + 1), .int ch, .long (gn_lesser f z le v), .long (gn_greater f z gr v), .long (gn_apart f z v (gi_latest mn KE 0)), .long (gn_plus f z su (gn_amount f z v)), .ref (a 2), .ref (a 3), .ref (a 4), .ref (a 5), .int (mn + 1)])), (a 1, nE f z), (a 2, .inl (D.2.1, 6, .inl KI)), (a 3, .inl (D.2.2.1, 6, .inr (.inl KJ))), (a 4, .inl (D.2.2.2, 6, .inr (.inr (.inr (.inr L))))), (a 5, .inl (D.2.2.1, 16, .inr (.inl (vp_updL KE (mn &&& 15).toNatClampNeg v))))]) G hgf hP hD hS 0 rfl rfl inX4 tyX4_ok nmX4 3 (by decide) qw1_32 rfl rfl rfl rfl (Nat.le_of_ble_eq_true rfl) rfl dX4_read_109 (fun H locs hP hD hS => ?_)
  refine lv_lload hx hb dX4_read_112 (lv_at hl 0 rfl) ?_
  exact mE_lret () (congrArg (fun t : Int64 => some (Value.long t)) (rfl)) hx hb hr hlocks hP hD hS dX4_read_114
