/-! THE CLASS: numbers. z: 64 bits (true) or 32; what the fields of a Floating, a Wrapping of that width hold -/
def flo (z : Bool) : Int64 := if z = true then (-4503599627370496) else (-8388608)
def finf (z : Bool) : Int64 := if z = true then 9218868437227405312 else 2139095040
def fwd (z : Bool) : Int32 := if z = true then 64 else 32
def ffb (z : Bool) : Int32 := if z = true then 52 else 23
def fsm (z : Bool) : Int64 := if z = true then (-9223372036854775808) else (-2147483648)
def fbi (z : Bool) : Int32 := if z = true then 1023 else 127
def fon (z : Bool) : Int64 := if z = true then 4607182418800017408 else 1065353216
def fhf (z : Bool) : Int64 := if z = true then 4602678819172646912 else 1056964608
def fhi (z : Bool) : Int64 := if z = true then 4503599627370496 else 8388608
def wlo (z : Bool) : Int64 := if z = true then (-9223372036854775808) else (-2147483648)
def whi (z : Bool) : Int64 := if z = true then 9223372036854775807 else 2147483647
abbrev flF (z : Bool) : List Value := [.long (flo z), .long (finf z), .int (fwd z), .int (7), .int (ffb z), .long (fsm z), .long (finf z), .int (fbi z), .long (fon z), .long (fhf z), .long (fhi z)]
abbrev wrF (z : Bool) : List Value := [.long (wlo z), .long (whi z), .int (fwd z), .int (2)]
def fX0_infinityOf (width : Int32) (fb : Int32) : Int64 := ((jshl (-1) (width - 1)) ^^^ (-1)) &&& (jshl (-1) fb)
set_option maxRecDepth 100000 in
set_option maxHeartbeats 4000000 in
theorem cvX0_infinityOf (l : Launch) (D : mG) (width : Int32) (fb : Int32) : cV l D yX0_infinityOf cX0_infinityOf 2 .long 0 (fun _ => True) [.int width, .int fb] (.long (fX0_infinityOf  width fb)) := by
  refine cV_of (by decide) (Nat.le_of_ble_eq_true rfl) ?_
  intro p e s m below meth c ls hx hb hr hlocks G hgf hpic hl
  have hl : lv_has ls 2 [(0, .int width), (1, .int fb)] := hl
  refine lv_ldc2 (v := (-1)) hx hb G.2.2.2.1 (G.2.2.2.2 _ qw1_181) dX0_infinityOf_0 ?_
  refine lv_iload_n hx hb dX0_infinityOf_3 rfl (lv_at hl 0 rfl) ?_
  refine lv_iconst (v := 1) hx hb dX0_infinityOf_4 (by decide) ?_
  refine lv_isub hx hb dX0_infinityOf_5 ?_
  refine lv_lshl (v := jshl (-1) (width - 1)) hx hb dX0_infinityOf_6 rfl ?_
  refine lv_ldc2 (v := (-1)) hx hb G.2.2.2.1 (G.2.2.2.2 _ qw1_181) dX0_infinityOf_7 ?_
  refine lv_lxor hx hb dX0_infinityOf_10 ?_
  refine lv_ldc2 (v := (-1)) hx hb G.2.2.2.1 (G.2.2.2.2 _ qw1_181) dX0_infinityOf_11 ?_
  refine lv_iload_n hx hb dX0_infinityOf_14 rfl (lv_at hl 1 rfl) ?_
  refine lv_lshl (v := jshl (-1) fb) hx hb dX0_infinityOf_15 rfl ?_
  refine lv_land hx hb dX0_infinityOf_16 ?_
  exact mw_lret hx hb hr hlocks dX0_infinityOf_17 (rfl).symm
def fX0_shiftedRight_s2 (sg : Int64) (places : Int32) (x_1 : Int32) (x_2 : Int64) : Int64 := if (jshl x_2 x_1) = sg then x_2 else x_2 ||| 1
def fX0_shiftedRight_s1 (sg : Int64) (places : Int32) (x_1 : Int32) : Int64 := fX0_shiftedRight_s2 sg places x_1 (jushr sg x_1)
def fX0_shiftedRight (sg : Int64) (places : Int32) : Int64 := fX0_shiftedRight_s1 sg places (if 63 < places then 63 else places)
set_option maxRecDepth 100000 in
set_option maxHeartbeats 4000000 in
theorem cvX0_shiftedRight (l : Launch) (D : mG) (sg : Int64) (places : Int32) : cV l D yX0_shiftedRight cX0_shiftedRight 6 .long 1 (fun _ => True) [.long sg, .int places] (.long (fX0_shiftedRight  sg places)) := by
  refine cV_of (by decide) (Nat.le_of_ble_eq_true rfl) ?_
  intro p e s m below meth c ls hx hb hr hlocks G hgf hpic hl
  have hl : lv_has ls 6 [(0, .long sg), (2, .int places)] := hl
  refine lv_iload_n hx hb dX0_shiftedRight_0 rfl (lv_at hl 1 rfl) ?_
  refine lv_bipush (v := 63) hx hb dX0_shiftedRight_1 (by decide) ?_
  refine va_mmin hx hb (by rw [G.2.2.1]; exact hl.1.symm) G.2.2.2.1 (G.2.2.2.2 _ qw3_15) (G.2.2.2.2 _ qw3_16) (G.2.2.2.2 _ qw1_14) (G.2.2.2.2 _ qw3_17) (Nat.le_of_ble_eq_true rfl) (Nat.le_of_ble_eq_true rfl) (Nat.zero_le _) (Nat.zero_le _) dX0_shiftedRight_3 ?_
  refine lv_topi (fun x_1 e_1 => ?_)
  refine lv_istore_n (lv' := [(3, .int x_1), (0, .long sg), (2, .int places)]) hx hb dX0_shiftedRight_6 rfl hl (by decide) rfl (fun ls hl => ?_)
  refine lv_lload_n hx hb dX0_shiftedRight_7 rfl (lv_at hl 1 rfl) ?_
  refine lv_iload_n hx hb dX0_shiftedRight_8 rfl (lv_at hl 0 rfl) ?_
  refine lv_lushr (v := jushr sg x_1) hx hb dX0_shiftedRight_9 rfl ?_
  refine lv_topl (fun x_2 e_2 => ?_)
  refine lv_lstore (lv' := [(4, .long x_2), (3, .int x_1), (0, .long sg), (2, .int places)]) hx hb dX0_shiftedRight_10 hl (by decide) rfl (fun ls hl => ?_)
  refine lv_lload hx hb dX0_shiftedRight_12 (lv_at hl 0 rfl) ?_
  refine lv_iload_n hx hb dX0_shiftedRight_14 rfl (lv_at hl 1 rfl) ?_
  refine lv_lshl (v := jshl x_2 x_1) hx hb dX0_shiftedRight_15 rfl ?_
  refine lv_lload_n hx hb dX0_shiftedRight_16 rfl (lv_at hl 2 rfl) ?_
  refine mw_lne (tgt := 26) hx hb dX0_shiftedRight_17 dX0_shiftedRight_18 (by decide) (fun c_3 => ?_) (fun c_3 => ?_)
  · refine lv_lload hx hb dX0_shiftedRight_26 (lv_at hl 0 rfl) ?_
    refine lv_lconst (v := 1) hx hb dX0_shiftedRight_28 (by decide) ?_
    refine lv_lor hx hb dX0_shiftedRight_29 ?_
    exact mw_lret hx hb hr hlocks dX0_shiftedRight_30 ((congrArg (fX0_shiftedRight_s1 sg places) e_1.symm).trans ((congrArg (fX0_shiftedRight_s2 sg places x_1) e_2.symm).trans ((if_neg c_3).trans (rfl)))).symm
  · refine lv_lload hx hb dX0_shiftedRight_21 (lv_at hl 0 rfl) ?_
    refine lv_goto (tgt := 30) hx hb dX0_shiftedRight_23 (by decide) ?_
    exact mw_lret hx hb hr hlocks dX0_shiftedRight_30 ((congrArg (fX0_shiftedRight_s1 sg places) e_1.symm).trans ((congrArg (fX0_shiftedRight_s2 sg places x_1) e_2.symm).trans ((if_pos c_3).trans (rfl)))).symm
def fX0_amount (z : Bool) (v : Int64) : Int64 := v &&& ((fsm z) ^^^ (-1))
set_option maxRecDepth 100000 in
set_option maxHeartbeats 4000000 in
theorem cvX0_amount (l : Launch) (D : mG) (o : Nat) (z : Bool) (v : Int64) : cV l D yX0_amount cX0_amount 3 .long 0 (fun H => va_at D.1 vwCl (o, .inr (0, flF z)) H) [.ref o, .long v] (.long (fX0_amount z v)) := by
  refine cV_of (by decide) (Nat.le_of_ble_eq_true rfl) ?_
  intro p e s m below meth c ls hx hb hr hlocks G hgf hpic hl
  have hl : lv_has ls 3 [(0, .ref o), (1, .long v)] := hl
  have hpic : va_at D.1 vwCl (o, .inr (0, flF z)) s.heap := hpic
  refine lv_lload_n hx hb dX0_amount_0 rfl (lv_at hl 1 rfl) ?_
  refine lv_aload_n hx hb dX0_amount_1 rfl (lv_at hl 0 rfl) ?_
  refine mw_get G hgf hpic rfl inX0 5 (by decide) qw1_187 rfl dX0_amount_2 ?_
  refine lv_ldc2 (v := (-1)) hx hb G.2.2.2.1 (G.2.2.2.2 _ qw1_181) dX0_amount_5 ?_
  refine lv_lxor hx hb dX0_amount_8 ?_
  refine lv_land hx hb dX0_amount_9 ?_
  exact mw_lret hx hb hr hlocks dX0_amount_10 (rfl).symm
def fX0_isNumber (z : Bool) (v : Int64) : Int32 := if (finf z) < (fX0_amount z v) then 0 else 1
set_option maxRecDepth 100000 in
set_option maxHeartbeats 4000000 in
theorem cvX0_isNumber (l : Launch) (D : mG) (o : Nat) (z : Bool) (v : Int64) : cV l D yX0_isNumber cX0_isNumber 3 .boolean 1 (fun H => va_at D.1 vwCl (o, .inr (0, flF z)) H) [.ref o, .long v] (.int (fX0_isNumber z v)) := by
  refine cV_of (by decide) (Nat.le_of_ble_eq_true rfl) ?_
  intro p e s m below meth c ls hx hb hr hlocks G hgf hpic hl
  have hl : lv_has ls 3 [(0, .ref o), (1, .long v)] := hl
  have hpic : va_at D.1 vwCl (o, .inr (0, flF z)) s.heap := hpic
  refine lv_aload_n hx hb dX0_isNumber_0 rfl (lv_at hl 0 rfl) ?_
  refine lv_lload_n hx hb dX0_isNumber_1 rfl (lv_at hl 1 rfl) ?_
  refine kV (C := RX0) G (cvX0_amount l D o z v) okX0_amount hgf hpic (mw_recv hgf hpic rfl) qw2_85 ⟨Nat.le_of_ble_eq_true rfl, Nat.le_of_ble_eq_true rfl⟩ ⟨Nat.zero_le _, Nat.zero_le _⟩ hl.1 (Nat.le_of_ble_eq_true rfl) rfl dX0_isNumber_2 ?_
  refine lv_aload_n hx hb dX0_isNumber_5 rfl (lv_at hl 0 rfl) ?_
  refine mw_get G hgf hpic rfl inX0 6 (by decide) qw1_188 rfl dX0_isNumber_6 ?_
  refine mw_lgt (tgt := 17) hx hb dX0_isNumber_9 dX0_isNumber_10 (by decide) (fun c_1 => ?_) (fun c_1 => ?_)
  · refine lv_iconst (v := 0) hx hb dX0_isNumber_17 (by decide) ?_
    exact mw_zret hx hb hr hlocks dX0_isNumber_18 (Or.inl rfl) ((if_pos c_1).trans (rfl)).symm
  · refine lv_iconst (v := 1) hx hb dX0_isNumber_13 (by decide) ?_
    refine lv_goto (tgt := 18) hx hb dX0_isNumber_14 (by decide) ?_
    exact mw_zret hx hb hr hlocks dX0_isNumber_18 (Or.inr rfl) ((if_neg c_1).trans (rfl)).symm
def fX0_exponentOf (z : Bool) (a : Int64) : Int32 := if (fhi z) ≤ a then (jushr a (ffb z)).toInt32 else 1
set_option maxRecDepth 100000 in
set_option maxHeartbeats 4000000 in
theorem cvX0_exponentOf (l : Launch) (D : mG) (o : Nat) (z : Bool) (a : Int64) : cV l D yX0_exponentOf cX0_exponentOf 3 .int 0 (fun H => va_at D.1 vwCl (o, .inr (0, flF z)) H) [.ref o, .long a] (.int (fX0_exponentOf z a)) := by
  refine cV_of (by decide) (Nat.le_of_ble_eq_true rfl) ?_
  intro p e s m below meth c ls hx hb hr hlocks G hgf hpic hl
  have hl : lv_has ls 3 [(0, .ref o), (1, .long a)] := hl
  have hpic : va_at D.1 vwCl (o, .inr (0, flF z)) s.heap := hpic
  refine lv_lload_n hx hb dX0_exponentOf_0 rfl (lv_at hl 1 rfl) ?_
  refine lv_aload_n hx hb dX0_exponentOf_1 rfl (lv_at hl 0 rfl) ?_
  refine mw_get G hgf hpic rfl inX0 10 (by decide) qw1_192 rfl dX0_exponentOf_2 ?_
  refine mw_lge (tgt := 13) hx hb dX0_exponentOf_5 dX0_exponentOf_6 (by decide) (fun c_1 => ?_) (fun c_1 => ?_)
  · refine lv_lload_n hx hb dX0_exponentOf_13 rfl (lv_at hl 1 rfl) ?_
    refine lv_aload_n hx hb dX0_exponentOf_14 rfl (lv_at hl 0 rfl) ?_
    refine mw_get G hgf hpic rfl inX0 4 (by decide) qw1_186 rfl dX0_exponentOf_15 ?_
    refine lv_lushr (v := jushr a (ffb z)) hx hb dX0_exponentOf_18 rfl ?_
    refine lv_l2i hx hb dX0_exponentOf_19 rfl ?_
    exact mw_iret hx hb hr hlocks dX0_exponentOf_20 ((if_pos c_1).trans (rfl)).symm
  · refine lv_iconst (v := 1) hx hb dX0_exponentOf_9 (by decide) ?_
    refine lv_goto (tgt := 20) hx hb dX0_exponentOf_10 (by decide) ?_
    exact mw_iret hx hb hr hlocks dX0_exponentOf_20 ((if_neg c_1).trans (rfl)).symm
def fX0_significandOf (z : Bool) (a : Int64) : Int64 := jshl (if (fhi z) ≤ a then (a &&& ((fhi z) - 1)) ||| (fhi z) else a &&& ((fhi z) - 1) : Int64) 3
set_option maxRecDepth 100000 in
set_option maxHeartbeats 4000000 in
theorem cvX0_significandOf (l : Launch) (D : mG) (o : Nat) (z : Bool) (a : Int64) : cV l D yX0_significandOf cX0_significandOf 5 .long 0 (fun H => va_at D.1 vwCl (o, .inr (0, flF z)) H) [.ref o, .long a] (.long (fX0_significandOf z a)) := by
  refine cV_of (by decide) (Nat.le_of_ble_eq_true rfl) ?_
  intro p e s m below meth c ls hx hb hr hlocks G hgf hpic hl
  have hl : lv_has ls 5 [(0, .ref o), (1, .long a)] := hl
  have hpic : va_at D.1 vwCl (o, .inr (0, flF z)) s.heap := hpic
  refine lv_lload_n hx hb dX0_significandOf_0 rfl (lv_at hl 1 rfl) ?_
  refine lv_aload_n hx hb dX0_significandOf_1 rfl (lv_at hl 0 rfl) ?_
  refine mw_get G hgf hpic rfl inX0 10 (by decide) qw1_192 rfl dX0_significandOf_2 ?_
  refine lv_lconst (v := 1) hx hb dX0_significandOf_5 (by decide) ?_
  refine lv_lsub hx hb dX0_significandOf_6 ?_
  refine lv_land hx hb dX0_significandOf_7 ?_
  refine lv_lstore_n (lv' := [(3, .long (a &&& ((fhi z) - 1))), (0, .ref o), (1, .long a)]) hx hb dX0_significandOf_8 rfl hl (by decide) rfl (fun ls hl => ?_)
  refine lv_lload_n hx hb dX0_significandOf_9 rfl (lv_at hl 2 rfl) ?_
  refine lv_aload_n hx hb dX0_significandOf_10 rfl (lv_at hl 1 rfl) ?_
  refine mw_get G hgf hpic rfl inX0 10 (by decide) qw1_192 rfl dX0_significandOf_11 ?_
  refine mw_join 28 (.long (if (fhi z) ≤ a then (a &&& ((fhi z) - 1)) ||| (fhi z) else a &&& ((fhi z) - 1) : Int64)) [] (fun K => ?_) ?_
  · refine mw_lge (tgt := 22) hx hb dX0_significandOf_14 dX0_significandOf_15 (by decide) (fun c_1 => ?_) (fun c_1 => ?_)
    · refine lv_lload_n hx hb dX0_significandOf_22 rfl (lv_at hl 0 rfl) ?_
      refine lv_aload_n hx hb dX0_significandOf_23 rfl (lv_at hl 1 rfl) ?_
      refine mw_get G hgf hpic rfl inX0 10 (by decide) qw1_192 rfl dX0_significandOf_24 ?_
      refine lv_lor hx hb dX0_significandOf_27 ?_
      exact mw_topL ((if_pos c_1).trans (rfl)) K
    · refine lv_lload_n hx hb dX0_significandOf_18 rfl (lv_at hl 0 rfl) ?_
      refine lv_goto (tgt := 28) hx hb dX0_significandOf_19 (by decide) ?_
      exact mw_topL ((if_neg c_1).trans (rfl)) K
  refine lv_iconst (v := 3) hx hb dX0_significandOf_28 (by decide) ?_
  refine lv_lshl (v := jshl (if (fhi z) ≤ a then (a &&& ((fhi z) - 1)) ||| (fhi z) else a &&& ((fhi z) - 1) : Int64) 3) hx hb dX0_significandOf_29 rfl ?_
  exact mw_lret hx hb hr hlocks dX0_significandOf_30 (rfl).symm
def fX0_rounded_s5 (z : Bool) (sg : Int64) (ex : Int32) (x_2 : Int64) (x_3 : Int64) (x_5 : Int64) : Int64 := (jshl ((ex - 1).toInt64) (ffb z)) + x_5
def fX0_rounded_s8 (z : Bool) (sg : Int64) (ex : Int32) (x_2 : Int64) (x_3 : Int64) (x_8 : Int64) : Int64 := (jshl ((ex - 1).toInt64) (ffb z)) + x_8
def fX0_rounded_s3 (z : Bool) (sg : Int64) (ex : Int32) (x_2 : Int64) (x_3 : Int64) : Int64 := if 4 < x_3 then fX0_rounded_s5 z sg ex x_2 x_3 (x_2 + 1) else (if x_3 = 4 then (if (x_2 &&& 1) = 1 then fX0_rounded_s8 z sg ex x_2 x_3 (x_2 + 1) else (jshl ((ex - 1).toInt64) (ffb z)) + x_2) else (jshl ((ex - 1).toInt64) (ffb z)) + x_2)
def fX0_rounded_s2 (z : Bool) (sg : Int64) (ex : Int32) (x_2 : Int64) : Int64 := fX0_rounded_s3 z sg ex x_2 (sg &&& 7)
def fX0_rounded (z : Bool) (sg : Int64) (ex : Int32) : Int64 := if ex < (fX0_exponentOf z (finf z)) then fX0_rounded_s2 z sg ex (jushr sg 3) else finf z
set_option maxRecDepth 100000 in
set_option maxHeartbeats 4000000 in
theorem cvX0_rounded (l : Launch) (D : mG) (o : Nat) (z : Bool) (sg : Int64) (ex : Int32) : cV l D yX0_rounded cX0_rounded 8 .long 1 (fun H => va_at D.1 vwCl (o, .inr (0, flF z)) H) [.ref o, .long sg, .int ex] (.long (fX0_rounded z sg ex)) := by
  refine cV_of (by decide) (Nat.le_of_ble_eq_true rfl) ?_
  intro p e s m below meth c ls hx hb hr hlocks G hgf hpic hl
  have hl : lv_has ls 8 [(0, .ref o), (1, .long sg), (3, .int ex)] := hl
  have hpic : va_at D.1 vwCl (o, .inr (0, flF z)) s.heap := hpic
  refine lv_iload_n hx hb dX0_rounded_0 rfl (lv_at hl 2 rfl) ?_
  refine lv_aload_n hx hb dX0_rounded_1 rfl (lv_at hl 0 rfl) ?_
  refine lv_aload_n hx hb dX0_rounded_2 rfl (lv_at hl 0 rfl) ?_
  refine mw_get G hgf hpic rfl inX0 6 (by decide) qw1_188 rfl dX0_rounded_3 ?_
  refine kV (C := RX0) G (cvX0_exponentOf l D o z (finf z)) okX0_exponentOf hgf hpic (mw_recv hgf hpic rfl) qw3_4 ⟨Nat.le_of_ble_eq_true rfl, Nat.le_of_ble_eq_true rfl⟩ ⟨Nat.zero_le _, Nat.zero_le _⟩ hl.1 (Nat.le_of_ble_eq_true rfl) rfl dX0_rounded_6 ?_
  refine lv_icmp_lt (tgt := 17) hx hb dX0_rounded_9 (by decide) (fun c_1 => ?_) (fun c_1 => ?_)
  · refine lv_lload_n hx hb dX0_rounded_17 rfl (lv_at hl 1 rfl) ?_
    refine lv_iconst (v := 3) hx hb dX0_rounded_18 (by decide) ?_
    refine lv_lushr (v := jushr sg 3) hx hb dX0_rounded_19 rfl ?_
    refine lv_topl (fun x_2 e_2 => ?_)
    refine lv_lstore (lv' := [(4, .long x_2), (0, .ref o), (1, .long sg), (3, .int ex)]) hx hb dX0_rounded_20 hl (by decide) rfl (fun ls hl => ?_)
    refine lv_lload_n hx hb dX0_rounded_22 rfl (lv_at hl 2 rfl) ?_
    refine lv_ldc2 (v := 7) hx hb G.2.2.2.1 (G.2.2.2.2 _ qw3_22) dX0_rounded_23 ?_
    refine lv_land hx hb dX0_rounded_26 ?_
    refine lv_topl (fun x_3 e_3 => ?_)
    refine lv_lstore (lv' := [(6, .long x_3), (4, .long x_2), (0, .ref o), (1, .long sg), (3, .int ex)]) hx hb dX0_rounded_27 hl (by decide) rfl (fun ls hl => ?_)
    refine lv_lload hx hb dX0_rounded_29 (lv_at hl 0 rfl) ?_
    refine lv_ldc2 (v := 4) hx hb G.2.2.2.1 (G.2.2.2.2 _ qw3_23) dX0_rounded_31 ?_
    refine mw_lgt (tgt := 56) hx hb dX0_rounded_34 dX0_rounded_35 (by decide) (fun c_4 => ?_) (fun c_4 => ?_)
    · refine lv_lload hx hb dX0_rounded_56 (lv_at hl 1 rfl) ?_
      refine lv_lconst (v := 1) hx hb dX0_rounded_58 (by decide) ?_
      refine lv_ladd hx hb dX0_rounded_59 ?_
      refine lv_topl (fun x_5 e_5 => ?_)
      refine lv_lstore (lv' := [(4, .long x_5), (6, .long x_3), (0, .ref o), (1, .long sg), (3, .int ex)]) hx hb dX0_rounded_60 hl (by decide) rfl (fun ls hl => ?_)
      refine lv_iload_n hx hb dX0_rounded_62 rfl (lv_at hl 4 rfl) ?_
      refine lv_iconst (v := 1) hx hb dX0_rounded_63 (by decide) ?_
      refine lv_isub hx hb dX0_rounded_64 ?_
      refine lv_i2l hx hb dX0_rounded_65 rfl ?_
      refine lv_aload_n hx hb dX0_rounded_66 rfl (lv_at hl 2 rfl) ?_
      refine mw_get G hgf hpic rfl inX0 4 (by decide) qw1_186 rfl dX0_rounded_67 ?_
      refine lv_lshl (v := jshl ((ex - 1).toInt64) (ffb z)) hx hb dX0_rounded_70 rfl ?_
      refine lv_lload hx hb dX0_rounded_71 (lv_at hl 0 rfl) ?_
      refine lv_ladd hx hb dX0_rounded_73 ?_
      exact mw_lret hx hb hr hlocks dX0_rounded_74 ((if_pos c_1).trans ((congrArg (fX0_rounded_s2 z sg ex) e_2.symm).trans ((congrArg (fX0_rounded_s3 z sg ex x_2) e_3.symm).trans ((if_pos c_4).trans ((congrArg (fX0_rounded_s5 z sg ex x_2 x_3) e_5.symm).trans (rfl)))))).symm
    · refine lv_lload hx hb dX0_rounded_38 (lv_at hl 0 rfl) ?_
      refine lv_ldc2 (v := 4) hx hb G.2.2.2.1 (G.2.2.2.2 _ qw3_23) dX0_rounded_40 ?_
      refine mw_lne (tgt := 62) hx hb dX0_rounded_43 dX0_rounded_44 (by decide) (fun c_6 => ?_) (fun c_6 => ?_)
      · refine lv_iload_n hx hb dX0_rounded_62 rfl (lv_at hl 4 rfl) ?_
        refine lv_iconst (v := 1) hx hb dX0_rounded_63 (by decide) ?_
        refine lv_isub hx hb dX0_rounded_64 ?_
        refine lv_i2l hx hb dX0_rounded_65 rfl ?_
        refine lv_aload_n hx hb dX0_rounded_66 rfl (lv_at hl 2 rfl) ?_
        refine mw_get G hgf hpic rfl inX0 4 (by decide) qw1_186 rfl dX0_rounded_67 ?_
        refine lv_lshl (v := jshl ((ex - 1).toInt64) (ffb z)) hx hb dX0_rounded_70 rfl ?_
        refine lv_lload hx hb dX0_rounded_71 (lv_at hl 1 rfl) ?_
        refine lv_ladd hx hb dX0_rounded_73 ?_
        exact mw_lret hx hb hr hlocks dX0_rounded_74 ((if_pos c_1).trans ((congrArg (fX0_rounded_s2 z sg ex) e_2.symm).trans ((congrArg (fX0_rounded_s3 z sg ex x_2) e_3.symm).trans ((if_neg c_4).trans ((if_neg c_6).trans (rfl)))))).symm
      · refine lv_lload hx hb dX0_rounded_47 (lv_at hl 1 rfl) ?_
        refine lv_lconst (v := 1) hx hb dX0_rounded_49 (by decide) ?_
        refine lv_land hx hb dX0_rounded_50 ?_
        refine lv_lconst (v := 1) hx hb dX0_rounded_51 (by decide) ?_
        refine mw_lne (tgt := 62) hx hb dX0_rounded_52 dX0_rounded_53 (by decide) (fun c_7 => ?_) (fun c_7 => ?_)
        · refine lv_iload_n hx hb dX0_rounded_62 rfl (lv_at hl 4 rfl) ?_
          refine lv_iconst (v := 1) hx hb dX0_rounded_63 (by decide) ?_
          refine lv_isub hx hb dX0_rounded_64 ?_
          refine lv_i2l hx hb dX0_rounded_65 rfl ?_
          refine lv_aload_n hx hb dX0_rounded_66 rfl (lv_at hl 2 rfl) ?_
          refine mw_get G hgf hpic rfl inX0 4 (by decide) qw1_186 rfl dX0_rounded_67 ?_
          refine lv_lshl (v := jshl ((ex - 1).toInt64) (ffb z)) hx hb dX0_rounded_70 rfl ?_
          refine lv_lload hx hb dX0_rounded_71 (lv_at hl 1 rfl) ?_
          refine lv_ladd hx hb dX0_rounded_73 ?_
          exact mw_lret hx hb hr hlocks dX0_rounded_74 ((if_pos c_1).trans ((congrArg (fX0_rounded_s2 z sg ex) e_2.symm).trans ((congrArg (fX0_rounded_s3 z sg ex x_2) e_3.symm).trans ((if_neg c_4).trans ((if_pos c_6).trans ((if_neg c_7).trans (rfl))))))).symm
        · refine lv_lload hx hb dX0_rounded_56 (lv_at hl 1 rfl) ?_
          refine lv_lconst (v := 1) hx hb dX0_rounded_58 (by decide) ?_
          refine lv_ladd hx hb dX0_rounded_59 ?_
          refine lv_topl (fun x_8 e_8 => ?_)
          refine lv_lstore (lv' := [(4, .long x_8), (6, .long x_3), (0, .ref o), (1, .long sg), (3, .int ex)]) hx hb dX0_rounded_60 hl (by decide) rfl (fun ls hl => ?_)
          refine lv_iload_n hx hb dX0_rounded_62 rfl (lv_at hl 4 rfl) ?_
          refine lv_iconst (v := 1) hx hb dX0_rounded_63 (by decide) ?_
          refine lv_isub hx hb dX0_rounded_64 ?_
          refine lv_i2l hx hb dX0_rounded_65 rfl ?_
          refine lv_aload_n hx hb dX0_rounded_66 rfl (lv_at hl 2 rfl) ?_
          refine mw_get G hgf hpic rfl inX0 4 (by decide) qw1_186 rfl dX0_rounded_67 ?_
          refine lv_lshl (v := jshl ((ex - 1).toInt64) (ffb z)) hx hb dX0_rounded_70 rfl ?_
          refine lv_lload hx hb dX0_rounded_71 (lv_at hl 0 rfl) ?_
          refine lv_ladd hx hb dX0_rounded_73 ?_
          exact mw_lret hx hb hr hlocks dX0_rounded_74 ((if_pos c_1).trans ((congrArg (fX0_rounded_s2 z sg ex) e_2.symm).trans ((congrArg (fX0_rounded_s3 z sg ex x_2) e_3.symm).trans ((if_neg c_4).trans ((if_pos c_6).trans ((if_pos c_7).trans ((congrArg (fX0_rounded_s8 z sg ex x_2 x_3) e_8.symm).trans (rfl)))))))).symm
  · refine lv_aload_n hx hb dX0_rounded_12 rfl (lv_at hl 0 rfl) ?_
    refine mw_get G hgf hpic rfl inX0 6 (by decide) qw1_188 rfl dX0_rounded_13 ?_
    exact mw_lret hx hb hr hlocks dX0_rounded_16 ((if_neg c_1).trans (rfl)).symm
def fX0_plus_s7 (z : Bool) (a : Int64) (b : Int64) (x_1 : Int64) (x_2 : Int64) (x_4 : Int32) (x_5 : Int64) (x_7 : Int64) : Int64 := fX0_rounded z x_7 (x_4 + 1)
def fX0_plus_s5 (z : Bool) (a : Int64) (b : Int64) (x_1 : Int64) (x_2 : Int64) (x_4 : Int32) (x_5 : Int64) : Int64 := if x_5 < (jshl (fhi z) 4) then fX0_rounded z x_5 x_4 else fX0_plus_s7 z a b x_1 x_2 x_4 x_5 (fX0_shiftedRight x_5 1)
def fX0_plus_s4 (z : Bool) (a : Int64) (b : Int64) (x_1 : Int64) (x_2 : Int64) (x_4 : Int32) : Int64 := fX0_plus_s5 z a b x_1 x_2 x_4 ((fX0_significandOf z x_1) + (fX0_shiftedRight (fX0_significandOf z x_2) (x_4 - (fX0_exponentOf z x_2))))
def fX0_plus_s2 (z : Bool) (a : Int64) (b : Int64) (x_1 : Int64) (x_2 : Int64) : Int64 := if x_1 = (finf z) then finf z else fX0_plus_s4 z a b x_1 x_2 (fX0_exponentOf z x_1)
def fX0_plus_s1 (z : Bool) (a : Int64) (b : Int64) (x_1 : Int64) : Int64 := fX0_plus_s2 z a b x_1 (if b < a then b else a)
def fX0_plus (z : Bool) (a : Int64) (b : Int64) : Int64 := fX0_plus_s1 z a b (if b < a then a else b)
set_option maxRecDepth 100000 in
set_option maxHeartbeats 4000000 in
theorem cvX0_plus (l : Launch) (D : mG) (o : Nat) (z : Bool) (a : Int64) (b : Int64) : cV l D yX0_plus cX0_plus 12 .long 2 (fun H => va_at D.1 vwCl (o, .inr (0, flF z)) H) [.ref o, .long a, .long b] (.long (fX0_plus z a b)) := by
  refine cV_of (by decide) (Nat.le_of_ble_eq_true rfl) ?_
  intro p e s m below meth c ls hx hb hr hlocks G hgf hpic hl
  have hl : lv_has ls 12 [(0, .ref o), (1, .long a), (3, .long b)] := hl
  have hpic : va_at D.1 vwCl (o, .inr (0, flF z)) s.heap := hpic
  refine lv_lload_n hx hb dX0_plus_0 rfl (lv_at hl 1 rfl) ?_
  refine lv_lload_n hx hb dX0_plus_1 rfl (lv_at hl 2 rfl) ?_
  refine va_mmax_long hx hb (by rw [G.2.2.1]; exact hl.1.symm) G.2.2.2.1 (G.2.2.2.2 _ qw2_238) (G.2.2.2.2 _ qw2_239) (G.2.2.2.2 _ qw1_14) (G.2.2.2.2 _ qw3_0) (Nat.le_of_ble_eq_true rfl) (Nat.le_of_ble_eq_true rfl) (Nat.zero_le _) (Nat.zero_le _) dX0_plus_2 ?_
  refine lv_topl (fun x_1 e_1 => ?_)
  refine lv_lstore (lv' := [(5, .long x_1), (0, .ref o), (1, .long a), (3, .long b)]) hx hb dX0_plus_5 hl (by decide) rfl (fun ls hl => ?_)
  refine lv_lload_n hx hb dX0_plus_7 rfl (lv_at hl 2 rfl) ?_
  refine lv_lload_n hx hb dX0_plus_8 rfl (lv_at hl 3 rfl) ?_
  refine va_mmin_long hx hb (by rw [G.2.2.1]; exact hl.1.symm) G.2.2.2.1 (G.2.2.2.2 _ qw3_1) (G.2.2.2.2 _ qw3_2) (G.2.2.2.2 _ qw1_14) (G.2.2.2.2 _ qw3_3) (Nat.le_of_ble_eq_true rfl) (Nat.le_of_ble_eq_true rfl) (Nat.zero_le _) (Nat.zero_le _) dX0_plus_9 ?_
  refine lv_topl (fun x_2 e_2 => ?_)
  refine lv_lstore (lv' := [(7, .long x_2), (5, .long x_1), (0, .ref o), (1, .long a), (3, .long b)]) hx hb dX0_plus_12 hl (by decide) rfl (fun ls hl => ?_)
  refine lv_lload hx hb dX0_plus_14 (lv_at hl 1 rfl) ?_
  refine lv_aload_n hx hb dX0_plus_16 rfl (lv_at hl 2 rfl) ?_
  refine mw_get G hgf hpic rfl inX0 6 (by decide) qw1_188 rfl dX0_plus_17 ?_
  refine mw_lne (tgt := 29) hx hb dX0_plus_20 dX0_plus_21 (by decide) (fun c_3 => ?_) (fun c_3 => ?_)
  · refine lv_aload_n hx hb dX0_plus_29 rfl (lv_at hl 2 rfl) ?_
    refine lv_lload hx hb dX0_plus_30 (lv_at hl 1 rfl) ?_
    refine kV (C := RX0) G (cvX0_exponentOf l D o z x_1) okX0_exponentOf hgf hpic (mw_recv hgf hpic rfl) qw3_4 ⟨Nat.le_of_ble_eq_true rfl, Nat.le_of_ble_eq_true rfl⟩ ⟨Nat.zero_le _, Nat.zero_le _⟩ hl.1 (Nat.le_of_ble_eq_true rfl) rfl dX0_plus_32 ?_
    refine lv_topi (fun x_4 e_4 => ?_)
    refine lv_istore (lv' := [(9, .int x_4), (7, .long x_2), (5, .long x_1), (0, .ref o), (1, .long a), (3, .long b)]) hx hb dX0_plus_35 hl (by decide) rfl (fun ls hl => ?_)
    refine lv_aload_n hx hb dX0_plus_37 rfl (lv_at hl 3 rfl) ?_
    refine lv_lload hx hb dX0_plus_38 (lv_at hl 2 rfl) ?_
    refine kV (C := RX0) G (cvX0_significandOf l D o z x_1) okX0_significandOf hgf hpic (mw_recv hgf hpic rfl) qw3_8 ⟨Nat.le_of_ble_eq_true rfl, Nat.le_of_ble_eq_true rfl⟩ ⟨Nat.zero_le _, Nat.zero_le _⟩ hl.1 (Nat.le_of_ble_eq_true rfl) rfl dX0_plus_40 ?_
    refine lv_aload_n hx hb dX0_plus_43 rfl (lv_at hl 3 rfl) ?_
    refine lv_lload hx hb dX0_plus_44 (lv_at hl 1 rfl) ?_
    refine kV (C := RX0) G (cvX0_significandOf l D o z x_2) okX0_significandOf hgf hpic (mw_recv hgf hpic rfl) qw3_8 ⟨Nat.le_of_ble_eq_true rfl, Nat.le_of_ble_eq_true rfl⟩ ⟨Nat.zero_le _, Nat.zero_le _⟩ hl.1 (Nat.le_of_ble_eq_true rfl) rfl dX0_plus_46 ?_
    refine lv_iload hx hb dX0_plus_49 (lv_at hl 0 rfl) ?_
    refine lv_aload_n hx hb dX0_plus_51 rfl (lv_at hl 3 rfl) ?_
    refine lv_lload hx hb dX0_plus_52 (lv_at hl 1 rfl) ?_
    refine kV (C := RX0) G (cvX0_exponentOf l D o z x_2) okX0_exponentOf hgf hpic (mw_recv hgf hpic rfl) qw3_4 ⟨Nat.le_of_ble_eq_true rfl, Nat.le_of_ble_eq_true rfl⟩ ⟨Nat.zero_le _, Nat.zero_le _⟩ hl.1 (Nat.le_of_ble_eq_true rfl) rfl dX0_plus_54 ?_
    refine lv_isub hx hb dX0_plus_57 ?_
    refine kS G (cvX0_shiftedRight l D (fX0_significandOf z x_2) (x_4 - (fX0_exponentOf z x_2))) okX0_shiftedRight hgf trivial qw3_12 ⟨Nat.le_of_ble_eq_true rfl, Nat.le_of_ble_eq_true rfl⟩ ⟨Nat.zero_le _, Nat.zero_le _⟩ hl.1 (Nat.le_of_ble_eq_true rfl) rfl dX0_plus_58 ?_
    refine lv_ladd hx hb dX0_plus_61 ?_
    refine lv_topl (fun x_5 e_5 => ?_)
    refine lv_lstore (lv' := [(10, .long x_5), (9, .int x_4), (7, .long x_2), (5, .long x_1), (0, .ref o), (1, .long a), (3, .long b)]) hx hb dX0_plus_62 hl (by decide) rfl (fun ls hl => ?_)
    refine lv_lload hx hb dX0_plus_64 (lv_at hl 0 rfl) ?_
    refine lv_aload_n hx hb dX0_plus_66 rfl (lv_at hl 4 rfl) ?_
    refine mw_get G hgf hpic rfl inX0 10 (by decide) qw1_192 rfl dX0_plus_67 ?_
    refine lv_iconst (v := 4) hx hb dX0_plus_70 (by decide) ?_
    refine lv_lshl (v := jshl (fhi z) 4) hx hb dX0_plus_71 rfl ?_
    refine mw_llt (tgt := 87) hx hb dX0_plus_72 dX0_plus_73 (by decide) (fun c_6 => ?_) (fun c_6 => ?_)
    · refine lv_aload_n hx hb dX0_plus_87 rfl (lv_at hl 4 rfl) ?_
      refine lv_lload hx hb dX0_plus_88 (lv_at hl 0 rfl) ?_
      refine lv_iload hx hb dX0_plus_90 (lv_at hl 1 rfl) ?_
      refine kV (C := RX0) G (cvX0_rounded l D o z x_5 x_4) okX0_rounded hgf hpic (mw_recv hgf hpic rfl) qw3_18 ⟨Nat.le_of_ble_eq_true rfl, Nat.le_of_ble_eq_true rfl⟩ ⟨Nat.zero_le _, Nat.zero_le _⟩ hl.1 (Nat.le_of_ble_eq_true rfl) rfl dX0_plus_92 ?_
      exact mw_lret hx hb hr hlocks dX0_plus_95 ((congrArg (fX0_plus_s1 z a b) e_1.symm).trans ((congrArg (fX0_plus_s2 z a b x_1) e_2.symm).trans ((if_neg c_3).trans ((congrArg (fX0_plus_s4 z a b x_1 x_2) e_4.symm).trans ((congrArg (fX0_plus_s5 z a b x_1 x_2 x_4) e_5.symm).trans ((if_pos c_6).trans (rfl))))))).symm
    · refine lv_lload hx hb dX0_plus_76 (lv_at hl 0 rfl) ?_
      refine lv_iconst (v := 1) hx hb dX0_plus_78 (by decide) ?_
      refine kS G (cvX0_shiftedRight l D x_5 1) okX0_shiftedRight hgf trivial qw3_12 ⟨Nat.le_of_ble_eq_true rfl, Nat.le_of_ble_eq_true rfl⟩ ⟨Nat.zero_le _, Nat.zero_le _⟩ hl.1 (Nat.le_of_ble_eq_true rfl) rfl dX0_plus_79 ?_
      refine lv_topl (fun x_7 e_7 => ?_)
      refine lv_lstore (lv' := [(10, .long x_7), (9, .int x_4), (7, .long x_2), (5, .long x_1), (0, .ref o), (1, .long a), (3, .long b)]) hx hb dX0_plus_82 hl (by decide) rfl (fun ls hl => ?_)
      refine lv_iinc (v := x_4 + 1) (lv' := [(9, .int (x_4 + 1)), (10, .long x_7), (7, .long x_2), (5, .long x_1), (0, .ref o), (1, .long a), (3, .long b)]) hx hb dX0_plus_84 hl (k := 1) rfl rfl (by decide) rfl (fun ls hl => ?_)
      refine lv_aload_n hx hb dX0_plus_87 rfl (lv_at hl 4 rfl) ?_
      refine lv_lload hx hb dX0_plus_88 (lv_at hl 1 rfl) ?_
      refine lv_iload hx hb dX0_plus_90 (lv_at hl 0 rfl) ?_
      refine kV (C := RX0) G (cvX0_rounded l D o z x_7 (x_4 + 1)) okX0_rounded hgf hpic (mw_recv hgf hpic rfl) qw3_18 ⟨Nat.le_of_ble_eq_true rfl, Nat.le_of_ble_eq_true rfl⟩ ⟨Nat.zero_le _, Nat.zero_le _⟩ hl.1 (Nat.le_of_ble_eq_true rfl) rfl dX0_plus_92 ?_
      exact mw_lret hx hb hr hlocks dX0_plus_95 ((congrArg (fX0_plus_s1 z a b) e_1.symm).trans ((congrArg (fX0_plus_s2 z a b x_1) e_2.symm).trans ((if_neg c_3).trans ((congrArg (fX0_plus_s4 z a b x_1 x_2) e_4.symm).trans ((congrArg (fX0_plus_s5 z a b x_1 x_2 x_4) e_5.symm).trans ((if_neg c_6).trans ((congrArg (fX0_plus_s7 z a b x_1 x_2 x_4 x_5) e_7.symm).trans (rfl)))))))).symm
  · refine lv_aload_n hx hb dX0_plus_24 rfl (lv_at hl 2 rfl) ?_
    refine mw_get G hgf hpic rfl inX0 6 (by decide) qw1_188 rfl dX0_plus_25 ?_
    exact mw_lret hx hb hr hlocks dX0_plus_28 ((congrArg (fX0_plus_s1 z a b) e_1.symm).trans ((congrArg (fX0_plus_s2 z a b x_1) e_2.symm).trans ((if_pos c_3).trans (rfl)))).symm
def fX0_rank (z : Bool) (v : Int64) : Int64 := if 0 ≤ v then v else (-1) - (fX0_amount z v)
set_option maxRecDepth 100000 in
set_option maxHeartbeats 4000000 in
theorem cvX0_rank (l : Launch) (D : mG) (o : Nat) (z : Bool) (v : Int64) : cV l D yX0_rank cX0_rank 3 .long 1 (fun H => va_at D.1 vwCl (o, .inr (0, flF z)) H) [.ref o, .long v] (.long (fX0_rank z v)) := by
  refine cV_of (by decide) (Nat.le_of_ble_eq_true rfl) ?_
  intro p e s m below meth c ls hx hb hr hlocks G hgf hpic hl
  have hl : lv_has ls 3 [(0, .ref o), (1, .long v)] := hl
  have hpic : va_at D.1 vwCl (o, .inr (0, flF z)) s.heap := hpic
  refine lv_lload_n hx hb dX0_rank_0 rfl (lv_at hl 1 rfl) ?_
  refine lv_lconst (v := 0) hx hb dX0_rank_1 (by decide) ?_
  refine mw_lge (tgt := 18) hx hb dX0_rank_2 dX0_rank_3 (by decide) (fun c_1 => ?_) (fun c_1 => ?_)
  · refine lv_lload_n hx hb dX0_rank_18 rfl (lv_at hl 1 rfl) ?_
    exact mw_lret hx hb hr hlocks dX0_rank_19 ((if_pos c_1).trans (rfl)).symm
  · refine lv_ldc2 (v := (-1)) hx hb G.2.2.2.1 (G.2.2.2.2 _ qw1_181) dX0_rank_6 ?_
    refine lv_aload_n hx hb dX0_rank_9 rfl (lv_at hl 0 rfl) ?_
    refine lv_lload_n hx hb dX0_rank_10 rfl (lv_at hl 1 rfl) ?_
    refine kV (C := RX0) G (cvX0_amount l D o z v) okX0_amount hgf hpic (mw_recv hgf hpic rfl) qw2_85 ⟨Nat.le_of_ble_eq_true rfl, Nat.le_of_ble_eq_true rfl⟩ ⟨Nat.zero_le _, Nat.zero_le _⟩ hl.1 (Nat.le_of_ble_eq_true rfl) rfl dX0_rank_11 ?_
    refine lv_lsub hx hb dX0_rank_14 ?_
    refine lv_goto (tgt := 19) hx hb dX0_rank_15 (by decide) ?_
    exact mw_lret hx hb hr hlocks dX0_rank_19 ((if_neg c_1).trans (rfl)).symm
def fX0_level (z : Bool) (v : Int64) : Int64 := if 0 ≤ v then v else -(fX0_amount z v)
set_option maxRecDepth 100000 in
set_option maxHeartbeats 4000000 in
theorem cvX0_level (l : Launch) (D : mG) (o : Nat) (z : Bool) (v : Int64) : cV l D yX0_level cX0_level 3 .long 1 (fun H => va_at D.1 vwCl (o, .inr (0, flF z)) H) [.ref o, .long v] (.long (fX0_level z v)) := by
  refine cV_of (by decide) (Nat.le_of_ble_eq_true rfl) ?_
  intro p e s m below meth c ls hx hb hr hlocks G hgf hpic hl
  have hl : lv_has ls 3 [(0, .ref o), (1, .long v)] := hl
  have hpic : va_at D.1 vwCl (o, .inr (0, flF z)) s.heap := hpic
  refine lv_lload_n hx hb dX0_level_0 rfl (lv_at hl 1 rfl) ?_
  refine lv_lconst (v := 0) hx hb dX0_level_1 (by decide) ?_
  refine mw_lge (tgt := 15) hx hb dX0_level_2 dX0_level_3 (by decide) (fun c_1 => ?_) (fun c_1 => ?_)
  · refine lv_lload_n hx hb dX0_level_15 rfl (lv_at hl 1 rfl) ?_
    exact mw_lret hx hb hr hlocks dX0_level_16 ((if_pos c_1).trans (rfl)).symm
  · refine lv_aload_n hx hb dX0_level_6 rfl (lv_at hl 0 rfl) ?_
    refine lv_lload_n hx hb dX0_level_7 rfl (lv_at hl 1 rfl) ?_
    refine kV (C := RX0) G (cvX0_amount l D o z v) okX0_amount hgf hpic (mw_recv hgf hpic rfl) qw2_85 ⟨Nat.le_of_ble_eq_true rfl, Nat.le_of_ble_eq_true rfl⟩ ⟨Nat.zero_le _, Nat.zero_le _⟩ hl.1 (Nat.le_of_ble_eq_true rfl) rfl dX0_level_8 ?_
    refine lv_lneg hx hb dX0_level_11 ?_
    refine lv_goto (tgt := 16) hx hb dX0_level_12 (by decide) ?_
    exact mw_lret hx hb hr hlocks dX0_level_16 ((if_neg c_1).trans (rfl)).symm
def fX0_withSignOf (z : Bool) (v : Int64) (a : Int64) : Int64 := if 0 ≤ v then a else a ||| (fsm z)
set_option maxRecDepth 100000 in
set_option maxHeartbeats 4000000 in
theorem cvX0_withSignOf (l : Launch) (D : mG) (o : Nat) (z : Bool) (v : Int64) (a : Int64) : cV l D yX0_withSignOf cX0_withSignOf 5 .long 0 (fun H => va_at D.1 vwCl (o, .inr (0, flF z)) H) [.ref o, .long v, .long a] (.long (fX0_withSignOf z v a)) := by
  refine cV_of (by decide) (Nat.le_of_ble_eq_true rfl) ?_
  intro p e s m below meth c ls hx hb hr hlocks G hgf hpic hl
  have hl : lv_has ls 5 [(0, .ref o), (1, .long v), (3, .long a)] := hl
  have hpic : va_at D.1 vwCl (o, .inr (0, flF z)) s.heap := hpic
  refine lv_lload_n hx hb dX0_withSignOf_0 rfl (lv_at hl 1 rfl) ?_
  refine lv_lconst (v := 0) hx hb dX0_withSignOf_1 (by decide) ?_
  refine mw_lge (tgt := 15) hx hb dX0_withSignOf_2 dX0_withSignOf_3 (by decide) (fun c_1 => ?_) (fun c_1 => ?_)
  · refine lv_lload_n hx hb dX0_withSignOf_15 rfl (lv_at hl 2 rfl) ?_
    exact mw_lret hx hb hr hlocks dX0_withSignOf_16 ((if_pos c_1).trans (rfl)).symm
  · refine lv_lload_n hx hb dX0_withSignOf_6 rfl (lv_at hl 2 rfl) ?_
    refine lv_aload_n hx hb dX0_withSignOf_7 rfl (lv_at hl 0 rfl) ?_
    refine mw_get G hgf hpic rfl inX0 5 (by decide) qw1_187 rfl dX0_withSignOf_8 ?_
    refine lv_lor hx hb dX0_withSignOf_11 ?_
    refine lv_goto (tgt := 16) hx hb dX0_withSignOf_12 (by decide) ?_
    exact mw_lret hx hb hr hlocks dX0_withSignOf_16 ((if_neg c_1).trans (rfl)).symm
def fX0_bitsBehindPoint (z : Bool) (a : Int64) : Int32 := ((ffb z) + (fbi z)) - ((jushr a (ffb z)).toInt32)
set_option maxRecDepth 100000 in
set_option maxHeartbeats 4000000 in
theorem cvX0_bitsBehindPoint (l : Launch) (D : mG) (o : Nat) (z : Bool) (a : Int64) : cV l D yX0_bitsBehindPoint cX0_bitsBehindPoint 3 .int 0 (fun H => va_at D.1 vwCl (o, .inr (0, flF z)) H) [.ref o, .long a] (.int (fX0_bitsBehindPoint z a)) := by
  refine cV_of (by decide) (Nat.le_of_ble_eq_true rfl) ?_
  intro p e s m below meth c ls hx hb hr hlocks G hgf hpic hl
  have hl : lv_has ls 3 [(0, .ref o), (1, .long a)] := hl
  have hpic : va_at D.1 vwCl (o, .inr (0, flF z)) s.heap := hpic
  refine lv_aload_n hx hb dX0_bitsBehindPoint_0 rfl (lv_at hl 0 rfl) ?_
  refine mw_get G hgf hpic rfl inX0 4 (by decide) qw1_186 rfl dX0_bitsBehindPoint_1 ?_
  refine lv_aload_n hx hb dX0_bitsBehindPoint_4 rfl (lv_at hl 0 rfl) ?_
  refine mw_get G hgf hpic rfl inX0 7 (by decide) qw1_189 rfl dX0_bitsBehindPoint_5 ?_
  refine lv_iadd hx hb dX0_bitsBehindPoint_8 ?_
  refine lv_lload_n hx hb dX0_bitsBehindPoint_9 rfl (lv_at hl 1 rfl) ?_
  refine lv_aload_n hx hb dX0_bitsBehindPoint_10 rfl (lv_at hl 0 rfl) ?_
  refine mw_get G hgf hpic rfl inX0 4 (by decide) qw1_186 rfl dX0_bitsBehindPoint_11 ?_
  refine lv_lushr (v := jushr a (ffb z)) hx hb dX0_bitsBehindPoint_14 rfl ?_
  refine lv_l2i hx hb dX0_bitsBehindPoint_15 rfl ?_
  refine lv_isub hx hb dX0_bitsBehindPoint_16 ?_
  exact mw_iret hx hb hr hlocks dX0_bitsBehindPoint_17 (rfl).symm
def fX0_cut_s2 (z : Bool) (a : Int64) (x_2 : Int32) : Int64 := if 0 < x_2 then a &&& (jshl (-1) x_2) else a
def fX0_cut (z : Bool) (a : Int64) : Int64 := if (fon z) ≤ a then fX0_cut_s2 z a (fX0_bitsBehindPoint z a) else 0
set_option maxRecDepth 100000 in
set_option maxHeartbeats 4000000 in
theorem cvX0_cut (l : Launch) (D : mG) (o : Nat) (z : Bool) (a : Int64) : cV l D yX0_cut cX0_cut 4 .long 1 (fun H => va_at D.1 vwCl (o, .inr (0, flF z)) H) [.ref o, .long a] (.long (fX0_cut z a)) := by
  refine cV_of (by decide) (Nat.le_of_ble_eq_true rfl) ?_
  intro p e s m below meth c ls hx hb hr hlocks G hgf hpic hl
  have hl : lv_has ls 4 [(0, .ref o), (1, .long a)] := hl
  have hpic : va_at D.1 vwCl (o, .inr (0, flF z)) s.heap := hpic
  refine lv_lload_n hx hb dX0_cut_0 rfl (lv_at hl 1 rfl) ?_
  refine lv_aload_n hx hb dX0_cut_1 rfl (lv_at hl 0 rfl) ?_
  refine mw_get G hgf hpic rfl inX0 8 (by decide) qw1_190 rfl dX0_cut_2 ?_
  refine mw_lge (tgt := 11) hx hb dX0_cut_5 dX0_cut_6 (by decide) (fun c_1 => ?_) (fun c_1 => ?_)
  · refine lv_aload_n hx hb dX0_cut_11 rfl (lv_at hl 0 rfl) ?_
    refine lv_lload_n hx hb dX0_cut_12 rfl (lv_at hl 1 rfl) ?_
    refine kV (C := RX0) G (cvX0_bitsBehindPoint l D o z a) okX0_bitsBehindPoint hgf hpic (mw_recv hgf hpic rfl) qw2_203 ⟨Nat.le_of_ble_eq_true rfl, Nat.le_of_ble_eq_true rfl⟩ ⟨Nat.zero_le _, Nat.zero_le _⟩ hl.1 (Nat.le_of_ble_eq_true rfl) rfl dX0_cut_13 ?_
    refine lv_topi (fun x_2 e_2 => ?_)
    refine lv_istore_n (lv' := [(3, .int x_2), (0, .ref o), (1, .long a)]) hx hb dX0_cut_16 rfl hl (by decide) rfl (fun ls hl => ?_)
    refine lv_iload_n hx hb dX0_cut_17 rfl (lv_at hl 0 rfl) ?_
    refine lv_if_gt (tgt := 25) hx hb dX0_cut_18 (by decide) (fun c_3 => ?_) (fun c_3 => ?_)
    · refine lv_lload_n hx hb dX0_cut_25 rfl (lv_at hl 2 rfl) ?_
      refine lv_ldc2 (v := (-1)) hx hb G.2.2.2.1 (G.2.2.2.2 _ qw1_181) dX0_cut_26 ?_
      refine lv_iload_n hx hb dX0_cut_29 rfl (lv_at hl 0 rfl) ?_
      refine lv_lshl (v := jshl (-1) x_2) hx hb dX0_cut_30 rfl ?_
      refine lv_land hx hb dX0_cut_31 ?_
      exact mw_lret hx hb hr hlocks dX0_cut_32 ((if_pos c_1).trans ((congrArg (fX0_cut_s2 z a) e_2.symm).trans ((if_pos c_3).trans (rfl)))).symm
    · refine lv_lload_n hx hb dX0_cut_21 rfl (lv_at hl 2 rfl) ?_
      refine lv_goto (tgt := 32) hx hb dX0_cut_22 (by decide) ?_
      exact mw_lret hx hb hr hlocks dX0_cut_32 ((if_pos c_1).trans ((congrArg (fX0_cut_s2 z a) e_2.symm).trans ((if_neg c_3).trans (rfl)))).symm
  · refine lv_lconst (v := 0) hx hb dX0_cut_9 (by decide) ?_
    exact mw_lret hx hb hr hlocks dX0_cut_10 ((if_neg c_1).trans (rfl)).symm
def fX0_nextWhole (z : Bool) (bw : Int64) (a : Int64) : Int64 := if (fon z) ≤ a then bw + (jshl 1 (fX0_bitsBehindPoint z a)) else fon z
set_option maxRecDepth 100000 in
set_option maxHeartbeats 4000000 in
theorem cvX0_nextWhole (l : Launch) (D : mG) (o : Nat) (z : Bool) (bw : Int64) (a : Int64) : cV l D yX0_nextWhole cX0_nextWhole 5 .long 1 (fun H => va_at D.1 vwCl (o, .inr (0, flF z)) H) [.ref o, .long bw, .long a] (.long (fX0_nextWhole z bw a)) := by
  refine cV_of (by decide) (Nat.le_of_ble_eq_true rfl) ?_
  intro p e s m below meth c ls hx hb hr hlocks G hgf hpic hl
  have hl : lv_has ls 5 [(0, .ref o), (1, .long bw), (3, .long a)] := hl
  have hpic : va_at D.1 vwCl (o, .inr (0, flF z)) s.heap := hpic
  refine lv_lload_n hx hb dX0_nextWhole_0 rfl (lv_at hl 2 rfl) ?_
  refine lv_aload_n hx hb dX0_nextWhole_1 rfl (lv_at hl 0 rfl) ?_
  refine mw_get G hgf hpic rfl inX0 8 (by decide) qw1_190 rfl dX0_nextWhole_2 ?_
  refine mw_lge (tgt := 16) hx hb dX0_nextWhole_5 dX0_nextWhole_6 (by decide) (fun c_1 => ?_) (fun c_1 => ?_)
  · refine lv_lload_n hx hb dX0_nextWhole_16 rfl (lv_at hl 1 rfl) ?_
    refine lv_lconst (v := 1) hx hb dX0_nextWhole_17 (by decide) ?_
    refine lv_aload_n hx hb dX0_nextWhole_18 rfl (lv_at hl 0 rfl) ?_
    refine lv_lload_n hx hb dX0_nextWhole_19 rfl (lv_at hl 2 rfl) ?_
    refine kV (C := RX0) G (cvX0_bitsBehindPoint l D o z a) okX0_bitsBehindPoint hgf hpic (mw_recv hgf hpic rfl) qw2_203 ⟨Nat.le_of_ble_eq_true rfl, Nat.le_of_ble_eq_true rfl⟩ ⟨Nat.zero_le _, Nat.zero_le _⟩ hl.1 (Nat.le_of_ble_eq_true rfl) rfl dX0_nextWhole_20 ?_
    refine lv_lshl (v := jshl 1 (fX0_bitsBehindPoint z a)) hx hb dX0_nextWhole_23 rfl ?_
    refine lv_ladd hx hb dX0_nextWhole_24 ?_
    exact mw_lret hx hb hr hlocks dX0_nextWhole_25 ((if_pos c_1).trans (rfl)).symm
  · refine lv_aload_n hx hb dX0_nextWhole_9 rfl (lv_at hl 0 rfl) ?_
    refine mw_get G hgf hpic rfl inX0 8 (by decide) qw1_190 rfl dX0_nextWhole_10 ?_
    refine lv_goto (tgt := 25) hx hb dX0_nextWhole_13 (by decide) ?_
    exact mw_lret hx hb hr hlocks dX0_nextWhole_25 ((if_neg c_1).trans (rfl)).symm
def fX0_raised_s1 (z : Bool) (a : Int64) (x_1 : Int64) : Int64 := if x_1 = a then a else fX0_nextWhole z x_1 a
def fX0_raised (z : Bool) (a : Int64) : Int64 := fX0_raised_s1 z a (fX0_cut z a)
set_option maxRecDepth 100000 in
set_option maxHeartbeats 4000000 in
theorem cvX0_raised (l : Launch) (D : mG) (o : Nat) (z : Bool) (a : Int64) : cV l D yX0_raised cX0_raised 5 .long 2 (fun H => va_at D.1 vwCl (o, .inr (0, flF z)) H) [.ref o, .long a] (.long (fX0_raised z a)) := by
  refine cV_of (by decide) (Nat.le_of_ble_eq_true rfl) ?_
  intro p e s m below meth c ls hx hb hr hlocks G hgf hpic hl
  have hl : lv_has ls 5 [(0, .ref o), (1, .long a)] := hl
  have hpic : va_at D.1 vwCl (o, .inr (0, flF z)) s.heap := hpic
  refine lv_aload_n hx hb dX0_raised_0 rfl (lv_at hl 0 rfl) ?_
  refine lv_lload_n hx hb dX0_raised_1 rfl (lv_at hl 1 rfl) ?_
  refine kV (C := RX0) G (cvX0_cut l D o z a) okX0_cut hgf hpic (mw_recv hgf hpic rfl) qw2_199 ⟨Nat.le_of_ble_eq_true rfl, Nat.le_of_ble_eq_true rfl⟩ ⟨Nat.zero_le _, Nat.zero_le _⟩ hl.1 (Nat.le_of_ble_eq_true rfl) rfl dX0_raised_2 ?_
  refine lv_topl (fun x_1 e_1 => ?_)
  refine lv_lstore_n (lv' := [(3, .long x_1), (0, .ref o), (1, .long a)]) hx hb dX0_raised_5 rfl hl (by decide) rfl (fun ls hl => ?_)
  refine lv_lload_n hx hb dX0_raised_6 rfl (lv_at hl 0 rfl) ?_
  refine lv_lload_n hx hb dX0_raised_7 rfl (lv_at hl 2 rfl) ?_
  refine mw_lne (tgt := 16) hx hb dX0_raised_8 dX0_raised_9 (by decide) (fun c_2 => ?_) (fun c_2 => ?_)
  · refine lv_aload_n hx hb dX0_raised_16 rfl (lv_at hl 1 rfl) ?_
    refine lv_lload_n hx hb dX0_raised_17 rfl (lv_at hl 0 rfl) ?_
    refine lv_lload_n hx hb dX0_raised_18 rfl (lv_at hl 2 rfl) ?_
    refine kV (C := RX0) G (cvX0_nextWhole l D o z x_1 a) okX0_nextWhole hgf hpic (mw_recv hgf hpic rfl) qw2_207 ⟨Nat.le_of_ble_eq_true rfl, Nat.le_of_ble_eq_true rfl⟩ ⟨Nat.zero_le _, Nat.zero_le _⟩ hl.1 (Nat.le_of_ble_eq_true rfl) rfl dX0_raised_19 ?_
    exact mw_lret hx hb hr hlocks dX0_raised_22 ((congrArg (fX0_raised_s1 z a) e_1.symm).trans ((if_neg c_2).trans (rfl))).symm
  · refine lv_lload_n hx hb dX0_raised_12 rfl (lv_at hl 2 rfl) ?_
    refine lv_goto (tgt := 22) hx hb dX0_raised_13 (by decide) ?_
    exact mw_lret hx hb hr hlocks dX0_raised_22 ((congrArg (fX0_raised_s1 z a) e_1.symm).trans ((if_pos c_2).trans (rfl))).symm
def fX0_nearest_s8 (z : Bool) (a : Int64) (x_2 : Int64) (x_4 : Int32) (x_5 : Int64) (x_6 : Int64) (x_8 : Int32) : Int64 := if x_6 < x_5 then fX0_nextWhole z x_2 a else (if x_5 = x_6 then (if x_8 = 0 then x_2 else fX0_nextWhole z x_2 a) else x_2)
def fX0_nearest_s6 (z : Bool) (a : Int64) (x_2 : Int64) (x_4 : Int32) (x_5 : Int64) (x_6 : Int64) : Int64 := fX0_nearest_s8 z a x_2 x_4 x_5 x_6 (if ((jushr x_2 x_4) &&& 1) = 1 then 1 else 0 : Int32)
def fX0_nearest_s5 (z : Bool) (a : Int64) (x_2 : Int64) (x_4 : Int32) (x_5 : Int64) : Int64 := fX0_nearest_s6 z a x_2 x_4 x_5 (jshl 1 (x_4 - 1))
def fX0_nearest_s4 (z : Bool) (a : Int64) (x_2 : Int64) (x_4 : Int32) : Int64 := fX0_nearest_s5 z a x_2 x_4 (a - x_2)
def fX0_nearest_s2 (z : Bool) (a : Int64) (x_2 : Int64) : Int64 := if x_2 = a then a else fX0_nearest_s4 z a x_2 (fX0_bitsBehindPoint z a)
def fX0_nearest (z : Bool) (a : Int64) : Int64 := if (fon z) ≤ a then fX0_nearest_s2 z a (fX0_cut z a) else (if a ≤ (fhf z) then 0 else fon z)
set_option maxRecDepth 100000 in
set_option maxHeartbeats 4000000 in
theorem cvX0_nearest (l : Launch) (D : mG) (o : Nat) (z : Bool) (a : Int64) : cV l D yX0_nearest cX0_nearest 11 .long 2 (fun H => va_at D.1 vwCl (o, .inr (0, flF z)) H) [.ref o, .long a] (.long (fX0_nearest z a)) := by
  refine cV_of (by decide) (Nat.le_of_ble_eq_true rfl) ?_
  intro p e s m below meth c ls hx hb hr hlocks G hgf hpic hl
  have hl : lv_has ls 11 [(0, .ref o), (1, .long a)] := hl
  have hpic : va_at D.1 vwCl (o, .inr (0, flF z)) s.heap := hpic
  refine lv_lload_n hx hb dX0_nearest_0 rfl (lv_at hl 1 rfl) ?_
  refine lv_aload_n hx hb dX0_nearest_1 rfl (lv_at hl 0 rfl) ?_
  refine mw_get G hgf hpic rfl inX0 8 (by decide) qw1_190 rfl dX0_nearest_2 ?_
  refine mw_lge (tgt := 27) hx hb dX0_nearest_5 dX0_nearest_6 (by decide) (fun c_1 => ?_) (fun c_1 => ?_)
  · refine lv_aload_n hx hb dX0_nearest_27 rfl (lv_at hl 0 rfl) ?_
    refine lv_lload_n hx hb dX0_nearest_28 rfl (lv_at hl 1 rfl) ?_
    refine kV (C := RX0) G (cvX0_cut l D o z a) okX0_cut hgf hpic (mw_recv hgf hpic rfl) qw2_199 ⟨Nat.le_of_ble_eq_true rfl, Nat.le_of_ble_eq_true rfl⟩ ⟨Nat.zero_le _, Nat.zero_le _⟩ hl.1 (Nat.le_of_ble_eq_true rfl) rfl dX0_nearest_29 ?_
    refine lv_topl (fun x_2 e_2 => ?_)
    refine lv_lstore_n (lv' := [(3, .long x_2), (0, .ref o), (1, .long a)]) hx hb dX0_nearest_32 rfl hl (by decide) rfl (fun ls hl => ?_)
    refine lv_lload_n hx hb dX0_nearest_33 rfl (lv_at hl 0 rfl) ?_
    refine lv_lload_n hx hb dX0_nearest_34 rfl (lv_at hl 2 rfl) ?_
    refine mw_lne (tgt := 41) hx hb dX0_nearest_35 dX0_nearest_36 (by decide) (fun c_3 => ?_) (fun c_3 => ?_)
    · refine lv_aload_n hx hb dX0_nearest_41 rfl (lv_at hl 1 rfl) ?_
      refine lv_lload_n hx hb dX0_nearest_42 rfl (lv_at hl 2 rfl) ?_
      refine kV (C := RX0) G (cvX0_bitsBehindPoint l D o z a) okX0_bitsBehindPoint hgf hpic (mw_recv hgf hpic rfl) qw2_203 ⟨Nat.le_of_ble_eq_true rfl, Nat.le_of_ble_eq_true rfl⟩ ⟨Nat.zero_le _, Nat.zero_le _⟩ hl.1 (Nat.le_of_ble_eq_true rfl) rfl dX0_nearest_43 ?_
      refine lv_topi (fun x_4 e_4 => ?_)
      refine lv_istore (lv' := [(5, .int x_4), (3, .long x_2), (0, .ref o), (1, .long a)]) hx hb dX0_nearest_46 hl (by decide) rfl (fun ls hl => ?_)
      refine lv_lload_n hx hb dX0_nearest_48 rfl (lv_at hl 3 rfl) ?_
      refine lv_lload_n hx hb dX0_nearest_49 rfl (lv_at hl 1 rfl) ?_
      refine lv_lsub hx hb dX0_nearest_50 ?_
      refine lv_topl (fun x_5 e_5 => ?_)
      refine lv_lstore (lv' := [(6, .long x_5), (5, .int x_4), (3, .long x_2), (0, .ref o), (1, .long a)]) hx hb dX0_nearest_51 hl (by decide) rfl (fun ls hl => ?_)
      refine lv_lconst (v := 1) hx hb dX0_nearest_53 (by decide) ?_
      refine lv_iload hx hb dX0_nearest_54 (lv_at hl 1 rfl) ?_
      refine lv_iconst (v := 1) hx hb dX0_nearest_56 (by decide) ?_
      refine lv_isub hx hb dX0_nearest_57 ?_
      refine lv_lshl (v := jshl 1 (x_4 - 1)) hx hb dX0_nearest_58 rfl ?_
      refine lv_topl (fun x_6 e_6 => ?_)
      refine lv_lstore (lv' := [(8, .long x_6), (6, .long x_5), (5, .int x_4), (3, .long x_2), (0, .ref o), (1, .long a)]) hx hb dX0_nearest_59 hl (by decide) rfl (fun ls hl => ?_)
      refine lv_lload_n hx hb dX0_nearest_61 rfl (lv_at hl 3 rfl) ?_
      refine lv_iload hx hb dX0_nearest_62 (lv_at hl 2 rfl) ?_
      refine lv_lushr (v := jushr x_2 x_4) hx hb dX0_nearest_64 rfl ?_
      refine lv_lconst (v := 1) hx hb dX0_nearest_65 (by decide) ?_
      refine lv_land hx hb dX0_nearest_66 ?_
      refine lv_lconst (v := 1) hx hb dX0_nearest_67 (by decide) ?_
      refine mw_join 77 (.int (if ((jushr x_2 x_4) &&& 1) = 1 then 1 else 0 : Int32)) [] (fun K => ?_) ?_
      · refine mw_lne (tgt := 76) hx hb dX0_nearest_68 dX0_nearest_69 (by decide) (fun c_7 => ?_) (fun c_7 => ?_)
        · refine lv_iconst (v := 0) hx hb dX0_nearest_76 (by decide) ?_
          exact mw_topI ((if_neg c_7).trans (rfl)) K
        · refine lv_iconst (v := 1) hx hb dX0_nearest_72 (by decide) ?_
          refine lv_goto (tgt := 77) hx hb dX0_nearest_73 (by decide) ?_
          exact mw_topI ((if_pos c_7).trans (rfl)) K
      refine lv_topi (fun x_8 e_8 => ?_)
      refine lv_istore (lv' := [(10, .int x_8), (8, .long x_6), (6, .long x_5), (5, .int x_4), (3, .long x_2), (0, .ref o), (1, .long a)]) hx hb dX0_nearest_77 hl (by decide) rfl (fun ls hl => ?_)
      refine lv_lload hx hb dX0_nearest_79 (lv_at hl 2 rfl) ?_
      refine lv_lload hx hb dX0_nearest_81 (lv_at hl 1 rfl) ?_
      refine mw_lgt (tgt := 100) hx hb dX0_nearest_83 dX0_nearest_84 (by decide) (fun c_9 => ?_) (fun c_9 => ?_)
      · refine lv_aload_n hx hb dX0_nearest_100 rfl (lv_at hl 5 rfl) ?_
        refine lv_lload_n hx hb dX0_nearest_101 rfl (lv_at hl 4 rfl) ?_
        refine lv_lload_n hx hb dX0_nearest_102 rfl (lv_at hl 6 rfl) ?_
        refine kV (C := RX0) G (cvX0_nextWhole l D o z x_2 a) okX0_nextWhole hgf hpic (mw_recv hgf hpic rfl) qw2_207 ⟨Nat.le_of_ble_eq_true rfl, Nat.le_of_ble_eq_true rfl⟩ ⟨Nat.zero_le _, Nat.zero_le _⟩ hl.1 (Nat.le_of_ble_eq_true rfl) rfl dX0_nearest_103 ?_
        refine lv_goto (tgt := 110) hx hb dX0_nearest_106 (by decide) ?_
        exact mw_lret hx hb hr hlocks dX0_nearest_110 ((if_pos c_1).trans ((congrArg (fX0_nearest_s2 z a) e_2.symm).trans ((if_neg c_3).trans ((congrArg (fX0_nearest_s4 z a x_2) e_4.symm).trans ((congrArg (fX0_nearest_s5 z a x_2 x_4) e_5.symm).trans ((congrArg (fX0_nearest_s6 z a x_2 x_4 x_5) e_6.symm).trans ((congrArg (fX0_nearest_s8 z a x_2 x_4 x_5 x_6) e_8.symm).trans ((if_pos c_9).trans (rfl))))))))).symm
      · refine lv_lload hx hb dX0_nearest_87 (lv_at hl 2 rfl) ?_
        refine lv_lload hx hb dX0_nearest_89 (lv_at hl 1 rfl) ?_
        refine mw_lne (tgt := 109) hx hb dX0_nearest_91 dX0_nearest_92 (by decide) (fun c_10 => ?_) (fun c_10 => ?_)
        · refine lv_lload_n hx hb dX0_nearest_109 rfl (lv_at hl 4 rfl) ?_
          exact mw_lret hx hb hr hlocks dX0_nearest_110 ((if_pos c_1).trans ((congrArg (fX0_nearest_s2 z a) e_2.symm).trans ((if_neg c_3).trans ((congrArg (fX0_nearest_s4 z a x_2) e_4.symm).trans ((congrArg (fX0_nearest_s5 z a x_2 x_4) e_5.symm).trans ((congrArg (fX0_nearest_s6 z a x_2 x_4 x_5) e_6.symm).trans ((congrArg (fX0_nearest_s8 z a x_2 x_4 x_5 x_6) e_8.symm).trans ((if_neg c_9).trans ((if_neg c_10).trans (rfl)))))))))).symm
        · refine lv_iload hx hb dX0_nearest_95 (lv_at hl 0 rfl) ?_
          refine lv_if_eq (tgt := 109) hx hb dX0_nearest_97 (by decide) (fun c_11 => ?_) (fun c_11 => ?_)
          · refine lv_lload_n hx hb dX0_nearest_109 rfl (lv_at hl 4 rfl) ?_
            exact mw_lret hx hb hr hlocks dX0_nearest_110 ((if_pos c_1).trans ((congrArg (fX0_nearest_s2 z a) e_2.symm).trans ((if_neg c_3).trans ((congrArg (fX0_nearest_s4 z a x_2) e_4.symm).trans ((congrArg (fX0_nearest_s5 z a x_2 x_4) e_5.symm).trans ((congrArg (fX0_nearest_s6 z a x_2 x_4 x_5) e_6.symm).trans ((congrArg (fX0_nearest_s8 z a x_2 x_4 x_5 x_6) e_8.symm).trans ((if_neg c_9).trans ((if_pos c_10).trans ((if_pos c_11).trans (rfl))))))))))).symm
          · refine lv_aload_n hx hb dX0_nearest_100 rfl (lv_at hl 5 rfl) ?_
            refine lv_lload_n hx hb dX0_nearest_101 rfl (lv_at hl 4 rfl) ?_
            refine lv_lload_n hx hb dX0_nearest_102 rfl (lv_at hl 6 rfl) ?_
            refine kV (C := RX0) G (cvX0_nextWhole l D o z x_2 a) okX0_nextWhole hgf hpic (mw_recv hgf hpic rfl) qw2_207 ⟨Nat.le_of_ble_eq_true rfl, Nat.le_of_ble_eq_true rfl⟩ ⟨Nat.zero_le _, Nat.zero_le _⟩ hl.1 (Nat.le_of_ble_eq_true rfl) rfl dX0_nearest_103 ?_
            refine lv_goto (tgt := 110) hx hb dX0_nearest_106 (by decide) ?_
            exact mw_lret hx hb hr hlocks dX0_nearest_110 ((if_pos c_1).trans ((congrArg (fX0_nearest_s2 z a) e_2.symm).trans ((if_neg c_3).trans ((congrArg (fX0_nearest_s4 z a x_2) e_4.symm).trans ((congrArg (fX0_nearest_s5 z a x_2 x_4) e_5.symm).trans ((congrArg (fX0_nearest_s6 z a x_2 x_4 x_5) e_6.symm).trans ((congrArg (fX0_nearest_s8 z a x_2 x_4 x_5 x_6) e_8.symm).trans ((if_neg c_9).trans ((if_pos c_10).trans ((if_neg c_11).trans (rfl))))))))))).symm
    · refine lv_lload_n hx hb dX0_nearest_39 rfl (lv_at hl 2 rfl) ?_
      exact mw_lret hx hb hr hlocks dX0_nearest_40 ((if_pos c_1).trans ((congrArg (fX0_nearest_s2 z a) e_2.symm).trans ((if_pos c_3).trans (rfl)))).symm
  · refine lv_lload_n hx hb dX0_nearest_9 rfl (lv_at hl 1 rfl) ?_
    refine lv_aload_n hx hb dX0_nearest_10 rfl (lv_at hl 0 rfl) ?_
    refine mw_get G hgf hpic rfl inX0 9 (by decide) qw1_191 rfl dX0_nearest_11 ?_
    refine mw_lle (tgt := 25) hx hb dX0_nearest_14 dX0_nearest_15 (by decide) (fun c_12 => ?_) (fun c_12 => ?_)
    · refine lv_lconst (v := 0) hx hb dX0_nearest_25 (by decide) ?_
      exact mw_lret hx hb hr hlocks dX0_nearest_26 ((if_neg c_1).trans ((if_pos c_12).trans (rfl))).symm
    · refine lv_aload_n hx hb dX0_nearest_18 rfl (lv_at hl 0 rfl) ?_
      refine mw_get G hgf hpic rfl inX0 8 (by decide) qw1_190 rfl dX0_nearest_19 ?_
      refine lv_goto (tgt := 26) hx hb dX0_nearest_22 (by decide) ?_
      exact mw_lret hx hb hr hlocks dX0_nearest_26 ((if_neg c_1).trans ((if_neg c_12).trans (rfl))).symm
def fX0_furtherStepped_s1 (z : Bool) (kd : Int32) (v : Int64) (k : Int64) (x_1 : Int64) : Int64 := if kd = 3 then fX0_withSignOf z v (if 0 ≤ v then fX0_cut z x_1 else fX0_raised z x_1 : Int64) else (if kd = 4 then fX0_withSignOf z v (if 0 ≤ v then fX0_raised z x_1 else fX0_cut z x_1 : Int64) else (if kd = 5 then fX0_withSignOf z v (fX0_nearest z x_1) else (if kd = 6 then (if x_1 = 0 then v else fX0_withSignOf z v (fon z)) else (if kd = 7 then fX0_withSignOf z k x_1 else v))))
def fX0_furtherStepped (z : Bool) (kd : Int32) (v : Int64) (k : Int64) : Int64 := fX0_furtherStepped_s1 z kd v k (fX0_amount z v)
set_option maxRecDepth 100000 in
set_option maxHeartbeats 4000000 in
theorem cvX0_furtherStepped (l : Launch) (D : mG) (o : Nat) (z : Bool) (kd : Int32) (v : Int64) (k : Int64) : cV l D yX0_furtherStepped cX0_furtherStepped 8 .long 3 (fun H => va_at D.1 vwCl (o, .inr (0, flF z)) H) [.ref o, .int kd, .long v, .long k] (.long (fX0_furtherStepped z kd v k)) := by
  refine cV_of (by decide) (Nat.le_of_ble_eq_true rfl) ?_
  intro p e s m below meth c ls hx hb hr hlocks G hgf hpic hl
  have hl : lv_has ls 8 [(0, .ref o), (1, .int kd), (2, .long v), (4, .long k)] := hl
  have hpic : va_at D.1 vwCl (o, .inr (0, flF z)) s.heap := hpic
  refine lv_aload_n hx hb dX0_furtherStepped_0 rfl (lv_at hl 0 rfl) ?_
  refine lv_lload_n hx hb dX0_furtherStepped_1 rfl (lv_at hl 2 rfl) ?_
  refine kV (C := RX0) G (cvX0_amount l D o z v) okX0_amount hgf hpic (mw_recv hgf hpic rfl) qw2_85 ⟨Nat.le_of_ble_eq_true rfl, Nat.le_of_ble_eq_true rfl⟩ ⟨Nat.zero_le _, Nat.zero_le _⟩ hl.1 (Nat.le_of_ble_eq_true rfl) rfl dX0_furtherStepped_2 ?_
  refine lv_topl (fun x_1 e_1 => ?_)
  refine lv_lstore (lv' := [(6, .long x_1), (0, .ref o), (1, .int kd), (2, .long v), (4, .long k)]) hx hb dX0_furtherStepped_5 hl (by decide) rfl (fun ls hl => ?_)
  refine lv_iload_n hx hb dX0_furtherStepped_7 rfl (lv_at hl 2 rfl) ?_
  by_cases c_2 : kd = 3
  · refine lv_tableIn (off := 36) (tgt := 44) hx hb dX0_furtherStepped_8 (by rw [c_2]; decide) (by rw [c_2]; decide) (by rw [c_2]; rfl) (by decide) ?_
    refine lv_aload_n hx hb dX0_furtherStepped_44 rfl (lv_at hl 1 rfl) ?_
    refine lv_lload_n hx hb dX0_furtherStepped_45 rfl (lv_at hl 3 rfl) ?_
    refine lv_lload_n hx hb dX0_furtherStepped_46 rfl (lv_at hl 3 rfl) ?_
    refine lv_lconst (v := 0) hx hb dX0_furtherStepped_47 (by decide) ?_
    refine mw_join 67 (.long (if 0 ≤ v then fX0_cut z x_1 else fX0_raised z x_1 : Int64)) [.long v, .ref o] (fun K => ?_) ?_
    · refine mw_lge (tgt := 61) hx hb dX0_furtherStepped_48 dX0_furtherStepped_49 (by decide) (fun c_3 => ?_) (fun c_3 => ?_)
      · refine lv_aload_n hx hb dX0_furtherStepped_61 rfl (lv_at hl 1 rfl) ?_
        refine lv_lload hx hb dX0_furtherStepped_62 (lv_at hl 0 rfl) ?_
        refine kV (C := RX0) G (cvX0_cut l D o z x_1) okX0_cut hgf hpic (mw_recv hgf hpic rfl) qw2_199 ⟨Nat.le_of_ble_eq_true rfl, Nat.le_of_ble_eq_true rfl⟩ ⟨Nat.zero_le _, Nat.zero_le _⟩ hl.1 (Nat.le_of_ble_eq_true rfl) rfl dX0_furtherStepped_64 ?_
        exact mw_topL ((if_pos c_3).trans (rfl)) K
      · refine lv_aload_n hx hb dX0_furtherStepped_52 rfl (lv_at hl 1 rfl) ?_
        refine lv_lload hx hb dX0_furtherStepped_53 (lv_at hl 0 rfl) ?_
        refine kV (C := RX0) G (cvX0_raised l D o z x_1) okX0_raised hgf hpic (mw_recv hgf hpic rfl) qw2_195 ⟨Nat.le_of_ble_eq_true rfl, Nat.le_of_ble_eq_true rfl⟩ ⟨Nat.zero_le _, Nat.zero_le _⟩ hl.1 (Nat.le_of_ble_eq_true rfl) rfl dX0_furtherStepped_55 ?_
        refine lv_goto (tgt := 67) hx hb dX0_furtherStepped_58 (by decide) ?_
        exact mw_topL ((if_neg c_3).trans (rfl)) K
    refine kV (C := RX0) G (cvX0_withSignOf l D o z v (if 0 ≤ v then fX0_cut z x_1 else fX0_raised z x_1 : Int64)) okX0_withSignOf hgf hpic (mw_recv hgf hpic rfl) qw2_211 ⟨Nat.le_of_ble_eq_true rfl, Nat.le_of_ble_eq_true rfl⟩ ⟨Nat.zero_le _, Nat.zero_le _⟩ hl.1 (Nat.le_of_ble_eq_true rfl) rfl dX0_furtherStepped_67 ?_
    exact mw_lret hx hb hr hlocks dX0_furtherStepped_70 ((congrArg (fX0_furtherStepped_s1 z kd v k) e_1.symm).trans ((if_pos c_2).trans (rfl))).symm
  · by_cases c_4 : kd = 4
    · refine lv_tableIn (off := 63) (tgt := 71) hx hb dX0_furtherStepped_8 (by rw [c_4]; decide) (by rw [c_4]; decide) (by rw [c_4]; rfl) (by decide) ?_
      refine lv_aload_n hx hb dX0_furtherStepped_71 rfl (lv_at hl 1 rfl) ?_
      refine lv_lload_n hx hb dX0_furtherStepped_72 rfl (lv_at hl 3 rfl) ?_
      refine lv_lload_n hx hb dX0_furtherStepped_73 rfl (lv_at hl 3 rfl) ?_
      refine lv_lconst (v := 0) hx hb dX0_furtherStepped_74 (by decide) ?_
      refine mw_join 94 (.long (if 0 ≤ v then fX0_raised z x_1 else fX0_cut z x_1 : Int64)) [.long v, .ref o] (fun K => ?_) ?_
      · refine mw_lge (tgt := 88) hx hb dX0_furtherStepped_75 dX0_furtherStepped_76 (by decide) (fun c_5 => ?_) (fun c_5 => ?_)
        · refine lv_aload_n hx hb dX0_furtherStepped_88 rfl (lv_at hl 1 rfl) ?_
          refine lv_lload hx hb dX0_furtherStepped_89 (lv_at hl 0 rfl) ?_
          refine kV (C := RX0) G (cvX0_raised l D o z x_1) okX0_raised hgf hpic (mw_recv hgf hpic rfl) qw2_195 ⟨Nat.le_of_ble_eq_true rfl, Nat.le_of_ble_eq_true rfl⟩ ⟨Nat.zero_le _, Nat.zero_le _⟩ hl.1 (Nat.le_of_ble_eq_true rfl) rfl dX0_furtherStepped_91 ?_
          exact mw_topL ((if_pos c_5).trans (rfl)) K
        · refine lv_aload_n hx hb dX0_furtherStepped_79 rfl (lv_at hl 1 rfl) ?_
          refine lv_lload hx hb dX0_furtherStepped_80 (lv_at hl 0 rfl) ?_
          refine kV (C := RX0) G (cvX0_cut l D o z x_1) okX0_cut hgf hpic (mw_recv hgf hpic rfl) qw2_199 ⟨Nat.le_of_ble_eq_true rfl, Nat.le_of_ble_eq_true rfl⟩ ⟨Nat.zero_le _, Nat.zero_le _⟩ hl.1 (Nat.le_of_ble_eq_true rfl) rfl dX0_furtherStepped_82 ?_
          refine lv_goto (tgt := 94) hx hb dX0_furtherStepped_85 (by decide) ?_
          exact mw_topL ((if_neg c_5).trans (rfl)) K
      refine kV (C := RX0) G (cvX0_withSignOf l D o z v (if 0 ≤ v then fX0_raised z x_1 else fX0_cut z x_1 : Int64)) okX0_withSignOf hgf hpic (mw_recv hgf hpic rfl) qw2_211 ⟨Nat.le_of_ble_eq_true rfl, Nat.le_of_ble_eq_true rfl⟩ ⟨Nat.zero_le _, Nat.zero_le _⟩ hl.1 (Nat.le_of_ble_eq_true rfl) rfl dX0_furtherStepped_94 ?_
      exact mw_lret hx hb hr hlocks dX0_furtherStepped_97 ((congrArg (fX0_furtherStepped_s1 z kd v k) e_1.symm).trans ((if_neg c_2).trans ((if_pos c_4).trans (rfl)))).symm
    · by_cases c_6 : kd = 5
      · refine lv_tableIn (off := 90) (tgt := 98) hx hb dX0_furtherStepped_8 (by rw [c_6]; decide) (by rw [c_6]; decide) (by rw [c_6]; rfl) (by decide) ?_
        refine lv_aload_n hx hb dX0_furtherStepped_98 rfl (lv_at hl 1 rfl) ?_
        refine lv_lload_n hx hb dX0_furtherStepped_99 rfl (lv_at hl 3 rfl) ?_
        refine lv_aload_n hx hb dX0_furtherStepped_100 rfl (lv_at hl 1 rfl) ?_
        refine lv_lload hx hb dX0_furtherStepped_101 (lv_at hl 0 rfl) ?_
        refine kV (C := RX0) G (cvX0_nearest l D o z x_1) okX0_nearest hgf hpic (mw_recv hgf hpic rfl) qw2_215 ⟨Nat.le_of_ble_eq_true rfl, Nat.le_of_ble_eq_true rfl⟩ ⟨Nat.zero_le _, Nat.zero_le _⟩ hl.1 (Nat.le_of_ble_eq_true rfl) rfl dX0_furtherStepped_103 ?_
        refine kV (C := RX0) G (cvX0_withSignOf l D o z v (fX0_nearest z x_1)) okX0_withSignOf hgf hpic (mw_recv hgf hpic rfl) qw2_211 ⟨Nat.le_of_ble_eq_true rfl, Nat.le_of_ble_eq_true rfl⟩ ⟨Nat.zero_le _, Nat.zero_le _⟩ hl.1 (Nat.le_of_ble_eq_true rfl) rfl dX0_furtherStepped_106 ?_
        exact mw_lret hx hb hr hlocks dX0_furtherStepped_109 ((congrArg (fX0_furtherStepped_s1 z kd v k) e_1.symm).trans ((if_neg c_2).trans ((if_neg c_4).trans ((if_pos c_6).trans (rfl))))).symm
      · by_cases c_7 : kd = 6
        · refine lv_tableIn (off := 102) (tgt := 110) hx hb dX0_furtherStepped_8 (by rw [c_7]; decide) (by rw [c_7]; decide) (by rw [c_7]; rfl) (by decide) ?_
          refine lv_lload hx hb dX0_furtherStepped_110 (lv_at hl 0 rfl) ?_
          refine lv_lconst (v := 0) hx hb dX0_furtherStepped_112 (by decide) ?_
          refine mw_lne (tgt := 121) hx hb dX0_furtherStepped_113 dX0_furtherStepped_114 (by decide) (fun c_8 => ?_) (fun c_8 => ?_)
          · refine lv_aload_n hx hb dX0_furtherStepped_121 rfl (lv_at hl 1 rfl) ?_
            refine lv_lload_n hx hb dX0_furtherStepped_122 rfl (lv_at hl 3 rfl) ?_
            refine lv_aload_n hx hb dX0_furtherStepped_123 rfl (lv_at hl 1 rfl) ?_
            refine mw_get G hgf hpic rfl inX0 8 (by decide) qw1_190 rfl dX0_furtherStepped_124 ?_
            refine kV (C := RX0) G (cvX0_withSignOf l D o z v (fon z)) okX0_withSignOf hgf hpic (mw_recv hgf hpic rfl) qw2_211 ⟨Nat.le_of_ble_eq_true rfl, Nat.le_of_ble_eq_true rfl⟩ ⟨Nat.zero_le _, Nat.zero_le _⟩ hl.1 (Nat.le_of_ble_eq_true rfl) rfl dX0_furtherStepped_127 ?_
            exact mw_lret hx hb hr hlocks dX0_furtherStepped_130 ((congrArg (fX0_furtherStepped_s1 z kd v k) e_1.symm).trans ((if_neg c_2).trans ((if_neg c_4).trans ((if_neg c_6).trans ((if_pos c_7).trans ((if_neg c_8).trans (rfl))))))).symm
          · refine lv_lload_n hx hb dX0_furtherStepped_117 rfl (lv_at hl 3 rfl) ?_
            refine lv_goto (tgt := 130) hx hb dX0_furtherStepped_118 (by decide) ?_
            exact mw_lret hx hb hr hlocks dX0_furtherStepped_130 ((congrArg (fX0_furtherStepped_s1 z kd v k) e_1.symm).trans ((if_neg c_2).trans ((if_neg c_4).trans ((if_neg c_6).trans ((if_pos c_7).trans ((if_pos c_8).trans (rfl))))))).symm
        · by_cases c_9 : kd = 7
          · refine lv_tableIn (off := 123) (tgt := 131) hx hb dX0_furtherStepped_8 (by rw [c_9]; decide) (by rw [c_9]; decide) (by rw [c_9]; rfl) (by decide) ?_
            refine lv_aload_n hx hb dX0_furtherStepped_131 rfl (lv_at hl 1 rfl) ?_
            refine lv_lload hx hb dX0_furtherStepped_132 (lv_at hl 4 rfl) ?_
            refine lv_lload hx hb dX0_furtherStepped_134 (lv_at hl 0 rfl) ?_
            refine kV (C := RX0) G (cvX0_withSignOf l D o z k x_1) okX0_withSignOf hgf hpic (mw_recv hgf hpic rfl) qw2_211 ⟨Nat.le_of_ble_eq_true rfl, Nat.le_of_ble_eq_true rfl⟩ ⟨Nat.zero_le _, Nat.zero_le _⟩ hl.1 (Nat.le_of_ble_eq_true rfl) rfl dX0_furtherStepped_136 ?_
            exact mw_lret hx hb hr hlocks dX0_furtherStepped_139 ((congrArg (fX0_furtherStepped_s1 z kd v k) e_1.symm).trans ((if_neg c_2).trans ((if_neg c_4).trans ((if_neg c_6).trans ((if_neg c_7).trans ((if_pos c_9).trans (rfl))))))).symm
          · refine lv_tableOut (tgt := 140) hx hb dX0_furtherStepped_8 (by have qc_2 : kd.toInt ≠ 3 := mw_ne c_2; have qc_4 : kd.toInt ≠ 4 := mw_ne c_4; have qc_6 : kd.toInt ≠ 5 := mw_ne c_6; have qc_7 : kd.toInt ≠ 6 := mw_ne c_7; have qc_9 : kd.toInt ≠ 7 := mw_ne c_9; omega) (by decide) ?_
            refine lv_lload_n hx hb dX0_furtherStepped_140 rfl (lv_at hl 3 rfl) ?_
            exact mw_lret hx hb hr hlocks dX0_furtherStepped_141 ((congrArg (fX0_furtherStepped_s1 z kd v k) e_1.symm).trans ((if_neg c_2).trans ((if_neg c_4).trans ((if_neg c_6).trans ((if_neg c_7).trans ((if_neg c_9).trans (rfl))))))).symm
def fX0_toInt_s7 (z : Bool) (v : Int64) (x_1 : Int64) (x_3 : Int32) (x_5 : Int64) (x_7 : Int32) : Int32 := if 0 ≤ v then x_7 else -x_7
def fX0_toInt_s5 (z : Bool) (v : Int64) (x_1 : Int64) (x_3 : Int32) (x_5 : Int64) : Int32 := fX0_toInt_s7 z v x_1 x_3 x_5 ((if (ffb z) < x_3 then jshl x_5 (x_3 - (ffb z)) else jushr x_5 ((ffb z) - x_3) : Int64).toInt32)
def fX0_toInt_s3 (z : Bool) (v : Int64) (x_1 : Int64) (x_3 : Int32) : Int32 := if x_3 ≤ 30 then fX0_toInt_s5 z v x_1 x_3 ((fhi z) ||| (x_1 &&& ((fhi z) - 1))) else (if 0 ≤ v then 2147483647 else (-2147483648))
def fX0_toInt_s1 (z : Bool) (v : Int64) (x_1 : Int64) : Int32 := if (fon z) ≤ x_1 then fX0_toInt_s3 z v x_1 ((fX0_exponentOf z x_1) - (fbi z)) else 0
def fX0_toInt (z : Bool) (v : Int64) : Int32 := fX0_toInt_s1 z v (fX0_amount z v)
set_option maxRecDepth 100000 in
set_option maxHeartbeats 4000000 in
theorem cvX0_toInt (l : Launch) (D : mG) (o : Nat) (z : Bool) (v : Int64) : cV l D yX0_toInt cX0_toInt 9 .int 1 (fun H => va_at D.1 vwCl (o, .inr (0, flF z)) H) [.ref o, .long v] (.int (fX0_toInt z v)) := by
  refine cV_of (by decide) (Nat.le_of_ble_eq_true rfl) ?_
  intro p e s m below meth c ls hx hb hr hlocks G hgf hpic hl
  have hl : lv_has ls 9 [(0, .ref o), (1, .long v)] := hl
  have hpic : va_at D.1 vwCl (o, .inr (0, flF z)) s.heap := hpic
  refine lv_aload_n hx hb dX0_toInt_0 rfl (lv_at hl 0 rfl) ?_
  refine lv_lload_n hx hb dX0_toInt_1 rfl (lv_at hl 1 rfl) ?_
  refine kV (C := RX0) G (cvX0_amount l D o z v) okX0_amount hgf hpic (mw_recv hgf hpic rfl) qw2_85 ⟨Nat.le_of_ble_eq_true rfl, Nat.le_of_ble_eq_true rfl⟩ ⟨Nat.zero_le _, Nat.zero_le _⟩ hl.1 (Nat.le_of_ble_eq_true rfl) rfl dX0_toInt_2 ?_
  refine lv_topl (fun x_1 e_1 => ?_)
  refine lv_lstore_n (lv' := [(3, .long x_1), (0, .ref o), (1, .long v)]) hx hb dX0_toInt_5 rfl hl (by decide) rfl (fun ls hl => ?_)
  refine lv_lload_n hx hb dX0_toInt_6 rfl (lv_at hl 0 rfl) ?_
  refine lv_aload_n hx hb dX0_toInt_7 rfl (lv_at hl 1 rfl) ?_
  refine mw_get G hgf hpic rfl inX0 8 (by decide) qw1_190 rfl dX0_toInt_8 ?_
  refine mw_lge (tgt := 17) hx hb dX0_toInt_11 dX0_toInt_12 (by decide) (fun c_2 => ?_) (fun c_2 => ?_)
  · refine lv_aload_n hx hb dX0_toInt_17 rfl (lv_at hl 1 rfl) ?_
    refine lv_lload_n hx hb dX0_toInt_18 rfl (lv_at hl 0 rfl) ?_
    refine kV (C := RX0) G (cvX0_exponentOf l D o z x_1) okX0_exponentOf hgf hpic (mw_recv hgf hpic rfl) qw3_4 ⟨Nat.le_of_ble_eq_true rfl, Nat.le_of_ble_eq_true rfl⟩ ⟨Nat.zero_le _, Nat.zero_le _⟩ hl.1 (Nat.le_of_ble_eq_true rfl) rfl dX0_toInt_19 ?_
    refine lv_aload_n hx hb dX0_toInt_22 rfl (lv_at hl 1 rfl) ?_
    refine mw_get G hgf hpic rfl inX0 7 (by decide) qw1_189 rfl dX0_toInt_23 ?_
    refine lv_isub hx hb dX0_toInt_26 ?_
    refine lv_topi (fun x_3 e_3 => ?_)
    refine lv_istore (lv' := [(5, .int x_3), (3, .long x_1), (0, .ref o), (1, .long v)]) hx hb dX0_toInt_27 hl (by decide) rfl (fun ls hl => ?_)
    refine lv_iload hx hb dX0_toInt_29 (lv_at hl 0 rfl) ?_
    refine lv_bipush (v := 30) hx hb dX0_toInt_31 (by decide) ?_
    refine lv_icmp_le (tgt := 50) hx hb dX0_toInt_33 (by decide) (fun c_4 => ?_) (fun c_4 => ?_)
    · refine lv_aload_n hx hb dX0_toInt_50 rfl (lv_at hl 2 rfl) ?_
      refine mw_get G hgf hpic rfl inX0 10 (by decide) qw1_192 rfl dX0_toInt_51 ?_
      refine lv_lload_n hx hb dX0_toInt_54 rfl (lv_at hl 1 rfl) ?_
      refine lv_aload_n hx hb dX0_toInt_55 rfl (lv_at hl 2 rfl) ?_
      refine mw_get G hgf hpic rfl inX0 10 (by decide) qw1_192 rfl dX0_toInt_56 ?_
      refine lv_lconst (v := 1) hx hb dX0_toInt_59 (by decide) ?_
      refine lv_lsub hx hb dX0_toInt_60 ?_
      refine lv_land hx hb dX0_toInt_61 ?_
      refine lv_lor hx hb dX0_toInt_62 ?_
      refine lv_topl (fun x_5 e_5 => ?_)
      refine lv_lstore (lv' := [(6, .long x_5), (5, .int x_3), (3, .long x_1), (0, .ref o), (1, .long v)]) hx hb dX0_toInt_63 hl (by decide) rfl (fun ls hl => ?_)
      refine lv_iload hx hb dX0_toInt_65 (lv_at hl 1 rfl) ?_
      refine lv_aload_n hx hb dX0_toInt_67 rfl (lv_at hl 3 rfl) ?_
      refine mw_get G hgf hpic rfl inX0 4 (by decide) qw1_186 rfl dX0_toInt_68 ?_
      refine mw_join 97 (.long (if (ffb z) < x_3 then jshl x_5 (x_3 - (ffb z)) else jushr x_5 ((ffb z) - x_3) : Int64)) [] (fun K => ?_) ?_
      · refine lv_icmp_gt (tgt := 87) hx hb dX0_toInt_71 (by decide) (fun c_6 => ?_) (fun c_6 => ?_)
        · refine lv_lload hx hb dX0_toInt_87 (lv_at hl 0 rfl) ?_
          refine lv_iload hx hb dX0_toInt_89 (lv_at hl 1 rfl) ?_
          refine lv_aload_n hx hb dX0_toInt_91 rfl (lv_at hl 3 rfl) ?_
          refine mw_get G hgf hpic rfl inX0 4 (by decide) qw1_186 rfl dX0_toInt_92 ?_
          refine lv_isub hx hb dX0_toInt_95 ?_
          refine lv_lshl (v := jshl x_5 (x_3 - (ffb z))) hx hb dX0_toInt_96 rfl ?_
          exact mw_topL ((if_pos c_6).trans (rfl)) K
        · refine lv_lload hx hb dX0_toInt_74 (lv_at hl 0 rfl) ?_
          refine lv_aload_n hx hb dX0_toInt_76 rfl (lv_at hl 3 rfl) ?_
          refine mw_get G hgf hpic rfl inX0 4 (by decide) qw1_186 rfl dX0_toInt_77 ?_
          refine lv_iload hx hb dX0_toInt_80 (lv_at hl 1 rfl) ?_
          refine lv_isub hx hb dX0_toInt_82 ?_
          refine lv_lushr (v := jushr x_5 ((ffb z) - x_3)) hx hb dX0_toInt_83 rfl ?_
          refine lv_goto (tgt := 97) hx hb dX0_toInt_84 (by decide) ?_
          exact mw_topL ((if_neg c_6).trans (rfl)) K
      refine lv_l2i hx hb dX0_toInt_97 rfl ?_
      refine lv_topi (fun x_7 e_7 => ?_)
      refine lv_istore (lv' := [(8, .int x_7), (6, .long x_5), (5, .int x_3), (3, .long x_1), (0, .ref o), (1, .long v)]) hx hb dX0_toInt_98 hl (by decide) rfl (fun ls hl => ?_)
      refine lv_lload_n hx hb dX0_toInt_100 rfl (lv_at hl 5 rfl) ?_
      refine lv_lconst (v := 0) hx hb dX0_toInt_101 (by decide) ?_
      refine mw_lge (tgt := 112) hx hb dX0_toInt_102 dX0_toInt_103 (by decide) (fun c_8 => ?_) (fun c_8 => ?_)
      · refine lv_iload hx hb dX0_toInt_112 (lv_at hl 0 rfl) ?_
        exact mw_iret hx hb hr hlocks dX0_toInt_114 ((congrArg (fX0_toInt_s1 z v) e_1.symm).trans ((if_pos c_2).trans ((congrArg (fX0_toInt_s3 z v x_1) e_3.symm).trans ((if_pos c_4).trans ((congrArg (fX0_toInt_s5 z v x_1 x_3) e_5.symm).trans ((congrArg (fX0_toInt_s7 z v x_1 x_3 x_5) e_7.symm).trans ((if_pos c_8).trans (rfl)))))))).symm
      · refine lv_iload hx hb dX0_toInt_106 (lv_at hl 0 rfl) ?_
        refine lv_ineg hx hb dX0_toInt_108 ?_
        refine lv_goto (tgt := 114) hx hb dX0_toInt_109 (by decide) ?_
        exact mw_iret hx hb hr hlocks dX0_toInt_114 ((congrArg (fX0_toInt_s1 z v) e_1.symm).trans ((if_pos c_2).trans ((congrArg (fX0_toInt_s3 z v x_1) e_3.symm).trans ((if_pos c_4).trans ((congrArg (fX0_toInt_s5 z v x_1 x_3) e_5.symm).trans ((congrArg (fX0_toInt_s7 z v x_1 x_3 x_5) e_7.symm).trans ((if_neg c_8).trans (rfl)))))))).symm
    · refine lv_lload_n hx hb dX0_toInt_36 rfl (lv_at hl 3 rfl) ?_
      refine lv_lconst (v := 0) hx hb dX0_toInt_37 (by decide) ?_
      refine mw_lge (tgt := 47) hx hb dX0_toInt_38 dX0_toInt_39 (by decide) (fun c_9 => ?_) (fun c_9 => ?_)
      · refine lv_ldc (v := 2147483647) hx hb G.2.2.2.1 (G.2.2.2.2 _ qw3_112) dX0_toInt_47 ?_
        exact mw_iret hx hb hr hlocks dX0_toInt_49 ((congrArg (fX0_toInt_s1 z v) e_1.symm).trans ((if_pos c_2).trans ((congrArg (fX0_toInt_s3 z v x_1) e_3.symm).trans ((if_neg c_4).trans ((if_pos c_9).trans (rfl)))))).symm
      · refine lv_ldc (v := (-2147483648)) hx hb G.2.2.2.1 (G.2.2.2.2 _ qw3_111) dX0_toInt_42 ?_
        refine lv_goto (tgt := 49) hx hb dX0_toInt_44 (by decide) ?_
        exact mw_iret hx hb hr hlocks dX0_toInt_49 ((congrArg (fX0_toInt_s1 z v) e_1.symm).trans ((if_pos c_2).trans ((congrArg (fX0_toInt_s3 z v x_1) e_3.symm).trans ((if_neg c_4).trans ((if_neg c_9).trans (rfl)))))).symm
  · refine lv_iconst (v := 0) hx hb dX0_toInt_15 (by decide) ?_
    exact mw_iret hx hb hr hlocks dX0_toInt_16 ((congrArg (fX0_toInt_s1 z v) e_1.symm).trans ((if_neg c_2).trans (rfl))).symm
