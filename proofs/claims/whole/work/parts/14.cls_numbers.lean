def fX2_ofWidth_w (z : Bool) (bits : Int64) : Int64 := if (fwd z) = 32 then bits.toInt32.toInt64 else bits
set_option maxRecDepth 100000 in
set_option maxHeartbeats 4000000 in
theorem cvX2_ofWidth_w (l : Launch) (D : mG) (o : Nat) (z : Bool) (bits : Int64) : cV l D yX2_ofWidth cX2_ofWidth 3 .long 0 (fun H => va_at D.1 vwCl (o, .inr (2, wrF z)) H) [.ref o, .long bits] (.long (fX2_ofWidth_w z bits)) := by
  refine cV_of (by decide) (Nat.le_of_ble_eq_true rfl) ?_
  intro p e s m below meth c ls hx hb hr hlocks G hgf hpic hl
  have hl : lv_has ls 3 [(0, .ref o), (1, .long bits)] := hl
  have hpic : va_at D.1 vwCl (o, .inr (2, wrF z)) s.heap := hpic
  refine lv_aload_n hx hb dX2_ofWidth_0 rfl (lv_at hl 0 rfl) ?_
  refine mw_get G hgf hpic rfl inX3 2 (by decide) qw1_165 rfl dX2_ofWidth_1 ?_
  refine lv_bipush (v := 32) hx hb dX2_ofWidth_4 (by decide) ?_
  refine lv_icmp_ne (tgt := 15) hx hb dX2_ofWidth_6 (by decide) (fun c_1 => ?_) (fun c_1 => ?_)
  · refine lv_lload_n hx hb dX2_ofWidth_15 rfl (lv_at hl 1 rfl) ?_
    exact mw_lret hx hb hr hlocks dX2_ofWidth_16 ((if_neg c_1).trans (rfl)).symm
  · refine lv_lload_n hx hb dX2_ofWidth_9 rfl (lv_at hl 1 rfl) ?_
    refine lv_l2i hx hb dX2_ofWidth_10 rfl ?_
    refine lv_i2l hx hb dX2_ofWidth_11 rfl ?_
    refine lv_goto (tgt := 16) hx hb dX2_ofWidth_12 (by decide) ?_
    exact mw_lret hx hb hr hlocks dX2_ofWidth_16 ((if_pos c_1).trans (rfl)).symm
def fX3_isNumber (z : Bool) (v : Int64) : Int32 := 1
set_option maxRecDepth 100000 in
set_option maxHeartbeats 4000000 in
theorem cvX3_isNumber (l : Launch) (D : mG) (o : Nat) (z : Bool) (v : Int64) : cV l D yX3_isNumber cX3_isNumber 3 .boolean 0 (fun H => va_at D.1 vwCl (o, .inr (2, wrF z)) H) [.ref o, .long v] (.int (fX3_isNumber z v)) := by
  refine cV_of (by decide) (Nat.le_of_ble_eq_true rfl) ?_
  intro p e s m below meth c ls hx hb hr hlocks G hgf hpic hl
  have hl : lv_has ls 3 [(0, .ref o), (1, .long v)] := hl
  have hpic : va_at D.1 vwCl (o, .inr (2, wrF z)) s.heap := hpic
  refine lv_iconst (v := 1) hx hb dX3_isNumber_0 (by decide) ?_
  exact mw_zret hx hb hr hlocks dX3_isNumber_1 (Or.inr rfl) (rfl).symm
def fX3_amount (z : Bool) (v : Int64) : Int64 := if 0 ≤ v then v else fX2_ofWidth_w z (-v)
set_option maxRecDepth 100000 in
set_option maxHeartbeats 4000000 in
theorem cvX3_amount (l : Launch) (D : mG) (o : Nat) (z : Bool) (v : Int64) : cV l D yX3_amount cX3_amount 3 .long 1 (fun H => va_at D.1 vwCl (o, .inr (2, wrF z)) H) [.ref o, .long v] (.long (fX3_amount z v)) := by
  refine cV_of (by decide) (Nat.le_of_ble_eq_true rfl) ?_
  intro p e s m below meth c ls hx hb hr hlocks G hgf hpic hl
  have hl : lv_has ls 3 [(0, .ref o), (1, .long v)] := hl
  have hpic : va_at D.1 vwCl (o, .inr (2, wrF z)) s.heap := hpic
  refine lv_lload_n hx hb dX3_amount_0 rfl (lv_at hl 1 rfl) ?_
  refine lv_lconst (v := 0) hx hb dX3_amount_1 (by decide) ?_
  refine mw_lge (tgt := 15) hx hb dX3_amount_2 dX3_amount_3 (by decide) (fun c_1 => ?_) (fun c_1 => ?_)
  · refine lv_lload_n hx hb dX3_amount_15 rfl (lv_at hl 1 rfl) ?_
    exact mw_lret hx hb hr hlocks dX3_amount_16 ((if_pos c_1).trans (rfl)).symm
  · refine lv_aload_n hx hb dX3_amount_6 rfl (lv_at hl 0 rfl) ?_
    refine lv_lload_n hx hb dX3_amount_7 rfl (lv_at hl 1 rfl) ?_
    refine lv_lneg hx hb dX3_amount_8 ?_
    refine kU (C := RX3) G (cvX2_ofWidth_w l D o z (-v)) ou_X3_X3_X2_ofWidth hgf hpic (mw_recv hgf hpic rfl) qw2_164 ⟨Nat.le_of_ble_eq_true rfl, Nat.le_of_ble_eq_true rfl⟩ ⟨Nat.zero_le _, Nat.zero_le _⟩ hl.1 (Nat.le_of_ble_eq_true rfl) rfl dX3_amount_9 ?_
    refine lv_goto (tgt := 16) hx hb dX3_amount_12 (by decide) ?_
    exact mw_lret hx hb hr hlocks dX3_amount_16 ((if_neg c_1).trans (rfl)).symm
def fX3_plus (z : Bool) (a : Int64) (b : Int64) : Int64 := fX2_ofWidth_w z (a + b)
set_option maxRecDepth 100000 in
set_option maxHeartbeats 4000000 in
theorem cvX3_plus (l : Launch) (D : mG) (o : Nat) (z : Bool) (a : Int64) (b : Int64) : cV l D yX3_plus cX3_plus 5 .long 1 (fun H => va_at D.1 vwCl (o, .inr (2, wrF z)) H) [.ref o, .long a, .long b] (.long (fX3_plus z a b)) := by
  refine cV_of (by decide) (Nat.le_of_ble_eq_true rfl) ?_
  intro p e s m below meth c ls hx hb hr hlocks G hgf hpic hl
  have hl : lv_has ls 5 [(0, .ref o), (1, .long a), (3, .long b)] := hl
  have hpic : va_at D.1 vwCl (o, .inr (2, wrF z)) s.heap := hpic
  refine lv_aload_n hx hb dX3_plus_0 rfl (lv_at hl 0 rfl) ?_
  refine lv_lload_n hx hb dX3_plus_1 rfl (lv_at hl 1 rfl) ?_
  refine lv_lload_n hx hb dX3_plus_2 rfl (lv_at hl 2 rfl) ?_
  refine lv_ladd hx hb dX3_plus_3 ?_
  refine kU (C := RX3) G (cvX2_ofWidth_w l D o z (a + b)) ou_X3_X3_X2_ofWidth hgf hpic (mw_recv hgf hpic rfl) qw2_164 ⟨Nat.le_of_ble_eq_true rfl, Nat.le_of_ble_eq_true rfl⟩ ⟨Nat.zero_le _, Nat.zero_le _⟩ hl.1 (Nat.le_of_ble_eq_true rfl) rfl dX3_plus_4 ?_
  exact mw_lret hx hb hr hlocks dX3_plus_7 (rfl).symm
def fX3_apart (z : Bool) (a : Int64) (b : Int64) : Int64 := fX3_amount z (fX2_ofWidth_w z (a - b))
set_option maxRecDepth 100000 in
set_option maxHeartbeats 4000000 in
theorem cvX3_apart (l : Launch) (D : mG) (o : Nat) (z : Bool) (a : Int64) (b : Int64) : cV l D yX3_apart cX3_apart 5 .long 2 (fun H => va_at D.1 vwCl (o, .inr (2, wrF z)) H) [.ref o, .long a, .long b] (.long (fX3_apart z a b)) := by
  refine cV_of (by decide) (Nat.le_of_ble_eq_true rfl) ?_
  intro p e s m below meth c ls hx hb hr hlocks G hgf hpic hl
  have hl : lv_has ls 5 [(0, .ref o), (1, .long a), (3, .long b)] := hl
  have hpic : va_at D.1 vwCl (o, .inr (2, wrF z)) s.heap := hpic
  refine lv_aload_n hx hb dX3_apart_0 rfl (lv_at hl 0 rfl) ?_
  refine lv_aload_n hx hb dX3_apart_1 rfl (lv_at hl 0 rfl) ?_
  refine lv_lload_n hx hb dX3_apart_2 rfl (lv_at hl 1 rfl) ?_
  refine lv_lload_n hx hb dX3_apart_3 rfl (lv_at hl 2 rfl) ?_
  refine lv_lsub hx hb dX3_apart_4 ?_
  refine kU (C := RX3) G (cvX2_ofWidth_w l D o z (a - b)) ou_X3_X3_X2_ofWidth hgf hpic (mw_recv hgf hpic rfl) qw2_164 ⟨Nat.le_of_ble_eq_true rfl, Nat.le_of_ble_eq_true rfl⟩ ⟨Nat.zero_le _, Nat.zero_le _⟩ hl.1 (Nat.le_of_ble_eq_true rfl) rfl dX3_apart_5 ?_
  refine kV (C := RX3) G (cvX3_amount l D o z (fX2_ofWidth_w z (a - b))) okX3_amount hgf hpic (mw_recv hgf hpic rfl) qw3_31 ⟨Nat.le_of_ble_eq_true rfl, Nat.le_of_ble_eq_true rfl⟩ ⟨Nat.zero_le _, Nat.zero_le _⟩ hl.1 (Nat.le_of_ble_eq_true rfl) rfl dX3_apart_8 ?_
  exact mw_lret hx hb hr hlocks dX3_apart_11 (rfl).symm
def fX3_toInt (z : Bool) (v : Int64) : Int32 := (if (if v < 2147483647 then v else 2147483647) < (-2147483648) then (-2147483648) else (if v < 2147483647 then v else 2147483647)).toInt32
set_option maxRecDepth 100000 in
set_option maxHeartbeats 4000000 in
theorem cvX3_toInt (l : Launch) (D : mG) (o : Nat) (z : Bool) (v : Int64) : cV l D yX3_toInt cX3_toInt 3 .int 1 (fun H => va_at D.1 vwCl (o, .inr (2, wrF z)) H) [.ref o, .long v] (.int (fX3_toInt z v)) := by
  refine cV_of (by decide) (Nat.le_of_ble_eq_true rfl) ?_
  intro p e s m below meth c ls hx hb hr hlocks G hgf hpic hl
  have hl : lv_has ls 3 [(0, .ref o), (1, .long v)] := hl
  have hpic : va_at D.1 vwCl (o, .inr (2, wrF z)) s.heap := hpic
  refine lv_ldc2 (v := (-2147483648)) hx hb G.2.2.2.1 (G.2.2.2.2 _ qw3_116) dX3_toInt_0 ?_
  refine lv_ldc2 (v := 2147483647) hx hb G.2.2.2.1 (G.2.2.2.2 _ qw3_117) dX3_toInt_3 ?_
  refine lv_lload_n hx hb dX3_toInt_6 rfl (lv_at hl 1 rfl) ?_
  refine va_mmin_long hx hb (by rw [G.2.2.1]; exact hl.1.symm) G.2.2.2.1 (G.2.2.2.2 _ qw3_118) (G.2.2.2.2 _ qw3_2) (G.2.2.2.2 _ qw1_14) (G.2.2.2.2 _ qw3_3) (Nat.le_of_ble_eq_true rfl) (Nat.le_of_ble_eq_true rfl) (Nat.zero_le _) (Nat.zero_le _) dX3_toInt_7 ?_
  refine va_mmax_long hx hb (by rw [G.2.2.1]; exact hl.1.symm) G.2.2.2.1 (G.2.2.2.2 _ qw3_119) (G.2.2.2.2 _ qw2_239) (G.2.2.2.2 _ qw1_14) (G.2.2.2.2 _ qw3_0) (Nat.le_of_ble_eq_true rfl) (Nat.le_of_ble_eq_true rfl) (Nat.zero_le _) (Nat.zero_le _) dX3_toInt_10 ?_
  refine lv_l2i hx hb dX3_toInt_13 rfl ?_
  exact mw_iret hx hb hr hlocks dX3_toInt_14 (rfl).symm
def fX3_rank (z : Bool) (v : Int64) : Int64 := v
set_option maxRecDepth 100000 in
set_option maxHeartbeats 4000000 in
theorem cvX3_rank (l : Launch) (D : mG) (o : Nat) (z : Bool) (v : Int64) : cV l D yX3_rank cX3_rank 3 .long 0 (fun H => va_at D.1 vwCl (o, .inr (2, wrF z)) H) [.ref o, .long v] (.long (fX3_rank z v)) := by
  refine cV_of (by decide) (Nat.le_of_ble_eq_true rfl) ?_
  intro p e s m below meth c ls hx hb hr hlocks G hgf hpic hl
  have hl : lv_has ls 3 [(0, .ref o), (1, .long v)] := hl
  have hpic : va_at D.1 vwCl (o, .inr (2, wrF z)) s.heap := hpic
  refine lv_lload_n hx hb dX3_rank_0 rfl (lv_at hl 1 rfl) ?_
  exact mw_lret hx hb hr hlocks dX3_rank_1 (rfl).symm
def fX3_level (z : Bool) (v : Int64) : Int64 := v
set_option maxRecDepth 100000 in
set_option maxHeartbeats 4000000 in
theorem cvX3_level (l : Launch) (D : mG) (o : Nat) (z : Bool) (v : Int64) : cV l D yX3_level cX3_level 3 .long 0 (fun H => va_at D.1 vwCl (o, .inr (2, wrF z)) H) [.ref o, .long v] (.long (fX3_level z v)) := by
  refine cV_of (by decide) (Nat.le_of_ble_eq_true rfl) ?_
  intro p e s m below meth c ls hx hb hr hlocks G hgf hpic hl
  have hl : lv_has ls 3 [(0, .ref o), (1, .long v)] := hl
  have hpic : va_at D.1 vwCl (o, .inr (2, wrF z)) s.heap := hpic
  refine lv_lload_n hx hb dX3_level_0 rfl (lv_at hl 1 rfl) ?_
  exact mw_lret hx hb hr hlocks dX3_level_1 (rfl).symm
def fX3_furtherStepped (z : Bool) (kd : Int32) (v : Int64) (k : Int64) : Int64 := v
set_option maxRecDepth 100000 in
set_option maxHeartbeats 4000000 in
theorem cvX3_furtherStepped (l : Launch) (D : mG) (o : Nat) (z : Bool) (kd : Int32) (v : Int64) (k : Int64) : cV l D yX3_furtherStepped cX3_furtherStepped 6 .long 0 (fun H => va_at D.1 vwCl (o, .inr (2, wrF z)) H) [.ref o, .int kd, .long v, .long k] (.long (fX3_furtherStepped z kd v k)) := by
  refine cV_of (by decide) (Nat.le_of_ble_eq_true rfl) ?_
  intro p e s m below meth c ls hx hb hr hlocks G hgf hpic hl
  have hl : lv_has ls 6 [(0, .ref o), (1, .int kd), (2, .long v), (4, .long k)] := hl
  have hpic : va_at D.1 vwCl (o, .inr (2, wrF z)) s.heap := hpic
  refine lv_lload_n hx hb dX3_furtherStepped_0 rfl (lv_at hl 2 rfl) ?_
  exact mw_lret hx hb hr hlocks dX3_furtherStepped_1 (rfl).symm
def fX2_ofWidth_f (z : Bool) (bits : Int64) : Int64 := if (fwd z) = 32 then bits.toInt32.toInt64 else bits
set_option maxRecDepth 100000 in
set_option maxHeartbeats 4000000 in
theorem cvX2_ofWidth_f (l : Launch) (D : mG) (o : Nat) (z : Bool) (bits : Int64) : cV l D yX2_ofWidth cX2_ofWidth 3 .long 0 (fun H => va_at D.1 vwCl (o, .inr (0, flF z)) H) [.ref o, .long bits] (.long (fX2_ofWidth_f z bits)) := by
  refine cV_of (by decide) (Nat.le_of_ble_eq_true rfl) ?_
  intro p e s m below meth c ls hx hb hr hlocks G hgf hpic hl
  have hl : lv_has ls 3 [(0, .ref o), (1, .long bits)] := hl
  have hpic : va_at D.1 vwCl (o, .inr (0, flF z)) s.heap := hpic
  refine lv_aload_n hx hb dX2_ofWidth_0 rfl (lv_at hl 0 rfl) ?_
  refine mw_get G hgf hpic rfl inX0 2 (by decide) qw1_165 rfl dX2_ofWidth_1 ?_
  refine lv_bipush (v := 32) hx hb dX2_ofWidth_4 (by decide) ?_
  refine lv_icmp_ne (tgt := 15) hx hb dX2_ofWidth_6 (by decide) (fun c_1 => ?_) (fun c_1 => ?_)
  · refine lv_lload_n hx hb dX2_ofWidth_15 rfl (lv_at hl 1 rfl) ?_
    exact mw_lret hx hb hr hlocks dX2_ofWidth_16 ((if_neg c_1).trans (rfl)).symm
  · refine lv_lload_n hx hb dX2_ofWidth_9 rfl (lv_at hl 1 rfl) ?_
    refine lv_l2i hx hb dX2_ofWidth_10 rfl ?_
    refine lv_i2l hx hb dX2_ofWidth_11 rfl ?_
    refine lv_goto (tgt := 16) hx hb dX2_ofWidth_12 (by decide) ?_
    exact mw_lret hx hb hr hlocks dX2_ofWidth_16 ((if_pos c_1).trans (rfl)).symm
def fX2_hasStep_f (z : Bool) (st : Int32) : Int32 := if st < 0 then 0 else (if 7 < st then 0 else 1)
set_option maxRecDepth 100000 in
set_option maxHeartbeats 4000000 in
theorem cvX2_hasStep_f (l : Launch) (D : mG) (o : Nat) (z : Bool) (st : Int32) : cV l D yX2_hasStep cX2_hasStep 2 .boolean 0 (fun H => va_at D.1 vwCl (o, .inr (0, flF z)) H) [.ref o, .int st] (.int (fX2_hasStep_f z st)) := by
  refine cV_of (by decide) (Nat.le_of_ble_eq_true rfl) ?_
  intro p e s m below meth c ls hx hb hr hlocks G hgf hpic hl
  have hl : lv_has ls 2 [(0, .ref o), (1, .int st)] := hl
  have hpic : va_at D.1 vwCl (o, .inr (0, flF z)) s.heap := hpic
  refine lv_iload_n hx hb dX2_hasStep_0 rfl (lv_at hl 1 rfl) ?_
  refine lv_if_lt (tgt := 16) hx hb dX2_hasStep_1 (by decide) (fun c_1 => ?_) (fun c_1 => ?_)
  · refine lv_iconst (v := 0) hx hb dX2_hasStep_16 (by decide) ?_
    exact mw_zret hx hb hr hlocks dX2_hasStep_17 (Or.inl rfl) ((if_pos c_1).trans (rfl)).symm
  · refine lv_iload_n hx hb dX2_hasStep_4 rfl (lv_at hl 1 rfl) ?_
    refine lv_aload_n hx hb dX2_hasStep_5 rfl (lv_at hl 0 rfl) ?_
    refine mw_get G hgf hpic rfl inX0 3 (by decide) qw1_166 rfl dX2_hasStep_6 ?_
    refine lv_icmp_gt (tgt := 16) hx hb dX2_hasStep_9 (by decide) (fun c_2 => ?_) (fun c_2 => ?_)
    · refine lv_iconst (v := 0) hx hb dX2_hasStep_16 (by decide) ?_
      exact mw_zret hx hb hr hlocks dX2_hasStep_17 (Or.inl rfl) ((if_neg c_1).trans ((if_pos c_2).trans (rfl))).symm
    · refine lv_iconst (v := 1) hx hb dX2_hasStep_12 (by decide) ?_
      refine lv_goto (tgt := 17) hx hb dX2_hasStep_13 (by decide) ?_
      exact mw_zret hx hb hr hlocks dX2_hasStep_17 (Or.inr rfl) ((if_neg c_1).trans ((if_neg c_2).trans (rfl))).symm
def fX2_greater_f (z : Bool) (a : Int64) (b : Int64) : Int64 := if (fX0_rank z a) < (fX0_rank z b) then b else a
set_option maxRecDepth 100000 in
set_option maxHeartbeats 4000000 in
theorem cvX2_greater_f (l : Launch) (D : mG) (o : Nat) (z : Bool) (a : Int64) (b : Int64) : cV l D yX2_greater cX2_greater 5 .long 2 (fun H => va_at D.1 vwCl (o, .inr (0, flF z)) H) [.ref o, .long a, .long b] (.long (fX2_greater_f z a b)) := by
  refine cV_of (by decide) (Nat.le_of_ble_eq_true rfl) ?_
  intro p e s m below meth c ls hx hb hr hlocks G hgf hpic hl
  have hl : lv_has ls 5 [(0, .ref o), (1, .long a), (3, .long b)] := hl
  have hpic : va_at D.1 vwCl (o, .inr (0, flF z)) s.heap := hpic
  refine lv_aload_n hx hb dX2_greater_0 rfl (lv_at hl 0 rfl) ?_
  refine lv_lload_n hx hb dX2_greater_1 rfl (lv_at hl 1 rfl) ?_
  refine kU (C := RX0) G (cvX0_rank l D o z a) ou_X0_X2_X0_rank hgf hpic (mw_recv hgf hpic rfl) qw2_174 ⟨Nat.le_of_ble_eq_true rfl, Nat.le_of_ble_eq_true rfl⟩ ⟨Nat.zero_le _, Nat.zero_le _⟩ hl.1 (Nat.le_of_ble_eq_true rfl) rfl dX2_greater_2 ?_
  refine lv_aload_n hx hb dX2_greater_5 rfl (lv_at hl 0 rfl) ?_
  refine lv_lload_n hx hb dX2_greater_6 rfl (lv_at hl 2 rfl) ?_
  refine kU (C := RX0) G (cvX0_rank l D o z b) ou_X0_X2_X0_rank hgf hpic (mw_recv hgf hpic rfl) qw2_174 ⟨Nat.le_of_ble_eq_true rfl, Nat.le_of_ble_eq_true rfl⟩ ⟨Nat.zero_le _, Nat.zero_le _⟩ hl.1 (Nat.le_of_ble_eq_true rfl) rfl dX2_greater_7 ?_
  refine mw_llt (tgt := 18) hx hb dX2_greater_10 dX2_greater_11 (by decide) (fun c_1 => ?_) (fun c_1 => ?_)
  · refine lv_lload_n hx hb dX2_greater_18 rfl (lv_at hl 2 rfl) ?_
    exact mw_lret hx hb hr hlocks dX2_greater_19 ((if_pos c_1).trans (rfl)).symm
  · refine lv_lload_n hx hb dX2_greater_14 rfl (lv_at hl 1 rfl) ?_
    refine lv_goto (tgt := 19) hx hb dX2_greater_15 (by decide) ?_
    exact mw_lret hx hb hr hlocks dX2_greater_19 ((if_neg c_1).trans (rfl)).symm
def fX2_lesser_f (z : Bool) (a : Int64) (b : Int64) : Int64 := if (fX0_rank z b) < (fX0_rank z a) then b else a
set_option maxRecDepth 100000 in
set_option maxHeartbeats 4000000 in
theorem cvX2_lesser_f (l : Launch) (D : mG) (o : Nat) (z : Bool) (a : Int64) (b : Int64) : cV l D yX2_lesser cX2_lesser 5 .long 2 (fun H => va_at D.1 vwCl (o, .inr (0, flF z)) H) [.ref o, .long a, .long b] (.long (fX2_lesser_f z a b)) := by
  refine cV_of (by decide) (Nat.le_of_ble_eq_true rfl) ?_
  intro p e s m below meth c ls hx hb hr hlocks G hgf hpic hl
  have hl : lv_has ls 5 [(0, .ref o), (1, .long a), (3, .long b)] := hl
  have hpic : va_at D.1 vwCl (o, .inr (0, flF z)) s.heap := hpic
  refine lv_aload_n hx hb dX2_lesser_0 rfl (lv_at hl 0 rfl) ?_
  refine lv_lload_n hx hb dX2_lesser_1 rfl (lv_at hl 1 rfl) ?_
  refine kU (C := RX0) G (cvX0_rank l D o z a) ou_X0_X2_X0_rank hgf hpic (mw_recv hgf hpic rfl) qw2_174 ⟨Nat.le_of_ble_eq_true rfl, Nat.le_of_ble_eq_true rfl⟩ ⟨Nat.zero_le _, Nat.zero_le _⟩ hl.1 (Nat.le_of_ble_eq_true rfl) rfl dX2_lesser_2 ?_
  refine lv_aload_n hx hb dX2_lesser_5 rfl (lv_at hl 0 rfl) ?_
  refine lv_lload_n hx hb dX2_lesser_6 rfl (lv_at hl 2 rfl) ?_
  refine kU (C := RX0) G (cvX0_rank l D o z b) ou_X0_X2_X0_rank hgf hpic (mw_recv hgf hpic rfl) qw2_174 ⟨Nat.le_of_ble_eq_true rfl, Nat.le_of_ble_eq_true rfl⟩ ⟨Nat.zero_le _, Nat.zero_le _⟩ hl.1 (Nat.le_of_ble_eq_true rfl) rfl dX2_lesser_7 ?_
  refine mw_lgt (tgt := 18) hx hb dX2_lesser_10 dX2_lesser_11 (by decide) (fun c_1 => ?_) (fun c_1 => ?_)
  · refine lv_lload_n hx hb dX2_lesser_18 rfl (lv_at hl 2 rfl) ?_
    exact mw_lret hx hb hr hlocks dX2_lesser_19 ((if_pos c_1).trans (rfl)).symm
  · refine lv_lload_n hx hb dX2_lesser_14 rfl (lv_at hl 1 rfl) ?_
    refine lv_goto (tgt := 19) hx hb dX2_lesser_15 (by decide) ?_
    exact mw_lret hx hb hr hlocks dX2_lesser_19 ((if_neg c_1).trans (rfl)).symm
def fX2_isAbove_f (z : Bool) (a : Int64) (b : Int64) : Int32 := if (fX0_level z a) ≤ (fX0_level z b) then 0 else 1
set_option maxRecDepth 100000 in
set_option maxHeartbeats 4000000 in
theorem cvX2_isAbove_f (l : Launch) (D : mG) (o : Nat) (z : Bool) (a : Int64) (b : Int64) : cV l D yX2_isAbove cX2_isAbove 5 .boolean 2 (fun H => va_at D.1 vwCl (o, .inr (0, flF z)) H) [.ref o, .long a, .long b] (.int (fX2_isAbove_f z a b)) := by
  refine cV_of (by decide) (Nat.le_of_ble_eq_true rfl) ?_
  intro p e s m below meth c ls hx hb hr hlocks G hgf hpic hl
  have hl : lv_has ls 5 [(0, .ref o), (1, .long a), (3, .long b)] := hl
  have hpic : va_at D.1 vwCl (o, .inr (0, flF z)) s.heap := hpic
  refine lv_aload_n hx hb dX2_isAbove_0 rfl (lv_at hl 0 rfl) ?_
  refine lv_lload_n hx hb dX2_isAbove_1 rfl (lv_at hl 1 rfl) ?_
  refine kU (C := RX0) G (cvX0_level l D o z a) ou_X0_X2_X0_level hgf hpic (mw_recv hgf hpic rfl) qw3_50 ⟨Nat.le_of_ble_eq_true rfl, Nat.le_of_ble_eq_true rfl⟩ ⟨Nat.zero_le _, Nat.zero_le _⟩ hl.1 (Nat.le_of_ble_eq_true rfl) rfl dX2_isAbove_2 ?_
  refine lv_aload_n hx hb dX2_isAbove_5 rfl (lv_at hl 0 rfl) ?_
  refine lv_lload_n hx hb dX2_isAbove_6 rfl (lv_at hl 2 rfl) ?_
  refine kU (C := RX0) G (cvX0_level l D o z b) ou_X0_X2_X0_level hgf hpic (mw_recv hgf hpic rfl) qw3_50 ⟨Nat.le_of_ble_eq_true rfl, Nat.le_of_ble_eq_true rfl⟩ ⟨Nat.zero_le _, Nat.zero_le _⟩ hl.1 (Nat.le_of_ble_eq_true rfl) rfl dX2_isAbove_7 ?_
  refine mw_lle (tgt := 18) hx hb dX2_isAbove_10 dX2_isAbove_11 (by decide) (fun c_1 => ?_) (fun c_1 => ?_)
  · refine lv_iconst (v := 0) hx hb dX2_isAbove_18 (by decide) ?_
    exact mw_zret hx hb hr hlocks dX2_isAbove_19 (Or.inl rfl) ((if_pos c_1).trans (rfl)).symm
  · refine lv_iconst (v := 1) hx hb dX2_isAbove_14 (by decide) ?_
    refine lv_goto (tgt := 19) hx hb dX2_isAbove_15 (by decide) ?_
    exact mw_zret hx hb hr hlocks dX2_isAbove_19 (Or.inr rfl) ((if_neg c_1).trans (rfl)).symm
def fX2_stepped_f (z : Bool) (kd : Int32) (v : Int64) (k : Int64) : Int64 := if kd = 0 then fX0_amount z v else (if kd = 1 then fX2_greater_f z v k else (if kd = 2 then fX2_lesser_f z v k else fX0_furtherStepped z kd v k))
set_option maxRecDepth 100000 in
set_option maxHeartbeats 4000000 in
theorem cvX2_stepped_f (l : Launch) (D : mG) (o : Nat) (z : Bool) (kd : Int32) (v : Int64) (k : Int64) : cV l D yX2_stepped cX2_stepped 6 .long 4 (fun H => va_at D.1 vwCl (o, .inr (0, flF z)) H) [.ref o, .int kd, .long v, .long k] (.long (fX2_stepped_f z kd v k)) := by
  refine cV_of (by decide) (Nat.le_of_ble_eq_true rfl) ?_
  intro p e s m below meth c ls hx hb hr hlocks G hgf hpic hl
  have hl : lv_has ls 6 [(0, .ref o), (1, .int kd), (2, .long v), (4, .long k)] := hl
  have hpic : va_at D.1 vwCl (o, .inr (0, flF z)) s.heap := hpic
  refine lv_iload_n hx hb dX2_stepped_0 rfl (lv_at hl 1 rfl) ?_
  by_cases c_1 : kd = 0
  · refine lv_tableIn (off := 27) (tgt := 28) hx hb dX2_stepped_1 (by rw [c_1]; decide) (by rw [c_1]; decide) (by rw [c_1]; rfl) (by decide) ?_
    refine lv_aload_n hx hb dX2_stepped_28 rfl (lv_at hl 0 rfl) ?_
    refine lv_lload_n hx hb dX2_stepped_29 rfl (lv_at hl 2 rfl) ?_
    refine kU (C := RX0) G (cvX0_amount l D o z v) ou_X0_X2_X0_amount hgf hpic (mw_recv hgf hpic rfl) qw2_157 ⟨Nat.le_of_ble_eq_true rfl, Nat.le_of_ble_eq_true rfl⟩ ⟨Nat.zero_le _, Nat.zero_le _⟩ hl.1 (Nat.le_of_ble_eq_true rfl) rfl dX2_stepped_30 ?_
    exact mw_lret hx hb hr hlocks dX2_stepped_33 ((if_pos c_1).trans (rfl)).symm
  · by_cases c_2 : kd = 1
    · refine lv_tableIn (off := 33) (tgt := 34) hx hb dX2_stepped_1 (by rw [c_2]; decide) (by rw [c_2]; decide) (by rw [c_2]; rfl) (by decide) ?_
      refine lv_aload_n hx hb dX2_stepped_34 rfl (lv_at hl 0 rfl) ?_
      refine lv_lload_n hx hb dX2_stepped_35 rfl (lv_at hl 2 rfl) ?_
      refine lv_lload hx hb dX2_stepped_36 (lv_at hl 3 rfl) ?_
      refine kU (C := RX0) G (cvX2_greater_f l D o z v k) ou_X0_X2_X2_greater hgf hpic (mw_recv hgf hpic rfl) qw2_168 ⟨Nat.le_of_ble_eq_true rfl, Nat.le_of_ble_eq_true rfl⟩ ⟨Nat.zero_le _, Nat.zero_le _⟩ hl.1 (Nat.le_of_ble_eq_true rfl) rfl dX2_stepped_38 ?_
      exact mw_lret hx hb hr hlocks dX2_stepped_41 ((if_neg c_1).trans ((if_pos c_2).trans (rfl))).symm
    · by_cases c_3 : kd = 2
      · refine lv_tableIn (off := 41) (tgt := 42) hx hb dX2_stepped_1 (by rw [c_3]; decide) (by rw [c_3]; decide) (by rw [c_3]; rfl) (by decide) ?_
        refine lv_aload_n hx hb dX2_stepped_42 rfl (lv_at hl 0 rfl) ?_
        refine lv_lload_n hx hb dX2_stepped_43 rfl (lv_at hl 2 rfl) ?_
        refine lv_lload hx hb dX2_stepped_44 (lv_at hl 3 rfl) ?_
        refine kU (C := RX0) G (cvX2_lesser_f l D o z v k) ou_X0_X2_X2_lesser hgf hpic (mw_recv hgf hpic rfl) qw2_183 ⟨Nat.le_of_ble_eq_true rfl, Nat.le_of_ble_eq_true rfl⟩ ⟨Nat.zero_le _, Nat.zero_le _⟩ hl.1 (Nat.le_of_ble_eq_true rfl) rfl dX2_stepped_46 ?_
        exact mw_lret hx hb hr hlocks dX2_stepped_49 ((if_neg c_1).trans ((if_neg c_2).trans ((if_pos c_3).trans (rfl)))).symm
      · refine lv_tableOut (tgt := 50) hx hb dX2_stepped_1 (by have qc_1 : kd.toInt ≠ 0 := mw_ne c_1; have qc_2 : kd.toInt ≠ 1 := mw_ne c_2; have qc_3 : kd.toInt ≠ 2 := mw_ne c_3; omega) (by decide) ?_
        refine lv_aload_n hx hb dX2_stepped_50 rfl (lv_at hl 0 rfl) ?_
        refine lv_iload_n hx hb dX2_stepped_51 rfl (lv_at hl 1 rfl) ?_
        refine lv_lload_n hx hb dX2_stepped_52 rfl (lv_at hl 2 rfl) ?_
        refine lv_lload hx hb dX2_stepped_53 (lv_at hl 3 rfl) ?_
        refine kU (C := RX0) G (cvX0_furtherStepped l D o z kd v k) ou_X0_X2_X0_furtherStepped hgf hpic (mw_recv hgf hpic rfl) qw2_189 ⟨Nat.le_of_ble_eq_true rfl, Nat.le_of_ble_eq_true rfl⟩ ⟨Nat.zero_le _, Nat.zero_le _⟩ hl.1 (Nat.le_of_ble_eq_true rfl) rfl dX2_stepped_55 ?_
        exact mw_lret hx hb hr hlocks dX2_stepped_58 ((if_neg c_1).trans ((if_neg c_2).trans ((if_neg c_3).trans (rfl)))).symm
def fX2_hasStep_w (z : Bool) (st : Int32) : Int32 := if st < 0 then 0 else (if 2 < st then 0 else 1)
set_option maxRecDepth 100000 in
set_option maxHeartbeats 4000000 in
theorem cvX2_hasStep_w (l : Launch) (D : mG) (o : Nat) (z : Bool) (st : Int32) : cV l D yX2_hasStep cX2_hasStep 2 .boolean 0 (fun H => va_at D.1 vwCl (o, .inr (2, wrF z)) H) [.ref o, .int st] (.int (fX2_hasStep_w z st)) := by
  refine cV_of (by decide) (Nat.le_of_ble_eq_true rfl) ?_
  intro p e s m below meth c ls hx hb hr hlocks G hgf hpic hl
  have hl : lv_has ls 2 [(0, .ref o), (1, .int st)] := hl
  have hpic : va_at D.1 vwCl (o, .inr (2, wrF z)) s.heap := hpic
  refine lv_iload_n hx hb dX2_hasStep_0 rfl (lv_at hl 1 rfl) ?_
  refine lv_if_lt (tgt := 16) hx hb dX2_hasStep_1 (by decide) (fun c_1 => ?_) (fun c_1 => ?_)
  · refine lv_iconst (v := 0) hx hb dX2_hasStep_16 (by decide) ?_
    exact mw_zret hx hb hr hlocks dX2_hasStep_17 (Or.inl rfl) ((if_pos c_1).trans (rfl)).symm
  · refine lv_iload_n hx hb dX2_hasStep_4 rfl (lv_at hl 1 rfl) ?_
    refine lv_aload_n hx hb dX2_hasStep_5 rfl (lv_at hl 0 rfl) ?_
    refine mw_get G hgf hpic rfl inX3 3 (by decide) qw1_166 rfl dX2_hasStep_6 ?_
    refine lv_icmp_gt (tgt := 16) hx hb dX2_hasStep_9 (by decide) (fun c_2 => ?_) (fun c_2 => ?_)
    · refine lv_iconst (v := 0) hx hb dX2_hasStep_16 (by decide) ?_
      exact mw_zret hx hb hr hlocks dX2_hasStep_17 (Or.inl rfl) ((if_neg c_1).trans ((if_pos c_2).trans (rfl))).symm
    · refine lv_iconst (v := 1) hx hb dX2_hasStep_12 (by decide) ?_
      refine lv_goto (tgt := 17) hx hb dX2_hasStep_13 (by decide) ?_
      exact mw_zret hx hb hr hlocks dX2_hasStep_17 (Or.inr rfl) ((if_neg c_1).trans ((if_neg c_2).trans (rfl))).symm
def fX2_greater_w (z : Bool) (a : Int64) (b : Int64) : Int64 := if (fX3_rank z a) < (fX3_rank z b) then b else a
set_option maxRecDepth 100000 in
set_option maxHeartbeats 4000000 in
theorem cvX2_greater_w (l : Launch) (D : mG) (o : Nat) (z : Bool) (a : Int64) (b : Int64) : cV l D yX2_greater cX2_greater 5 .long 1 (fun H => va_at D.1 vwCl (o, .inr (2, wrF z)) H) [.ref o, .long a, .long b] (.long (fX2_greater_w z a b)) := by
  refine cV_of (by decide) (Nat.le_of_ble_eq_true rfl) ?_
  intro p e s m below meth c ls hx hb hr hlocks G hgf hpic hl
  have hl : lv_has ls 5 [(0, .ref o), (1, .long a), (3, .long b)] := hl
  have hpic : va_at D.1 vwCl (o, .inr (2, wrF z)) s.heap := hpic
  refine lv_aload_n hx hb dX2_greater_0 rfl (lv_at hl 0 rfl) ?_
  refine lv_lload_n hx hb dX2_greater_1 rfl (lv_at hl 1 rfl) ?_
  refine kU (C := RX3) G (cvX3_rank l D o z a) ou_X3_X2_X3_rank hgf hpic (mw_recv hgf hpic rfl) qw2_174 ⟨Nat.le_of_ble_eq_true rfl, Nat.le_of_ble_eq_true rfl⟩ ⟨Nat.zero_le _, Nat.zero_le _⟩ hl.1 (Nat.le_of_ble_eq_true rfl) rfl dX2_greater_2 ?_
  refine lv_aload_n hx hb dX2_greater_5 rfl (lv_at hl 0 rfl) ?_
  refine lv_lload_n hx hb dX2_greater_6 rfl (lv_at hl 2 rfl) ?_
  refine kU (C := RX3) G (cvX3_rank l D o z b) ou_X3_X2_X3_rank hgf hpic (mw_recv hgf hpic rfl) qw2_174 ⟨Nat.le_of_ble_eq_true rfl, Nat.le_of_ble_eq_true rfl⟩ ⟨Nat.zero_le _, Nat.zero_le _⟩ hl.1 (Nat.le_of_ble_eq_true rfl) rfl dX2_greater_7 ?_
  refine mw_llt (tgt := 18) hx hb dX2_greater_10 dX2_greater_11 (by decide) (fun c_1 => ?_) (fun c_1 => ?_)
  · refine lv_lload_n hx hb dX2_greater_18 rfl (lv_at hl 2 rfl) ?_
    exact mw_lret hx hb hr hlocks dX2_greater_19 ((if_pos c_1).trans (rfl)).symm
  · refine lv_lload_n hx hb dX2_greater_14 rfl (lv_at hl 1 rfl) ?_
    refine lv_goto (tgt := 19) hx hb dX2_greater_15 (by decide) ?_
    exact mw_lret hx hb hr hlocks dX2_greater_19 ((if_neg c_1).trans (rfl)).symm
def fX2_lesser_w (z : Bool) (a : Int64) (b : Int64) : Int64 := if (fX3_rank z b) < (fX3_rank z a) then b else a
set_option maxRecDepth 100000 in
set_option maxHeartbeats 4000000 in
theorem cvX2_lesser_w (l : Launch) (D : mG) (o : Nat) (z : Bool) (a : Int64) (b : Int64) : cV l D yX2_lesser cX2_lesser 5 .long 1 (fun H => va_at D.1 vwCl (o, .inr (2, wrF z)) H) [.ref o, .long a, .long b] (.long (fX2_lesser_w z a b)) := by
  refine cV_of (by decide) (Nat.le_of_ble_eq_true rfl) ?_
  intro p e s m below meth c ls hx hb hr hlocks G hgf hpic hl
  have hl : lv_has ls 5 [(0, .ref o), (1, .long a), (3, .long b)] := hl
  have hpic : va_at D.1 vwCl (o, .inr (2, wrF z)) s.heap := hpic
  refine lv_aload_n hx hb dX2_lesser_0 rfl (lv_at hl 0 rfl) ?_
  refine lv_lload_n hx hb dX2_lesser_1 rfl (lv_at hl 1 rfl) ?_
  refine kU (C := RX3) G (cvX3_rank l D o z a) ou_X3_X2_X3_rank hgf hpic (mw_recv hgf hpic rfl) qw2_174 ⟨Nat.le_of_ble_eq_true rfl, Nat.le_of_ble_eq_true rfl⟩ ⟨Nat.zero_le _, Nat.zero_le _⟩ hl.1 (Nat.le_of_ble_eq_true rfl) rfl dX2_lesser_2 ?_
  refine lv_aload_n hx hb dX2_lesser_5 rfl (lv_at hl 0 rfl) ?_
  refine lv_lload_n hx hb dX2_lesser_6 rfl (lv_at hl 2 rfl) ?_
  refine kU (C := RX3) G (cvX3_rank l D o z b) ou_X3_X2_X3_rank hgf hpic (mw_recv hgf hpic rfl) qw2_174 ⟨Nat.le_of_ble_eq_true rfl, Nat.le_of_ble_eq_true rfl⟩ ⟨Nat.zero_le _, Nat.zero_le _⟩ hl.1 (Nat.le_of_ble_eq_true rfl) rfl dX2_lesser_7 ?_
  refine mw_lgt (tgt := 18) hx hb dX2_lesser_10 dX2_lesser_11 (by decide) (fun c_1 => ?_) (fun c_1 => ?_)
  · refine lv_lload_n hx hb dX2_lesser_18 rfl (lv_at hl 2 rfl) ?_
    exact mw_lret hx hb hr hlocks dX2_lesser_19 ((if_pos c_1).trans (rfl)).symm
  · refine lv_lload_n hx hb dX2_lesser_14 rfl (lv_at hl 1 rfl) ?_
    refine lv_goto (tgt := 19) hx hb dX2_lesser_15 (by decide) ?_
    exact mw_lret hx hb hr hlocks dX2_lesser_19 ((if_neg c_1).trans (rfl)).symm
def fX2_isAbove_w (z : Bool) (a : Int64) (b : Int64) : Int32 := if (fX3_level z a) ≤ (fX3_level z b) then 0 else 1
set_option maxRecDepth 100000 in
set_option maxHeartbeats 4000000 in
theorem cvX2_isAbove_w (l : Launch) (D : mG) (o : Nat) (z : Bool) (a : Int64) (b : Int64) : cV l D yX2_isAbove cX2_isAbove 5 .boolean 1 (fun H => va_at D.1 vwCl (o, .inr (2, wrF z)) H) [.ref o, .long a, .long b] (.int (fX2_isAbove_w z a b)) := by
  refine cV_of (by decide) (Nat.le_of_ble_eq_true rfl) ?_
  intro p e s m below meth c ls hx hb hr hlocks G hgf hpic hl
  have hl : lv_has ls 5 [(0, .ref o), (1, .long a), (3, .long b)] := hl
  have hpic : va_at D.1 vwCl (o, .inr (2, wrF z)) s.heap := hpic
  refine lv_aload_n hx hb dX2_isAbove_0 rfl (lv_at hl 0 rfl) ?_
  refine lv_lload_n hx hb dX2_isAbove_1 rfl (lv_at hl 1 rfl) ?_
  refine kU (C := RX3) G (cvX3_level l D o z a) ou_X3_X2_X3_level hgf hpic (mw_recv hgf hpic rfl) qw3_50 ⟨Nat.le_of_ble_eq_true rfl, Nat.le_of_ble_eq_true rfl⟩ ⟨Nat.zero_le _, Nat.zero_le _⟩ hl.1 (Nat.le_of_ble_eq_true rfl) rfl dX2_isAbove_2 ?_
  refine lv_aload_n hx hb dX2_isAbove_5 rfl (lv_at hl 0 rfl) ?_
  refine lv_lload_n hx hb dX2_isAbove_6 rfl (lv_at hl 2 rfl) ?_
  refine kU (C := RX3) G (cvX3_level l D o z b) ou_X3_X2_X3_level hgf hpic (mw_recv hgf hpic rfl) qw3_50 ⟨Nat.le_of_ble_eq_true rfl, Nat.le_of_ble_eq_true rfl⟩ ⟨Nat.zero_le _, Nat.zero_le _⟩ hl.1 (Nat.le_of_ble_eq_true rfl) rfl dX2_isAbove_7 ?_
  refine mw_lle (tgt := 18) hx hb dX2_isAbove_10 dX2_isAbove_11 (by decide) (fun c_1 => ?_) (fun c_1 => ?_)
  · refine lv_iconst (v := 0) hx hb dX2_isAbove_18 (by decide) ?_
    exact mw_zret hx hb hr hlocks dX2_isAbove_19 (Or.inl rfl) ((if_pos c_1).trans (rfl)).symm
  · refine lv_iconst (v := 1) hx hb dX2_isAbove_14 (by decide) ?_
    refine lv_goto (tgt := 19) hx hb dX2_isAbove_15 (by decide) ?_
    exact mw_zret hx hb hr hlocks dX2_isAbove_19 (Or.inr rfl) ((if_neg c_1).trans (rfl)).symm
def fX2_stepped_w (z : Bool) (kd : Int32) (v : Int64) (k : Int64) : Int64 := if kd = 0 then fX3_amount z v else (if kd = 1 then fX2_greater_w z v k else (if kd = 2 then fX2_lesser_w z v k else fX3_furtherStepped z kd v k))
set_option maxRecDepth 100000 in
set_option maxHeartbeats 4000000 in
theorem cvX2_stepped_w (l : Launch) (D : mG) (o : Nat) (z : Bool) (kd : Int32) (v : Int64) (k : Int64) : cV l D yX2_stepped cX2_stepped 6 .long 2 (fun H => va_at D.1 vwCl (o, .inr (2, wrF z)) H) [.ref o, .int kd, .long v, .long k] (.long (fX2_stepped_w z kd v k)) := by
  refine cV_of (by decide) (Nat.le_of_ble_eq_true rfl) ?_
  intro p e s m below meth c ls hx hb hr hlocks G hgf hpic hl
  have hl : lv_has ls 6 [(0, .ref o), (1, .int kd), (2, .long v), (4, .long k)] := hl
  have hpic : va_at D.1 vwCl (o, .inr (2, wrF z)) s.heap := hpic
  refine lv_iload_n hx hb dX2_stepped_0 rfl (lv_at hl 1 rfl) ?_
  by_cases c_1 : kd = 0
  · refine lv_tableIn (off := 27) (tgt := 28) hx hb dX2_stepped_1 (by rw [c_1]; decide) (by rw [c_1]; decide) (by rw [c_1]; rfl) (by decide) ?_
    refine lv_aload_n hx hb dX2_stepped_28 rfl (lv_at hl 0 rfl) ?_
    refine lv_lload_n hx hb dX2_stepped_29 rfl (lv_at hl 2 rfl) ?_
    refine kU (C := RX3) G (cvX3_amount l D o z v) ou_X3_X2_X3_amount hgf hpic (mw_recv hgf hpic rfl) qw2_157 ⟨Nat.le_of_ble_eq_true rfl, Nat.le_of_ble_eq_true rfl⟩ ⟨Nat.zero_le _, Nat.zero_le _⟩ hl.1 (Nat.le_of_ble_eq_true rfl) rfl dX2_stepped_30 ?_
    exact mw_lret hx hb hr hlocks dX2_stepped_33 ((if_pos c_1).trans (rfl)).symm
  · by_cases c_2 : kd = 1
    · refine lv_tableIn (off := 33) (tgt := 34) hx hb dX2_stepped_1 (by rw [c_2]; decide) (by rw [c_2]; decide) (by rw [c_2]; rfl) (by decide) ?_
      refine lv_aload_n hx hb dX2_stepped_34 rfl (lv_at hl 0 rfl) ?_
      refine lv_lload_n hx hb dX2_stepped_35 rfl (lv_at hl 2 rfl) ?_
      refine lv_lload hx hb dX2_stepped_36 (lv_at hl 3 rfl) ?_
      refine kU (C := RX3) G (cvX2_greater_w l D o z v k) ou_X3_X2_X2_greater hgf hpic (mw_recv hgf hpic rfl) qw2_168 ⟨Nat.le_of_ble_eq_true rfl, Nat.le_of_ble_eq_true rfl⟩ ⟨Nat.zero_le _, Nat.zero_le _⟩ hl.1 (Nat.le_of_ble_eq_true rfl) rfl dX2_stepped_38 ?_
      exact mw_lret hx hb hr hlocks dX2_stepped_41 ((if_neg c_1).trans ((if_pos c_2).trans (rfl))).symm
    · by_cases c_3 : kd = 2
      · refine lv_tableIn (off := 41) (tgt := 42) hx hb dX2_stepped_1 (by rw [c_3]; decide) (by rw [c_3]; decide) (by rw [c_3]; rfl) (by decide) ?_
        refine lv_aload_n hx hb dX2_stepped_42 rfl (lv_at hl 0 rfl) ?_
        refine lv_lload_n hx hb dX2_stepped_43 rfl (lv_at hl 2 rfl) ?_
        refine lv_lload hx hb dX2_stepped_44 (lv_at hl 3 rfl) ?_
        refine kU (C := RX3) G (cvX2_lesser_w l D o z v k) ou_X3_X2_X2_lesser hgf hpic (mw_recv hgf hpic rfl) qw2_183 ⟨Nat.le_of_ble_eq_true rfl, Nat.le_of_ble_eq_true rfl⟩ ⟨Nat.zero_le _, Nat.zero_le _⟩ hl.1 (Nat.le_of_ble_eq_true rfl) rfl dX2_stepped_46 ?_
        exact mw_lret hx hb hr hlocks dX2_stepped_49 ((if_neg c_1).trans ((if_neg c_2).trans ((if_pos c_3).trans (rfl)))).symm
      · refine lv_tableOut (tgt := 50) hx hb dX2_stepped_1 (by have qc_1 : kd.toInt ≠ 0 := mw_ne c_1; have qc_2 : kd.toInt ≠ 1 := mw_ne c_2; have qc_3 : kd.toInt ≠ 2 := mw_ne c_3; omega) (by decide) ?_
        refine lv_aload_n hx hb dX2_stepped_50 rfl (lv_at hl 0 rfl) ?_
        refine lv_iload_n hx hb dX2_stepped_51 rfl (lv_at hl 1 rfl) ?_
        refine lv_lload_n hx hb dX2_stepped_52 rfl (lv_at hl 2 rfl) ?_
        refine lv_lload hx hb dX2_stepped_53 (lv_at hl 3 rfl) ?_
        refine kU (C := RX3) G (cvX3_furtherStepped l D o z kd v k) ou_X3_X2_X3_furtherStepped hgf hpic (mw_recv hgf hpic rfl) qw2_189 ⟨Nat.le_of_ble_eq_true rfl, Nat.le_of_ble_eq_true rfl⟩ ⟨Nat.zero_le _, Nat.zero_le _⟩ hl.1 (Nat.le_of_ble_eq_true rfl) rfl dX2_stepped_55 ?_
        exact mw_lret hx hb hr hlocks dX2_stepped_58 ((if_neg c_1).trans ((if_neg c_2).trans ((if_neg c_3).trans (rfl)))).symm
