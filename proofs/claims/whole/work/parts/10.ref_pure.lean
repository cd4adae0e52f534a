/-! THE REFERENCE: its static methods that change nothing and make no float -/
def jshl (x : Int64) (y : Int32) : Int64 := x <<< (y.toInt64 &&& 63)
def jshr (x : Int64) (y : Int32) : Int64 := x >>> (y.toInt64 &&& 63)
def jushr (x : Int64) (y : Int32) : Int64 := (x.toUInt64 >>> (y.toInt64.toUInt64 &&& Int64.toUInt64 63)).toInt64
def fX5_isReal (sort : Int32) : Int32 := if sort < 2 then 0 else 1
set_option maxRecDepth 100000 in
set_option maxHeartbeats 4000000 in
theorem cvX5_isReal (l : Launch) (D : mG) (sort : Int32) : cV l D yX5_isReal cX5_isReal 1 .boolean 0 (fun _ => True) [.int sort] (.int (fX5_isReal  sort)) := by
  refine cV_of (by decide) (Nat.le_of_ble_eq_true rfl) ?_
  intro p e s m below meth c ls hx hb hr hlocks G hgf hpic hl
  have hl : lv_has ls 1 [(0, .int sort)] := hl
  refine lv_iload_n hx hb dX5_isReal_0 rfl (lv_at hl 0 rfl) ?_
  refine lv_iconst (v := 2) hx hb dX5_isReal_1 (by decide) ?_
  refine lv_icmp_lt (tgt := 9) hx hb dX5_isReal_2 (by decide) (fun c_1 => ?_) (fun c_1 => ?_)
  · refine lv_iconst (v := 0) hx hb dX5_isReal_9 (by decide) ?_
    exact mw_zret hx hb hr hlocks dX5_isReal_10 (Or.inl rfl) ((if_pos c_1).trans (rfl)).symm
  · refine lv_iconst (v := 1) hx hb dX5_isReal_5 (by decide) ?_
    refine lv_goto (tgt := 10) hx hb dX5_isReal_6 (by decide) ?_
    exact mw_zret hx hb hr hlocks dX5_isReal_10 (Or.inr rfl) ((if_neg c_1).trans (rfl)).symm
def fX5_places (sort : Int32) : Int32 := if sort = 2 then 23 else 52
set_option maxRecDepth 100000 in
set_option maxHeartbeats 4000000 in
theorem cvX5_places (l : Launch) (D : mG) (sort : Int32) : cV l D yX5_places cX5_places 1 .int 0 (fun _ => True) [.int sort] (.int (fX5_places  sort)) := by
  refine cV_of (by decide) (Nat.le_of_ble_eq_true rfl) ?_
  intro p e s m below meth c ls hx hb hr hlocks G hgf hpic hl
  have hl : lv_has ls 1 [(0, .int sort)] := hl
  refine lv_iload_n hx hb dX5_places_0 rfl (lv_at hl 0 rfl) ?_
  refine lv_iconst (v := 2) hx hb dX5_places_1 (by decide) ?_
  refine lv_icmp_ne (tgt := 10) hx hb dX5_places_2 (by decide) (fun c_1 => ?_) (fun c_1 => ?_)
  · refine lv_bipush (v := 52) hx hb dX5_places_10 (by decide) ?_
    exact mw_iret hx hb hr hlocks dX5_places_12 ((if_neg c_1).trans (rfl)).symm
  · refine lv_bipush (v := 23) hx hb dX5_places_5 (by decide) ?_
    refine lv_goto (tgt := 12) hx hb dX5_places_7 (by decide) ?_
    exact mw_iret hx hb hr hlocks dX5_places_12 ((if_pos c_1).trans (rfl)).symm
def fX5_signBit (sort : Int32) : Int64 := if sort = 2 then 2147483648 else (-9223372036854775808)
set_option maxRecDepth 100000 in
set_option maxHeartbeats 4000000 in
theorem cvX5_signBit (l : Launch) (D : mG) (sort : Int32) : cV l D yX5_signBit cX5_signBit 1 .long 0 (fun _ => True) [.int sort] (.long (fX5_signBit  sort)) := by
  refine cV_of (by decide) (Nat.le_of_ble_eq_true rfl) ?_
  intro p e s m below meth c ls hx hb hr hlocks G hgf hpic hl
  have hl : lv_has ls 1 [(0, .int sort)] := hl
  refine lv_iload_n hx hb dX5_signBit_0 rfl (lv_at hl 0 rfl) ?_
  refine lv_iconst (v := 2) hx hb dX5_signBit_1 (by decide) ?_
  refine lv_icmp_ne (tgt := 11) hx hb dX5_signBit_2 (by decide) (fun c_1 => ?_) (fun c_1 => ?_)
  · refine lv_ldc2 (v := (-9223372036854775808)) hx hb G.2.2.2.1 (G.2.2.2.2 _ qw3_233) dX5_signBit_11 ?_
    exact mw_lret hx hb hr hlocks dX5_signBit_14 ((if_neg c_1).trans (rfl)).symm
  · refine lv_ldc2 (v := 2147483648) hx hb G.2.2.2.1 (G.2.2.2.2 _ qw4_5) dX5_signBit_5 ?_
    refine lv_goto (tgt := 14) hx hb dX5_signBit_8 (by decide) ?_
    exact mw_lret hx hb hr hlocks dX5_signBit_14 ((if_pos c_1).trans (rfl)).symm
def fX5_endless (sort : Int32) : Int64 := if sort = 2 then 2139095040 else 9218868437227405312
set_option maxRecDepth 100000 in
set_option maxHeartbeats 4000000 in
theorem cvX5_endless (l : Launch) (D : mG) (sort : Int32) : cV l D yX5_endless cX5_endless 1 .long 0 (fun _ => True) [.int sort] (.long (fX5_endless  sort)) := by
  refine cV_of (by decide) (Nat.le_of_ble_eq_true rfl) ?_
  intro p e s m below meth c ls hx hb hr hlocks G hgf hpic hl
  have hl : lv_has ls 1 [(0, .int sort)] := hl
  refine lv_iload_n hx hb dX5_endless_0 rfl (lv_at hl 0 rfl) ?_
  refine lv_iconst (v := 2) hx hb dX5_endless_1 (by decide) ?_
  refine lv_icmp_ne (tgt := 11) hx hb dX5_endless_2 (by decide) (fun c_1 => ?_) (fun c_1 => ?_)
  · refine lv_ldc2 (v := 9218868437227405312) hx hb G.2.2.2.1 (G.2.2.2.2 _ qw3_238) dX5_endless_11 ?_
    exact mw_lret hx hb hr hlocks dX5_endless_14 ((if_neg c_1).trans (rfl)).symm
  · refine lv_ldc2 (v := 2139095040) hx hb G.2.2.2.1 (G.2.2.2.2 _ qw3_237) dX5_endless_5 ?_
    refine lv_goto (tgt := 14) hx hb dX5_endless_8 (by decide) ?_
    exact mw_lret hx hb hr hlocks dX5_endless_14 ((if_pos c_1).trans (rfl)).symm
def fX5_one (sort : Int32) : Int64 := if sort = 2 then 1065353216 else 4607182418800017408
set_option maxRecDepth 100000 in
set_option maxHeartbeats 4000000 in
theorem cvX5_one (l : Launch) (D : mG) (sort : Int32) : cV l D yX5_one cX5_one 1 .long 0 (fun _ => True) [.int sort] (.long (fX5_one  sort)) := by
  refine cV_of (by decide) (Nat.le_of_ble_eq_true rfl) ?_
  intro p e s m below meth c ls hx hb hr hlocks G hgf hpic hl
  have hl : lv_has ls 1 [(0, .int sort)] := hl
  refine lv_iload_n hx hb dX5_one_0 rfl (lv_at hl 0 rfl) ?_
  refine lv_iconst (v := 2) hx hb dX5_one_1 (by decide) ?_
  refine lv_icmp_ne (tgt := 11) hx hb dX5_one_2 (by decide) (fun c_1 => ?_) (fun c_1 => ?_)
  · refine lv_ldc2 (v := 4607182418800017408) hx hb G.2.2.2.1 (G.2.2.2.2 _ qw4_91) dX5_one_11 ?_
    exact mw_lret hx hb hr hlocks dX5_one_14 ((if_neg c_1).trans (rfl)).symm
  · refine lv_ldc2 (v := 1065353216) hx hb G.2.2.2.1 (G.2.2.2.2 _ qw4_90) dX5_one_5 ?_
    refine lv_goto (tgt := 14) hx hb dX5_one_8 (by decide) ?_
    exact mw_lret hx hb hr hlocks dX5_one_14 ((if_pos c_1).trans (rfl)).symm
def fX5_cut (sort : Int32) (bits : Int64) : Int64 := if sort = 0 then bits.toInt32.toInt64 else (if sort = 2 then bits.toInt32.toInt64 else bits)
set_option maxRecDepth 100000 in
set_option maxHeartbeats 4000000 in
theorem cvX5_cut (l : Launch) (D : mG) (sort : Int32) (bits : Int64) : cV l D yX5_cut cX5_cut 3 .long 0 (fun _ => True) [.int sort, .long bits] (.long (fX5_cut  sort bits)) := by
  refine cV_of (by decide) (Nat.le_of_ble_eq_true rfl) ?_
  intro p e s m below meth c ls hx hb hr hlocks G hgf hpic hl
  have hl : lv_has ls 3 [(0, .int sort), (1, .long bits)] := hl
  refine lv_iload_n hx hb dX5_cut_0 rfl (lv_at hl 0 rfl) ?_
  refine lv_if_eq (tgt := 9) hx hb dX5_cut_1 (by decide) (fun c_1 => ?_) (fun c_1 => ?_)
  · refine lv_lload_n hx hb dX5_cut_9 rfl (lv_at hl 1 rfl) ?_
    refine lv_l2i hx hb dX5_cut_10 rfl ?_
    refine lv_i2l hx hb dX5_cut_11 rfl ?_
    refine lv_goto (tgt := 16) hx hb dX5_cut_12 (by decide) ?_
    exact mw_lret hx hb hr hlocks dX5_cut_16 ((if_pos c_1).trans (rfl)).symm
  · refine lv_iload_n hx hb dX5_cut_4 rfl (lv_at hl 0 rfl) ?_
    refine lv_iconst (v := 2) hx hb dX5_cut_5 (by decide) ?_
    refine lv_icmp_ne (tgt := 15) hx hb dX5_cut_6 (by decide) (fun c_2 => ?_) (fun c_2 => ?_)
    · refine lv_lload_n hx hb dX5_cut_15 rfl (lv_at hl 1 rfl) ?_
      exact mw_lret hx hb hr hlocks dX5_cut_16 ((if_neg c_1).trans ((if_neg c_2).trans (rfl))).symm
    · refine lv_lload_n hx hb dX5_cut_9 rfl (lv_at hl 1 rfl) ?_
      refine lv_l2i hx hb dX5_cut_10 rfl ?_
      refine lv_i2l hx hb dX5_cut_11 rfl ?_
      refine lv_goto (tgt := 16) hx hb dX5_cut_12 (by decide) ?_
      exact mw_lret hx hb hr hlocks dX5_cut_16 ((if_neg c_1).trans ((if_pos c_2).trans (rfl))).symm
def fX5_form (sort : Int32) (v : Int64) : Int64 := if sort = 2 then v &&& 4294967295 else v
set_option maxRecDepth 100000 in
set_option maxHeartbeats 4000000 in
theorem cvX5_form (l : Launch) (D : mG) (sort : Int32) (v : Int64) : cV l D yX5_form cX5_form 3 .long 0 (fun _ => True) [.int sort, .long v] (.long (fX5_form  sort v)) := by
  refine cV_of (by decide) (Nat.le_of_ble_eq_true rfl) ?_
  intro p e s m below meth c ls hx hb hr hlocks G hgf hpic hl
  have hl : lv_has ls 3 [(0, .int sort), (1, .long v)] := hl
  refine lv_iload_n hx hb dX5_form_0 rfl (lv_at hl 0 rfl) ?_
  refine lv_iconst (v := 2) hx hb dX5_form_1 (by decide) ?_
  refine lv_icmp_ne (tgt := 13) hx hb dX5_form_2 (by decide) (fun c_1 => ?_) (fun c_1 => ?_)
  · refine lv_lload_n hx hb dX5_form_13 rfl (lv_at hl 1 rfl) ?_
    exact mw_lret hx hb hr hlocks dX5_form_14 ((if_neg c_1).trans (rfl)).symm
  · refine lv_lload_n hx hb dX5_form_5 rfl (lv_at hl 1 rfl) ?_
    refine lv_ldc2 (v := 4294967295) hx hb G.2.2.2.1 (G.2.2.2.2 _ qw4_37) dX5_form_6 ?_
    refine lv_land hx hb dX5_form_9 ?_
    refine lv_goto (tgt := 14) hx hb dX5_form_10 (by decide) ?_
    exact mw_lret hx hb hr hlocks dX5_form_14 ((if_pos c_1).trans (rfl)).symm
def fX5_amountBits (sort : Int32) (v : Int64) : Int64 := (fX5_form sort v) &&& ((fX5_signBit sort) ^^^ (-1))
set_option maxRecDepth 100000 in
set_option maxHeartbeats 4000000 in
theorem cvX5_amountBits (l : Launch) (D : mG) (sort : Int32) (v : Int64) : cV l D yX5_amountBits cX5_amountBits 3 .long 1 (fun _ => True) [.int sort, .long v] (.long (fX5_amountBits  sort v)) := by
  refine cV_of (by decide) (Nat.le_of_ble_eq_true rfl) ?_
  intro p e s m below meth c ls hx hb hr hlocks G hgf hpic hl
  have hl : lv_has ls 3 [(0, .int sort), (1, .long v)] := hl
  refine lv_iload_n hx hb dX5_amountBits_0 rfl (lv_at hl 0 rfl) ?_
  refine lv_lload_n hx hb dX5_amountBits_1 rfl (lv_at hl 1 rfl) ?_
  refine kS G (cvX5_form l D sort v) okX5_form hgf trivial qw4_34 ⟨Nat.le_of_ble_eq_true rfl, Nat.le_of_ble_eq_true rfl⟩ ⟨Nat.zero_le _, Nat.zero_le _⟩ hl.1 (Nat.le_of_ble_eq_true rfl) rfl dX5_amountBits_2 ?_
  refine lv_iload_n hx hb dX5_amountBits_5 rfl (lv_at hl 0 rfl) ?_
  refine kS G (cvX5_signBit l D sort) okX5_signBit hgf trivial qw4_2 ⟨Nat.le_of_ble_eq_true rfl, Nat.le_of_ble_eq_true rfl⟩ ⟨Nat.zero_le _, Nat.zero_le _⟩ hl.1 (Nat.le_of_ble_eq_true rfl) rfl dX5_amountBits_6 ?_
  refine lv_ldc2 (v := (-1)) hx hb G.2.2.2.1 (G.2.2.2.2 _ qw4_38) dX5_amountBits_9 ?_
  refine lv_lxor hx hb dX5_amountBits_12 ?_
  refine lv_land hx hb dX5_amountBits_13 ?_
  exact mw_lret hx hb hr hlocks dX5_amountBits_14 (rfl).symm
def fX5_isMinus (sort : Int32) (v : Int64) : Int32 := if 0 ≤ v then 0 else 1
set_option maxRecDepth 100000 in
set_option maxHeartbeats 4000000 in
theorem cvX5_isMinus (l : Launch) (D : mG) (sort : Int32) (v : Int64) : cV l D yX5_isMinus cX5_isMinus 3 .boolean 0 (fun _ => True) [.int sort, .long v] (.int (fX5_isMinus  sort v)) := by
  refine cV_of (by decide) (Nat.le_of_ble_eq_true rfl) ?_
  intro p e s m below meth c ls hx hb hr hlocks G hgf hpic hl
  have hl : lv_has ls 3 [(0, .int sort), (1, .long v)] := hl
  refine lv_lload_n hx hb dX5_isMinus_0 rfl (lv_at hl 1 rfl) ?_
  refine lv_lconst (v := 0) hx hb dX5_isMinus_1 (by decide) ?_
  refine mw_lge (tgt := 10) hx hb dX5_isMinus_2 dX5_isMinus_3 (by decide) (fun c_1 => ?_) (fun c_1 => ?_)
  · refine lv_iconst (v := 0) hx hb dX5_isMinus_10 (by decide) ?_
    exact mw_zret hx hb hr hlocks dX5_isMinus_11 (Or.inl rfl) ((if_pos c_1).trans (rfl)).symm
  · refine lv_iconst (v := 1) hx hb dX5_isMinus_6 (by decide) ?_
    refine lv_goto (tgt := 11) hx hb dX5_isMinus_7 (by decide) ?_
    exact mw_zret hx hb hr hlocks dX5_isMinus_11 (Or.inr rfl) ((if_neg c_1).trans (rfl)).symm
def fX5_isNone (sort : Int32) (bits : Int64) : Int32 := if (fX5_isReal sort) = 0 then 0 else (if (fX5_amountBits sort (fX5_cut sort bits)) ≤ (fX5_endless sort) then 0 else 1)
set_option maxRecDepth 100000 in
set_option maxHeartbeats 4000000 in
theorem cvX5_isNone (l : Launch) (D : mG) (sort : Int32) (bits : Int64) : cV l D yX5_isNone cX5_isNone 3 .boolean 2 (fun _ => True) [.int sort, .long bits] (.int (fX5_isNone  sort bits)) := by
  refine cV_of (by decide) (Nat.le_of_ble_eq_true rfl) ?_
  intro p e s m below meth c ls hx hb hr hlocks G hgf hpic hl
  have hl : lv_has ls 3 [(0, .int sort), (1, .long bits)] := hl
  refine lv_iload_n hx hb dX5_isNone_0 rfl (lv_at hl 0 rfl) ?_
  refine kS G (cvX5_isReal l D sort) okX5_isReal hgf trivial qw4_22 ⟨Nat.le_of_ble_eq_true rfl, Nat.le_of_ble_eq_true rfl⟩ ⟨Nat.zero_le _, Nat.zero_le _⟩ hl.1 (Nat.le_of_ble_eq_true rfl) rfl dX5_isNone_1 ?_
  refine lv_if_eq (tgt := 28) hx hb dX5_isNone_4 (by decide) (fun c_1 => ?_) (fun c_1 => ?_)
  · refine lv_iconst (v := 0) hx hb dX5_isNone_28 (by decide) ?_
    exact mw_zret hx hb hr hlocks dX5_isNone_29 (Or.inl rfl) ((if_pos c_1).trans (rfl)).symm
  · refine lv_iload_n hx hb dX5_isNone_7 rfl (lv_at hl 0 rfl) ?_
    refine lv_iload_n hx hb dX5_isNone_8 rfl (lv_at hl 0 rfl) ?_
    refine lv_lload_n hx hb dX5_isNone_9 rfl (lv_at hl 1 rfl) ?_
    refine kS G (cvX5_cut l D sort bits) okX5_cut hgf trivial qw4_6 ⟨Nat.le_of_ble_eq_true rfl, Nat.le_of_ble_eq_true rfl⟩ ⟨Nat.zero_le _, Nat.zero_le _⟩ hl.1 (Nat.le_of_ble_eq_true rfl) rfl dX5_isNone_10 ?_
    refine kS G (cvX5_amountBits l D sort (fX5_cut sort bits)) okX5_amountBits hgf trivial qw4_31 ⟨Nat.le_of_ble_eq_true rfl, Nat.le_of_ble_eq_true rfl⟩ ⟨Nat.zero_le _, Nat.zero_le _⟩ hl.1 (Nat.le_of_ble_eq_true rfl) rfl dX5_isNone_13 ?_
    refine lv_iload_n hx hb dX5_isNone_16 rfl (lv_at hl 0 rfl) ?_
    refine kS G (cvX5_endless l D sort) okX5_endless hgf trivial qw3_234 ⟨Nat.le_of_ble_eq_true rfl, Nat.le_of_ble_eq_true rfl⟩ ⟨Nat.zero_le _, Nat.zero_le _⟩ hl.1 (Nat.le_of_ble_eq_true rfl) rfl dX5_isNone_17 ?_
    refine mw_lle (tgt := 28) hx hb dX5_isNone_20 dX5_isNone_21 (by decide) (fun c_2 => ?_) (fun c_2 => ?_)
    · refine lv_iconst (v := 0) hx hb dX5_isNone_28 (by decide) ?_
      exact mw_zret hx hb hr hlocks dX5_isNone_29 (Or.inl rfl) ((if_neg c_1).trans ((if_pos c_2).trans (rfl))).symm
    · refine lv_iconst (v := 1) hx hb dX5_isNone_24 (by decide) ?_
      refine lv_goto (tgt := 29) hx hb dX5_isNone_25 (by decide) ?_
      exact mw_zret hx hb hr hlocks dX5_isNone_29 (Or.inr rfl) ((if_neg c_1).trans ((if_neg c_2).trans (rfl))).symm
def fX5_rank (sort : Int32) (v : Int64) : Int64 := if (fX5_isReal sort) = 0 then v else (if (fX5_isMinus sort v) = 0 then fX5_amountBits sort v else (-1) - (fX5_amountBits sort v))
set_option maxRecDepth 100000 in
set_option maxHeartbeats 4000000 in
theorem cvX5_rank (l : Launch) (D : mG) (sort : Int32) (v : Int64) : cV l D yX5_rank cX5_rank 5 .long 2 (fun _ => True) [.int sort, .long v] (.long (fX5_rank  sort v)) := by
  refine cV_of (by decide) (Nat.le_of_ble_eq_true rfl) ?_
  intro p e s m below meth c ls hx hb hr hlocks G hgf hpic hl
  have hl : lv_has ls 5 [(0, .int sort), (1, .long v)] := hl
  refine lv_iload_n hx hb dX5_rank_0 rfl (lv_at hl 0 rfl) ?_
  refine kS G (cvX5_isReal l D sort) okX5_isReal hgf trivial qw4_22 ⟨Nat.le_of_ble_eq_true rfl, Nat.le_of_ble_eq_true rfl⟩ ⟨Nat.zero_le _, Nat.zero_le _⟩ hl.1 (Nat.le_of_ble_eq_true rfl) rfl dX5_rank_1 ?_
  refine lv_if_ne (tgt := 9) hx hb dX5_rank_4 (by decide) (fun c_1 => ?_) (fun c_1 => ?_)
  · refine lv_iload_n hx hb dX5_rank_9 rfl (lv_at hl 0 rfl) ?_
    refine lv_lload_n hx hb dX5_rank_10 rfl (lv_at hl 1 rfl) ?_
    refine kS G (cvX5_amountBits l D sort v) okX5_amountBits hgf trivial qw4_31 ⟨Nat.le_of_ble_eq_true rfl, Nat.le_of_ble_eq_true rfl⟩ ⟨Nat.zero_le _, Nat.zero_le _⟩ hl.1 (Nat.le_of_ble_eq_true rfl) rfl dX5_rank_11 ?_
    refine lv_lstore_n (lv' := [(3, .long (fX5_amountBits sort v)), (0, .int sort), (1, .long v)]) hx hb dX5_rank_14 rfl hl (by decide) rfl (fun ls hl => ?_)
    refine lv_iload_n hx hb dX5_rank_15 rfl (lv_at hl 1 rfl) ?_
    refine lv_lload_n hx hb dX5_rank_16 rfl (lv_at hl 2 rfl) ?_
    refine kS G (cvX5_isMinus l D sort v) okX5_isMinus hgf trivial qw4_60 ⟨Nat.le_of_ble_eq_true rfl, Nat.le_of_ble_eq_true rfl⟩ ⟨Nat.zero_le _, Nat.zero_le _⟩ hl.1 (Nat.le_of_ble_eq_true rfl) rfl dX5_rank_17 ?_
    refine lv_if_eq (tgt := 31) hx hb dX5_rank_20 (by decide) (fun c_2 => ?_) (fun c_2 => ?_)
    · refine lv_lload_n hx hb dX5_rank_31 rfl (lv_at hl 0 rfl) ?_
      exact mw_lret hx hb hr hlocks dX5_rank_32 ((if_neg c_1).trans ((if_pos c_2).trans (rfl))).symm
    · refine lv_ldc2 (v := (-1)) hx hb G.2.2.2.1 (G.2.2.2.2 _ qw4_38) dX5_rank_23 ?_
      refine lv_lload_n hx hb dX5_rank_26 rfl (lv_at hl 0 rfl) ?_
      refine lv_lsub hx hb dX5_rank_27 ?_
      refine lv_goto (tgt := 32) hx hb dX5_rank_28 (by decide) ?_
      exact mw_lret hx hb hr hlocks dX5_rank_32 ((if_neg c_1).trans ((if_neg c_2).trans (rfl))).symm
  · refine lv_lload_n hx hb dX5_rank_7 rfl (lv_at hl 1 rfl) ?_
    exact mw_lret hx hb hr hlocks dX5_rank_8 ((if_pos c_1).trans (rfl)).symm
def fX5_height (sort : Int32) (v : Int64) : Int64 := if (fX5_isReal sort) = 0 then fX5_rank sort v else (if (fX5_amountBits sort v) = 0 then 0 else fX5_rank sort v)
set_option maxRecDepth 100000 in
set_option maxHeartbeats 4000000 in
theorem cvX5_height (l : Launch) (D : mG) (sort : Int32) (v : Int64) : cV l D yX5_height cX5_height 3 .long 3 (fun _ => True) [.int sort, .long v] (.long (fX5_height  sort v)) := by
  refine cV_of (by decide) (Nat.le_of_ble_eq_true rfl) ?_
  intro p e s m below meth c ls hx hb hr hlocks G hgf hpic hl
  have hl : lv_has ls 3 [(0, .int sort), (1, .long v)] := hl
  refine lv_iload_n hx hb dX5_height_0 rfl (lv_at hl 0 rfl) ?_
  refine kS G (cvX5_isReal l D sort) okX5_isReal hgf trivial qw4_22 ⟨Nat.le_of_ble_eq_true rfl, Nat.le_of_ble_eq_true rfl⟩ ⟨Nat.zero_le _, Nat.zero_le _⟩ hl.1 (Nat.le_of_ble_eq_true rfl) rfl dX5_height_1 ?_
  refine lv_if_eq (tgt := 21) hx hb dX5_height_4 (by decide) (fun c_1 => ?_) (fun c_1 => ?_)
  · refine lv_iload_n hx hb dX5_height_21 rfl (lv_at hl 0 rfl) ?_
    refine lv_lload_n hx hb dX5_height_22 rfl (lv_at hl 1 rfl) ?_
    refine kS G (cvX5_rank l D sort v) okX5_rank hgf trivial qw4_57 ⟨Nat.le_of_ble_eq_true rfl, Nat.le_of_ble_eq_true rfl⟩ ⟨Nat.zero_le _, Nat.zero_le _⟩ hl.1 (Nat.le_of_ble_eq_true rfl) rfl dX5_height_23 ?_
    exact mw_lret hx hb hr hlocks dX5_height_26 ((if_pos c_1).trans (rfl)).symm
  · refine lv_iload_n hx hb dX5_height_7 rfl (lv_at hl 0 rfl) ?_
    refine lv_lload_n hx hb dX5_height_8 rfl (lv_at hl 1 rfl) ?_
    refine kS G (cvX5_amountBits l D sort v) okX5_amountBits hgf trivial qw4_31 ⟨Nat.le_of_ble_eq_true rfl, Nat.le_of_ble_eq_true rfl⟩ ⟨Nat.zero_le _, Nat.zero_le _⟩ hl.1 (Nat.le_of_ble_eq_true rfl) rfl dX5_height_9 ?_
    refine lv_lconst (v := 0) hx hb dX5_height_12 (by decide) ?_
    refine mw_lne (tgt := 21) hx hb dX5_height_13 dX5_height_14 (by decide) (fun c_2 => ?_) (fun c_2 => ?_)
    · refine lv_iload_n hx hb dX5_height_21 rfl (lv_at hl 0 rfl) ?_
      refine lv_lload_n hx hb dX5_height_22 rfl (lv_at hl 1 rfl) ?_
      refine kS G (cvX5_rank l D sort v) okX5_rank hgf trivial qw4_57 ⟨Nat.le_of_ble_eq_true rfl, Nat.le_of_ble_eq_true rfl⟩ ⟨Nat.zero_le _, Nat.zero_le _⟩ hl.1 (Nat.le_of_ble_eq_true rfl) rfl dX5_height_23 ?_
      exact mw_lret hx hb hr hlocks dX5_height_26 ((if_neg c_1).trans ((if_neg c_2).trans (rfl))).symm
    · refine lv_lconst (v := 0) hx hb dX5_height_17 (by decide) ?_
      refine lv_goto (tgt := 26) hx hb dX5_height_18 (by decide) ?_
      exact mw_lret hx hb hr hlocks dX5_height_26 ((if_neg c_1).trans ((if_pos c_2).trans (rfl))).symm
def fX5_greater (sort : Int32) (a : Int64) (b : Int64) : Int64 := if (fX5_rank sort b) ≤ (fX5_rank sort a) then a else b
set_option maxRecDepth 100000 in
set_option maxHeartbeats 4000000 in
theorem cvX5_greater (l : Launch) (D : mG) (sort : Int32) (a : Int64) (b : Int64) : cV l D yX5_greater cX5_greater 5 .long 3 (fun _ => True) [.int sort, .long a, .long b] (.long (fX5_greater  sort a b)) := by
  refine cV_of (by decide) (Nat.le_of_ble_eq_true rfl) ?_
  intro p e s m below meth c ls hx hb hr hlocks G hgf hpic hl
  have hl : lv_has ls 5 [(0, .int sort), (1, .long a), (3, .long b)] := hl
  refine lv_iload_n hx hb dX5_greater_0 rfl (lv_at hl 0 rfl) ?_
  refine lv_lload_n hx hb dX5_greater_1 rfl (lv_at hl 1 rfl) ?_
  refine kS G (cvX5_rank l D sort a) okX5_rank hgf trivial qw4_57 ⟨Nat.le_of_ble_eq_true rfl, Nat.le_of_ble_eq_true rfl⟩ ⟨Nat.zero_le _, Nat.zero_le _⟩ hl.1 (Nat.le_of_ble_eq_true rfl) rfl dX5_greater_2 ?_
  refine lv_iload_n hx hb dX5_greater_5 rfl (lv_at hl 0 rfl) ?_
  refine lv_lload_n hx hb dX5_greater_6 rfl (lv_at hl 2 rfl) ?_
  refine kS G (cvX5_rank l D sort b) okX5_rank hgf trivial qw4_57 ⟨Nat.le_of_ble_eq_true rfl, Nat.le_of_ble_eq_true rfl⟩ ⟨Nat.zero_le _, Nat.zero_le _⟩ hl.1 (Nat.le_of_ble_eq_true rfl) rfl dX5_greater_7 ?_
  refine mw_lge (tgt := 18) hx hb dX5_greater_10 dX5_greater_11 (by decide) (fun c_1 => ?_) (fun c_1 => ?_)
  · refine lv_lload_n hx hb dX5_greater_18 rfl (lv_at hl 1 rfl) ?_
    exact mw_lret hx hb hr hlocks dX5_greater_19 ((if_pos c_1).trans (rfl)).symm
  · refine lv_lload_n hx hb dX5_greater_14 rfl (lv_at hl 2 rfl) ?_
    refine lv_goto (tgt := 19) hx hb dX5_greater_15 (by decide) ?_
    exact mw_lret hx hb hr hlocks dX5_greater_19 ((if_neg c_1).trans (rfl)).symm
def fX5_lesser (sort : Int32) (a : Int64) (b : Int64) : Int64 := if (fX5_rank sort a) ≤ (fX5_rank sort b) then a else b
set_option maxRecDepth 100000 in
set_option maxHeartbeats 4000000 in
theorem cvX5_lesser (l : Launch) (D : mG) (sort : Int32) (a : Int64) (b : Int64) : cV l D yX5_lesser cX5_lesser 5 .long 3 (fun _ => True) [.int sort, .long a, .long b] (.long (fX5_lesser  sort a b)) := by
  refine cV_of (by decide) (Nat.le_of_ble_eq_true rfl) ?_
  intro p e s m below meth c ls hx hb hr hlocks G hgf hpic hl
  have hl : lv_has ls 5 [(0, .int sort), (1, .long a), (3, .long b)] := hl
  refine lv_iload_n hx hb dX5_lesser_0 rfl (lv_at hl 0 rfl) ?_
  refine lv_lload_n hx hb dX5_lesser_1 rfl (lv_at hl 2 rfl) ?_
  refine kS G (cvX5_rank l D sort b) okX5_rank hgf trivial qw4_57 ⟨Nat.le_of_ble_eq_true rfl, Nat.le_of_ble_eq_true rfl⟩ ⟨Nat.zero_le _, Nat.zero_le _⟩ hl.1 (Nat.le_of_ble_eq_true rfl) rfl dX5_lesser_2 ?_
  refine lv_iload_n hx hb dX5_lesser_5 rfl (lv_at hl 0 rfl) ?_
  refine lv_lload_n hx hb dX5_lesser_6 rfl (lv_at hl 1 rfl) ?_
  refine kS G (cvX5_rank l D sort a) okX5_rank hgf trivial qw4_57 ⟨Nat.le_of_ble_eq_true rfl, Nat.le_of_ble_eq_true rfl⟩ ⟨Nat.zero_le _, Nat.zero_le _⟩ hl.1 (Nat.le_of_ble_eq_true rfl) rfl dX5_lesser_7 ?_
  refine mw_lge (tgt := 18) hx hb dX5_lesser_10 dX5_lesser_11 (by decide) (fun c_1 => ?_) (fun c_1 => ?_)
  · refine lv_lload_n hx hb dX5_lesser_18 rfl (lv_at hl 1 rfl) ?_
    exact mw_lret hx hb hr hlocks dX5_lesser_19 ((if_pos c_1).trans (rfl)).symm
  · refine lv_lload_n hx hb dX5_lesser_14 rfl (lv_at hl 2 rfl) ?_
    refine lv_goto (tgt := 19) hx hb dX5_lesser_15 (by decide) ?_
    exact mw_lret hx hb hr hlocks dX5_lesser_19 ((if_neg c_1).trans (rfl)).symm
def fX5_isAbove (sort : Int32) (a : Int64) (b : Int64) : Int32 := if (fX5_height sort a) ≤ (fX5_height sort b) then 0 else 1
set_option maxRecDepth 100000 in
set_option maxHeartbeats 4000000 in
theorem cvX5_isAbove (l : Launch) (D : mG) (sort : Int32) (a : Int64) (b : Int64) : cV l D yX5_isAbove cX5_isAbove 5 .boolean 4 (fun _ => True) [.int sort, .long a, .long b] (.int (fX5_isAbove  sort a b)) := by
  refine cV_of (by decide) (Nat.le_of_ble_eq_true rfl) ?_
  intro p e s m below meth c ls hx hb hr hlocks G hgf hpic hl
  have hl : lv_has ls 5 [(0, .int sort), (1, .long a), (3, .long b)] := hl
  refine lv_iload_n hx hb dX5_isAbove_0 rfl (lv_at hl 0 rfl) ?_
  refine lv_lload_n hx hb dX5_isAbove_1 rfl (lv_at hl 1 rfl) ?_
  refine kS G (cvX5_height l D sort a) okX5_height hgf trivial qw4_54 ⟨Nat.le_of_ble_eq_true rfl, Nat.le_of_ble_eq_true rfl⟩ ⟨Nat.zero_le _, Nat.zero_le _⟩ hl.1 (Nat.le_of_ble_eq_true rfl) rfl dX5_isAbove_2 ?_
  refine lv_iload_n hx hb dX5_isAbove_5 rfl (lv_at hl 0 rfl) ?_
  refine lv_lload_n hx hb dX5_isAbove_6 rfl (lv_at hl 2 rfl) ?_
  refine kS G (cvX5_height l D sort b) okX5_height hgf trivial qw4_54 ⟨Nat.le_of_ble_eq_true rfl, Nat.le_of_ble_eq_true rfl⟩ ⟨Nat.zero_le _, Nat.zero_le _⟩ hl.1 (Nat.le_of_ble_eq_true rfl) rfl dX5_isAbove_7 ?_
  refine mw_lle (tgt := 18) hx hb dX5_isAbove_10 dX5_isAbove_11 (by decide) (fun c_1 => ?_) (fun c_1 => ?_)
  · refine lv_iconst (v := 0) hx hb dX5_isAbove_18 (by decide) ?_
    exact mw_zret hx hb hr hlocks dX5_isAbove_19 (Or.inl rfl) ((if_pos c_1).trans (rfl)).symm
  · refine lv_iconst (v := 1) hx hb dX5_isAbove_14 (by decide) ?_
    refine lv_goto (tgt := 19) hx hb dX5_isAbove_15 (by decide) ?_
    exact mw_zret hx hb hr hlocks dX5_isAbove_19 (Or.inr rfl) ((if_neg c_1).trans (rfl)).symm
def fX5_amount (sort : Int32) (v : Int64) : Int64 := if (fX5_isReal sort) = 0 then fX5_cut sort (if 0 ≤ v then v else -v : Int64) else fX5_cut sort (fX5_amountBits sort v)
set_option maxRecDepth 100000 in
set_option maxHeartbeats 4000000 in
theorem cvX5_amount (l : Launch) (D : mG) (sort : Int32) (v : Int64) : cV l D yX5_amount cX5_amount 3 .long 2 (fun _ => True) [.int sort, .long v] (.long (fX5_amount  sort v)) := by
  refine cV_of (by decide) (Nat.le_of_ble_eq_true rfl) ?_
  intro p e s m below meth c ls hx hb hr hlocks G hgf hpic hl
  have hl : lv_has ls 3 [(0, .int sort), (1, .long v)] := hl
  refine lv_iload_n hx hb dX5_amount_0 rfl (lv_at hl 0 rfl) ?_
  refine kS G (cvX5_isReal l D sort) okX5_isReal hgf trivial qw4_22 ⟨Nat.le_of_ble_eq_true rfl, Nat.le_of_ble_eq_true rfl⟩ ⟨Nat.zero_le _, Nat.zero_le _⟩ hl.1 (Nat.le_of_ble_eq_true rfl) rfl dX5_amount_1 ?_
  refine lv_if_eq (tgt := 17) hx hb dX5_amount_4 (by decide) (fun c_1 => ?_) (fun c_1 => ?_)
  · refine lv_iload_n hx hb dX5_amount_17 rfl (lv_at hl 0 rfl) ?_
    refine lv_lload_n hx hb dX5_amount_18 rfl (lv_at hl 1 rfl) ?_
    refine lv_lconst (v := 0) hx hb dX5_amount_19 (by decide) ?_
    refine mw_join 30 (.long (if 0 ≤ v then v else -v : Int64)) [.int sort] (fun K => ?_) ?_
    · refine mw_lge (tgt := 29) hx hb dX5_amount_20 dX5_amount_21 (by decide) (fun c_2 => ?_) (fun c_2 => ?_)
      · refine lv_lload_n hx hb dX5_amount_29 rfl (lv_at hl 1 rfl) ?_
        exact mw_topL ((if_pos c_2).trans (rfl)) K
      · refine lv_lload_n hx hb dX5_amount_24 rfl (lv_at hl 1 rfl) ?_
        refine lv_lneg hx hb dX5_amount_25 ?_
        refine lv_goto (tgt := 30) hx hb dX5_amount_26 (by decide) ?_
        exact mw_topL ((if_neg c_2).trans (rfl)) K
    refine kS G (cvX5_cut l D sort (if 0 ≤ v then v else -v : Int64)) okX5_cut hgf trivial qw4_6 ⟨Nat.le_of_ble_eq_true rfl, Nat.le_of_ble_eq_true rfl⟩ ⟨Nat.zero_le _, Nat.zero_le _⟩ hl.1 (Nat.le_of_ble_eq_true rfl) rfl dX5_amount_30 ?_
    exact mw_lret hx hb hr hlocks dX5_amount_33 ((if_pos c_1).trans (rfl)).symm
  · refine lv_iload_n hx hb dX5_amount_7 rfl (lv_at hl 0 rfl) ?_
    refine lv_iload_n hx hb dX5_amount_8 rfl (lv_at hl 0 rfl) ?_
    refine lv_lload_n hx hb dX5_amount_9 rfl (lv_at hl 1 rfl) ?_
    refine kS G (cvX5_amountBits l D sort v) okX5_amountBits hgf trivial qw4_31 ⟨Nat.le_of_ble_eq_true rfl, Nat.le_of_ble_eq_true rfl⟩ ⟨Nat.zero_le _, Nat.zero_le _⟩ hl.1 (Nat.le_of_ble_eq_true rfl) rfl dX5_amount_10 ?_
    refine kS G (cvX5_cut l D sort (fX5_amountBits sort v)) okX5_cut hgf trivial qw4_6 ⟨Nat.le_of_ble_eq_true rfl, Nat.le_of_ble_eq_true rfl⟩ ⟨Nat.zero_le _, Nat.zero_le _⟩ hl.1 (Nat.le_of_ble_eq_true rfl) rfl dX5_amount_13 ?_
    exact mw_lret hx hb hr hlocks dX5_amount_16 ((if_neg c_1).trans (rfl)).symm
def fX5_signed (sort : Int32) (a : Int64) (minus : Int32) : Int64 := fX5_cut sort (if minus = 0 then a else a ||| (fX5_signBit sort) : Int64)
set_option maxRecDepth 100000 in
set_option maxHeartbeats 4000000 in
theorem cvX5_signed (l : Launch) (D : mG) (sort : Int32) (a : Int64) (minus : Int32) : cV l D yX5_signed cX5_signed 4 .long 1 (fun _ => True) [.int sort, .long a, .int minus] (.long (fX5_signed  sort a minus)) := by
  refine cV_of (by decide) (Nat.le_of_ble_eq_true rfl) ?_
  intro p e s m below meth c ls hx hb hr hlocks G hgf hpic hl
  have hl : lv_has ls 4 [(0, .int sort), (1, .long a), (3, .int minus)] := hl
  refine lv_iload_n hx hb dX5_signed_0 rfl (lv_at hl 0 rfl) ?_
  refine lv_iload_n hx hb dX5_signed_1 rfl (lv_at hl 2 rfl) ?_
  refine mw_join 15 (.long (if minus = 0 then a else a ||| (fX5_signBit sort) : Int64)) [.int sort] (fun K => ?_) ?_
  · refine lv_if_eq (tgt := 14) hx hb dX5_signed_2 (by decide) (fun c_1 => ?_) (fun c_1 => ?_)
    · refine lv_lload_n hx hb dX5_signed_14 rfl (lv_at hl 1 rfl) ?_
      exact mw_topL ((if_pos c_1).trans (rfl)) K
    · refine lv_lload_n hx hb dX5_signed_5 rfl (lv_at hl 1 rfl) ?_
      refine lv_iload_n hx hb dX5_signed_6 rfl (lv_at hl 0 rfl) ?_
      refine kS G (cvX5_signBit l D sort) okX5_signBit hgf trivial qw4_2 ⟨Nat.le_of_ble_eq_true rfl, Nat.le_of_ble_eq_true rfl⟩ ⟨Nat.zero_le _, Nat.zero_le _⟩ hl.1 (Nat.le_of_ble_eq_true rfl) rfl dX5_signed_7 ?_
      refine lv_lor hx hb dX5_signed_10 ?_
      refine lv_goto (tgt := 15) hx hb dX5_signed_11 (by decide) ?_
      exact mw_topL ((if_neg c_1).trans (rfl)) K
  refine kS G (cvX5_cut l D sort (if minus = 0 then a else a ||| (fX5_signBit sort) : Int64)) okX5_cut hgf trivial qw4_6 ⟨Nat.le_of_ble_eq_true rfl, Nat.le_of_ble_eq_true rfl⟩ ⟨Nat.zero_le _, Nat.zero_le _⟩ hl.1 (Nat.le_of_ble_eq_true rfl) rfl dX5_signed_15 ?_
  exact mw_lret hx hb hr hlocks dX5_signed_18 (rfl).symm
def fX5_takes (st : Int32) : Int32 := if st = 1 then 1 else (if st = 2 then 1 else (if st = 7 then 1 else 0))
set_option maxRecDepth 100000 in
set_option maxHeartbeats 4000000 in
theorem cvX5_takes (l : Launch) (D : mG) (st : Int32) : cV l D yX5_takes cX5_takes 1 .boolean 0 (fun _ => True) [.int st] (.int (fX5_takes  st)) := by
  refine cV_of (by decide) (Nat.le_of_ble_eq_true rfl) ?_
  intro p e s m below meth c ls hx hb hr hlocks G hgf hpic hl
  have hl : lv_has ls 1 [(0, .int st)] := hl
  refine lv_iload_n hx hb dX5_takes_0 rfl (lv_at hl 0 rfl) ?_
  refine lv_iconst (v := 1) hx hb dX5_takes_1 (by decide) ?_
  refine lv_icmp_eq (tgt := 16) hx hb dX5_takes_2 (by decide) (fun c_1 => ?_) (fun c_1 => ?_)
  · refine lv_iconst (v := 1) hx hb dX5_takes_16 (by decide) ?_
    refine lv_goto (tgt := 21) hx hb dX5_takes_17 (by decide) ?_
    exact mw_zret hx hb hr hlocks dX5_takes_21 (Or.inr rfl) ((if_pos c_1).trans (rfl)).symm
  · refine lv_iload_n hx hb dX5_takes_5 rfl (lv_at hl 0 rfl) ?_
    refine lv_iconst (v := 2) hx hb dX5_takes_6 (by decide) ?_
    refine lv_icmp_eq (tgt := 16) hx hb dX5_takes_7 (by decide) (fun c_2 => ?_) (fun c_2 => ?_)
    · refine lv_iconst (v := 1) hx hb dX5_takes_16 (by decide) ?_
      refine lv_goto (tgt := 21) hx hb dX5_takes_17 (by decide) ?_
      exact mw_zret hx hb hr hlocks dX5_takes_21 (Or.inr rfl) ((if_neg c_1).trans ((if_pos c_2).trans (rfl))).symm
    · refine lv_iload_n hx hb dX5_takes_10 rfl (lv_at hl 0 rfl) ?_
      refine lv_bipush (v := 7) hx hb dX5_takes_11 (by decide) ?_
      refine lv_icmp_ne (tgt := 20) hx hb dX5_takes_13 (by decide) (fun c_3 => ?_) (fun c_3 => ?_)
      · refine lv_iconst (v := 0) hx hb dX5_takes_20 (by decide) ?_
        exact mw_zret hx hb hr hlocks dX5_takes_21 (Or.inl rfl) ((if_neg c_1).trans ((if_neg c_2).trans ((if_neg c_3).trans (rfl)))).symm
      · refine lv_iconst (v := 1) hx hb dX5_takes_16 (by decide) ?_
        refine lv_goto (tgt := 21) hx hb dX5_takes_17 (by decide) ?_
        exact mw_zret hx hb hr hlocks dX5_takes_21 (Or.inr rfl) ((if_neg c_1).trans ((if_neg c_2).trans ((if_pos c_3).trans (rfl)))).symm
def fX5_isStep (sort : Int32) (st : Int32) : Int32 := if st < 0 then 0 else (if (if (fX5_isReal sort) = 0 then 3 else 8 : Int32) ≤ st then 0 else 1)
set_option maxRecDepth 100000 in
set_option maxHeartbeats 4000000 in
theorem cvX5_isStep (l : Launch) (D : mG) (sort : Int32) (st : Int32) : cV l D yX5_isStep cX5_isStep 2 .boolean 1 (fun _ => True) [.int sort, .int st] (.int (fX5_isStep  sort st)) := by
  refine cV_of (by decide) (Nat.le_of_ble_eq_true rfl) ?_
  intro p e s m below meth c ls hx hb hr hlocks G hgf hpic hl
  have hl : lv_has ls 2 [(0, .int sort), (1, .int st)] := hl
  refine lv_iload_n hx hb dX5_isStep_0 rfl (lv_at hl 1 rfl) ?_
  refine lv_if_lt (tgt := 25) hx hb dX5_isStep_1 (by decide) (fun c_1 => ?_) (fun c_1 => ?_)
  · refine lv_iconst (v := 0) hx hb dX5_isStep_25 (by decide) ?_
    exact mw_zret hx hb hr hlocks dX5_isStep_26 (Or.inl rfl) ((if_pos c_1).trans (rfl)).symm
  · refine lv_iload_n hx hb dX5_isStep_4 rfl (lv_at hl 1 rfl) ?_
    refine lv_iload_n hx hb dX5_isStep_5 rfl (lv_at hl 0 rfl) ?_
    refine kS G (cvX5_isReal l D sort) okX5_isReal hgf trivial qw4_22 ⟨Nat.le_of_ble_eq_true rfl, Nat.le_of_ble_eq_true rfl⟩ ⟨Nat.zero_le _, Nat.zero_le _⟩ hl.1 (Nat.le_of_ble_eq_true rfl) rfl dX5_isStep_6 ?_
    refine mw_join 18 (.int (if (fX5_isReal sort) = 0 then 3 else 8 : Int32)) [.int st] (fun K => ?_) ?_
    · refine lv_if_eq (tgt := 17) hx hb dX5_isStep_9 (by decide) (fun c_2 => ?_) (fun c_2 => ?_)
      · refine lv_iconst (v := 3) hx hb dX5_isStep_17 (by decide) ?_
        exact mw_topI ((if_pos c_2).trans (rfl)) K
      · refine lv_bipush (v := 8) hx hb dX5_isStep_12 (by decide) ?_
        refine lv_goto (tgt := 18) hx hb dX5_isStep_14 (by decide) ?_
        exact mw_topI ((if_neg c_2).trans (rfl)) K
    refine lv_icmp_ge (tgt := 25) hx hb dX5_isStep_18 (by decide) (fun c_3 => ?_) (fun c_3 => ?_)
    · refine lv_iconst (v := 0) hx hb dX5_isStep_25 (by decide) ?_
      exact mw_zret hx hb hr hlocks dX5_isStep_26 (Or.inl rfl) ((if_neg c_1).trans ((if_pos c_3).trans (rfl))).symm
    · refine lv_iconst (v := 1) hx hb dX5_isStep_21 (by decide) ?_
      refine lv_goto (tgt := 26) hx hb dX5_isStep_22 (by decide) ?_
      exact mw_zret hx hb hr hlocks dX5_isStep_26 (Or.inr rfl) ((if_neg c_1).trans ((if_neg c_3).trans (rfl))).symm
