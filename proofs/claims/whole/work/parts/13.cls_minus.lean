theorem mw_dec {x : Int32} (h : ¬ x ≤ 1) : (x + (-1)).toInt = x.toInt - 1 := by
  rw [Int32.le_iff_toInt_le] at h
  have h1 : (1 : Int32).toInt = 1 := by decide
  have h2 := Int32.toInt_lt x
  have h3 : (-1 : Int32).toInt = -1 := by decide
  rw [Int32.toInt_add, h3, Int.bmod_eq_of_le (by omega) (by omega)]
  omega
/-- the loop of minus: at most n turns -/
def fX0_norm (z : Bool) : Nat → Int64 → Int32 → Int64
  | 0, r, ex => fX0_rounded z r ex
  | n + 1, r, ex => if ex ≤ 1 then fX0_rounded z r ex else if (jshl (fhi z) 3) ≤ r then fX0_rounded z r ex else fX0_norm z n (jshl r 1) (ex + (-1))
theorem fX0_norm_s (z : Bool) (n : Nat) (r : Int64) (ex : Int32) : fX0_norm z (n + 1) r ex = if ex ≤ 1 then fX0_rounded z r ex else if (jshl (fhi z) 3) ≤ r then fX0_rounded z r ex else fX0_norm z n (jshl r 1) (ex + (-1)) := rfl
set_option maxRecDepth 100000 in
set_option maxHeartbeats 4000000 in
theorem lpX0_minus {p : Program} {l : Launch} {e : Env} {s : State} {m : MethodId} {args : Array Value} {below : List Frame} {meth : Method} {c : Code} {D : mG} {o : Nat} {z : Bool} {a b w : Int64} (hx : p.tables.exec = Jvm.exec) (hb : c.code = cX0_minus) (hr : meth.sig.returnType = some .long) (hlocks : meth.locks = false) (G : CallFix p m c cX0_minus 8 s args aw RX0) (hgf : GF D s) (hpic : va_at D.1 vwCl (o, .inr (0, flF z)) s.heap) :
    ∀ (n : Nat) (r : Int64) (ex : Int32) (ls : Array Slot), ex.toInt ≤ n + 1 → lv_has ls 8 [(6, .long r), (5, .int ex), (0, .ref o), (1, .long a), (3, .long b)] → fX0_norm z n r ex = w → W p l e (rmP 2) s m args below meth c s.heap [] 0 0 (MQ below (mS (.long w)) args s 0 0 (fun _ => False)) (F0 m 53 ls []) := by
  intro n
  induction n with
  | zero =>
    intro r ex ls hn hl hw
    refine lv_iload hx hb dX0_minus_53 (lv_at hl 1 rfl) ?_
    refine lv_iconst (v := 1) hx hb dX0_minus_55 (by decide) ?_
    refine lv_icmp_le (tgt := 83) hx hb dX0_minus_56 (by decide) (fun c_1 => ?_) (fun c_1 => absurd (by rw [Int32.le_iff_toInt_le]; exact hn) c_1)
    refine lv_aload_n hx hb dX0_minus_83 rfl (lv_at hl 2 rfl) ?_
    refine lv_lload hx hb dX0_minus_84 (lv_at hl 0 rfl) ?_
    refine lv_iload hx hb dX0_minus_86 (lv_at hl 1 rfl) ?_
    refine kV (C := RX0) G (cvX0_rounded l D o z r ex) okX0_rounded hgf hpic (mw_recv hgf hpic rfl) qw3_18 ⟨Nat.le_of_ble_eq_true rfl, Nat.le_of_ble_eq_true rfl⟩ ⟨Nat.zero_le _, Nat.zero_le _⟩ hl.1 (Nat.le_of_ble_eq_true rfl) rfl dX0_minus_88 ?_
    exact mw_lret hx hb hr hlocks dX0_minus_91 hw
  | succ n ih =>
    intro r ex ls hn hl hw
    refine lv_iload hx hb dX0_minus_53 (lv_at hl 1 rfl) ?_
    refine lv_iconst (v := 1) hx hb dX0_minus_55 (by decide) ?_
    refine lv_icmp_le (tgt := 83) hx hb dX0_minus_56 (by decide) (fun c_1 => ?_) (fun c_1 => ?_)
    · refine lv_aload_n hx hb dX0_minus_83 rfl (lv_at hl 2 rfl) ?_
      refine lv_lload hx hb dX0_minus_84 (lv_at hl 0 rfl) ?_
      refine lv_iload hx hb dX0_minus_86 (lv_at hl 1 rfl) ?_
      refine kV (C := RX0) G (cvX0_rounded l D o z r ex) okX0_rounded hgf hpic (mw_recv hgf hpic rfl) qw3_18 ⟨Nat.le_of_ble_eq_true rfl, Nat.le_of_ble_eq_true rfl⟩ ⟨Nat.zero_le _, Nat.zero_le _⟩ hl.1 (Nat.le_of_ble_eq_true rfl) rfl dX0_minus_88 ?_
      exact mw_lret hx hb hr hlocks dX0_minus_91 (((fX0_norm_s z n r ex).trans ((if_pos c_1).trans (rfl))).symm.trans hw)
    · refine lv_lload hx hb dX0_minus_59 (lv_at hl 0 rfl) ?_
      refine lv_aload_n hx hb dX0_minus_61 rfl (lv_at hl 2 rfl) ?_
      refine mw_get G hgf hpic rfl inX0 10 (by decide) qw1_192 rfl dX0_minus_62 ?_
      refine lv_iconst (v := 3) hx hb dX0_minus_65 (by decide) ?_
      refine lv_lshl (v := jshl (fhi z) 3) hx hb dX0_minus_66 rfl ?_
      refine mw_lge (tgt := 83) hx hb dX0_minus_67 dX0_minus_68 (by decide) (fun c_2 => ?_) (fun c_2 => ?_)
      · refine lv_aload_n hx hb dX0_minus_83 rfl (lv_at hl 2 rfl) ?_
        refine lv_lload hx hb dX0_minus_84 (lv_at hl 0 rfl) ?_
        refine lv_iload hx hb dX0_minus_86 (lv_at hl 1 rfl) ?_
        refine kV (C := RX0) G (cvX0_rounded l D o z r ex) okX0_rounded hgf hpic (mw_recv hgf hpic rfl) qw3_18 ⟨Nat.le_of_ble_eq_true rfl, Nat.le_of_ble_eq_true rfl⟩ ⟨Nat.zero_le _, Nat.zero_le _⟩ hl.1 (Nat.le_of_ble_eq_true rfl) rfl dX0_minus_88 ?_
        exact mw_lret hx hb hr hlocks dX0_minus_91 (((fX0_norm_s z n r ex).trans ((if_neg c_1).trans ((if_pos c_2).trans (rfl)))).symm.trans hw)
      · refine lv_lload hx hb dX0_minus_71 (lv_at hl 0 rfl) ?_
        refine lv_iconst (v := 1) hx hb dX0_minus_73 (by decide) ?_
        refine lv_lshl (v := jshl r 1) hx hb dX0_minus_74 rfl ?_
        refine lv_lstore (lv' := [(6, .long (jshl r 1)), (5, .int ex), (0, .ref o), (1, .long a), (3, .long b)]) hx hb dX0_minus_75 hl (by decide) rfl (fun ls hl => ?_)
        refine lv_iinc (v := ex + (-1)) (lv' := [(5, .int (ex + (-1))), (6, .long (jshl r 1)), (0, .ref o), (1, .long a), (3, .long b)]) hx hb dX0_minus_77 hl (k := 1) rfl rfl (by decide) rfl (fun ls hl => ?_)
        refine lv_goto (tgt := 53) hx hb dX0_minus_80 (by decide) ?_
        exact ih _ _ ls (by have q := mw_dec c_1; omega) (lv_sub hl [1, 0, 2, 3, 4] rfl) (((fX0_norm_s z n r ex).trans ((if_neg c_1).trans ((if_neg c_2).trans (rfl)))).symm.trans hw)
def fX0_minus_s4 (z : Bool) (a : Int64) (b : Int64) (x_3 : Int32) (x_4 : Int64) : Int64 := fX0_norm z (x_3).toNatClampNeg x_4 x_3
def fX0_minus_s3 (z : Bool) (a : Int64) (b : Int64) (x_3 : Int32) : Int64 := fX0_minus_s4 z a b x_3 ((fX0_significandOf z a) - (fX0_shiftedRight (fX0_significandOf z b) (x_3 - (fX0_exponentOf z b))))
def fX0_minus (z : Bool) (a : Int64) (b : Int64) : Int64 := if a = b then 0 else (if a = (finf z) then finf z else fX0_minus_s3 z a b (fX0_exponentOf z a))
set_option maxRecDepth 100000 in
set_option maxHeartbeats 4000000 in
theorem cvX0_minus (l : Launch) (D : mG) (o : Nat) (z : Bool) (a : Int64) (b : Int64) : cV l D yX0_minus cX0_minus 8 .long 2 (fun H => va_at D.1 vwCl (o, .inr (0, flF z)) H) [.ref o, .long a, .long b] (.long (fX0_minus z a b)) := by
  refine cV_of (by decide) (Nat.le_of_ble_eq_true rfl) ?_
  intro p e s m below meth c ls hx hb hr hlocks G hgf hpic hl
  have hl : lv_has ls 8 [(0, .ref o), (1, .long a), (3, .long b)] := hl
  have hpic : va_at D.1 vwCl (o, .inr (0, flF z)) s.heap := hpic
  refine lv_lload_n hx hb dX0_minus_0 rfl (lv_at hl 1 rfl) ?_
  refine lv_lload_n hx hb dX0_minus_1 rfl (lv_at hl 2 rfl) ?_
  refine mw_lne (tgt := 8) hx hb dX0_minus_2 dX0_minus_3 (by decide) (fun c_1 => ?_) (fun c_1 => ?_)
  · refine lv_lload_n hx hb dX0_minus_8 rfl (lv_at hl 1 rfl) ?_
    refine lv_aload_n hx hb dX0_minus_9 rfl (lv_at hl 0 rfl) ?_
    refine mw_get G hgf hpic rfl inX0 6 (by decide) qw1_188 rfl dX0_minus_10 ?_
    refine mw_lne (tgt := 22) hx hb dX0_minus_13 dX0_minus_14 (by decide) (fun c_2 => ?_) (fun c_2 => ?_)
    · refine lv_aload_n hx hb dX0_minus_22 rfl (lv_at hl 0 rfl) ?_
      refine lv_lload_n hx hb dX0_minus_23 rfl (lv_at hl 1 rfl) ?_
      refine kV (C := RX0) G (cvX0_exponentOf l D o z a) okX0_exponentOf hgf hpic (mw_recv hgf hpic rfl) qw3_4 ⟨Nat.le_of_ble_eq_true rfl, Nat.le_of_ble_eq_true rfl⟩ ⟨Nat.zero_le _, Nat.zero_le _⟩ hl.1 (Nat.le_of_ble_eq_true rfl) rfl dX0_minus_24 ?_
      refine lv_topi (fun x_3 e_3 => ?_)
      refine lv_istore (lv' := [(5, .int x_3), (0, .ref o), (1, .long a), (3, .long b)]) hx hb dX0_minus_27 hl (by decide) rfl (fun ls hl => ?_)
      refine lv_aload_n hx hb dX0_minus_29 rfl (lv_at hl 1 rfl) ?_
      refine lv_lload_n hx hb dX0_minus_30 rfl (lv_at hl 2 rfl) ?_
      refine kV (C := RX0) G (cvX0_significandOf l D o z a) okX0_significandOf hgf hpic (mw_recv hgf hpic rfl) qw3_8 ⟨Nat.le_of_ble_eq_true rfl, Nat.le_of_ble_eq_true rfl⟩ ⟨Nat.zero_le _, Nat.zero_le _⟩ hl.1 (Nat.le_of_ble_eq_true rfl) rfl dX0_minus_31 ?_
      refine lv_aload_n hx hb dX0_minus_34 rfl (lv_at hl 1 rfl) ?_
      refine lv_lload_n hx hb dX0_minus_35 rfl (lv_at hl 3 rfl) ?_
      refine kV (C := RX0) G (cvX0_significandOf l D o z b) okX0_significandOf hgf hpic (mw_recv hgf hpic rfl) qw3_8 ⟨Nat.le_of_ble_eq_true rfl, Nat.le_of_ble_eq_true rfl⟩ ⟨Nat.zero_le _, Nat.zero_le _⟩ hl.1 (Nat.le_of_ble_eq_true rfl) rfl dX0_minus_36 ?_
      refine lv_iload hx hb dX0_minus_39 (lv_at hl 0 rfl) ?_
      refine lv_aload_n hx hb dX0_minus_41 rfl (lv_at hl 1 rfl) ?_
      refine lv_lload_n hx hb dX0_minus_42 rfl (lv_at hl 3 rfl) ?_
      refine kV (C := RX0) G (cvX0_exponentOf l D o z b) okX0_exponentOf hgf hpic (mw_recv hgf hpic rfl) qw3_4 ⟨Nat.le_of_ble_eq_true rfl, Nat.le_of_ble_eq_true rfl⟩ ⟨Nat.zero_le _, Nat.zero_le _⟩ hl.1 (Nat.le_of_ble_eq_true rfl) rfl dX0_minus_43 ?_
      refine lv_isub hx hb dX0_minus_46 ?_
      refine kS G (cvX0_shiftedRight l D (fX0_significandOf z b) (x_3 - (fX0_exponentOf z b))) okX0_shiftedRight hgf trivial qw3_12 ⟨Nat.le_of_ble_eq_true rfl, Nat.le_of_ble_eq_true rfl⟩ ⟨Nat.zero_le _, Nat.zero_le _⟩ hl.1 (Nat.le_of_ble_eq_true rfl) rfl dX0_minus_47 ?_
      refine lv_lsub hx hb dX0_minus_50 ?_
      refine lv_topl (fun x_4 e_4 => ?_)
      refine lv_lstore (lv' := [(6, .long x_4), (5, .int x_3), (0, .ref o), (1, .long a), (3, .long b)]) hx hb dX0_minus_51 hl (by decide) rfl (fun ls hl => ?_)
      exact lpX0_minus hx hb hr hlocks G hgf hpic (x_3).toNatClampNeg x_4 x_3 ls (by rw [Int32.toNatClampNeg]; omega) (lv_sub hl [0, 1, 2, 3, 4] rfl) ((if_neg c_1).trans ((if_neg c_2).trans ((congrArg (fX0_minus_s3 z a b) e_3.symm).trans ((congrArg (fX0_minus_s4 z a b x_3) e_4.symm).trans (rfl))))).symm
    · refine lv_aload_n hx hb dX0_minus_17 rfl (lv_at hl 0 rfl) ?_
      refine mw_get G hgf hpic rfl inX0 6 (by decide) qw1_188 rfl dX0_minus_18 ?_
      exact mw_lret hx hb hr hlocks dX0_minus_21 ((if_neg c_1).trans ((if_pos c_2).trans (rfl))).symm
  · refine lv_lconst (v := 0) hx hb dX0_minus_6 (by decide) ?_
    exact mw_lret hx hb hr hlocks dX0_minus_7 ((if_pos c_1).trans (rfl)).symm
def fX0_apart_s2 (z : Bool) (a : Int64) (b : Int64) (x_1 : Int64) (x_2 : Int64) : Int64 := if (if 0 ≤ a then 0 else 1 : Int32) = (if 0 ≤ b then 0 else 1 : Int32) then fX0_minus z (if x_2 < x_1 then x_1 else x_2) (if x_2 < x_1 then x_2 else x_1) else fX0_plus z x_1 x_2
def fX0_apart_s1 (z : Bool) (a : Int64) (b : Int64) (x_1 : Int64) : Int64 := fX0_apart_s2 z a b x_1 (fX0_amount z b)
def fX0_apart (z : Bool) (a : Int64) (b : Int64) : Int64 := fX0_apart_s1 z a b (fX0_amount z a)
set_option maxRecDepth 100000 in
set_option maxHeartbeats 4000000 in
theorem cvX0_apart (l : Launch) (D : mG) (o : Nat) (z : Bool) (a : Int64) (b : Int64) : cV l D yX0_apart cX0_apart 9 .long 3 (fun H => va_at D.1 vwCl (o, .inr (0, flF z)) H) [.ref o, .long a, .long b] (.long (fX0_apart z a b)) := by
  refine cV_of (by decide) (Nat.le_of_ble_eq_true rfl) ?_
  intro p e s m below meth c ls hx hb hr hlocks G hgf hpic hl
  have hl : lv_has ls 9 [(0, .ref o), (1, .long a), (3, .long b)] := hl
  have hpic : va_at D.1 vwCl (o, .inr (0, flF z)) s.heap := hpic
  refine lv_aload_n hx hb dX0_apart_0 rfl (lv_at hl 0 rfl) ?_
  refine lv_lload_n hx hb dX0_apart_1 rfl (lv_at hl 1 rfl) ?_
  refine kV (C := RX0) G (cvX0_amount l D o z a) okX0_amount hgf hpic (mw_recv hgf hpic rfl) qw2_85 ⟨Nat.le_of_ble_eq_true rfl, Nat.le_of_ble_eq_true rfl⟩ ⟨Nat.zero_le _, Nat.zero_le _⟩ hl.1 (Nat.le_of_ble_eq_true rfl) rfl dX0_apart_2 ?_
  refine lv_topl (fun x_1 e_1 => ?_)
  refine lv_lstore (lv' := [(5, .long x_1), (0, .ref o), (1, .long a), (3, .long b)]) hx hb dX0_apart_5 hl (by decide) rfl (fun ls hl => ?_)
  refine lv_aload_n hx hb dX0_apart_7 rfl (lv_at hl 1 rfl) ?_
  refine lv_lload_n hx hb dX0_apart_8 rfl (lv_at hl 3 rfl) ?_
  refine kV (C := RX0) G (cvX0_amount l D o z b) okX0_amount hgf hpic (mw_recv hgf hpic rfl) qw2_85 ⟨Nat.le_of_ble_eq_true rfl, Nat.le_of_ble_eq_true rfl⟩ ⟨Nat.zero_le _, Nat.zero_le _⟩ hl.1 (Nat.le_of_ble_eq_true rfl) rfl dX0_apart_9 ?_
  refine lv_topl (fun x_2 e_2 => ?_)
  refine lv_lstore (lv' := [(7, .long x_2), (5, .long x_1), (0, .ref o), (1, .long a), (3, .long b)]) hx hb dX0_apart_12 hl (by decide) rfl (fun ls hl => ?_)
  refine lv_lload_n hx hb dX0_apart_14 rfl (lv_at hl 3 rfl) ?_
  refine lv_lconst (v := 0) hx hb dX0_apart_15 (by decide) ?_
  refine mw_join 25 (.int (if 0 ≤ a then 0 else 1 : Int32)) [] (fun K => ?_) ?_
  · refine mw_lge (tgt := 24) hx hb dX0_apart_16 dX0_apart_17 (by decide) (fun c_3 => ?_) (fun c_3 => ?_)
    · refine lv_iconst (v := 0) hx hb dX0_apart_24 (by decide) ?_
      exact mw_topI ((if_pos c_3).trans (rfl)) K
    · refine lv_iconst (v := 1) hx hb dX0_apart_20 (by decide) ?_
      refine lv_goto (tgt := 25) hx hb dX0_apart_21 (by decide) ?_
      exact mw_topI ((if_neg c_3).trans (rfl)) K
  refine lv_lload_n hx hb dX0_apart_25 rfl (lv_at hl 4 rfl) ?_
  refine lv_lconst (v := 0) hx hb dX0_apart_26 (by decide) ?_
  refine mw_join 36 (.int (if 0 ≤ b then 0 else 1 : Int32)) [.int (if 0 ≤ a then 0 else 1 : Int32)] (fun K => ?_) ?_
  · refine mw_lge (tgt := 35) hx hb dX0_apart_27 dX0_apart_28 (by decide) (fun c_4 => ?_) (fun c_4 => ?_)
    · refine lv_iconst (v := 0) hx hb dX0_apart_35 (by decide) ?_
      exact mw_topI ((if_pos c_4).trans (rfl)) K
    · refine lv_iconst (v := 1) hx hb dX0_apart_31 (by decide) ?_
      refine lv_goto (tgt := 36) hx hb dX0_apart_32 (by decide) ?_
      exact mw_topI ((if_neg c_4).trans (rfl)) K
  refine lv_icmp_eq (tgt := 48) hx hb dX0_apart_36 (by decide) (fun c_5 => ?_) (fun c_5 => ?_)
  · refine lv_aload_n hx hb dX0_apart_48 rfl (lv_at hl 2 rfl) ?_
    refine lv_lload hx hb dX0_apart_49 (lv_at hl 1 rfl) ?_
    refine lv_lload hx hb dX0_apart_51 (lv_at hl 0 rfl) ?_
    refine va_mmax_long hx hb (by rw [G.2.2.1]; exact hl.1.symm) G.2.2.2.1 (G.2.2.2.2 _ qw2_238) (G.2.2.2.2 _ qw2_239) (G.2.2.2.2 _ qw1_14) (G.2.2.2.2 _ qw3_0) (Nat.le_of_ble_eq_true rfl) (Nat.le_of_ble_eq_true rfl) (Nat.zero_le _) (Nat.zero_le _) dX0_apart_53 ?_
    refine lv_lload hx hb dX0_apart_56 (lv_at hl 1 rfl) ?_
    refine lv_lload hx hb dX0_apart_58 (lv_at hl 0 rfl) ?_
    refine va_mmin_long hx hb (by rw [G.2.2.1]; exact hl.1.symm) G.2.2.2.1 (G.2.2.2.2 _ qw3_1) (G.2.2.2.2 _ qw3_2) (G.2.2.2.2 _ qw1_14) (G.2.2.2.2 _ qw3_3) (Nat.le_of_ble_eq_true rfl) (Nat.le_of_ble_eq_true rfl) (Nat.zero_le _) (Nat.zero_le _) dX0_apart_60 ?_
    refine kV (C := RX0) G (cvX0_minus l D o z (if x_2 < x_1 then x_1 else x_2) (if x_2 < x_1 then x_2 else x_1)) okX0_minus hgf hpic (mw_recv hgf hpic rfl) qw3_24 ⟨Nat.le_of_ble_eq_true rfl, Nat.le_of_ble_eq_true rfl⟩ ⟨Nat.zero_le _, Nat.zero_le _⟩ hl.1 (Nat.le_of_ble_eq_true rfl) rfl dX0_apart_63 ?_
    exact mw_lret hx hb hr hlocks dX0_apart_66 ((congrArg (fX0_apart_s1 z a b) e_1.symm).trans ((congrArg (fX0_apart_s2 z a b x_1) e_2.symm).trans ((if_pos c_5).trans (rfl)))).symm
  · refine lv_aload_n hx hb dX0_apart_39 rfl (lv_at hl 2 rfl) ?_
    refine lv_lload hx hb dX0_apart_40 (lv_at hl 1 rfl) ?_
    refine lv_lload hx hb dX0_apart_42 (lv_at hl 0 rfl) ?_
    refine kV (C := RX0) G (cvX0_plus l D o z x_1 x_2) okX0_plus hgf hpic (mw_recv hgf hpic rfl) qw2_234 ⟨Nat.le_of_ble_eq_true rfl, Nat.le_of_ble_eq_true rfl⟩ ⟨Nat.zero_le _, Nat.zero_le _⟩ hl.1 (Nat.le_of_ble_eq_true rfl) rfl dX0_apart_44 ?_
    exact mw_lret hx hb hr hlocks dX0_apart_47 ((congrArg (fX0_apart_s1 z a b) e_1.symm).trans ((congrArg (fX0_apart_s2 z a b x_1) e_2.symm).trans ((if_neg c_5).trans (rfl)))).symm
