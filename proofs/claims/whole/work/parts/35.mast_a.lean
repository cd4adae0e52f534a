/-! THE MAST. x: its object; xa: its array; n mounted, rd readings, ae alarms, se steps ever -/
abbrev xF (xa : Nat) (n rd ae se : Int32) : List Value := [.ref xa, .int n, .int rd, .int ae, .int se]
theorem dN_0 : decode prog_24_method_4_code 0 = .ok (.aload_n 0, 1) := by decide +kernel
theorem dN_1 : decode prog_24_method_4_code 1 = .ok (.aload_n 1, 1) := by decide +kernel
theorem dN_2 : decode prog_24_method_4_code 2 = .ok (.invokespecial 13, 3) := by decide +kernel
theorem dN_5 : decode prog_24_method_4_code 5 = .ok (.return_, 1) := by decide +kernel
def fX4_isSort (so : Int32) : Int32 := if so < 0 then 0 else (if 3 < so then 0 else 1)
set_option maxRecDepth 100000 in
set_option maxHeartbeats 4000000 in
theorem cvX4_isSort (l : Launch) (D : mG) (so : Int32) : cV l D yX4_isSort cX4_isSort 1 .boolean 0 (fun _ => True) [.int so] (.int (fX4_isSort  so)) := by
  refine cV_of (by decide) (Nat.le_of_ble_eq_true rfl) ?_
  intro p e s m below meth c ls hx hb hr hlocks G hgf hpic hl
  have hl : lv_has ls 1 [(0, .int so)] := hl
  refine lv_iload_n hx hb dX4_isSort_0 rfl (lv_at hl 0 rfl) ?_
  refine lv_if_lt (tgt := 13) hx hb dX4_isSort_1 (by decide) (fun c_1 => ?_) (fun c_1 => ?_)
  · refine lv_iconst (v := 0) hx hb dX4_isSort_13 (by decide) ?_
    exact mw_zret hx hb hr hlocks dX4_isSort_14 (Or.inl rfl) ((if_pos c_1).trans (rfl)).symm
  · refine lv_iload_n hx hb dX4_isSort_4 rfl (lv_at hl 0 rfl) ?_
    refine lv_iconst (v := 3) hx hb dX4_isSort_5 (by decide) ?_
    refine lv_icmp_gt (tgt := 13) hx hb dX4_isSort_6 (by decide) (fun c_2 => ?_) (fun c_2 => ?_)
    · refine lv_iconst (v := 0) hx hb dX4_isSort_13 (by decide) ?_
      exact mw_zret hx hb hr hlocks dX4_isSort_14 (Or.inl rfl) ((if_neg c_1).trans ((if_pos c_2).trans (rfl))).symm
    · refine lv_iconst (v := 1) hx hb dX4_isSort_9 (by decide) ?_
      refine lv_goto (tgt := 14) hx hb dX4_isSort_10 (by decide) ?_
      exact mw_zret hx hb hr hlocks dX4_isSort_14 (Or.inr rfl) ((if_neg c_1).trans ((if_neg c_2).trans (rfl))).symm
def fX4_takesK (st : Int32) : Int32 := if st = 1 then 1 else (if st = 2 then 1 else (if st = 7 then 1 else 0))
set_option maxRecDepth 100000 in
set_option maxHeartbeats 4000000 in
theorem cvX4_takesK (l : Launch) (D : mG) (st : Int32) : cV l D yX4_takesK cX4_takesK 1 .boolean 0 (fun _ => True) [.int st] (.int (fX4_takesK  st)) := by
  refine cV_of (by decide) (Nat.le_of_ble_eq_true rfl) ?_
  intro p e s m below meth c ls hx hb hr hlocks G hgf hpic hl
  have hl : lv_has ls 1 [(0, .int st)] := hl
  refine lv_iload_n hx hb dX4_takesK_0 rfl (lv_at hl 0 rfl) ?_
  refine lv_iconst (v := 1) hx hb dX4_takesK_1 (by decide) ?_
  refine lv_icmp_eq (tgt := 16) hx hb dX4_takesK_2 (by decide) (fun c_1 => ?_) (fun c_1 => ?_)
  · refine lv_iconst (v := 1) hx hb dX4_takesK_16 (by decide) ?_
    refine lv_goto (tgt := 21) hx hb dX4_takesK_17 (by decide) ?_
    exact mw_zret hx hb hr hlocks dX4_takesK_21 (Or.inr rfl) ((if_pos c_1).trans (rfl)).symm
  · refine lv_iload_n hx hb dX4_takesK_5 rfl (lv_at hl 0 rfl) ?_
    refine lv_iconst (v := 2) hx hb dX4_takesK_6 (by decide) ?_
    refine lv_icmp_eq (tgt := 16) hx hb dX4_takesK_7 (by decide) (fun c_2 => ?_) (fun c_2 => ?_)
    · refine lv_iconst (v := 1) hx hb dX4_takesK_16 (by decide) ?_
      refine lv_goto (tgt := 21) hx hb dX4_takesK_17 (by decide) ?_
      exact mw_zret hx hb hr hlocks dX4_takesK_21 (Or.inr rfl) ((if_neg c_1).trans ((if_pos c_2).trans (rfl))).symm
    · refine lv_iload_n hx hb dX4_takesK_10 rfl (lv_at hl 0 rfl) ?_
      refine lv_bipush (v := 7) hx hb dX4_takesK_11 (by decide) ?_
      refine lv_icmp_ne (tgt := 20) hx hb dX4_takesK_13 (by decide) (fun c_3 => ?_) (fun c_3 => ?_)
      · refine lv_iconst (v := 0) hx hb dX4_takesK_20 (by decide) ?_
        exact mw_zret hx hb hr hlocks dX4_takesK_21 (Or.inl rfl) ((if_neg c_1).trans ((if_neg c_2).trans ((if_neg c_3).trans (rfl)))).symm
      · refine lv_iconst (v := 1) hx hb dX4_takesK_16 (by decide) ?_
        refine lv_goto (tgt := 21) hx hb dX4_takesK_17 (by decide) ?_
        exact mw_zret hx hb hr hlocks dX4_takesK_21 (Or.inr rfl) ((if_neg c_1).trans ((if_neg c_2).trans ((if_pos c_3).trans (rfl)))).symm
theorem nI_bad {N j : Nat} (hN : N ≤ 8) (hj : j < N) : ¬ nI j < 0 ∧ ¬ (8 : Int32) ≤ nI j := ⟨nI_pos (by omega), nI_ge (a := j) (b := 8) (by omega) (by omega)⟩
theorem in8 {i : Int32} (h1 : ¬ i < 0) (h2 : ¬ 8 ≤ i) : vp_in i 8 := by
  obtain ⟨q, hq, rfl⟩ := nI_of h1
  exact vp_in_nI (Nat.not_le.mp fun h => h2 (nI_le (a := 8) h hq)) (by decide)
set_option maxRecDepth 100000 in
set_option maxHeartbeats 4000000 in
theorem cv_instAt (l : Launch) (D : mG) (x xa : Nat) (n rd ae se : Int32) (IA : Nat → Option Nat) {N : Nat} (hn : n = nI N) (hN : N ≤ 8) {j : Nat} (hj : j < N) {q : Nat} (hq : IA j = some q) : cV l D yX4_instrumentAt cX4_instrumentAt 3 (.object "WeatherMast$Instrument") 0 (fun H => va_P D.1 vwCl [(x, .inr (3, xF xa n rd ae se)), (xa, .inl (D.2.2.2, 8, .inr (.inr (.inr (.inr IA)))))] H) [.ref x, .int (nI j)] (.ref (q)) := by
  refine cV_of (by decide) (Nat.le_of_ble_eq_true rfl) ?_
  intro p e s m below meth c ls hx hb hr hlocks G hgf hP hl
  have hP : va_P D.1 vwCl [(x, .inr (3, xF xa n rd ae se)), (xa, .inl (D.2.2.2, 8, .inr (.inr (.inr (.inr IA)))))] s.heap := hP
  have hl : lv_has ls 3 [(0, .ref x), (1, .int (nI j))] := hl
  refine lv_iload_n hx hb dX4_instrumentAt_0 rfl (lv_at hl 1 rfl) ?_
  refine lv_if_lt (tgt := 22) hx hb dX4_instrumentAt_1 (by decide) (fun h => absurd h (nI_bad hN hj).1) (fun _ => ?_)
  refine lv_iload_n hx hb dX4_instrumentAt_4 rfl (lv_at hl 1 rfl) ?_
  refine lv_aload_n hx hb dX4_instrumentAt_5 rfl (lv_at hl 0 rfl) ?_
  refine mw_get G hgf (hP 0 _ rfl) rfl inX4 0 (by decide) qw1_29 rfl dX4_instrumentAt_6 ?_
  refine va_alen (v := 8) hx hb hgf.K hP 1 2 rfl rfl rfl dX4_instrumentAt_9 ?_
  refine lv_icmp_ge (tgt := 22) hx hb dX4_instrumentAt_10 (by decide) (fun h => absurd h (nI_bad hN hj).2) (fun _ => ?_)
  refine lv_aload_n hx hb dX4_instrumentAt_13 rfl (lv_at hl 0 rfl) ?_
  refine mw_get G hgf (hP 0 _ rfl) rfl inX4 0 (by decide) qw1_29 rfl dX4_instrumentAt_14 ?_
  refine lv_iload_n hx hb dX4_instrumentAt_17 rfl (lv_at hl 1 rfl) ?_
  refine mN_aald (f := IA) G hgf (hP 1 _ rfl) (k := j) (rfl) (by omega) (by decide) dX4_instrumentAt_18 ?_
  rw [show va_rf (IA j) = .ref q from (by rw [hq]; rfl)]
  refine lv_goto (tgt := 23) hx hb dX4_instrumentAt_19 (by decide) ?_
  refine lv_astore_n (lv' := [(2, .ref q), (0, .ref x), (1, .int (nI j))]) hx hb dX4_instrumentAt_23 rfl hl (by decide) rfl (fun ls hl => ?_)
  refine lv_aload_n hx hb dX4_instrumentAt_24 rfl (lv_at hl 0 rfl) ?_
  refine lv_ifnonnull (tgt := 38) hx hb dX4_instrumentAt_25 (by decide) ?_
  refine lv_aload_n hx hb dX4_instrumentAt_38 rfl (lv_at hl 0 rfl) ?_
  exact mw_aret hx hb hr hlocks dX4_instrumentAt_39
set_option maxRecDepth 100000 in
set_option maxHeartbeats 4000000 in
theorem ct_instAt1 (l : Launch) (D : mG) (x xa : Nat) (n rd ae se : Int32) (IA : Nat → Option Nat) (i : Int32) (hlt : l.stackTraces = false) (h1 : i < 0) : cT l D yX4_instrumentAt cX4_instrumentAt 3 (.object "WeatherMast$Instrument") 6 (fun H => va_P D.1 vwCl [(x, .inr (3, xF xa n rd ae se)), (xa, .inl (D.2.2.2, 8, .inr (.inr (.inr (.inr IA)))))] H) [.ref x, .int i] "java/lang/IndexOutOfBoundsException" := by
  refine cT_of (by decide) (Nat.le_of_ble_eq_true rfl) ?_
  intro p e s m below meth c ls hx hb hlocks hex G hgf hz hP hl
  have hP : va_P D.1 vwCl [(x, .inr (3, xF xa n rd ae se)), (xa, .inl (D.2.2.2, 8, .inr (.inr (.inr (.inr IA)))))] s.heap := hP
  have hl : lv_has ls 3 [(0, .ref x), (1, .int i)] := hl
  refine lv_iload_n hx hb dX4_instrumentAt_0 rfl (lv_at hl 1 rfl) ?_
  refine lv_if_lt (tgt := 22) hx hb dX4_instrumentAt_1 (by decide) (fun _ => ?_) (fun h => absurd h1 h)
  refine lv_null hx hb dX4_instrumentAt_22 ?_
  refine lv_astore_nN (lv' := [(2, .null), (0, .ref x), (1, .int i)]) hx hb dX4_instrumentAt_23 rfl hl (by decide) rfl (fun ls hl => ?_)
  refine lv_aload_nN hx hb dX4_instrumentAt_24 rfl (lv_at hl 0 rfl) ?_
  refine lv_ifnonnullN hx hb dX4_instrumentAt_25 ?_
  exact mw_throw hlt G hlocks hex hgf hz (by decide +kernel) qw2_47 qw1_12 (text := "no such instrument") (by decide +kernel) (by decide +kernel) ex1_IndexOutOfBoundsException ex2_IndexOutOfBoundsException ex3_IndexOutOfBoundsException hl.1 ⟨(Nat.le_of_ble_eq_true rfl), (Nat.le_of_ble_eq_true rfl), (Nat.le_of_ble_eq_true rfl), (Nat.le_of_ble_eq_true rfl)⟩ dX4_instrumentAt_28 dX4_instrumentAt_31 dX4_instrumentAt_32 dX4_instrumentAt_34 dX4_instrumentAt_37
set_option maxRecDepth 100000 in
set_option maxHeartbeats 4000000 in
theorem ct_instAt2 (l : Launch) (D : mG) (x xa : Nat) (n rd ae se : Int32) (IA : Nat → Option Nat) (i : Int32) (hlt : l.stackTraces = false) (h1 : ¬ i < 0) (h2 : 8 ≤ i) : cT l D yX4_instrumentAt cX4_instrumentAt 3 (.object "WeatherMast$Instrument") 6 (fun H => va_P D.1 vwCl [(x, .inr (3, xF xa n rd ae se)), (xa, .inl (D.2.2.2, 8, .inr (.inr (.inr (.inr IA)))))] H) [.ref x, .int i] "java/lang/IndexOutOfBoundsException" := by
  refine cT_of (by decide) (Nat.le_of_ble_eq_true rfl) ?_
  intro p e s m below meth c ls hx hb hlocks hex G hgf hz hP hl
  have hP : va_P D.1 vwCl [(x, .inr (3, xF xa n rd ae se)), (xa, .inl (D.2.2.2, 8, .inr (.inr (.inr (.inr IA)))))] s.heap := hP
  have hl : lv_has ls 3 [(0, .ref x), (1, .int i)] := hl
  refine lv_iload_n hx hb dX4_instrumentAt_0 rfl (lv_at hl 1 rfl) ?_
  refine lv_if_lt (tgt := 22) hx hb dX4_instrumentAt_1 (by decide) (fun h => absurd h h1) (fun _ => ?_)
  refine lv_iload_n hx hb dX4_instrumentAt_4 rfl (lv_at hl 1 rfl) ?_
  refine lv_aload_n hx hb dX4_instrumentAt_5 rfl (lv_at hl 0 rfl) ?_
  refine mw_get G hgf (hP 0 _ rfl) rfl inX4 0 (by decide) qw1_29 rfl dX4_instrumentAt_6 ?_
  refine va_alen (v := 8) hx hb hgf.K hP 1 2 rfl rfl rfl dX4_instrumentAt_9 ?_
  refine lv_icmp_ge (tgt := 22) hx hb dX4_instrumentAt_10 (by decide) (fun _ => ?_) (fun h => absurd h2 h)
  refine lv_null hx hb dX4_instrumentAt_22 ?_
  refine lv_astore_nN (lv' := [(2, .null), (0, .ref x), (1, .int i)]) hx hb dX4_instrumentAt_23 rfl hl (by decide) rfl (fun ls hl => ?_)
  refine lv_aload_nN hx hb dX4_instrumentAt_24 rfl (lv_at hl 0 rfl) ?_
  refine lv_ifnonnullN hx hb dX4_instrumentAt_25 ?_
  exact mw_throw hlt G hlocks hex hgf hz (by decide +kernel) qw2_47 qw1_12 (text := "no such instrument") (by decide +kernel) (by decide +kernel) ex1_IndexOutOfBoundsException ex2_IndexOutOfBoundsException ex3_IndexOutOfBoundsException hl.1 ⟨(Nat.le_of_ble_eq_true rfl), (Nat.le_of_ble_eq_true rfl), (Nat.le_of_ble_eq_true rfl), (Nat.le_of_ble_eq_true rfl)⟩ dX4_instrumentAt_28 dX4_instrumentAt_31 dX4_instrumentAt_32 dX4_instrumentAt_34 dX4_instrumentAt_37
set_option maxRecDepth 100000 in
set_option maxHeartbeats 4000000 in
theorem ct_instAt3 (l : Launch) (D : mG) (x xa : Nat) (n rd ae se : Int32) (IA : Nat → Option Nat) (i : Int32) (hlt : l.stackTraces = false) (h1 : ¬ i < 0) (h2 : ¬ 8 ≤ i) (h3 : IA i.toNatClampNeg = none) : cT l D yX4_instrumentAt cX4_instrumentAt 3 (.object "WeatherMast$Instrument") 6 (fun H => va_P D.1 vwCl [(x, .inr (3, xF xa n rd ae se)), (xa, .inl (D.2.2.2, 8, .inr (.inr (.inr (.inr IA)))))] H) [.ref x, .int i] "java/lang/IndexOutOfBoundsException" := by
  refine cT_of (by decide) (Nat.le_of_ble_eq_true rfl) ?_
  intro p e s m below meth c ls hx hb hlocks hex G hgf hz hP hl
  have hP : va_P D.1 vwCl [(x, .inr (3, xF xa n rd ae se)), (xa, .inl (D.2.2.2, 8, .inr (.inr (.inr (.inr IA)))))] s.heap := hP
  have hl : lv_has ls 3 [(0, .ref x), (1, .int i)] := hl
  refine lv_iload_n hx hb dX4_instrumentAt_0 rfl (lv_at hl 1 rfl) ?_
  refine lv_if_lt (tgt := 22) hx hb dX4_instrumentAt_1 (by decide) (fun h => absurd h h1) (fun _ => ?_)
  refine lv_iload_n hx hb dX4_instrumentAt_4 rfl (lv_at hl 1 rfl) ?_
  refine lv_aload_n hx hb dX4_instrumentAt_5 rfl (lv_at hl 0 rfl) ?_
  refine mw_get G hgf (hP 0 _ rfl) rfl inX4 0 (by decide) qw1_29 rfl dX4_instrumentAt_6 ?_
  refine va_alen (v := 8) hx hb hgf.K hP 1 2 rfl rfl rfl dX4_instrumentAt_9 ?_
  refine lv_icmp_ge (tgt := 22) hx hb dX4_instrumentAt_10 (by decide) (fun h => absurd h h2) (fun _ => ?_)
  refine lv_aload_n hx hb dX4_instrumentAt_13 rfl (lv_at hl 0 rfl) ?_
  refine mw_get G hgf (hP 0 _ rfl) rfl inX4 0 (by decide) qw1_29 rfl dX4_instrumentAt_14 ?_
  refine lv_iload_n hx hb dX4_instrumentAt_17 rfl (lv_at hl 1 rfl) ?_
  refine mw_aald (f := IA) G hgf (hP 1 _ rfl) (in8 h1 h2) dX4_instrumentAt_18 ?_
  rw [show va_rf (IA i.toNatClampNeg) = .null from (by rw [h3]; rfl)]
  refine lv_goto (tgt := 23) hx hb dX4_instrumentAt_19 (by decide) ?_
  refine lv_astore_nN (lv' := [(2, .null), (0, .ref x), (1, .int i)]) hx hb dX4_instrumentAt_23 rfl hl (by decide) rfl (fun ls hl => ?_)
  refine lv_aload_nN hx hb dX4_instrumentAt_24 rfl (lv_at hl 0 rfl) ?_
  refine lv_ifnonnullN hx hb dX4_instrumentAt_25 ?_
  exact mw_throw hlt G hlocks hex hgf hz (by decide +kernel) qw2_47 qw1_12 (text := "no such instrument") (by decide +kernel) (by decide +kernel) ex1_IndexOutOfBoundsException ex2_IndexOutOfBoundsException ex3_IndexOutOfBoundsException hl.1 ⟨(Nat.le_of_ble_eq_true rfl), (Nat.le_of_ble_eq_true rfl), (Nat.le_of_ble_eq_true rfl), (Nat.le_of_ble_eq_true rfl)⟩ dX4_instrumentAt_28 dX4_instrumentAt_31 dX4_instrumentAt_32 dX4_instrumentAt_34 dX4_instrumentAt_37
theorem ct_instAt (l : Launch) (D : mG) (x xa : Nat) (n rd ae se : Int32) (IA : Nat → Option Nat) (hlt : l.stackTraces = false) {i : Int32} (hbad : i < 0 ∨ 8 ≤ i ∨ IA i.toNatClampNeg = none) : cT l D yX4_instrumentAt cX4_instrumentAt 3 (.object "WeatherMast$Instrument") 6 (fun H => va_P D.1 vwCl [(x, .inr (3, xF xa n rd ae se)), (xa, .inl (D.2.2.2, 8, .inr (.inr (.inr (.inr IA)))))] H) [.ref x, .int i] "java/lang/IndexOutOfBoundsException" := by
  by_cases h : i < 0
  · exact ct_instAt1 l D x xa n rd ae se IA i hlt h
  · by_cases h2 : 8 ≤ i
    · exact ct_instAt2 l D x xa n rd ae se IA i hlt h h2
    · exact ct_instAt3 l D x xa n rd ae se IA i hlt h h2 ((hbad.resolve_left h).resolve_left h2)
