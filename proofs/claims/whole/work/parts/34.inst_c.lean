/-- what a step's K is: the one told with it, or its leader's latest reading -/
def leadOK (D : mG) (KJ : Nat → Int64) (L : Nat → Option Nat) (kk : Nat → Int64) (H : Heap) (c : Nat) : Prop := (L c = none ∧ kk c = KJ c) ∨ ∃ (a2 : Nat → Nat) (so2 : Int32) (lo2 hi2 : Int64) (al2 ch2 : Int32) (le2 gr2 sw2 su2 : Int64) (mn2 : Int32) (KE2 : Nat → Int64), L c = some (a2 0) ∧ va_P D.1 vwCl [(a2 0, .inr (1, iF a2 so2 lo2 hi2 al2 ch2 le2 gr2 sw2 su2 mn2)), (a2 5, .inl (D.2.2.1, 16, .inr (.inl KE2)))] H ∧ kk c = gi_latestOrZero mn2 KE2
def gThr (f z : Bool) (KI : Nat → Int32) (kk : Nat → Int64) : Nat → Int64 → Int64
  | 0, v => v
  | c + 1, v => gn_stepped f z (KI c) (gThr f z KI kk c v) (kk c)
set_option maxRecDepth 100000 in
set_option maxHeartbeats 4000000 in
theorem lp_thr {p : Program} {l : Launch} {e : Env} {s : State} {m : MethodId} {args : Array Value} {below : List Frame} {meth : Method} {c : Code} {D : mG} {a : Nat → Nat} {so : Int32} {lo hi : Int64} {al ch : Int32} {le gr sw su : Int64} {mn : Int32} {f z : Bool} {KI : Nat → Int32} {KJ : Nat → Int64} {L : Nat → Option Nat} {kk : Nat → Int64} {v : Int64} {cN : Nat} (hc : ch = nI cN) (hc6 : cN ≤ 6) (hx : p.tables.exec = Jvm.exec) (hb : c.code = cX1_throughChain) (hr : meth.sig.returnType = some .long) (hlocks : meth.locks = false) (G : CallFix p m c cX1_throughChain 9 s args aw RX1) (hgf : GF D s) (hP : va_P D.1 vwCl [(a 0, .inr (1, iF a so lo hi al ch le gr sw su mn)), (a 1, nE f z), (a 2, .inl (D.2.1, 6, .inl KI)), (a 3, .inl (D.2.2.1, 6, .inr (.inl KJ))), (a 4, .inl (D.2.2.2, 6, .inr (.inr (.inr (.inr L)))))] s.heap) (hK : ∀ c, c < cN → leadOK D KJ L kk s.heap c) :
    ∀ (d c1 : Nat) (ls : Array Slot), c1 + d = cN → lv_has ls 9 [(3, .long (gThr f z KI kk c1 v)), (5, .int (nI c1)), (0, .ref (a 0)), (1, .long v)] → W p l e (rmP 5) s m args below meth c s.heap [] 0 0 (MQ below (mS (.long (gThr f z KI kk cN v))) args s 0 0 (fun _ => False)) (F0 m 5 ls []) := by
  intro d
  induction d with
  | zero =>
    intro c1 ls hd hl
    have hge : ch ≤ nI c1 := by rw [hc]; exact nI_le (by omega) (by omega)
    obtain rfl : c1 = cN := by omega
    refine lv_iload hx hb dX1_throughChain_5 (lv_at hl 1 rfl) ?_
    refine lv_aload_n hx hb dX1_throughChain_7 rfl (lv_at hl 2 rfl) ?_
    refine mw_get G hgf (hP 0 _ rfl) rfl inX1 5 (by decide) qw1_226 rfl dX1_throughChain_8 ?_
    refine lv_icmp_ge (tgt := 69) hx hb dX1_throughChain_11 (by decide) (fun _ => ?_) (fun h => absurd hge h)
    refine lv_lload_n hx hb dX1_throughChain_69 rfl (lv_at hl 0 rfl) ?_
    exact mw_lret hx hb hr hlocks dX1_throughChain_70 rfl
  | succ d ih =>
    intro c1 ls hd hl
    have hge : ¬ ch ≤ nI c1 := by rw [hc]; exact nI_ge (by omega) (by omega)
    have hc6 : c1 < 6 := by omega
    rcases hK c1 (by omega) with ⟨hL, hk⟩ | ⟨a2, so2, lo2, hi2, al2, ch2, le2, gr2, sw2, su2, mn2, KE2, hL, hq, hk⟩
    · refine lv_iload hx hb dX1_throughChain_5 (lv_at hl 1 rfl) ?_
      refine lv_aload_n hx hb dX1_throughChain_7 rfl (lv_at hl 2 rfl) ?_
      refine mw_get G hgf (hP 0 _ rfl) rfl inX1 5 (by decide) qw1_226 rfl dX1_throughChain_8 ?_
      refine lv_icmp_ge (tgt := 69) hx hb dX1_throughChain_11 (by decide) (fun h => absurd h hge) (fun _ => ?_)
      refine lv_aload_n hx hb dX1_throughChain_14 rfl (lv_at hl 2 rfl) ?_
      refine mw_get G hgf (hP 0 _ rfl) rfl inX1 12 (by decide) qw1_238 rfl dX1_throughChain_15 ?_
      refine lv_iload hx hb dX1_throughChain_18 (lv_at hl 1 rfl) ?_
      refine mN_aald (f := L) G hgf (hP 4 _ rfl) (k := c1) (rfl) (hc6) (by decide) dX1_throughChain_20 ?_
      rw [show va_rf (L c1) = .null from (by rw [hL]; rfl)]
      refine lv_astoreN (lv' := [(6, .null), (3, .long (gThr f z KI kk c1 v)), (5, .int (nI c1)), (0, .ref (a 0)), (1, .long v)]) hx hb dX1_throughChain_21 hl (by decide) rfl (fun ls hl => ?_)
      refine lv_aloadN hx hb dX1_throughChain_23 (lv_at hl 0 rfl) ?_
      refine lv_ifnonnullN hx hb dX1_throughChain_25 ?_
      refine lv_aload_n hx hb dX1_throughChain_28 rfl (lv_at hl 3 rfl) ?_
      refine mw_get G hgf (hP 0 _ rfl) rfl inX1 11 (by decide) qw1_237 rfl dX1_throughChain_29 ?_
      refine lv_iload hx hb dX1_throughChain_32 (lv_at hl 2 rfl) ?_
      refine mN_lald (f := KJ) G hgf (hP 3 _ rfl) (k := c1) (rfl) (hc6) (by decide) dX1_throughChain_34 ?_
      rw [show KJ c1 = kk c1 from hk.symm]
      refine lv_goto (tgt := 43) hx hb dX1_throughChain_35 (by decide) ?_
      refine lv_lstore (lv' := [(7, .long (kk c1)), (6, .null), (3, .long (gThr f z KI kk c1 v)), (5, .int (nI c1)), (0, .ref (a 0)), (1, .long v)]) hx hb dX1_throughChain_43 hl (by decide) rfl (fun ls hl => ?_)
      refine lv_aload_n hx hb dX1_throughChain_45 rfl (lv_at hl 4 rfl) ?_
      refine mw_get G hgf (hP 0 _ rfl) rfl inX1 1 (by decide) qw1_219 rfl dX1_throughChain_46 ?_
      refine lv_aload_n hx hb dX1_throughChain_49 rfl (lv_at hl 4 rfl) ?_
      refine mw_get G hgf (hP 0 _ rfl) rfl inX1 10 (by decide) qw1_236 rfl dX1_throughChain_50 ?_
      refine lv_iload hx hb dX1_throughChain_53 (lv_at hl 3 rfl) ?_
      refine mN_iald (f := KI) G hgf (hP 2 _ rfl) (k := c1) (rfl) (hc6) (by decide) dX1_throughChain_55 ?_
      refine lv_lload_n hx hb dX1_throughChain_56 rfl (lv_at hl 2 rfl) ?_
      refine lv_lload hx hb dX1_throughChain_57 (lv_at hl 0 rfl) ?_
      refine kgn_stepped (f := f) (z := z) (KI c1) (gThr f z KI kk c1 v) (kk c1) G hgf (hP 1 _ rfl) qw2_151 ⟨Nat.le_of_ble_eq_true rfl, Nat.le_of_ble_eq_true rfl⟩ ⟨(Nat.le_of_ble_eq_true rfl), (Nat.le_of_ble_eq_true rfl)⟩ hl.1 (Nat.le_of_ble_eq_true rfl) dX1_throughChain_59 ?_
      refine lv_lstore_n (lv' := [(3, .long (gn_stepped f z (KI c1) (gThr f z KI kk c1 v) (kk c1))), (7, .long (kk c1)), (6, .null), (5, .int (nI c1)), (0, .ref (a 0)), (1, .long v)]) hx hb dX1_throughChain_62 rfl hl (by decide) rfl (fun ls hl => ?_)
      refine lv_iinc (v := (nI c1) + 1) (lv' := [(5, .int ((nI c1) + 1)), (3, .long (gn_stepped f z (KI c1) (gThr f z KI kk c1 v) (kk c1))), (7, .long (kk c1)), (6, .null), (0, .ref (a 0)), (1, .long v)]) hx hb dX1_throughChain_63 hl (k := 3) rfl rfl (by decide) rfl (fun ls hl => ?_)
      refine lv_goto (tgt := 5) hx hb dX1_throughChain_66 (by decide) ?_
      exact ih (c1 + 1) ls (by omega) (by rw [← nI_1 c1]; exact lv_sub hl [1, 0, 4, 5] rfl)
    · have hP : va_P D.1 vwCl [(a 0, .inr (1, iF a so lo hi al ch le gr sw su mn)), (a 1, nE f z), (a 2, .inl (D.2.1, 6, .inl KI)), (a 3, .inl (D.2.2.1, 6, .inr (.inl KJ))), (a 4, .inl (D.2.2.2, 6, .inr (.inr (.inr (.inr L))))), (a2 0, .inr (1, iF a2 so2 lo2 hi2 al2 ch2 le2 gr2 sw2 su2 mn2)), (a2 5, .inl (D.2.2.1, 16, .inr (.inl KE2)))] s.heap := va_P.app hP hq
      refine lv_iload hx hb dX1_throughChain_5 (lv_at hl 1 rfl) ?_
      refine lv_aload_n hx hb dX1_throughChain_7 rfl (lv_at hl 2 rfl) ?_
      refine mw_get G hgf (hP 0 _ rfl) rfl inX1 5 (by decide) qw1_226 rfl dX1_throughChain_8 ?_
      refine lv_icmp_ge (tgt := 69) hx hb dX1_throughChain_11 (by decide) (fun h => absurd h hge) (fun _ => ?_)
      refine lv_aload_n hx hb dX1_throughChain_14 rfl (lv_at hl 2 rfl) ?_
      refine mw_get G hgf (hP 0 _ rfl) rfl inX1 12 (by decide) qw1_238 rfl dX1_throughChain_15 ?_
      refine lv_iload hx hb dX1_throughChain_18 (lv_at hl 1 rfl) ?_
      refine mN_aald (f := L) G hgf (hP 4 _ rfl) (k := c1) (rfl) (hc6) (by decide) dX1_throughChain_20 ?_
      rw [show va_rf (L c1) = .ref (a2 0) from (by rw [hL]; rfl)]
      refine lv_astore (lv' := [(6, .ref (a2 0)), (3, .long (gThr f z KI kk c1 v)), (5, .int (nI c1)), (0, .ref (a 0)), (1, .long v)]) hx hb dX1_throughChain_21 hl (by decide) rfl (fun ls hl => ?_)
      refine lv_aload hx hb dX1_throughChain_23 (lv_at hl 0 rfl) ?_
      refine lv_ifnonnull (tgt := 38) hx hb dX1_throughChain_25 (by decide) ?_
      refine lv_aload hx hb dX1_throughChain_38 (lv_at hl 0 rfl) ?_
      refine kV (C := RX1) G (cv_gi_latestOrZero l D a2 so2 lo2 hi2 al2 ch2 le2 gr2 sw2 su2 mn2 true true (fun _ => 0) (fun _ => 0) (fun _ => none) KE2 ) okX1_latestOrZero hgf (va_P.sub hP [5, 6] rfl) (mw_recv hgf (hP 5 _ rfl) rfl) qw2_139 ⟨Nat.le_of_ble_eq_true rfl, Nat.le_of_ble_eq_true rfl⟩ ⟨(Nat.le_of_ble_eq_true rfl), (Nat.le_of_ble_eq_true rfl)⟩ hl.1 (Nat.le_of_ble_eq_true rfl) rfl dX1_throughChain_40 ?_
      rw [show gi_latestOrZero mn2 KE2 = kk c1 from hk.symm]
      refine lv_lstore (lv' := [(7, .long (kk c1)), (6, .ref (a2 0)), (3, .long (gThr f z KI kk c1 v)), (5, .int (nI c1)), (0, .ref (a 0)), (1, .long v)]) hx hb dX1_throughChain_43 hl (by decide) rfl (fun ls hl => ?_)
      refine lv_aload_n hx hb dX1_throughChain_45 rfl (lv_at hl 4 rfl) ?_
      refine mw_get G hgf (hP 0 _ rfl) rfl inX1 1 (by decide) qw1_219 rfl dX1_throughChain_46 ?_
      refine lv_aload_n hx hb dX1_throughChain_49 rfl (lv_at hl 4 rfl) ?_
      refine mw_get G hgf (hP 0 _ rfl) rfl inX1 10 (by decide) qw1_236 rfl dX1_throughChain_50 ?_
      refine lv_iload hx hb dX1_throughChain_53 (lv_at hl 3 rfl) ?_
      refine mN_iald (f := KI) G hgf (hP 2 _ rfl) (k := c1) (rfl) (hc6) (by decide) dX1_throughChain_55 ?_
      refine lv_lload_n hx hb dX1_throughChain_56 rfl (lv_at hl 2 rfl) ?_
      refine lv_lload hx hb dX1_throughChain_57 (lv_at hl 0 rfl) ?_
      refine kgn_stepped (f := f) (z := z) (KI c1) (gThr f z KI kk c1 v) (kk c1) G hgf (hP 1 _ rfl) qw2_151 ⟨Nat.le_of_ble_eq_true rfl, Nat.le_of_ble_eq_true rfl⟩ ⟨(Nat.le_of_ble_eq_true rfl), (Nat.le_of_ble_eq_true rfl)⟩ hl.1 (Nat.le_of_ble_eq_true rfl) dX1_throughChain_59 ?_
      refine lv_lstore_n (lv' := [(3, .long (gn_stepped f z (KI c1) (gThr f z KI kk c1 v) (kk c1))), (7, .long (kk c1)), (6, .ref (a2 0)), (5, .int (nI c1)), (0, .ref (a 0)), (1, .long v)]) hx hb dX1_throughChain_62 rfl hl (by decide) rfl (fun ls hl => ?_)
      refine lv_iinc (v := (nI c1) + 1) (lv' := [(5, .int ((nI c1) + 1)), (3, .long (gn_stepped f z (KI c1) (gThr f z KI kk c1 v) (kk c1))), (7, .long (kk c1)), (6, .ref (a2 0)), (0, .ref (a 0)), (1, .long v)]) hx hb dX1_throughChain_63 hl (k := 3) rfl rfl (by decide) rfl (fun ls hl => ?_)
      refine lv_goto (tgt := 5) hx hb dX1_throughChain_66 (by decide) ?_
      exact ih (c1 + 1) ls (by omega) (by rw [← nI_1 c1]; exact lv_sub hl [1, 0, 4, 5] rfl)
set_option maxRecDepth 100000 in
set_option maxHeartbeats 4000000 in
theorem cv_gThr (l : Launch) (D : mG) (a : Nat → Nat) (so : Int32) (lo hi : Int64) (al ch : Int32) (le gr sw su : Int64) (mn : Int32) (f z : Bool) (KI : Nat → Int32) (KJ : Nat → Int64) (L : Nat → Option Nat) (KE : Nat → Int64) (kk : Nat → Int64) (v : Int64) {cN : Nat} (hc : ch = nI cN) (hc6 : cN ≤ 6) : cV l D yX1_throughChain cX1_throughChain 9 .long 5 (fun H => va_P D.1 vwCl [(a 0, .inr (1, iF a so lo hi al ch le gr sw su mn)), (a 1, nE f z), (a 2, .inl (D.2.1, 6, .inl KI)), (a 3, .inl (D.2.2.1, 6, .inr (.inl KJ))), (a 4, .inl (D.2.2.2, 6, .inr (.inr (.inr (.inr L)))))] H ∧ ∀ c, c < cN → leadOK D KJ L kk H c) [.ref (a 0), .long v] (.long (gThr f z KI kk cN v)) := by
  refine cV_of (by decide) (Nat.le_of_ble_eq_true rfl) ?_
  intro p e s m below meth c ls hx hb hr hlocks G hgf hpic hl
  have hl : lv_has ls 9 [(0, .ref (a 0)), (1, .long v)] := hl
  refine lv_lload_n hx hb dX1_throughChain_0 rfl (lv_at hl 1 rfl) ?_
  refine lv_lstore_n (lv' := [(3, .long v), (0, .ref (a 0)), (1, .long v)]) hx hb dX1_throughChain_1 rfl hl (by decide) rfl (fun ls hl => ?_)
  refine lv_iconst (v := 0) hx hb dX1_throughChain_2 (by decide) ?_
  refine lv_istore (lv' := [(5, .int 0), (3, .long v), (0, .ref (a 0)), (1, .long v)]) hx hb dX1_throughChain_3 hl (by decide) rfl (fun ls hl => ?_)
  exact lp_thr hc hc6 hx hb hr hlocks G hgf hpic.1 hpic.2 cN 0 ls (by omega) (lv_sub hl [1, 0, 2, 3] rfl)
