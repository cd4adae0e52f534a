/-! WIDEST. SO, SW, MN, FF, ZZ: sort, swing, number of readings, numbers' class of instrument i -/
def gWid (SO : Nat → Int32) (SW : Nat → Int64) (MN : Nat → Int32) (FF ZZ : Nat → Bool) (so : Int32) : Nat → Option Int64
  | 0 => none
  | i + 1 => if SO i = so then (if gi_hasRead (MN i) = 0 then gWid SO SW MN FF ZZ so i else some (match gWid SO SW MN FF ZZ so i with | none => SW i | some w => gn_greater (FF i) (ZZ i) w (SW i))) else gWid SO SW MN FF ZZ so i
def widOK (D : mG) (IA : Nat → Option Nat) (IX : Nat → Nat → Nat) (SO : Nat → Int32) (SW : Nat → Int64) (MN : Nat → Int32) (FF ZZ : Nat → Bool) (H : Heap) (i : Nat) : Prop := IA i = some (IX i 0) ∧ ∃ (lo hi : Int64) (al ch : Int32) (le gr su : Int64), va_P D.1 vwCl [(IX i 0, .inr (1, iF (IX i) (SO i) lo hi al ch le gr (SW i) su (MN i))), (IX i 1, nE (FF i) (ZZ i))] H
set_option maxRecDepth 100000 in
set_option maxHeartbeats 4000000 in
theorem lp_widV {p : Program} {l : Launch} {e : Env} {s : State} {m : MethodId} {args : Array Value} {below : List Frame} {meth : Method} {c : Code} {D : mG} {Q : State → Prop} {x xa : Nat} {n rd ae se : Int32} {IA : Nat → Option Nat} {IX : Nat → Nat → Nat} {SO : Nat → Int32} {SW : Nat → Int64} {MN : Nat → Int32} {FF ZZ : Nat → Bool} {so : Int32} {N : Nat} (hn : n = nI N) (hN : N ≤ 8) (hx : p.tables.exec = Jvm.exec) (hb : c.code = cX4_widest) (G : CallFix p m c cX4_widest 7 s args aw RX4) (hgf : GF D s) (hP0 : va_P D.1 vwCl [(x, .inr (3, xF xa n rd ae se)), (xa, .inl (D.2.2.2, 8, .inr (.inr (.inr (.inr IA)))))] s.heap) (hw : ∀ i, i < N → widOK D IA IX SO SW MN FF ZZ s.heap i)
    (exit : ∀ (ls : Array Slot), lv_has ls 7 [(3, .long (mst (gWid SO SW MN FF ZZ so N))), (2, .int (fnd (gWid SO SW MN FF ZZ so N))), (0, .ref x), (1, .int so)] → W p l e (rmP 3) s m args below meth c s.heap [] 0 0 Q (F0 m 94 ls [])) :
    ∀ (d i : Nat) (ls : Array Slot), i + d = N → lv_has ls 7 [(5, .int (nI i)), (3, .long (mst (gWid SO SW MN FF ZZ so i))), (2, .int (fnd (gWid SO SW MN FF ZZ so i))), (0, .ref x), (1, .int so)] → W p l e (rmP 3) s m args below meth c s.heap [] 0 0 Q (F0 m 24 ls []) := by
  intro d
  induction d with
  | zero =>
    intro i ls hd hl
    obtain rfl : i = N := by omega
    have hP : va_P D.1 vwCl [(x, .inr (3, xF xa n rd ae se)), (xa, .inl (D.2.2.2, 8, .inr (.inr (.inr (.inr IA)))))] s.heap := hP0
    refine lv_iload hx hb dX4_widest_24 (lv_at hl 0 rfl) ?_
    refine lv_aload_n hx hb dX4_widest_26 rfl (lv_at hl 3 rfl) ?_
    refine mw_get G hgf (hP 0 _ rfl) rfl inX4 1 (by decide) qw1_30 rfl dX4_widest_27 ?_
    refine lv_icmp_ge (tgt := 94) hx hb dX4_widest_30 (by decide) (fun _ => ?_) (fun h => absurd (by rw [hn]; exact Int32.le_refl _) h)
    exact exit ls (lv_sub hl [1, 2, 3, 4] rfl)
  | succ d ih =>
    intro i ls hd hl
    have hge : ¬ n ≤ nI i := by rw [hn]; exact nI_ge (by omega) (by omega)
    have hi8 : i < 8 := by omega
    obtain ⟨hIA, lo, hi, al, ch, le, gr, su, hp1⟩ := hw i (by omega)
    have hP : va_P D.1 vwCl [(x, .inr (3, xF xa n rd ae se)), (xa, .inl (D.2.2.2, 8, .inr (.inr (.inr (.inr IA))))), (IX i 0, .inr (1, iF (IX i) (SO i) lo hi al ch le gr (SW i) su (MN i))), (IX i 1, nE (FF i) (ZZ i))] s.heap := va_P.app hP0 hp1
    by_cases h1 : SO i = so
    · by_cases h2 : gi_hasRead (MN i) = 0
      · have hst : gWid SO SW MN FF ZZ so (i + 1) = gWid SO SW MN FF ZZ so i := (if_pos h1).trans (if_pos h2)
        refine lv_iload hx hb dX4_widest_24 (lv_at hl 0 rfl) ?_
        refine lv_aload_n hx hb dX4_widest_26 rfl (lv_at hl 3 rfl) ?_
        refine mw_get G hgf (hP 0 _ rfl) rfl inX4 1 (by decide) qw1_30 rfl dX4_widest_27 ?_
        refine lv_icmp_ge (tgt := 94) hx hb dX4_widest_30 (by decide) (fun h => absurd h hge) (fun _ => ?_)
        refine lv_aload_n hx hb dX4_widest_33 rfl (lv_at hl 3 rfl) ?_
        refine mw_get G hgf (hP 0 _ rfl) rfl inX4 0 (by decide) qw1_29 rfl dX4_widest_34 ?_
        refine lv_iload hx hb dX4_widest_37 (lv_at hl 0 rfl) ?_
        refine mN_aald (f := IA) G hgf (hP 1 _ rfl) (k := i) (rfl) (hi8) (by decide) dX4_widest_39 ?_
        rw [show va_rf (IA i) = .ref (IX i 0) from (by rw [hIA]; rfl)]
        refine lv_astore (lv' := [(6, .ref (IX i 0)), (5, .int (nI i)), (3, .long (mst (gWid SO SW MN FF ZZ so i))), (2, .int (fnd (gWid SO SW MN FF ZZ so i))), (0, .ref x), (1, .int so)]) hx hb dX4_widest_40 hl (by decide) rfl (fun ls hl => ?_)
        refine lv_aload hx hb dX4_widest_42 (lv_at hl 0 rfl) ?_
        refine mw_get G hgf (hP 2 _ rfl) rfl inX1 0 (by decide) qw1_218 rfl dX4_widest_44 ?_
        refine lv_iload_n hx hb dX4_widest_47 rfl (lv_at hl 5 rfl) ?_
        refine lv_icmp_ne (tgt := 88) hx hb dX4_widest_48 (by decide) (fun h => absurd h1 h) (fun _ => ?_)
        refine lv_aload hx hb dX4_widest_51 (lv_at hl 0 rfl) ?_
        refine kV (C := RX1) G (cv_gi_hasRead l D (IX i) (SO i) lo hi al ch le gr (SW i) su (MN i) true true (fun _ => 0) (fun _ => 0) (fun _ => none) (fun _ => 0)) okX1_hasRead hgf (va_P.sub hP [2] rfl) (mw_recv hgf (hP 2 _ rfl) rfl) qw3_95 ⟨Nat.le_of_ble_eq_true rfl, Nat.le_of_ble_eq_true rfl⟩ ⟨(Nat.le_of_ble_eq_true rfl), (Nat.le_of_ble_eq_true rfl)⟩ hl.1 (Nat.le_of_ble_eq_true rfl) rfl dX4_widest_53 ?_
        refine lv_if_eq (tgt := 88) hx hb dX4_widest_56 (by decide) (fun _ => ?_) (fun h => absurd h2 h)
        refine lv_iinc (v := (nI i) + 1) (lv' := [(5, .int ((nI i) + 1)), (6, .ref (IX i 0)), (3, .long (mst (gWid SO SW MN FF ZZ so i))), (2, .int (fnd (gWid SO SW MN FF ZZ so i))), (0, .ref x), (1, .int so)]) hx hb dX4_widest_88 hl (k := 1) rfl rfl (by decide) rfl (fun ls hl => ?_)
        refine lv_goto (tgt := 24) hx hb dX4_widest_91 (by decide) ?_
        exact ih (i + 1) ls (by omega) (by rw [hst, ← nI_1 i]; exact lv_sub hl [0, 2, 3, 4, 5] rfl)
      · rcases ho : gWid SO SW MN FF ZZ so i with _ | v
        · have hl : lv_has ls 7 [(5, .int (nI i)), (3, .long 0), (2, .int 0), (0, .ref x), (1, .int so)] := by rw [ho] at hl; exact hl
          have hst : gWid SO SW MN FF ZZ so (i + 1) = some (SW i) := ((if_pos h1).trans (if_neg h2)).trans (by rw [ho])
          refine lv_iload hx hb dX4_widest_24 (lv_at hl 0 rfl) ?_
          refine lv_aload_n hx hb dX4_widest_26 rfl (lv_at hl 3 rfl) ?_
          refine mw_get G hgf (hP 0 _ rfl) rfl inX4 1 (by decide) qw1_30 rfl dX4_widest_27 ?_
          refine lv_icmp_ge (tgt := 94) hx hb dX4_widest_30 (by decide) (fun h => absurd h hge) (fun _ => ?_)
          refine lv_aload_n hx hb dX4_widest_33 rfl (lv_at hl 3 rfl) ?_
          refine mw_get G hgf (hP 0 _ rfl) rfl inX4 0 (by decide) qw1_29 rfl dX4_widest_34 ?_
          refine lv_iload hx hb dX4_widest_37 (lv_at hl 0 rfl) ?_
          refine mN_aald (f := IA) G hgf (hP 1 _ rfl) (k := i) (rfl) (hi8) (by decide) dX4_widest_39 ?_
          rw [show va_rf (IA i) = .ref (IX i 0) from (by rw [hIA]; rfl)]
          refine lv_astore (lv' := [(6, .ref (IX i 0)), (5, .int (nI i)), (3, .long 0), (2, .int 0), (0, .ref x), (1, .int so)]) hx hb dX4_widest_40 hl (by decide) rfl (fun ls hl => ?_)
          refine lv_aload hx hb dX4_widest_42 (lv_at hl 0 rfl) ?_
          refine mw_get G hgf (hP 2 _ rfl) rfl inX1 0 (by decide) qw1_218 rfl dX4_widest_44 ?_
          refine lv_iload_n hx hb dX4_widest_47 rfl (lv_at hl 5 rfl) ?_
          refine lv_icmp_ne (tgt := 88) hx hb dX4_widest_48 (by decide) (fun h => absurd h1 h) (fun _ => ?_)
          refine lv_aload hx hb dX4_widest_51 (lv_at hl 0 rfl) ?_
          refine kV (C := RX1) G (cv_gi_hasRead l D (IX i) (SO i) lo hi al ch le gr (SW i) su (MN i) true true (fun _ => 0) (fun _ => 0) (fun _ => none) (fun _ => 0)) okX1_hasRead hgf (va_P.sub hP [2] rfl) (mw_recv hgf (hP 2 _ rfl) rfl) qw3_95 ⟨Nat.le_of_ble_eq_true rfl, Nat.le_of_ble_eq_true rfl⟩ ⟨(Nat.le_of_ble_eq_true rfl), (Nat.le_of_ble_eq_true rfl)⟩ hl.1 (Nat.le_of_ble_eq_true rfl) rfl dX4_widest_53 ?_
          refine lv_if_eq (tgt := 88) hx hb dX4_widest_56 (by decide) (fun h => absurd h h2) (fun _ => ?_)
          refine lv_iload_n hx hb dX4_widest_59 rfl (lv_at hl 3 rfl) ?_
          refine lv_if_eq (tgt := 80) hx hb dX4_widest_60 (by decide) (fun _ => ?_) (fun h => absurd (by decide) h)
          refine lv_aload hx hb dX4_widest_80 (lv_at hl 0 rfl) ?_
          refine mw_get G hgf (hP 2 _ rfl) rfl inX1 8 (by decide) qw1_233 rfl dX4_widest_82 ?_
          refine lv_lstore_n (lv' := [(3, .long (SW i)), (6, .ref (IX i 0)), (5, .int (nI i)), (2, .int 0), (0, .ref x), (1, .int so)]) hx hb dX4_widest_85 rfl hl (by decide) rfl (fun ls hl => ?_)
          refine lv_iconst (v := 1) hx hb dX4_widest_86 (by decide) ?_
          refine lv_istore_n (lv' := [(2, .int 1), (3, .long (SW i)), (6, .ref (IX i 0)), (5, .int (nI i)), (0, .ref x), (1, .int so)]) hx hb dX4_widest_87 rfl hl (by decide) rfl (fun ls hl => ?_)
          refine lv_iinc (v := (nI i) + 1) (lv' := [(5, .int ((nI i) + 1)), (2, .int 1), (3, .long (SW i)), (6, .ref (IX i 0)), (0, .ref x), (1, .int so)]) hx hb dX4_widest_88 hl (k := 3) rfl rfl (by decide) rfl (fun ls hl => ?_)
          refine lv_goto (tgt := 24) hx hb dX4_widest_91 (by decide) ?_
          exact ih (i + 1) ls (by omega) (by rw [hst, ← nI_1 i]; exact lv_sub hl [0, 2, 1, 4, 5] rfl)
        · have hl : lv_has ls 7 [(5, .int (nI i)), (3, .long v), (2, .int 1), (0, .ref x), (1, .int so)] := by rw [ho] at hl; exact hl
          have hst : gWid SO SW MN FF ZZ so (i + 1) = some (gn_greater (FF i) (ZZ i) v (SW i)) := ((if_pos h1).trans (if_neg h2)).trans (by rw [ho])
          refine lv_iload hx hb dX4_widest_24 (lv_at hl 0 rfl) ?_
          refine lv_aload_n hx hb dX4_widest_26 rfl (lv_at hl 3 rfl) ?_
          refine mw_get G hgf (hP 0 _ rfl) rfl inX4 1 (by decide) qw1_30 rfl dX4_widest_27 ?_
          refine lv_icmp_ge (tgt := 94) hx hb dX4_widest_30 (by decide) (fun h => absurd h hge) (fun _ => ?_)
          refine lv_aload_n hx hb dX4_widest_33 rfl (lv_at hl 3 rfl) ?_
          refine mw_get G hgf (hP 0 _ rfl) rfl inX4 0 (by decide) qw1_29 rfl dX4_widest_34 ?_
          refine lv_iload hx hb dX4_widest_37 (lv_at hl 0 rfl) ?_
          refine mN_aald (f := IA) G hgf (hP 1 _ rfl) (k := i) (rfl) (hi8) (by decide) dX4_widest_39 ?_
          rw [show va_rf (IA i) = .ref (IX i 0) from (by rw [hIA]; rfl)]
          refine lv_astore (lv' := [(6, .ref (IX i 0)), (5, .int (nI i)), (3, .long v), (2, .int 1), (0, .ref x), (1, .int so)]) hx hb dX4_widest_40 hl (by decide) rfl (fun ls hl => ?_)
          refine lv_aload hx hb dX4_widest_42 (lv_at hl 0 rfl) ?_
          refine mw_get G hgf (hP 2 _ rfl) rfl inX1 0 (by decide) qw1_218 rfl dX4_widest_44 ?_
          refine lv_iload_n hx hb dX4_widest_47 rfl (lv_at hl 5 rfl) ?_
          refine lv_icmp_ne (tgt := 88) hx hb dX4_widest_48 (by decide) (fun h => absurd h1 h) (fun _ => ?_)
          refine lv_aload hx hb dX4_widest_51 (lv_at hl 0 rfl) ?_
          refine kV (C := RX1) G (cv_gi_hasRead l D (IX i) (SO i) lo hi al ch le gr (SW i) su (MN i) true true (fun _ => 0) (fun _ => 0) (fun _ => none) (fun _ => 0)) okX1_hasRead hgf (va_P.sub hP [2] rfl) (mw_recv hgf (hP 2 _ rfl) rfl) qw3_95 ⟨Nat.le_of_ble_eq_true rfl, Nat.le_of_ble_eq_true rfl⟩ ⟨(Nat.le_of_ble_eq_true rfl), (Nat.le_of_ble_eq_true rfl)⟩ hl.1 (Nat.le_of_ble_eq_true rfl) rfl dX4_widest_53 ?_
          refine lv_if_eq (tgt := 88) hx hb dX4_widest_56 (by decide) (fun h => absurd h h2) (fun _ => ?_)
          refine lv_iload_n hx hb dX4_widest_59 rfl (lv_at hl 3 rfl) ?_
          refine lv_if_eq (tgt := 80) hx hb dX4_widest_60 (by decide) (fun h => absurd h (by decide)) (fun _ => ?_)
          refine lv_aload hx hb dX4_widest_63 (lv_at hl 0 rfl) ?_
          refine mw_get G hgf (hP 2 _ rfl) rfl inX1 1 (by decide) qw1_220 rfl dX4_widest_65 ?_
          refine lv_lload_n hx hb dX4_widest_68 rfl (lv_at hl 2 rfl) ?_
          refine lv_aload hx hb dX4_widest_69 (lv_at hl 0 rfl) ?_
          refine mw_get G hgf (hP 2 _ rfl) rfl inX1 8 (by decide) qw1_233 rfl dX4_widest_71 ?_
          refine kgn_greater (f := (FF i)) (z := (ZZ i)) v (SW i) G hgf (hP 3 _ rfl) qw3_135 ⟨Nat.le_of_ble_eq_true rfl, Nat.le_of_ble_eq_true rfl⟩ ⟨(Nat.le_of_ble_eq_true rfl), (Nat.le_of_ble_eq_true rfl)⟩ hl.1 (Nat.le_of_ble_eq_true rfl) dX4_widest_74 ?_
          refine lv_goto (tgt := 85) hx hb dX4_widest_77 (by decide) ?_
          refine lv_lstore_n (lv' := [(3, .long (gn_greater (FF i) (ZZ i) v (SW i))), (6, .ref (IX i 0)), (5, .int (nI i)), (2, .int 1), (0, .ref x), (1, .int so)]) hx hb dX4_widest_85 rfl hl (by decide) rfl (fun ls hl => ?_)
          refine lv_iconst (v := 1) hx hb dX4_widest_86 (by decide) ?_
          refine lv_istore_n (lv' := [(2, .int 1), (3, .long (gn_greater (FF i) (ZZ i) v (SW i))), (6, .ref (IX i 0)), (5, .int (nI i)), (0, .ref x), (1, .int so)]) hx hb dX4_widest_87 rfl hl (by decide) rfl (fun ls hl => ?_)
          refine lv_iinc (v := (nI i) + 1) (lv' := [(5, .int ((nI i) + 1)), (2, .int 1), (3, .long (gn_greater (FF i) (ZZ i) v (SW i))), (6, .ref (IX i 0)), (0, .ref x), (1, .int so)]) hx hb dX4_widest_88 hl (k := 3) rfl rfl (by decide) rfl (fun ls hl => ?_)
          refine lv_goto (tgt := 24) hx hb dX4_widest_91 (by decide) ?_
          exact ih (i + 1) ls (by omega) (by rw [hst, ← nI_1 i]; exact lv_sub hl [0, 2, 1, 4, 5] rfl)
    · have hst : gWid SO SW MN FF ZZ so (i + 1) = gWid SO SW MN FF ZZ so i := if_neg h1
      refine lv_iload hx hb dX4_widest_24 (lv_at hl 0 rfl) ?_
      refine lv_aload_n hx hb dX4_widest_26 rfl (lv_at hl 3 rfl) ?_
      refine mw_get G hgf (hP 0 _ rfl) rfl inX4 1 (by decide) qw1_30 rfl dX4_widest_27 ?_
      refine lv_icmp_ge (tgt := 94) hx hb dX4_widest_30 (by decide) (fun h => absurd h hge) (fun _ => ?_)
      refine lv_aload_n hx hb dX4_widest_33 rfl (lv_at hl 3 rfl) ?_
      refine mw_get G hgf (hP 0 _ rfl) rfl inX4 0 (by decide) qw1_29 rfl dX4_widest_34 ?_
      refine lv_iload hx hb dX4_widest_37 (lv_at hl 0 rfl) ?_
      refine mN_aald (f := IA) G hgf (hP 1 _ rfl) (k := i) (rfl) (hi8) (by decide) dX4_widest_39 ?_
      rw [show va_rf (IA i) = .ref (IX i 0) from (by rw [hIA]; rfl)]
      refine lv_astore (lv' := [(6, .ref (IX i 0)), (5, .int (nI i)), (3, .long (mst (gWid SO SW MN FF ZZ so i))), (2, .int (fnd (gWid SO SW MN FF ZZ so i))), (0, .ref x), (1, .int so)]) hx hb dX4_widest_40 hl (by decide) rfl (fun ls hl => ?_)
      refine lv_aload hx hb dX4_widest_42 (lv_at hl 0 rfl) ?_
      refine mw_get G hgf (hP 2 _ rfl) rfl inX1 0 (by decide) qw1_218 rfl dX4_widest_44 ?_
      refine lv_iload_n hx hb dX4_widest_47 rfl (lv_at hl 5 rfl) ?_
      refine lv_icmp_ne (tgt := 88) hx hb dX4_widest_48 (by decide) (fun _ => ?_) (fun h => absurd h h1)
      refine lv_iinc (v := (nI i) + 1) (lv' := [(5, .int ((nI i) + 1)), (6, .ref (IX i 0)), (3, .long (mst (gWid SO SW MN FF ZZ so i))), (2, .int (fnd (gWid SO SW MN FF ZZ so i))), (0, .ref x), (1, .int so)]) hx hb dX4_widest_88 hl (k := 1) rfl rfl (by decide) rfl (fun ls hl => ?_)
      refine lv_goto (tgt := 24) hx hb dX4_widest_91 (by decide) ?_
      exact ih (i + 1) ls (by omega) (by rw [hst, ← nI_1 i]; exact lv_sub hl [0, 2, 3, 4, 5] rfl)
set_option maxRecDepth 100000 in
set_option maxHeartbeats 4000000 in
theorem lp_widT {p : Program} {l : Launch} {e : Env} {s : State} {m : MethodId} {args : Array Value} {below : List Frame} {meth : Method} {c : Code} {D : mG} {Q : State → Prop} {x xa : Nat} {n rd ae se : Int32} {IA : Nat → Option Nat} {IX : Nat → Nat → Nat} {SO : Nat → Int32} {SW : Nat → Int64} {MN : Nat → Int32} {FF ZZ : Nat → Bool} {so : Int32} {N : Nat} (hn : n = nI N) (hN : N ≤ 8) (hx : p.tables.exec = Jvm.exec) (hb : c.code = cX4_widest) (G : CallFix p m c cX4_widest 7 s args aw RX4) (hgf : GF D s) (hP0 : va_P D.1 vwCl [(x, .inr (3, xF xa n rd ae se)), (xa, .inl (D.2.2.2, 8, .inr (.inr (.inr (.inr IA)))))] s.heap) (hw : ∀ i, i < N → widOK D IA IX SO SW MN FF ZZ s.heap i)
    (exit : ∀ (ls : Array Slot), lv_has ls 7 [(3, .long (mst (gWid SO SW MN FF ZZ so N))), (2, .int (fnd (gWid SO SW MN FF ZZ so N))), (0, .ref x), (1, .int so)] → W p l e (rmT 6) s m args below meth c s.heap [] 0 0 Q (F0 m 94 ls [])) :
    ∀ (d i : Nat) (ls : Array Slot), i + d = N → lv_has ls 7 [(5, .int (nI i)), (3, .long (mst (gWid SO SW MN FF ZZ so i))), (2, .int (fnd (gWid SO SW MN FF ZZ so i))), (0, .ref x), (1, .int so)] → W p l e (rmT 6) s m args below meth c s.heap [] 0 0 Q (F0 m 24 ls []) := by
  intro d
  induction d with
  | zero =>
    intro i ls hd hl
    obtain rfl : i = N := by omega
    have hP : va_P D.1 vwCl [(x, .inr (3, xF xa n rd ae se)), (xa, .inl (D.2.2.2, 8, .inr (.inr (.inr (.inr IA)))))] s.heap := hP0
    refine lv_iload hx hb dX4_widest_24 (lv_at hl 0 rfl) ?_
    refine lv_aload_n hx hb dX4_widest_26 rfl (lv_at hl 3 rfl) ?_
    refine mw_get G hgf (hP 0 _ rfl) rfl inX4 1 (by decide) qw1_30 rfl dX4_widest_27 ?_
    refine lv_icmp_ge (tgt := 94) hx hb dX4_widest_30 (by decide) (fun _ => ?_) (fun h => absurd (by rw [hn]; exact Int32.le_refl _) h)
    exact exit ls (lv_sub hl [1, 2, 3, 4] rfl)
  | succ d ih =>
    intro i ls hd hl
    have hge : ¬ n ≤ nI i := by rw [hn]; exact nI_ge (by omega) (by omega)
    have hi8 : i < 8 := by omega
    obtain ⟨hIA, lo, hi, al, ch, le, gr, su, hp1⟩ := hw i (by omega)
    have hP : va_P D.1 vwCl [(x, .inr (3, xF xa n rd ae se)), (xa, .inl (D.2.2.2, 8, .inr (.inr (.inr (.inr IA))))), (IX i 0, .inr (1, iF (IX i) (SO i) lo hi al ch le gr (SW i) su (MN i))), (IX i 1, nE (FF i) (ZZ i))] s.heap := va_P.app hP0 hp1
    by_cases h1 : SO i = so
    · by_cases h2 : gi_hasRead (MN i) = 0
      · have hst : gWid SO SW MN FF ZZ so (i + 1) = gWid SO SW MN FF ZZ so i := (if_pos h1).trans (if_pos h2)
        refine lv_iload hx hb dX4_widest_24 (lv_at hl 0 rfl) ?_
        refine lv_aload_n hx hb dX4_widest_26 rfl (lv_at hl 3 rfl) ?_
        refine mw_get G hgf (hP 0 _ rfl) rfl inX4 1 (by decide) qw1_30 rfl dX4_widest_27 ?_
        refine lv_icmp_ge (tgt := 94) hx hb dX4_widest_30 (by decide) (fun h => absurd h hge) (fun _ => ?_)
        refine lv_aload_n hx hb dX4_widest_33 rfl (lv_at hl 3 rfl) ?_
        refine mw_get G hgf (hP 0 _ rfl) rfl inX4 0 (by decide) qw1_29 rfl dX4_widest_34 ?_
        refine lv_iload hx hb dX4_widest_37 (lv_at hl 0 rfl) ?_
        refine mN_aald (f := IA) G hgf (hP 1 _ rfl) (k := i) (rfl) (hi8) (by decide) dX4_widest_39 ?_
        rw [show va_rf (IA i) = .ref (IX i 0) from (by rw [hIA]; rfl)]
        refine lv_astore (lv' := [(6, .ref (IX i 0)), (5, .int (nI i)), (3, .long (mst (gWid SO SW MN FF ZZ so i))), (2, .int (fnd (gWid SO SW MN FF ZZ so i))), (0, .ref x), (1, .int so)]) hx hb dX4_widest_40 hl (by decide) rfl (fun ls hl => ?_)
        refine lv_aload hx hb dX4_widest_42 (lv_at hl 0 rfl) ?_
        refine mw_get G hgf (hP 2 _ rfl) rfl inX1 0 (by decide) qw1_218 rfl dX4_widest_44 ?_
        refine lv_iload_n hx hb dX4_widest_47 rfl (lv_at hl 5 rfl) ?_
        refine lv_icmp_ne (tgt := 88) hx hb dX4_widest_48 (by decide) (fun h => absurd h1 h) (fun _ => ?_)
        refine lv_aload hx hb dX4_widest_51 (lv_at hl 0 rfl) ?_
        refine kV (C := RX1) G (cv_gi_hasRead l D (IX i) (SO i) lo hi al ch le gr (SW i) su (MN i) true true (fun _ => 0) (fun _ => 0) (fun _ => none) (fun _ => 0)) okX1_hasRead hgf (va_P.sub hP [2] rfl) (mw_recv hgf (hP 2 _ rfl) rfl) qw3_95 ⟨Nat.le_of_ble_eq_true rfl, Nat.le_of_ble_eq_true rfl⟩ ⟨(Nat.le_of_ble_eq_true rfl), (Nat.le_of_ble_eq_true rfl)⟩ hl.1 (Nat.le_of_ble_eq_true rfl) rfl dX4_widest_53 ?_
        refine lv_if_eq (tgt := 88) hx hb dX4_widest_56 (by decide) (fun _ => ?_) (fun h => absurd h2 h)
        refine lv_iinc (v := (nI i) + 1) (lv' := [(5, .int ((nI i) + 1)), (6, .ref (IX i 0)), (3, .long (mst (gWid SO SW MN FF ZZ so i))), (2, .int (fnd (gWid SO SW MN FF ZZ so i))), (0, .ref x), (1, .int so)]) hx hb dX4_widest_88 hl (k := 1) rfl rfl (by decide) rfl (fun ls hl => ?_)
        refine lv_goto (tgt := 24) hx hb dX4_widest_91 (by decide) ?_
        exact ih (i + 1) ls (by omega) (by rw [hst, ← nI_1 i]; exact lv_sub hl [0, 2, 3, 4, 5] rfl)
      · rcases ho : gWid SO SW MN FF ZZ so i with _ | v
        · have hl : lv_has ls 7 [(5, .int (nI i)), (3, .long 0), (2, .int 0), (0, .ref x), (1, .int so)] := by rw [ho] at hl; exact hl
          have hst : gWid SO SW MN FF ZZ so (i + 1) = some (SW i) := ((if_pos h1).trans (if_neg h2)).trans (by rw [ho])
          refine lv_iload hx hb dX4_widest_24 (lv_at hl 0 rfl) ?_
          refine lv_aload_n hx hb dX4_widest_26 rfl (lv_at hl 3 rfl) ?_
          refine mw_get G hgf (hP 0 _ rfl) rfl inX4 1 (by decide) qw1_30 rfl dX4_widest_27 ?_
          refine lv_icmp_ge (tgt := 94) hx hb dX4_widest_30 (by decide) (fun h => absurd h hge) (fun _ => ?_)
          refine lv_aload_n hx hb dX4_widest_33 rfl (lv_at hl 3 rfl) ?_
          refine mw_get G hgf (hP 0 _ rfl) rfl inX4 0 (by decide) qw1_29 rfl dX4_widest_34 ?_
          refine lv_iload hx hb dX4_widest_37 (lv_at hl 0 rfl) ?_
          refine mN_aald (f := IA) G hgf (hP 1 _ rfl) (k := i) (rfl) (hi8) (by decide) dX4_widest_39 ?_
          rw [show va_rf (IA i) = .ref (IX i 0) from (by rw [hIA]; rfl)]
          refine lv_astore (lv' := [(6, .ref (IX i 0)), (5, .int (nI i)), (3, .long 0), (2, .int 0), (0, .ref x), (1, .int so)]) hx hb dX4_widest_40 hl (by decide) rfl (fun ls hl => ?_)
          refine lv_aload hx hb dX4_widest_42 (lv_at hl 0 rfl) ?_
          refine mw_get G hgf (hP 2 _ rfl) rfl inX1 0 (by decide) qw1_218 rfl dX4_widest_44 ?_
          refine lv_iload_n hx hb dX4_widest_47 rfl (lv_at hl 5 rfl) ?_
          refine lv_icmp_ne (tgt := 88) hx hb dX4_widest_48 (by decide) (fun h => absurd h1 h) (fun _ => ?_)
          refine lv_aload hx hb dX4_widest_51 (lv_at hl 0 rfl) ?_
          refine kV (C := RX1) G (cv_gi_hasRead l D (IX i) (SO i) lo hi al ch le gr (SW i) su (MN i) true true (fun _ => 0) (fun _ => 0) (fun _ => none) (fun _ => 0)) okX1_hasRead hgf (va_P.sub hP [2] rfl) (mw_recv hgf (hP 2 _ rfl) rfl) qw3_95 ⟨Nat.le_of_ble_eq_true rfl, Nat.le_of_ble_eq_true rfl⟩ ⟨(Nat.le_of_ble_eq_true rfl), (Nat.le_of_ble_eq_true rfl)⟩ hl.1 (Nat.le_of_ble_eq_true rfl) rfl dX4_widest_53 ?_
          refine lv_if_eq (tgt := 88) hx hb dX4_widest_56 (by decide) (fun h => absurd h h2) (fun _ => ?_)
          refine lv_iload_n hx hb dX4_widest_59 rfl (lv_at hl 3 rfl) ?_
          refine lv_if_eq (tgt := 80) hx hb dX4_widest_60 (by decide) (fun _ => ?_) (fun h => absurd (by decide) h)
          refine lv_aload hx hb dX4_widest_80 (lv_at hl 0 rfl) ?_
          refine mw_get G hgf (hP 2 _ rfl) rfl inX1 8 (by decide) qw1_233 rfl dX4_widest_82 ?_
          refine lv_lstore_n (lv' := [(3, .long (SW i)), (6, .ref (IX i 0)), (5, .int (nI i)), (2, .int 0), (0, .ref x), (1, .int so)]) hx hb dX4_widest_85 rfl hl (by decide) rfl (fun ls hl => ?_)
          refine lv_iconst (v := 1) hx hb dX4_widest_86 (by decide) ?_
          refine lv_istore_n (lv' := [(2, .int 1), (3, .long (SW i)), (6, .ref (IX i 0)), (5, .int (nI i)), (0, .ref x), (1, .int so)]) hx hb dX4_widest_87 rfl hl (by decide) rfl (fun ls hl => ?_)
          refine lv_iinc (v := (nI i) + 1) (lv' := [(5, .int ((nI i) + 1)), (2, .int 1), (3, .long (SW i)), (6, .ref (IX i 0)), (0, .ref x), (1, .int so)]) hx hb dX4_widest_88 hl (k := 3) rfl rfl (by decide) rfl (fun ls hl => ?_)
          refine lv_goto (tgt := 24) hx hb dX4_widest_91 (by decide) ?_
          exact ih (i + 1) ls (by omega) (by rw [hst, ← nI_1 i]; exact lv_sub hl [0, 2, 1, 4, 5] rfl)
        · have hl : lv_has ls 7 [(5, .int (nI i)), (3, .long v), (2, .int 1), (0, .ref x), (1, .int so)] := by rw [ho] at hl; exact hl
          have hst : gWid SO SW MN FF ZZ so (i + 1) = some (gn_greater (FF i) (ZZ i) v (SW i)) := ((if_pos h1).trans (if_neg h2)).trans (by rw [ho])
          refine lv_iload hx hb dX4_widest_24 (lv_at hl 0 rfl) ?_
          refine lv_aload_n hx hb dX4_widest_26 rfl (lv_at hl 3 rfl) ?_
          refine mw_get G hgf (hP 0 _ rfl) rfl inX4 1 (by decide) qw1_30 rfl dX4_widest_27 ?_
          refine lv_icmp_ge (tgt := 94) hx hb dX4_widest_30 (by decide) (fun h => absurd h hge) (fun _ => ?_)
          refine lv_aload_n hx hb dX4_widest_33 rfl (lv_at hl 3 rfl) ?_
          refine mw_get G hgf (hP 0 _ rfl) rfl inX4 0 (by decide) qw1_29 rfl dX4_widest_34 ?_
          refine lv_iload hx hb dX4_widest_37 (lv_at hl 0 rfl) ?_
          refine mN_aald (f := IA) G hgf (hP 1 _ rfl) (k := i) (rfl) (hi8) (by decide) dX4_widest_39 ?_
          rw [show va_rf (IA i) = .ref (IX i 0) from (by rw [hIA]; rfl)]
          refine lv_astore (lv' := [(6, .ref (IX i 0)), (5, .int (nI i)), (3, .long v), (2, .int 1), (0, .ref x), (1, .int so)]) hx hb dX4_widest_40 hl (by decide) rfl (fun ls hl => ?_)
          refine lv_aload hx hb dX4_widest_42 (lv_at hl 0 rfl) ?_
          refine mw_get G hgf (hP 2 _ rfl) rfl inX1 0 (by decide) qw1_218 rfl dX4_widest_44 ?_
          refine lv_iload_n hx hb dX4_widest_47 rfl (lv_at hl 5 rfl) ?_
          refine lv_icmp_ne (tgt := 88) hx hb dX4_widest_48 (by decide) (fun h => absurd h1 h) (fun _ => ?_)
          refine lv_aload hx hb dX4_widest_51 (lv_at hl 0 rfl) ?_
          refine kV (C := RX1) G (cv_gi_hasRead l D (IX i) (SO i) lo hi al ch le gr (SW i) su (MN i) true true (fun _ => 0) (fun _ => 0) (fun _ => none) (fun _ => 0)) okX1_hasRead hgf (va_P.sub hP [2] rfl) (mw_recv hgf (hP 2 _ rfl) rfl) qw3_95 ⟨Nat.le_of_ble_eq_true rfl, Nat.le_of_ble_eq_true rfl⟩ ⟨(Nat.le_of_ble_eq_true rfl), (Nat.le_of_ble_eq_true rfl)⟩ hl.1 (Nat.le_of_ble_eq_true rfl) rfl dX4_widest_53 ?_
          refine lv_if_eq (tgt := 88) hx hb dX4_widest_56 (by decide) (fun h => absurd h h2) (fun _ => ?_)
          refine lv_iload_n hx hb dX4_widest_59 rfl (lv_at hl 3 rfl) ?_
          refine lv_if_eq (tgt := 80) hx hb dX4_widest_60 (by decide) (fun h => absurd h (by decide)) (fun _ => ?_)
          refine lv_aload hx hb dX4_widest_63 (lv_at hl 0 rfl) ?_
          refine mw_get G hgf (hP 2 _ rfl) rfl inX1 1 (by decide) qw1_220 rfl dX4_widest_65 ?_
          refine lv_lload_n hx hb dX4_widest_68 rfl (lv_at hl 2 rfl) ?_
          refine lv_aload hx hb dX4_widest_69 (lv_at hl 0 rfl) ?_
          refine mw_get G hgf (hP 2 _ rfl) rfl inX1 8 (by decide) qw1_233 rfl dX4_widest_71 ?_
          refine kgn_greater (f := (FF i)) (z := (ZZ i)) v (SW i) G hgf (hP 3 _ rfl) qw3_135 ⟨Nat.le_of_ble_eq_true rfl, Nat.le_of_ble_eq_true rfl⟩ ⟨(Nat.le_of_ble_eq_true rfl), (Nat.le_of_ble_eq_true rfl)⟩ hl.1 (Nat.le_of_ble_eq_true rfl) dX4_widest_74 ?_
          refine lv_goto (tgt := 85) hx hb dX4_widest_77 (by decide) ?_
          refine lv_lstore_n (lv' := [(3, .long (gn_greater (FF i) (ZZ i) v (SW i))), (6, .ref (IX i 0)), (5, .int (nI i)), (2, .int 1), (0, .ref x), (1, .int so)]) hx hb dX4_widest_85 rfl hl (by decide) rfl (fun ls hl => ?_)
          refine lv_iconst (v := 1) hx hb dX4_widest_86 (by decide) ?_
          refine lv_istore_n (lv' := [(2, .int 1), (3, .long (gn_greater (FF i) (ZZ i) v (SW i))), (6, .ref (IX i 0)), (5, .int (nI i)), (0, .ref x), (1, .int so)]) hx hb dX4_widest_87 rfl hl (by decide) rfl (fun ls hl => ?_)
          refine lv_iinc (v := (nI i) + 1) (lv' := [(5, .int ((nI i) + 1)), (2, .int 1), (3, .long (gn_greater (FF i) (ZZ i) v (SW i))), (6, .ref (IX i 0)), (0, .ref x), (1, .int so)]) hx hb dX4_widest_88 hl (k := 3) rfl rfl (by decide) rfl (fun ls hl => ?_)
          refine lv_goto (tgt := 24) hx hb dX4_widest_91 (by decide) ?_
          exact ih (i + 1) ls (by omega) (by rw [hst, ← nI_1 i]; exact lv_sub hl [0, 2, 1, 4, 5] rfl)
    · have hst : gWid SO SW MN FF ZZ so (i + 1) = gWid SO SW MN FF ZZ so i := if_neg h1
      refine lv_iload hx hb dX4_widest_24 (lv_at hl 0 rfl) ?_
      refine lv_aload_n hx hb dX4_widest_26 rfl (lv_at hl 3 rfl) ?_
      refine mw_get G hgf (hP 0 _ rfl) rfl inX4 1 (by decide) qw1_30 rfl dX4_widest_27 ?_
      refine lv_icmp_ge (tgt := 94) hx hb dX4_widest_30 (by decide) (fun h => absurd h hge) (fun _ => ?_)
      refine lv_aload_n hx hb dX4_widest_33 rfl (lv_at hl 3 rfl) ?_
      refine mw_get G hgf (hP 0 _ rfl) rfl inX4 0 (by decide) qw1_29 rfl dX4_widest_34 ?_
      refine lv_iload hx hb dX4_widest_37 (lv_at hl 0 rfl) ?_
      refine mN_aald (f := IA) G hgf (hP 1 _ rfl) (k := i) (rfl) (hi8) (by decide) dX4_widest_39 ?_
      rw [show va_rf (IA i) = .ref (IX i 0) from (by rw [hIA]; rfl)]
      refine lv_astore (lv' := [(6, .ref (IX i 0)), (5, .int (nI i)), (3, .long (mst (gWid SO SW MN FF ZZ so i))), (2, .int (fnd (gWid SO SW MN FF ZZ so i))), (0, .ref x), (1, .int so)]) hx hb dX4_widest_40 hl (by decide) rfl (fun ls hl => ?_)
      refine lv_aload hx hb dX4_widest_42 (lv_at hl 0 rfl) ?_
      refine mw_get G hgf (hP 2 _ rfl) rfl inX1 0 (by decide) qw1_218 rfl dX4_widest_44 ?_
      refine lv_iload_n hx hb dX4_widest_47 rfl (lv_at hl 5 rfl) ?_
      refine lv_icmp_ne (tgt := 88) hx hb dX4_widest_48 (by decide) (fun _ => ?_) (fun h => absurd h h1)
      refine lv_iinc (v := (nI i) + 1) (lv' := [(5, .int ((nI i) + 1)), (6, .ref (IX i 0)), (3, .long (mst (gWid SO SW MN FF ZZ so i))), (2, .int (fnd (gWid SO SW MN FF ZZ so i))), (0, .ref x), (1, .int so)]) hx hb dX4_widest_88 hl (k := 1) rfl rfl (by decide) rfl (fun ls hl => ?_)
      refine lv_goto (tgt := 24) hx hb dX4_widest_91 (by decide) ?_
      exact ih (i + 1) ls (by omega) (by rw [hst, ← nI_1 i]; exact lv_sub hl [0, 2, 3, 4, 5] rfl)
set_option maxRecDepth 100000 in
set_option maxHeartbeats 4000000 in
theorem cv_widest (l : Launch) (D : mG) (x xa : Nat) (n rd ae se : Int32) (IA : Nat → Option Nat) (IX : Nat → Nat → Nat) (SO : Nat → Int32) (SW : Nat → Int64) (MN : Nat → Int32) (FF ZZ : Nat → Bool) (so : Int32) {N : Nat} (hn : n = nI N) (hN : N ≤ 8) (h1 : ¬ fX4_isSort so = 0) {v : Int64} (ho : gWid SO SW MN FF ZZ so N = some v) : cV l D yX4_widest cX4_widest 7 .long 3 (fun H => va_P D.1 vwCl [(x, .inr (3, xF xa n rd ae se)), (xa, .inl (D.2.2.2, 8, .inr (.inr (.inr (.inr IA)))))] H ∧ ∀ i, i < N → widOK D IA IX SO SW MN FF ZZ H i) [.ref x, .int so] (.long v) := by
  refine cV_of (by decide) (Nat.le_of_ble_eq_true rfl) ?_
  intro p e s m below meth c ls hx hb hr hlocks G hgf hpic hl
  have hP : va_P D.1 vwCl [(x, .inr (3, xF xa n rd ae se)), (xa, .inl (D.2.2.2, 8, .inr (.inr (.inr (.inr IA)))))] s.heap := hpic.1
  have hl : lv_has ls 7 [(0, .ref x), (1, .int so)] := hl
  refine lv_iload_n hx hb dX4_widest_0 rfl (lv_at hl 1 rfl) ?_
  refine kS G (cvX4_isSort l D so) okX4_isSort hgf trivial qw1_58 ⟨Nat.le_of_ble_eq_true rfl, Nat.le_of_ble_eq_true rfl⟩ ⟨(Nat.le_of_ble_eq_true rfl), (Nat.le_of_ble_eq_true rfl)⟩ hl.1 (Nat.le_of_ble_eq_true rfl) rfl dX4_widest_1 ?_
  refine lv_if_ne (tgt := 17) hx hb dX4_widest_4 (by decide) (fun _ => ?_) (fun h => absurd h h1)
  refine lv_iconst (v := 0) hx hb dX4_widest_17 (by decide) ?_
  refine lv_istore_n (lv' := [(2, .int 0), (0, .ref x), (1, .int so)]) hx hb dX4_widest_18 rfl hl (by decide) rfl (fun ls hl => ?_)
  refine lv_lconst (v := 0) hx hb dX4_widest_19 (by decide) ?_
  refine lv_lstore_n (lv' := [(3, .long 0), (2, .int 0), (0, .ref x), (1, .int so)]) hx hb dX4_widest_20 rfl hl (by decide) rfl (fun ls hl => ?_)
  refine lv_iconst (v := 0) hx hb dX4_widest_21 (by decide) ?_
  refine lv_istore (lv' := [(5, .int 0), (3, .long 0), (2, .int 0), (0, .ref x), (1, .int so)]) hx hb dX4_widest_22 hl (by decide) rfl (fun ls hl => ?_)
  refine lp_widV hn hN hx hb G hgf hP hpic.2 (fun ls hl => ?_) N 0 ls (by omega) (lv_sub hl [0, 1, 2, 3, 4] rfl)
  have hl : lv_has ls 7 [(3, .long v), (2, .int 1), (0, .ref x), (1, .int so)] := by rw [ho] at hl; exact hl
  refine lv_iload_n hx hb dX4_widest_94 rfl (lv_at hl 1 rfl) ?_
  refine lv_if_ne (tgt := 108) hx hb dX4_widest_95 (by decide) (fun _ => ?_) (fun h => absurd h (by decide))
  refine lv_lload_n hx hb dX4_widest_108 rfl (lv_at hl 0 rfl) ?_
  exact mw_lret hx hb hr hlocks dX4_widest_109 rfl
set_option maxRecDepth 100000 in
set_option maxHeartbeats 4000000 in
theorem ct_widest_2 (l : Launch) (D : mG) (x xa : Nat) (n rd ae se : Int32) (IA : Nat → Option Nat) (IX : Nat → Nat → Nat) (SO : Nat → Int32) (SW : Nat → Int64) (MN : Nat → Int32) (FF ZZ : Nat → Bool) (so : Int32) (hlt : l.stackTraces = false) {N : Nat} (hn : n = nI N) (hN : N ≤ 8) (h1 : ¬ fX4_isSort so = 0) (ho : gWid SO SW MN FF ZZ so N = none) : cT l D yX4_widest cX4_widest 7 .long 6 (fun H => va_P D.1 vwCl [(x, .inr (3, xF xa n rd ae se)), (xa, .inl (D.2.2.2, 8, .inr (.inr (.inr (.inr IA)))))] H ∧ ∀ i, i < N → widOK D IA IX SO SW MN FF ZZ H i) [.ref x, .int so] "java/util/NoSuchElementException" := by
  refine cT_of (by decide) (Nat.le_of_ble_eq_true rfl) ?_
  intro p e s m below meth c ls hx hb hlocks hex G hgf hz hpic hl
  have hP : va_P D.1 vwCl [(x, .inr (3, xF xa n rd ae se)), (xa, .inl (D.2.2.2, 8, .inr (.inr (.inr (.inr IA)))))] s.heap := hpic.1
  have hl : lv_has ls 7 [(0, .ref x), (1, .int so)] := hl
  refine lv_iload_n hx hb dX4_widest_0 rfl (lv_at hl 1 rfl) ?_
  refine kS G (cvX4_isSort l D so) okX4_isSort hgf trivial qw1_58 ⟨Nat.le_of_ble_eq_true rfl, Nat.le_of_ble_eq_true rfl⟩ ⟨(Nat.le_of_ble_eq_true rfl), (Nat.le_of_ble_eq_true rfl)⟩ hl.1 (Nat.le_of_ble_eq_true rfl) rfl dX4_widest_1 ?_
  refine lv_if_ne (tgt := 17) hx hb dX4_widest_4 (by decide) (fun _ => ?_) (fun h => absurd h h1)
  refine lv_iconst (v := 0) hx hb dX4_widest_17 (by decide) ?_
  refine lv_istore_n (lv' := [(2, .int 0), (0, .ref x), (1, .int so)]) hx hb dX4_widest_18 rfl hl (by decide) rfl (fun ls hl => ?_)
  refine lv_lconst (v := 0) hx hb dX4_widest_19 (by decide) ?_
  refine lv_lstore_n (lv' := [(3, .long 0), (2, .int 0), (0, .ref x), (1, .int so)]) hx hb dX4_widest_20 rfl hl (by decide) rfl (fun ls hl => ?_)
  refine lv_iconst (v := 0) hx hb dX4_widest_21 (by decide) ?_
  refine lv_istore (lv' := [(5, .int 0), (3, .long 0), (2, .int 0), (0, .ref x), (1, .int so)]) hx hb dX4_widest_22 hl (by decide) rfl (fun ls hl => ?_)
  refine lp_widT hn hN hx hb G hgf hP hpic.2 (fun ls hl => ?_) N 0 ls (by omega) (lv_sub hl [0, 1, 2, 3, 4] rfl)
  have hl : lv_has ls 7 [(3, .long 0), (2, .int 0), (0, .ref x), (1, .int so)] := by rw [ho] at hl; exact hl
  refine lv_iload_n hx hb dX4_widest_94 rfl (lv_at hl 1 rfl) ?_
  refine lv_if_ne (tgt := 108) hx hb dX4_widest_95 (by decide) (fun h => absurd (by decide) h) (fun _ => ?_)
  exact mw_throwN (sup := "java/lang/RuntimeException") (names := ["java/lang/Exception"]) hlt G hlocks hex hgf hz (by decide +kernel) (by decide +kernel) (by decide +kernel) dN_0 dN_1 dN_2 dN_5 qw3_70 qw1_18 (text := "no instrument of this sort has read anything") (by decide +kernel) (by decide +kernel) ex1_NoSuchElementException ex2_NoSuchElementException ex3_NoSuchElementException hl.1 ⟨(Nat.le_of_ble_eq_true rfl), (Nat.le_of_ble_eq_true rfl), (Nat.le_of_ble_eq_true rfl), (Nat.le_of_ble_eq_true rfl)⟩ dX4_widest_98 dX4_widest_101 dX4_widest_102 dX4_widest_104 dX4_widest_107
