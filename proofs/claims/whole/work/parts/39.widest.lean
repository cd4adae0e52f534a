/-! WIDEST. SO, SW, MN, FF, ZZ: sort, swing, number of readings, numbers' class of instrument i -/
def gWid (SO : Nat → Int32) (SW : Nat → Int64) (MN : Nat → Int32) (FF ZZ : Nat → Bool) (so : Int32) : Nat → Option Int64
  | 0 => none
  | i + 1 => if SO i = so then (if gi_hasRead (MN i) = 0 then gWid SO SW MN FF ZZ so i else some (match gWid SO SW MN FF ZZ so i with | none => SW i | some w => gn_greater (FF i) (ZZ i) w (SW i))) else gWid SO SW MN FF ZZ so i
def widOK (D : mG) (IA : Nat → Option Nat) (IX : Nat → Nat → Nat) (SO : Nat → Int32) (SW : Nat → Int64) (MN : Nat → Int32) (FF ZZ : Nat → Bool) (H : Heap) (i : Nat) : Prop := IA i = some (IX i 0) ∧ ∃ (lo hi : Int64) (al ch : Int32) (le gr su : Int64), va_P D.1 vwCl [(IX i 0, .inr (1, iF (IX i) (SO i) lo hi al ch le gr (SW i) su (MN i))), (IX i 1, nE (FF i) (ZZ i))] H
set_option maxRecDepth 100000 in
set_option maxHeartbeats 4000000 in
theorem lp_widV {p : Program} {l : Launch} {e : Env} {s : State} {m : MethodId} {args : Array Value} {below : List Frame} {meth : Method} {c : Code} {D : mG} {Q : State → Prop} {x xa : Nat} {n rd ae se : Int32} {IA : Nat → Option Nat} {IX : Nat → Nat → Nat} {SO : Nat → Int32} {SW : Nat → Int64} {MN : Nat → Int32} {FF ZZ : Nat → Bool} {so : Int32} {N : Nat} (hn : n = nI N) (hN : N ≤ 8) (hz0 : ∀ i, N ≤ i → IA i = none) (hx : p.tables.exec = Jvm.exec) (hb : c.code = cX4_widest) (G : CallFix p m c cX4_widest 9 s args aw RX4) (hgf : GF D s) (hP0 : va_P D.1 vwCl [(x, .inr (3, xF xa n rd ae se)), (xa, .inl (D.2.2.2, 8, .inr (.inr (.inr (.inr IA)))))] s.heap) (hw : ∀ i, i < N → widOK D IA IX SO SW MN FF ZZ s.heap i)
    (exit : ∀ (ls : Array Slot), lv_has ls 9 [(3, .long (mst (gWid SO SW MN FF ZZ so N))), (2, .int (fnd (gWid SO SW MN FF ZZ so N))), (0, .ref x), (1, .int so)] → W p l e (rmP 3) s m args below meth c s.heap [] 0 0 Q (F0 m 106 ls [])) :
    ∀ (d i : Nat) (ls : Array Slot), i + d = 8 → lv_has ls 9 [(7, .int (nI i)), (6, .int 8), (5, .ref xa), (3, .long (mst (gWid SO SW MN FF ZZ so (min i N)))), (2, .int (fnd (gWid SO SW MN FF ZZ so (min i N)))), (0, .ref x), (1, .int so)] → W p l e (rmP 3) s m args below meth c s.heap [] 0 0 Q (F0 m 35 ls []) := by
  intro d
  induction d with
  | zero =>
    intro i ls hd hl
    have hP : va_P D.1 vwCl [(x, .inr (3, xF xa n rd ae se)), (xa, .inl (D.2.2.2, 8, .inr (.inr (.inr (.inr IA)))))] s.heap := hP0
    have hge : (8 : Int32) ≤ nI i := nI_le (a := 8) (by omega) (by omega)
    rw [show min i N = N by omega] at hl
    refine lv_iload hx hb dX4_widest_35 (lv_at hl 0 rfl) ?_
    refine lv_iload hx hb dX4_widest_37 (lv_at hl 1 rfl) ?_
    refine lv_icmp_ge (tgt := 106) hx hb dX4_widest_39 (by decide) (fun _ => ?_) (fun h => absurd hge h)
    exact exit ls (lv_sub hl [3, 4, 5, 6] rfl)
  | succ d ih =>
    intro i ls hd hl
    have hi8 : i < 8 := by omega
    have hge : ¬ (8 : Int32) ≤ nI i := nI_ge (a := i) (b := 8) hi8 (by decide)
    by_cases hiN : i < N
    · rw [show min i N = i by omega] at hl
      have e1 : min (i + 1) N = i + 1 := by omega
      obtain ⟨hIA, lo, hi, al, ch, le, gr, su, hp1⟩ := hw i hiN
      have hP : va_P D.1 vwCl [(x, .inr (3, xF xa n rd ae se)), (xa, .inl (D.2.2.2, 8, .inr (.inr (.inr (.inr IA))))), (IX i 0, .inr (1, iF (IX i) (SO i) lo hi al ch le gr (SW i) su (MN i))), (IX i 1, nE (FF i) (ZZ i))] s.heap := va_P.app hP0 hp1
      by_cases h1 : SO i = so
      · by_cases h2 : gi_hasRead (MN i) = 0
        · have hst : gWid SO SW MN FF ZZ so (min (i + 1) N) = gWid SO SW MN FF ZZ so i := by rw [e1]; exact (if_pos h1).trans (if_pos h2)
          refine lv_iload hx hb dX4_widest_35 (lv_at hl 0 rfl) ?_
          refine lv_iload hx hb dX4_widest_37 (lv_at hl 1 rfl) ?_
          refine lv_icmp_ge (tgt := 106) hx hb dX4_widest_39 (by decide) (fun h => absurd h hge) (fun _ => ?_)
          refine lv_aload hx hb dX4_widest_42 (lv_at hl 2 rfl) ?_
          refine lv_iload hx hb dX4_widest_44 (lv_at hl 0 rfl) ?_
          refine mN_aald (f := IA) G hgf (hP 1 _ rfl) (k := i) (rfl) (hi8) (by decide) dX4_widest_46 ?_
          rw [show va_rf (IA i) = .ref (IX i 0) from (by rw [hIA]; rfl)]
          refine lv_astore (lv' := [(8, .ref (IX i 0)), (7, .int (nI i)), (6, .int 8), (5, .ref xa), (3, .long (mst (gWid SO SW MN FF ZZ so i))), (2, .int (fnd (gWid SO SW MN FF ZZ so i))), (0, .ref x), (1, .int so)]) hx hb dX4_widest_47 hl (by decide) rfl (fun ls hl => ?_)
          refine lv_aload hx hb dX4_widest_49 (lv_at hl 0 rfl) ?_
          refine lv_ifnull hx hb dX4_widest_51 ?_
          refine lv_aload hx hb dX4_widest_54 (lv_at hl 0 rfl) ?_
          refine mw_get G hgf (hP 2 _ rfl) rfl inX1 0 (by decide) qw1_218 rfl dX4_widest_56 ?_
          refine lv_iload_n hx hb dX4_widest_59 rfl (lv_at hl 7 rfl) ?_
          refine lv_icmp_ne (tgt := 100) hx hb dX4_widest_60 (by decide) (fun h => absurd h1 h) (fun _ => ?_)
          refine lv_aload hx hb dX4_widest_63 (lv_at hl 0 rfl) ?_
          refine kV (C := RX1) G (cv_gi_hasRead l D (IX i) (SO i) lo hi al ch le gr (SW i) su (MN i) true true (fun _ => 0) (fun _ => 0) (fun _ => none) (fun _ => 0)) okX1_hasRead hgf (va_P.sub hP [2] rfl) (mw_recv hgf (hP 2 _ rfl) rfl) qw3_96 ⟨Nat.le_of_ble_eq_true rfl, Nat.le_of_ble_eq_true rfl⟩ ⟨(Nat.le_of_ble_eq_true rfl), (Nat.le_of_ble_eq_true rfl)⟩ hl.1 (Nat.le_of_ble_eq_true rfl) rfl dX4_widest_65 ?_
          refine lv_if_eq (tgt := 100) hx hb dX4_widest_68 (by decide) (fun _ => ?_) (fun h => absurd h2 h)
          refine lv_iinc (v := (nI i) + 1) (lv' := [(7, .int ((nI i) + 1)), (8, .ref (IX i 0)), (6, .int 8), (5, .ref xa), (3, .long (mst (gWid SO SW MN FF ZZ so i))), (2, .int (fnd (gWid SO SW MN FF ZZ so i))), (0, .ref x), (1, .int so)]) hx hb dX4_widest_100 hl (k := 1) rfl rfl (by decide) rfl (fun ls hl => ?_)
          refine lv_goto (tgt := 35) hx hb dX4_widest_103 (by decide) ?_
          exact ih (i + 1) ls (by omega) (by rw [hst, ← nI_1 i]; exact lv_sub hl [0, 2, 3, 4, 5, 6, 7] rfl)
        · rcases ho : gWid SO SW MN FF ZZ so i with _ | v
          · have hl : lv_has ls 9 [(7, .int (nI i)), (6, .int 8), (5, .ref xa), (3, .long 0), (2, .int 0), (0, .ref x), (1, .int so)] := by rw [ho] at hl; exact hl
            have hst : gWid SO SW MN FF ZZ so (min (i + 1) N) = some (SW i) := by rw [e1]; exact ((if_pos h1).trans (if_neg h2)).trans (by rw [ho])
            refine lv_iload hx hb dX4_widest_35 (lv_at hl 0 rfl) ?_
            refine lv_iload hx hb dX4_widest_37 (lv_at hl 1 rfl) ?_
            refine lv_icmp_ge (tgt := 106) hx hb dX4_widest_39 (by decide) (fun h => absurd h hge) (fun _ => ?_)
            refine lv_aload hx hb dX4_widest_42 (lv_at hl 2 rfl) ?_
            refine lv_iload hx hb dX4_widest_44 (lv_at hl 0 rfl) ?_
            refine mN_aald (f := IA) G hgf (hP 1 _ rfl) (k := i) (rfl) (hi8) (by decide) dX4_widest_46 ?_
            rw [show va_rf (IA i) = .ref (IX i 0) from (by rw [hIA]; rfl)]
            refine lv_astore (lv' := [(8, .ref (IX i 0)), (7, .int (nI i)), (6, .int 8), (5, .ref xa), (3, .long 0), (2, .int 0), (0, .ref x), (1, .int so)]) hx hb dX4_widest_47 hl (by decide) rfl (fun ls hl => ?_)
            refine lv_aload hx hb dX4_widest_49 (lv_at hl 0 rfl) ?_
            refine lv_ifnull hx hb dX4_widest_51 ?_
            refine lv_aload hx hb dX4_widest_54 (lv_at hl 0 rfl) ?_
            refine mw_get G hgf (hP 2 _ rfl) rfl inX1 0 (by decide) qw1_218 rfl dX4_widest_56 ?_
            refine lv_iload_n hx hb dX4_widest_59 rfl (lv_at hl 7 rfl) ?_
            refine lv_icmp_ne (tgt := 100) hx hb dX4_widest_60 (by decide) (fun h => absurd h1 h) (fun _ => ?_)
            refine lv_aload hx hb dX4_widest_63 (lv_at hl 0 rfl) ?_
            refine kV (C := RX1) G (cv_gi_hasRead l D (IX i) (SO i) lo hi al ch le gr (SW i) su (MN i) true true (fun _ => 0) (fun _ => 0) (fun _ => none) (fun _ => 0)) okX1_hasRead hgf (va_P.sub hP [2] rfl) (mw_recv hgf (hP 2 _ rfl) rfl) qw3_96 ⟨Nat.le_of_ble_eq_true rfl, Nat.le_of_ble_eq_true rfl⟩ ⟨(Nat.le_of_ble_eq_true rfl), (Nat.le_of_ble_eq_true rfl)⟩ hl.1 (Nat.le_of_ble_eq_true rfl) rfl dX4_widest_65 ?_
            refine lv_if_eq (tgt := 100) hx hb dX4_widest_68 (by decide) (fun h => absurd h h2) (fun _ => ?_)
            refine lv_iload_n hx hb dX4_widest_71 rfl (lv_at hl 5 rfl) ?_
            refine lv_if_eq (tgt := 92) hx hb dX4_widest_72 (by decide) (fun _ => ?_) (fun h => absurd (by decide) h)
            refine lv_aload hx hb dX4_widest_92 (lv_at hl 0 rfl) ?_
            refine mw_get G hgf (hP 2 _ rfl) rfl inX1 8 (by decide) qw1_233 rfl dX4_widest_94 ?_
            refine lv_lstore_n (lv' := [(3, .long (SW i)), (8, .ref (IX i 0)), (7, .int (nI i)), (6, .int 8), (5, .ref xa), (2, .int 0), (0, .ref x), (1, .int so)]) hx hb dX4_widest_97 rfl hl (by decide) rfl (fun ls hl => ?_)
            refine lv_iconst (v := 1) hx hb dX4_widest_98 (by decide) ?_
            refine lv_istore_n (lv' := [(2, .int 1), (3, .long (SW i)), (8, .ref (IX i 0)), (7, .int (nI i)), (6, .int 8), (5, .ref xa), (0, .ref x), (1, .int so)]) hx hb dX4_widest_99 rfl hl (by decide) rfl (fun ls hl => ?_)
            refine lv_iinc (v := (nI i) + 1) (lv' := [(7, .int ((nI i) + 1)), (2, .int 1), (3, .long (SW i)), (8, .ref (IX i 0)), (6, .int 8), (5, .ref xa), (0, .ref x), (1, .int so)]) hx hb dX4_widest_100 hl (k := 3) rfl rfl (by decide) rfl (fun ls hl => ?_)
            refine lv_goto (tgt := 35) hx hb dX4_widest_103 (by decide) ?_
            exact ih (i + 1) ls (by omega) (by rw [hst, ← nI_1 i]; exact lv_sub hl [0, 4, 5, 2, 1, 6, 7] rfl)
          · have hl : lv_has ls 9 [(7, .int (nI i)), (6, .int 8), (5, .ref xa), (3, .long v), (2, .int 1), (0, .ref x), (1, .int so)] := by rw [ho] at hl; exact hl
            have hst : gWid SO SW MN FF ZZ so (min (i + 1) N) = some (gn_greater (FF i) (ZZ i) v (SW i)) := by rw [e1]; exact ((if_pos h1).trans (if_neg h2)).trans (by rw [ho])
            refine lv_iload hx hb dX4_widest_35 (lv_at hl 0 rfl) ?_
            refine lv_iload hx hb dX4_widest_37 (lv_at hl 1 rfl) ?_
            refine lv_icmp_ge (tgt := 106) hx hb dX4_widest_39 (by decide) (fun h => absurd h hge) (fun _ => ?_)
            refine lv_aload hx hb dX4_widest_42 (lv_at hl 2 rfl) ?_
            refine lv_iload hx hb dX4_widest_44 (lv_at hl 0 rfl) ?_
            refine mN_aald (f := IA) G hgf (hP 1 _ rfl) (k := i) (rfl) (hi8) (by decide) dX4_widest_46 ?_
            rw [show va_rf (IA i) = .ref (IX i 0) from (by rw [hIA]; rfl)]
            refine lv_astore (lv' := [(8, .ref (IX i 0)), (7, .int (nI i)), (6, .int 8), (5, .ref xa), (3, .long v), (2, .int 1), (0, .ref x), (1, .int so)]) hx hb dX4_widest_47 hl (by decide) rfl (fun ls hl => ?_)
            refine lv_aload hx hb dX4_widest_49 (lv_at hl 0 rfl) ?_
            refine lv_ifnull hx hb dX4_widest_51 ?_
            refine lv_aload hx hb dX4_widest_54 (lv_at hl 0 rfl) ?_
            refine mw_get G hgf (hP 2 _ rfl) rfl inX1 0 (by decide) qw1_218 rfl dX4_widest_56 ?_
            refine lv_iload_n hx hb dX4_widest_59 rfl (lv_at hl 7 rfl) ?_
            refine lv_icmp_ne (tgt := 100) hx hb dX4_widest_60 (by decide) (fun h => absurd h1 h) (fun _ => ?_)
            refine lv_aload hx hb dX4_widest_63 (lv_at hl 0 rfl) ?_
            refine kV (C := RX1) G (cv_gi_hasRead l D (IX i) (SO i) lo hi al ch le gr (SW i) su (MN i) true true (fun _ => 0) (fun _ => 0) (fun _ => none) (fun _ => 0)) okX1_hasRead hgf (va_P.sub hP [2] rfl) (mw_recv hgf (hP 2 _ rfl) rfl) qw3_96 ⟨Nat.le_of_ble_eq_true rfl, Nat.le_of_ble_eq_true rfl⟩ ⟨(Nat.le_of_ble_eq_true rfl), (Nat.le_of_ble_eq_true rfl)⟩ hl.1 (Nat.le_of_ble_eq_true rfl) rfl dX4_widest_65 ?_
            refine lv_if_eq (tgt := 100) hx hb dX4_widest_68 (by decide) (fun h => absurd h h2) (fun _ => ?_)
            refine lv_iload_n hx hb dX4_widest_71 rfl (lv_at hl 5 rfl) ?_
            refine lv_if_eq (tgt := 92) hx hb dX4_widest_72 (by decide) (fun h => absurd h (by decide)) (fun _ => ?_)
            refine lv_aload hx hb dX4_widest_75 (lv_at hl 0 rfl) ?_
            refine mw_get G hgf (hP 2 _ rfl) rfl inX1 1 (by decide) qw1_220 rfl dX4_widest_77 ?_
            refine lv_lload_n hx hb dX4_widest_80 rfl (lv_at hl 4 rfl) ?_
            refine lv_aload hx hb dX4_widest_81 (lv_at hl 0 rfl) ?_
            refine mw_get G hgf (hP 2 _ rfl) rfl inX1 8 (by decide) qw1_233 rfl dX4_widest_83 ?_
            refine kgn_greater (f := (FF i)) (z := (ZZ i)) v (SW i) G hgf (hP 3 _ rfl) qw3_136 ⟨Nat.le_of_ble_eq_true rfl, Nat.le_of_ble_eq_true rfl⟩ ⟨(Nat.le_of_ble_eq_true rfl), (Nat.le_of_ble_eq_true rfl)⟩ hl.1 (Nat.le_of_ble_eq_true rfl) dX4_widest_86 ?_
            refine lv_goto (tgt := 97) hx hb dX4_widest_89 (by decide) ?_
            refine lv_lstore_n (lv' := [(3, .long (gn_greater (FF i) (ZZ i) v (SW i))), (8, .ref (IX i 0)), (7, .int (nI i)), (6, .int 8), (5, .ref xa), (2, .int 1), (0, .ref x), (1, .int so)]) hx hb dX4_widest_97 rfl hl (by decide) rfl (fun ls hl => ?_)
            refine lv_iconst (v := 1) hx hb dX4_widest_98 (by decide) ?_
            refine lv_istore_n (lv' := [(2, .int 1), (3, .long (gn_greater (FF i) (ZZ i) v (SW i))), (8, .ref (IX i 0)), (7, .int (nI i)), (6, .int 8), (5, .ref xa), (0, .ref x), (1, .int so)]) hx hb dX4_widest_99 rfl hl (by decide) rfl (fun ls hl => ?_)
            refine lv_iinc (v := (nI i) + 1) (lv' := [(7, .int ((nI i) + 1)), (2, .int 1), (3, .long (gn_greater (FF i) (ZZ i) v (SW i))), (8, .ref (IX i 0)), (6, .int 8), (5, .ref xa), (0, .ref x), (1, .int so)]) hx hb dX4_widest_100 hl (k := 3) rfl rfl (by decide) rfl (fun ls hl => ?_)
            refine lv_goto (tgt := 35) hx hb dX4_widest_103 (by decide) ?_
            exact ih (i + 1) ls (by omega) (by rw [hst, ← nI_1 i]; exact lv_sub hl [0, 4, 5, 2, 1, 6, 7] rfl)
      · have hst : gWid SO SW MN FF ZZ so (min (i + 1) N) = gWid SO SW MN FF ZZ so i := by rw [e1]; exact if_neg h1
        refine lv_iload hx hb dX4_widest_35 (lv_at hl 0 rfl) ?_
        refine lv_iload hx hb dX4_widest_37 (lv_at hl 1 rfl) ?_
        refine lv_icmp_ge (tgt := 106) hx hb dX4_widest_39 (by decide) (fun h => absurd h hge) (fun _ => ?_)
        refine lv_aload hx hb dX4_widest_42 (lv_at hl 2 rfl) ?_
        refine lv_iload hx hb dX4_widest_44 (lv_at hl 0 rfl) ?_
        refine mN_aald (f := IA) G hgf (hP 1 _ rfl) (k := i) (rfl) (hi8) (by decide) dX4_widest_46 ?_
        rw [show va_rf (IA i) = .ref (IX i 0) from (by rw [hIA]; rfl)]
        refine lv_astore (lv' := [(8, .ref (IX i 0)), (7, .int (nI i)), (6, .int 8), (5, .ref xa), (3, .long (mst (gWid SO SW MN FF ZZ so i))), (2, .int (fnd (gWid SO SW MN FF ZZ so i))), (0, .ref x), (1, .int so)]) hx hb dX4_widest_47 hl (by decide) rfl (fun ls hl => ?_)
        refine lv_aload hx hb dX4_widest_49 (lv_at hl 0 rfl) ?_
        refine lv_ifnull hx hb dX4_widest_51 ?_
        refine lv_aload hx hb dX4_widest_54 (lv_at hl 0 rfl) ?_
        refine mw_get G hgf (hP 2 _ rfl) rfl inX1 0 (by decide) qw1_218 rfl dX4_widest_56 ?_
        refine lv_iload_n hx hb dX4_widest_59 rfl (lv_at hl 7 rfl) ?_
        refine lv_icmp_ne (tgt := 100) hx hb dX4_widest_60 (by decide) (fun _ => ?_) (fun h => absurd h h1)
        refine lv_iinc (v := (nI i) + 1) (lv' := [(7, .int ((nI i) + 1)), (8, .ref (IX i 0)), (6, .int 8), (5, .ref xa), (3, .long (mst (gWid SO SW MN FF ZZ so i))), (2, .int (fnd (gWid SO SW MN FF ZZ so i))), (0, .ref x), (1, .int so)]) hx hb dX4_widest_100 hl (k := 1) rfl rfl (by decide) rfl (fun ls hl => ?_)
        refine lv_goto (tgt := 35) hx hb dX4_widest_103 (by decide) ?_
        exact ih (i + 1) ls (by omega) (by rw [hst, ← nI_1 i]; exact lv_sub hl [0, 2, 3, 4, 5, 6, 7] rfl)
    · have hIA : IA i = none := hz0 i (by omega)
      have hP : va_P D.1 vwCl [(x, .inr (3, xF xa n rd ae se)), (xa, .inl (D.2.2.2, 8, .inr (.inr (.inr (.inr IA)))))] s.heap := hP0
      have hst : gWid SO SW MN FF ZZ so (min (i + 1) N) = gWid SO SW MN FF ZZ so (min i N) := by rw [show min (i + 1) N = min i N by omega]
      refine lv_iload hx hb dX4_widest_35 (lv_at hl 0 rfl) ?_
      refine lv_iload hx hb dX4_widest_37 (lv_at hl 1 rfl) ?_
      refine lv_icmp_ge (tgt := 106) hx hb dX4_widest_39 (by decide) (fun h => absurd h hge) (fun _ => ?_)
      refine lv_aload hx hb dX4_widest_42 (lv_at hl 2 rfl) ?_
      refine lv_iload hx hb dX4_widest_44 (lv_at hl 0 rfl) ?_
      refine mN_aald (f := IA) G hgf (hP 1 _ rfl) (k := i) (rfl) (hi8) (by decide) dX4_widest_46 ?_
      rw [show va_rf (IA i) = .null from (by rw [hIA]; rfl)]
      refine lv_astoreN (lv' := [(8, .null), (7, .int (nI i)), (6, .int 8), (5, .ref xa), (3, .long (mst (gWid SO SW MN FF ZZ so (min i N)))), (2, .int (fnd (gWid SO SW MN FF ZZ so (min i N)))), (0, .ref x), (1, .int so)]) hx hb dX4_widest_47 hl (by decide) rfl (fun ls hl => ?_)
      refine lv_aloadN hx hb dX4_widest_49 (lv_at hl 0 rfl) ?_
      refine lv_ifnullN (tgt := 100) hx hb dX4_widest_51 (by decide) ?_
      refine lv_iinc (v := (nI i) + 1) (lv' := [(7, .int ((nI i) + 1)), (8, .null), (6, .int 8), (5, .ref xa), (3, .long (mst (gWid SO SW MN FF ZZ so (min i N)))), (2, .int (fnd (gWid SO SW MN FF ZZ so (min i N)))), (0, .ref x), (1, .int so)]) hx hb dX4_widest_100 hl (k := 1) rfl rfl (by decide) rfl (fun ls hl => ?_)
      refine lv_goto (tgt := 35) hx hb dX4_widest_103 (by decide) ?_
      exact ih (i + 1) ls (by omega) (by rw [hst, ← nI_1 i]; exact lv_sub hl [0, 2, 3, 4, 5, 6, 7] rfl)
set_option maxRecDepth 100000 in
set_option maxHeartbeats 4000000 in
theorem lp_widT {p : Program} {l : Launch} {e : Env} {s : State} {m : MethodId} {args : Array Value} {below : List Frame} {meth : Method} {c : Code} {D : mG} {Q : State → Prop} {x xa : Nat} {n rd ae se : Int32} {IA : Nat → Option Nat} {IX : Nat → Nat → Nat} {SO : Nat → Int32} {SW : Nat → Int64} {MN : Nat → Int32} {FF ZZ : Nat → Bool} {so : Int32} {N : Nat} (hn : n = nI N) (hN : N ≤ 8) (hz0 : ∀ i, N ≤ i → IA i = none) (hx : p.tables.exec = Jvm.exec) (hb : c.code = cX4_widest) (G : CallFix p m c cX4_widest 9 s args aw RX4) (hgf : GF D s) (hP0 : va_P D.1 vwCl [(x, .inr (3, xF xa n rd ae se)), (xa, .inl (D.2.2.2, 8, .inr (.inr (.inr (.inr IA)))))] s.heap) (hw : ∀ i, i < N → widOK D IA IX SO SW MN FF ZZ s.heap i)
    (exit : ∀ (ls : Array Slot), lv_has ls 9 [(3, .long (mst (gWid SO SW MN FF ZZ so N))), (2, .int (fnd (gWid SO SW MN FF ZZ so N))), (0, .ref x), (1, .int so)] → W p l e (rmT 6) s m args below meth c s.heap [] 0 0 Q (F0 m 106 ls [])) :
    ∀ (d i : Nat) (ls : Array Slot), i + d = 8 → lv_has ls 9 [(7, .int (nI i)), (6, .int 8), (5, .ref xa), (3, .long (mst (gWid SO SW MN FF ZZ so (min i N)))), (2, .int (fnd (gWid SO SW MN FF ZZ so (min i N)))), (0, .ref x), (1, .int so)] → W p l e (rmT 6) s m args below meth c s.heap [] 0 0 Q (F0 m 35 ls []) := by
  intro d
  induction d with
  | zero =>
    intro i ls hd hl
    have hP : va_P D.1 vwCl [(x, .inr (3, xF xa n rd ae se)), (xa, .inl (D.2.2.2, 8, .inr (.inr (.inr (.inr IA)))))] s.heap := hP0
    have hge : (8 : Int32) ≤ nI i := nI_le (a := 8) (by omega) (by omega)
    rw [show min i N = N by omega] at hl
    refine lv_iload hx hb dX4_widest_35 (lv_at hl 0 rfl) ?_
    refine lv_iload hx hb dX4_widest_37 (lv_at hl 1 rfl) ?_
    refine lv_icmp_ge (tgt := 106) hx hb dX4_widest_39 (by decide) (fun _ => ?_) (fun h => absurd hge h)
    exact exit ls (lv_sub hl [3, 4, 5, 6] rfl)
  | succ d ih =>
    intro i ls hd hl
    have hi8 : i < 8 := by omega
    have hge : ¬ (8 : Int32) ≤ nI i := nI_ge (a := i) (b := 8) hi8 (by decide)
    by_cases hiN : i < N
    · rw [show min i N = i by omega] at hl
      have e1 : min (i + 1) N = i + 1 := by omega
      obtain ⟨hIA, lo, hi, al, ch, le, gr, su, hp1⟩ := hw i hiN
      have hP : va_P D.1 vwCl [(x, .inr (3, xF xa n rd ae se)), (xa, .inl (D.2.2.2, 8, .inr (.inr (.inr (.inr IA))))), (IX i 0, .inr (1, iF (IX i) (SO i) lo hi al ch le gr (SW i) su (MN i))), (IX i 1, nE (FF i) (ZZ i))] s.heap := va_P.app hP0 hp1
      by_cases h1 : SO i = so
      · by_cases h2 : gi_hasRead (MN i) = 0
        · have hst : gWid SO SW MN FF ZZ so (min (i + 1) N) = gWid SO SW MN FF ZZ so i := by rw [e1]; exact (if_pos h1).trans (if_pos h2)
          refine lv_iload hx hb dX4_widest_35 (lv_at hl 0 rfl) ?_
          refine lv_iload hx hb dX4_widest_37 (lv_at hl 1 rfl) ?_
          refine lv_icmp_ge (tgt := 106) hx hb dX4_widest_39 (by decide) (fun h => absurd h hge) (fun _ => ?_)
          refine lv_aload hx hb dX4_widest_42 (lv_at hl 2 rfl) ?_
          refine lv_iload hx hb dX4_widest_44 (lv_at hl 0 rfl) ?_
          refine mN_aald (f := IA) G hgf (hP 1 _ rfl) (k := i) (rfl) (hi8) (by decide) dX4_widest_46 ?_
          rw [show va_rf (IA i) = .ref (IX i 0) from (by rw [hIA]; rfl)]
          refine lv_astore (lv' := [(8, .ref (IX i 0)), (7, .int (nI i)), (6, .int 8), (5, .ref xa), (3, .long (mst (gWid SO SW MN FF ZZ so i))), (2, .int (fnd (gWid SO SW MN FF ZZ so i))), (0, .ref x), (1, .int so)]) hx hb dX4_widest_47 hl (by decide) rfl (fun ls hl => ?_)
          refine lv_aload hx hb dX4_widest_49 (lv_at hl 0 rfl) ?_
          refine lv_ifnull hx hb dX4_widest_51 ?_
          refine lv_aload hx hb dX4_widest_54 (lv_at hl 0 rfl) ?_
          refine mw_get G hgf (hP 2 _ rfl) rfl inX1 0 (by decide) qw1_218 rfl dX4_widest_56 ?_
          refine lv_iload_n hx hb dX4_widest_59 rfl (lv_at hl 7 rfl) ?_
          refine lv_icmp_ne (tgt := 100) hx hb dX4_widest_60 (by decide) (fun h => absurd h1 h) (fun _ => ?_)
          refine lv_aload hx hb dX4_widest_63 (lv_at hl 0 rfl) ?_
          refine kV (C := RX1) G (cv_gi_hasRead l D (IX i) (SO i) lo hi al ch le gr (SW i) su (MN i) true true (fun _ => 0) (fun _ => 0) (fun _ => none) (fun _ => 0)) okX1_hasRead hgf (va_P.sub hP [2] rfl) (mw_recv hgf (hP 2 _ rfl) rfl) qw3_96 ⟨Nat.le_of_ble_eq_true rfl, Nat.le_of_ble_eq_true rfl⟩ ⟨(Nat.le_of_ble_eq_true rfl), (Nat.le_of_ble_eq_true rfl)⟩ hl.1 (Nat.le_of_ble_eq_true rfl) rfl dX4_widest_65 ?_
          refine lv_if_eq (tgt := 100) hx hb dX4_widest_68 (by decide) (fun _ => ?_) (fun h => absurd h2 h)
          refine lv_iinc (v := (nI i) + 1) (lv' := [(7, .int ((nI i) + 1)), (8, .ref (IX i 0)), (6, .int 8), (5, .ref xa), (3, .long (mst (gWid SO SW MN FF ZZ so i))), (2, .int (fnd (gWid SO SW MN FF ZZ so i))), (0, .ref x), (1, .int so)]) hx hb dX4_widest_100 hl (k := 1) rfl rfl (by decide) rfl (fun ls hl => ?_)
          refine lv_goto (tgt := 35) hx hb dX4_widest_103 (by decide) ?_
          exact ih (i + 1) ls (by omega) (by rw [hst, ← nI_1 i]; exact lv_sub hl [0, 2, 3, 4, 5, 6, 7] rfl)
        · rcases ho : gWid SO SW MN FF ZZ so i with _ | v
          · have hl : lv_has ls 9 [(7, .int (nI i)), (6, .int 8), (5, .ref xa), (3, .long 0), (2, .int 0), (0, .ref x), (1, .int so)] := by rw [ho] at hl; exact hl
            have hst : gWid SO SW MN FF ZZ so (min (i + 1) N) = some (SW i) := by rw [e1]; exact ((if_pos h1).trans (if_neg h2)).trans (by rw [ho])
            refine lv_iload hx hb dX4_widest_35 (lv_at hl 0 rfl) ?_
            refine lv_iload hx hb dX4_widest_37 (lv_at hl 1 rfl) ?_
            refine lv_icmp_ge (tgt := 106) hx hb dX4_widest_39 (by decide) (fun h => absurd h hge) (fun _ => ?_)
            refine lv_aload hx hb dX4_widest_42 (lv_at hl 2 rfl) ?_
            refine lv_iload hx hb dX4_widest_44 (lv_at hl 0 rfl) ?_
            refine mN_aald (f := IA) G hgf (hP 1 _ rfl) (k := i) (rfl) (hi8) (by decide) dX4_widest_46 ?_
            rw [show va_rf (IA i) = .ref (IX i 0) from (by rw [hIA]; rfl)]
            refine lv_astore (lv' := [(8, .ref (IX i 0)), (7, .int (nI i)), (6, .int 8), (5, .ref xa), (3, .long 0), (2, .int 0), (0, .ref x), (1, .int so)]) hx hb dX4_widest_47 hl (by decide) rfl (fun ls hl => ?_)
            refine lv_aload hx hb dX4_widest_49 (lv_at hl 0 rfl) ?_
            refine lv_ifnull hx hb dX4_widest_51 ?_
            refine lv_aload hx hb dX4_widest_54 (lv_at hl 0 rfl) ?_
            refine mw_get G hgf (hP 2 _ rfl) rfl inX1 0 (by decide) qw1_218 rfl dX4_widest_56 ?_
            refine lv_iload_n hx hb dX4_widest_59 rfl (lv_at hl 7 rfl) ?_
            refine lv_icmp_ne (tgt := 100) hx hb dX4_widest_60 (by decide) (fun h => absurd h1 h) (fun _ => ?_)
            refine lv_aload hx hb dX4_widest_63 (lv_at hl 0 rfl) ?_
            refine kV (C := RX1) G (cv_gi_hasRead l D (IX i) (SO i) lo hi al ch le gr (SW i) su (MN i) true true (fun _ => 0) (fun _ => 0) (fun _ => none) (fun _ => 0)) okX1_hasRead hgf (va_P.sub hP [2] rfl) (mw_recv hgf (hP 2 _ rfl) rfl) qw3_96 ⟨Nat.le_of_ble_eq_true rfl, Nat.le_of_ble_eq_true rfl⟩ ⟨(Nat.le_of_ble_eq_true rfl), (Nat.le_of_ble_eq_true rfl)⟩ hl.1 (Nat.le_of_ble_eq_true rfl) rfl dX4_widest_65 ?_
            refine lv_if_eq (tgt := 100) hx hb dX4_widest_68 (by decide) (fun h => absurd h h2) (fun _ => ?_)
            refine lv_iload_n hx hb dX4_widest_71 rfl (lv_at hl 5 rfl) ?_
            refine lv_if_eq (tgt := 92) hx hb dX4_widest_72 (by decide) (fun _ => ?_) (fun h => absurd (by decide) h)
            refine lv_aload hx hb dX4_widest_92 (lv_at hl 0 rfl) ?_
            refine mw_get G hgf (hP 2 _ rfl) rfl inX1 8 (by decide) qw1_233 rfl dX4_widest_94 ?_
            refine lv_lstore_n (lv' := [(3, .long (SW i)), (8, .ref (IX i 0)), (7, .int (nI i)), (6, .int 8), (5, .ref xa), (2, .int 0), (0, .ref x), (1, .int so)]) hx hb dX4_widest_97 rfl hl (by decide) rfl (fun ls hl => ?_)
            refine lv_iconst (v := 1) hx hb dX4_widest_98 (by decide) ?_
            refine lv_istore_n (lv' := [(2, .int 1), (3, .long (SW i)), (8, .ref (IX i 0)), (7, .int (nI i)), (6, .int 8), (5, .ref xa), (0, .ref x), (1, .int so)]) hx hb dX4_widest_99 rfl hl (by decide) rfl (fun ls hl => ?_)
            refine lv_iinc (v := (nI i) + 1) (lv' := [(7, .int ((nI i) + 1)), (2, .int 1), (3, .long (SW i)), (8, .ref (IX i 0)), (6, .int 8), (5, .ref xa), (0, .ref x), (1, .int so)]) hx hb dX4_widest_100 hl (k := 3) rfl rfl (by decide) rfl (fun ls hl => ?_)
            refine lv_goto (tgt := 35) hx hb dX4_widest_103 (by decide) ?_
            exact ih (i + 1) ls (by omega) (by rw [hst, ← nI_1 i]; exact lv_sub hl [0, 4, 5, 2, 1, 6, 7] rfl)
          · have hl : lv_has ls 9 [(7, .int (nI i)), (6, .int 8), (5, .ref xa), (3, .long v), (2, .int 1), (0, .ref x), (1, .int so)] := by rw [ho] at hl; exact hl
            have hst : gWid SO SW MN FF ZZ so (min (i + 1) N) = some (gn_greater (FF i) (ZZ i) v (SW i)) := by rw [e1]; exact ((if_pos h1).trans (if_neg h2)).trans (by rw [ho])
            refine lv_iload hx hb dX4_widest_35 (lv_at hl 0 rfl) ?_
            refine lv_iload hx hb dX4_widest_37 (lv_at hl 1 rfl) ?_
            refine lv_icmp_ge (tgt := 106) hx hb dX4_widest_39 (by decide) (fun h => absurd h hge) (fun _ => ?_)
            refine lv_aload hx hb dX4_widest_42 (lv_at hl 2 rfl) ?_
            refine lv_iload hx hb dX4_widest_44 (lv_at hl 0 rfl) ?_
            refine mN_aald (f := IA) G hgf (hP 1 _ rfl) (k := i) (rfl) (hi8) (by decide) dX4_widest_46 ?_
            rw [show va_rf (IA i) = .ref (IX i 0) from (by rw [hIA]; rfl)]
            refine lv_astore (lv' := [(8, .ref (IX i 0)), (7, .int (nI i)), (6, .int 8), (5, .ref xa), (3, .long v), (2, .int 1), (0, .ref x), (1, .int so)]) hx hb dX4_widest_47 hl (by decide) rfl (fun ls hl => ?_)
            refine lv_aload hx hb dX4_widest_49 (lv_at hl 0 rfl) ?_
            refine lv_ifnull hx hb dX4_widest_51 ?_
            refine lv_aload hx hb dX4_widest_54 (lv_at hl 0 rfl) ?_
            refine mw_get G hgf (hP 2 _ rfl) rfl inX1 0 (by decide) qw1_218 rfl dX4_widest_56 ?_
            refine lv_iload_n hx hb dX4_widest_59 rfl (lv_at hl 7 rfl) ?_
            refine lv_icmp_ne (tgt := 100) hx hb dX4_widest_60 (by decide) (fun h => absurd h1 h) (fun _ => ?_)
            refine lv_aload hx hb dX4_widest_63 (lv_at hl 0 rfl) ?_
            refine kV (C := RX1) G (cv_gi_hasRead l D (IX i) (SO i) lo hi al ch le gr (SW i) su (MN i) true true (fun _ => 0) (fun _ => 0) (fun _ => none) (fun _ => 0)) okX1_hasRead hgf (va_P.sub hP [2] rfl) (mw_recv hgf (hP 2 _ rfl) rfl) qw3_96 ⟨Nat.le_of_ble_eq_true rfl, Nat.le_of_ble_eq_true rfl⟩ ⟨(Nat.le_of_ble_eq_true rfl), (Nat.le_of_ble_eq_true rfl)⟩ hl.1 (Nat.le_of_ble_eq_true rfl) rfl dX4_widest_65 ?_
            refine lv_if_eq (tgt := 100) hx hb dX4_widest_68 (by decide) (fun h => absurd h h2) (fun _ => ?_)
            refine lv_iload_n hx hb dX4_widest_71 rfl (lv_at hl 5 rfl) ?_
            refine lv_if_eq (tgt := 92) hx hb dX4_widest_72 (by decide) (fun h => absurd h (by decide)) (fun _ => ?_)
            refine lv_aload hx hb dX4_widest_75 (lv_at hl 0 rfl) ?_
            refine mw_get G hgf (hP 2 _ rfl) rfl inX1 1 (by decide) qw1_220 rfl dX4_widest_77 ?_
            refine lv_lload_n hx hb dX4_widest_80 rfl (lv_at hl 4 rfl) ?_
            refine lv_aload hx hb dX4_widest_81 (lv_at hl 0 rfl) ?_
            refine mw_get G hgf (hP 2 _ rfl) rfl inX1 8 (by decide) qw1_233 rfl dX4_widest_83 ?_
            refine kgn_greater (f := (FF i)) (z := (ZZ i)) v (SW i) G hgf (hP 3 _ rfl) qw3_136 ⟨Nat.le_of_ble_eq_true rfl, Nat.le_of_ble_eq_true rfl⟩ ⟨(Nat.le_of_ble_eq_true rfl), (Nat.le_of_ble_eq_true rfl)⟩ hl.1 (Nat.le_of_ble_eq_true rfl) dX4_widest_86 ?_
            refine lv_goto (tgt := 97) hx hb dX4_widest_89 (by decide) ?_
            refine lv_lstore_n (lv' := [(3, .long (gn_greater (FF i) (ZZ i) v (SW i))), (8, .ref (IX i 0)), (7, .int (nI i)), (6, .int 8), (5, .ref xa), (2, .int 1), (0, .ref x), (1, .int so)]) hx hb dX4_widest_97 rfl hl (by decide) rfl (fun ls hl => ?_)
            refine lv_iconst (v := 1) hx hb dX4_widest_98 (by decide) ?_
            refine lv_istore_n (lv' := [(2, .int 1), (3, .long (gn_greater (FF i) (ZZ i) v (SW i))), (8, .ref (IX i 0)), (7, .int (nI i)), (6, .int 8), (5, .ref xa), (0, .ref x), (1, .int so)]) hx hb dX4_widest_99 rfl hl (by decide) rfl (fun ls hl => ?_)
            refine lv_iinc (v := (nI i) + 1) (lv' := [(7, .int ((nI i) + 1)), (2, .int 1), (3, .long (gn_greater (FF i) (ZZ i) v (SW i))), (8, .ref (IX i 0)), (6, .int 8), (5, .ref xa), (0, .ref x), (1, .int so)]) hx hb dX4_widest_100 hl (k := 3) rfl rfl (by decide) rfl (fun ls hl => ?_)
            refine lv_goto (tgt := 35) hx hb dX4_widest_103 (by decide) ?_
            exact ih (i + 1) ls (by omega) (by rw [hst, ← nI_1 i]; exact lv_sub hl [0, 4, 5, 2, 1, 6, 7] rfl)
      · have hst : gWid SO SW MN FF ZZ so (min (i + 1) N) = gWid SO SW MN FF ZZ so i := by rw [e1]; exact if_neg h1
        refine lv_iload hx hb dX4_widest_35 (lv_at hl 0 rfl) ?_
        refine lv_iload hx hb dX4_widest_37 (lv_at hl 1 rfl) ?_
        refine lv_icmp_ge (tgt := 106) hx hb dX4_widest_39 (by decide) (fun h => absurd h hge) (fun _ => ?_)
        refine lv_aload hx hb dX4_widest_42 (lv_at hl 2 rfl) ?_
        refine lv_iload hx hb dX4_widest_44 (lv_at hl 0 rfl) ?_
        refine mN_aald (f := IA) G hgf (hP 1 _ rfl) (k := i) (rfl) (hi8) (by decide) dX4_widest_46 ?_
        rw [show va_rf (IA i) = .ref (IX i 0) from (by rw [hIA]; rfl)]
        refine lv_astore (lv' := [(8, .ref (IX i 0)), (7, .int (nI i)), (6, .int 8), (5, .ref xa), (3, .long (mst (gWid SO SW MN FF ZZ so i))), (2, .int (fnd (gWid SO SW MN FF ZZ so i))), (0, .ref x), (1, .int so)]) hx hb dX4_widest_47 hl (by decide) rfl (fun ls hl => ?_)
        refine lv_aload hx hb dX4_widest_49 (lv_at hl 0 rfl) ?_
        refine lv_ifnull hx hb dX4_widest_51 ?_
        refine lv_aload hx hb dX4_widest_54 (lv_at hl 0 rfl) ?_
        refine mw_get G hgf (hP 2 _ rfl) rfl inX1 0 (by decide) qw1_218 rfl dX4_widest_56 ?_
        refine lv_iload_n hx hb dX4_widest_59 rfl (lv_at hl 7 rfl) ?_
        refine lv_icmp_ne (tgt := 100) hx hb dX4_widest_60 (by decide) (fun _ => ?_) (fun h => absurd h h1)
        refine lv_iinc (v := (nI i) + 1) (lv' := [(7, .int ((nI i) + 1)), (8, .ref (IX i 0)), (6, .int 8), (5, .ref xa), (3, .long (mst (gWid SO SW MN FF ZZ so i))), (2, .int (fnd (gWid SO SW MN FF ZZ so i))), (0, .ref x), (1, .int so)]) hx hb dX4_widest_100 hl (k := 1) rfl rfl (by decide) rfl (fun ls hl => ?_)
        refine lv_goto (tgt := 35) hx hb dX4_widest_103 (by decide) ?_
        exact ih (i + 1) ls (by omega) (by rw [hst, ← nI_1 i]; exact lv_sub hl [0, 2, 3, 4, 5, 6, 7] rfl)
    · have hIA : IA i = none := hz0 i (by omega)
      have hP : va_P D.1 vwCl [(x, .inr (3, xF xa n rd ae se)), (xa, .inl (D.2.2.2, 8, .inr (.inr (.inr (.inr IA)))))] s.heap := hP0
      have hst : gWid SO SW MN FF ZZ so (min (i + 1) N) = gWid SO SW MN FF ZZ so (min i N) := by rw [show min (i + 1) N = min i N by omega]
      refine lv_iload hx hb dX4_widest_35 (lv_at hl 0 rfl) ?_
      refine lv_iload hx hb dX4_widest_37 (lv_at hl 1 rfl) ?_
      refine lv_icmp_ge (tgt := 106) hx hb dX4_widest_39 (by decide) (fun h => absurd h hge) (fun _ => ?_)
      refine lv_aload hx hb dX4_widest_42 (lv_at hl 2 rfl) ?_
      refine lv_iload hx hb dX4_widest_44 (lv_at hl 0 rfl) ?_
      refine mN_aald (f := IA) G hgf (hP 1 _ rfl) (k := i) (rfl) (hi8) (by decide) dX4_widest_46 ?_
      rw [show va_rf (IA i) = .null from (by rw [hIA]; rfl)]
      refine lv_astoreN (lv' := [(8, .null), (7, .int (nI i)), (6, .int 8), (5, .ref xa), (3, .long (mst (gWid SO SW MN FF ZZ so (min i N)))), (2, .int (fnd (gWid SO SW MN FF ZZ so (min i N)))), (0, .ref x), (1, .int so)]) hx hb dX4_widest_47 hl (by decide) rfl (fun ls hl => ?_)
      refine lv_aloadN hx hb dX4_widest_49 (lv_at hl 0 rfl) ?_
      refine lv_ifnullN (tgt := 100) hx hb dX4_widest_51 (by decide) ?_
      refine lv_iinc (v := (nI i) + 1) (lv' := [(7, .int ((nI i) + 1)), (8, .null), (6, .int 8), (5, .ref xa), (3, .long (mst (gWid SO SW MN FF ZZ so (min i N)))), (2, .int (fnd (gWid SO SW MN FF ZZ so (min i N)))), (0, .ref x), (1, .int so)]) hx hb dX4_widest_100 hl (k := 1) rfl rfl (by decide) rfl (fun ls hl => ?_)
      refine lv_goto (tgt := 35) hx hb dX4_widest_103 (by decide) ?_
      exact ih (i + 1) ls (by omega) (by rw [hst, ← nI_1 i]; exact lv_sub hl [0, 2, 3, 4, 5, 6, 7] rfl)
set_option maxRecDepth 100000 in
set_option maxHeartbeats 4000000 in
theorem cv_widest (l : Launch) (D : mG) (x xa : Nat) (n rd ae se : Int32) (IA : Nat → Option Nat) (IX : Nat → Nat → Nat) (SO : Nat → Int32) (SW : Nat → Int64) (MN : Nat → Int32) (FF ZZ : Nat → Bool) (so : Int32) {N : Nat} (hn : n = nI N) (hN : N ≤ 8) (hz0 : ∀ i, N ≤ i → IA i = none) (h1 : ¬ fX4_isSort so = 0) {v : Int64} (ho : gWid SO SW MN FF ZZ so N = some v) : cV l D yX4_widest cX4_widest 9 .long 3 (fun H => va_P D.1 vwCl [(x, .inr (3, xF xa n rd ae se)), (xa, .inl (D.2.2.2, 8, .inr (.inr (.inr (.inr IA)))))] H ∧ ∀ i, i < N → widOK D IA IX SO SW MN FF ZZ H i) [.ref x, .int so] (.long v) := by
  refine cV_of (by decide) (Nat.le_of_ble_eq_true rfl) ?_
  intro p e s m below meth c ls hx hb hr hlocks G hgf hpic hl
  have hP : va_P D.1 vwCl [(x, .inr (3, xF xa n rd ae se)), (xa, .inl (D.2.2.2, 8, .inr (.inr (.inr (.inr IA)))))] s.heap := hpic.1
  have hl : lv_has ls 9 [(0, .ref x), (1, .int so)] := hl
  refine lv_iload_n hx hb dX4_widest_0 rfl (lv_at hl 1 rfl) ?_
  refine kS G (cvX4_isSort l D so) okX4_isSort hgf trivial qw1_58 ⟨Nat.le_of_ble_eq_true rfl, Nat.le_of_ble_eq_true rfl⟩ ⟨(Nat.le_of_ble_eq_true rfl), (Nat.le_of_ble_eq_true rfl)⟩ hl.1 (Nat.le_of_ble_eq_true rfl) rfl dX4_widest_1 ?_
  refine lv_if_ne (tgt := 17) hx hb dX4_widest_4 (by decide) (fun _ => ?_) (fun h => absurd h h1)
  refine lv_iconst (v := 0) hx hb dX4_widest_17 (by decide) ?_
  refine lv_istore_n (lv' := [(2, .int 0), (0, .ref x), (1, .int so)]) hx hb dX4_widest_18 rfl hl (by decide) rfl (fun ls hl => ?_)
  refine lv_lconst (v := 0) hx hb dX4_widest_19 (by decide) ?_
  refine lv_lstore_n (lv' := [(3, .long 0), (2, .int 0), (0, .ref x), (1, .int so)]) hx hb dX4_widest_20 rfl hl (by decide) rfl (fun ls hl => ?_)
  refine lv_aload_n hx hb dX4_widest_21 rfl (lv_at hl 2 rfl) ?_
  refine mw_get G hgf (hP 0 _ rfl) rfl inX4 0 (by decide) qw1_29 rfl dX4_widest_22 ?_
  refine lv_astore (lv' := [(5, .ref xa), (3, .long 0), (2, .int 0), (0, .ref x), (1, .int so)]) hx hb dX4_widest_25 hl (by decide) rfl (fun ls hl => ?_)
  refine lv_aload hx hb dX4_widest_27 (lv_at hl 0 rfl) ?_
  refine va_alen (v := 8) hx hb hgf.K hP 1 2 rfl rfl rfl dX4_widest_29 ?_
  refine lv_istore (lv' := [(6, .int 8), (5, .ref xa), (3, .long 0), (2, .int 0), (0, .ref x), (1, .int so)]) hx hb dX4_widest_30 hl (by decide) rfl (fun ls hl => ?_)
  refine lv_iconst (v := 0) hx hb dX4_widest_32 (by decide) ?_
  refine lv_istore (lv' := [(7, .int 0), (6, .int 8), (5, .ref xa), (3, .long 0), (2, .int 0), (0, .ref x), (1, .int so)]) hx hb dX4_widest_33 hl (by decide) rfl (fun ls hl => ?_)
  refine lp_widV hn hN hz0 hx hb G hgf hP hpic.2 (fun ls hl => ?_) 8 0 ls (by omega) (by rw [Nat.zero_min]; exact lv_sub hl [0, 1, 2, 3, 4, 5, 6] rfl)
  have hl : lv_has ls 9 [(3, .long v), (2, .int 1), (0, .ref x), (1, .int so)] := by rw [ho] at hl; exact hl
  refine lv_iload_n hx hb dX4_widest_106 rfl (lv_at hl 1 rfl) ?_
  refine lv_if_ne (tgt := 120) hx hb dX4_widest_107 (by decide) (fun _ => ?_) (fun h => absurd h (by decide))
  refine lv_lload_n hx hb dX4_widest_120 rfl (lv_at hl 0 rfl) ?_
  exact mw_lret hx hb hr hlocks dX4_widest_121 rfl
set_option maxRecDepth 100000 in
set_option maxHeartbeats 4000000 in
theorem ct_widest_2 (l : Launch) (D : mG) (x xa : Nat) (n rd ae se : Int32) (IA : Nat → Option Nat) (IX : Nat → Nat → Nat) (SO : Nat → Int32) (SW : Nat → Int64) (MN : Nat → Int32) (FF ZZ : Nat → Bool) (so : Int32) (hlt : l.stackTraces = false) {N : Nat} (hn : n = nI N) (hN : N ≤ 8) (hz0 : ∀ i, N ≤ i → IA i = none) (h1 : ¬ fX4_isSort so = 0) (ho : gWid SO SW MN FF ZZ so N = none) : cT l D yX4_widest cX4_widest 9 .long 6 (fun H => va_P D.1 vwCl [(x, .inr (3, xF xa n rd ae se)), (xa, .inl (D.2.2.2, 8, .inr (.inr (.inr (.inr IA)))))] H ∧ ∀ i, i < N → widOK D IA IX SO SW MN FF ZZ H i) [.ref x, .int so] "java/util/NoSuchElementException" := by
  refine cT_of (by decide) (Nat.le_of_ble_eq_true rfl) ?_
  intro p e s m below meth c ls hx hb hlocks hex G hgf hz hpic hl
  have hP : va_P D.1 vwCl [(x, .inr (3, xF xa n rd ae se)), (xa, .inl (D.2.2.2, 8, .inr (.inr (.inr (.inr IA)))))] s.heap := hpic.1
  have hl : lv_has ls 9 [(0, .ref x), (1, .int so)] := hl
  refine lv_iload_n hx hb dX4_widest_0 rfl (lv_at hl 1 rfl) ?_
  refine kS G (cvX4_isSort l D so) okX4_isSort hgf trivial qw1_58 ⟨Nat.le_of_ble_eq_true rfl, Nat.le_of_ble_eq_true rfl⟩ ⟨(Nat.le_of_ble_eq_true rfl), (Nat.le_of_ble_eq_true rfl)⟩ hl.1 (Nat.le_of_ble_eq_true rfl) rfl dX4_widest_1 ?_
  refine lv_if_ne (tgt := 17) hx hb dX4_widest_4 (by decide) (fun _ => ?_) (fun h => absurd h h1)
  refine lv_iconst (v := 0) hx hb dX4_widest_17 (by decide) ?_
  refine lv_istore_n (lv' := [(2, .int 0), (0, .ref x), (1, .int so)]) hx hb dX4_widest_18 rfl hl (by decide) rfl (fun ls hl => ?_)
  refine lv_lconst (v := 0) hx hb dX4_widest_19 (by decide) ?_
  refine lv_lstore_n (lv' := [(3, .long 0), (2, .int 0), (0, .ref x), (1, .int so)]) hx hb dX4_widest_20 rfl hl (by decide) rfl (fun ls hl => ?_)
  refine lv_aload_n hx hb dX4_widest_21 rfl (lv_at hl 2 rfl) ?_
  refine mw_get G hgf (hP 0 _ rfl) rfl inX4 0 (by decide) qw1_29 rfl dX4_widest_22 ?_
  refine lv_astore (lv' := [(5, .ref xa), (3, .long 0), (2, .int 0), (0, .ref x), (1, .int so)]) hx hb dX4_widest_25 hl (by decide) rfl (fun ls hl => ?_)
  refine lv_aload hx hb dX4_widest_27 (lv_at hl 0 rfl) ?_
  refine va_alen (v := 8) hx hb hgf.K hP 1 2 rfl rfl rfl dX4_widest_29 ?_
  refine lv_istore (lv' := [(6, .int 8), (5, .ref xa), (3, .long 0), (2, .int 0), (0, .ref x), (1, .int so)]) hx hb dX4_widest_30 hl (by decide) rfl (fun ls hl => ?_)
  refine lv_iconst (v := 0) hx hb dX4_widest_32 (by decide) ?_
  refine lv_istore (lv' := [(7, .int 0), (6, .int 8), (5, .ref xa), (3, .long 0), (2, .int 0), (0, .ref x), (1, .int so)]) hx hb dX4_widest_33 hl (by decide) rfl (fun ls hl => ?_)
  refine lp_widT hn hN hz0 hx hb G hgf hP hpic.2 (fun ls hl => ?_) 8 0 ls (by omega) (by rw [Nat.zero_min]; exact lv_sub hl [0, 1, 2, 3, 4, 5, 6] rfl)
  have hl : lv_has ls 9 [(3, .long 0), (2, .int 0), (0, .ref x), (1, .int so)] := by rw [ho] at hl; exact hl
  refine lv_iload_n hx hb dX4_widest_106 rfl (lv_at hl 1 rfl) ?_
  refine lv_if_ne (tgt := 120) hx hb dX4_widest_107 (by decide) (fun h => absurd (by decide) h) (fun _ => ?_)
  exact mw_throwN (sup := "java/lang/RuntimeException") (names := ["java/lang/Exception"]) hlt G hlocks hex hgf hz (by decide +kernel) (by decide +kernel) (by decide +kernel) dN_0 dN_1 dN_2 dN_5 qw3_71 qw1_18 (text := "no instrument of this sort has read anything") (by decide +kernel) (by decide +kernel) ex1_NoSuchElementException ex2_NoSuchElementException ex3_NoSuchElementException hl.1 ⟨(Nat.le_of_ble_eq_true rfl), (Nat.le_of_ble_eq_true rfl), (Nat.le_of_ble_eq_true rfl), (Nat.le_of_ble_eq_true rfl)⟩ dX4_widest_110 dX4_widest_113 dX4_widest_114 dX4_widest_116 dX4_widest_119
