/-! THE REFERENCE: widest -/
/-- the greatest swing among the first i instruments of the sort that have read -/
def wid (M : MSt) (so : Int32) : Nat → Option Int64
  | 0 => none
  | i + 1 => if M.1 0 i = so then (if M.1 7 i ≤ 0 then wid M so i else some (match wid M so i with | none => M.2 11 i | some w => fX5_greater so w (M.2 11 i))) else wid M so i
def fnd (o : Option Int64) : Int32 := match o with | none => 0 | some _ => 1
def mst (o : Option Int64) : Int64 := match o with | none => 0 | some w => w
def hX5_widest (M : MSt) (n : Nat) (so : Int32) : Int64 × Int32 × MSt := if so < 0 then ((0 : Int32).toInt64, 1, M) else (if so ≤ 3 then (match wid M so n with | none => ((0 : Int32).toInt64, 2, M) | some w => (w, 0, M)) else ((0 : Int32).toInt64, 1, M))
set_option maxRecDepth 100000 in
set_option maxHeartbeats 4000000 in
theorem lpX5_widest {p : Program} {l : Launch} {e : Env} {s : State} {m : MethodId} {args : Array Value} {below : List Frame} {meth : Method} {c : Code} {D : mG} {r : Nat} {ma : Nat → Nat} {M : MSt} {n : Nat} {so : Int32} {A : Nat → Prop} (hx : p.tables.exec = Jvm.exec) (hb : c.code = cX5_widest) (hr : meth.sig.returnType = some .long) (hlocks : meth.locks = false) (G : CallFix p m c cX5_widest 6 s args aw RX5) (hgf : GF D s) (hA : ∀ q : Nat, s.heap.size ≤ q → A q) (hn8 : n ≤ 8) (hn : M.1 14 0 = nI n) (h0 : ¬ so < 0) (h3 : so ≤ 3) :
    ∀ (rem i9 : Nat), i9 + rem = n → ∀ (o9 : Option Int64), wid M so i9 = o9 → ∀ (ls : Array Slot) (H : Heap) (locs : List Loc), va_P D.1 vwCl (wM D r ma 0 M) H → va_D A (wM D r ma 0 M) → va_S A s.heap H locs → lv_has ls 6 [(5, .int (nI i9)), (3, .long (mst o9)), (2, .int (fnd o9)), (0, .ref r), (1, .int so)] → W p l e (rmP 4) s m args below meth c H locs 0 0 (MQ below (mQ D (some (.long (hX5_widest M n so).1)) (wM D r ma (hX5_widest M n so).2.1 (hX5_widest M n so).2.2) A) args s 0 0 A) (F0 m 28 ls []) := by
  intro rem
  induction rem with
  | zero =>
    intro i9 hcr o9 ho ls H locs hP hD hS hl
    have hcc : i9 = n := by omega
    have hge : nI n ≤ nI i9 := by rw [hcc]; exact nI_le (Nat.le_refl _) (by omega)
    match o9, ho with
    | none, ho =>
      have hl : lv_has ls 6 [(5, .int (nI i9)), (3, .long 0), (2, .int 0), (0, .ref r), (1, .int so)] := hl
      refine lv_iload hx hb dX5_widest_28 (lv_at hl 0 rfl) ?_
      refine lv_aload_n hx hb dX5_widest_30 rfl (lv_at hl 3 rfl) ?_
      refine mw_get G hgf (hP 0 _ rfl) rfl inX5 1 (by decide) qw3_163 rfl dX5_widest_31 ?_
      rw [show (M.1 14 0) = nI n from hn]
      refine lv_icmp_ge (tgt := 93) hx hb dX5_widest_34 (by decide) (fun _ => ?_) (fun h => absurd hge h)
      refine lv_iload_n hx hb dX5_widest_93 rfl (lv_at hl 2 rfl) ?_
      refine lv_if_eq (tgt := 101) hx hb dX5_widest_94 (by decide) (fun _ => ?_) (fun h => absurd (by decide) h)
      refine lv_aload_n hx hb dX5_widest_101 rfl (lv_at hl 3 rfl) ?_
      refine lv_iconst (v := 2) hx hb dX5_widest_102 (by decide) ?_
      refine kQ (C := RX5) (wr := []) (w1 := wM D r ma 2 M) G (cqX5_fail l D r ma 0 M 2) okX5_fail hgf hP hD hS hA [0, 1, 2, 3, 4, 5, 6, 7, 8, 9, 10, 11, 12, 13, 14] [] rfl rfl rfl rfl (by decide) (mw_recv hgf (hP 0 _ rfl) rfl) qw3_228 ⟨Nat.le_of_ble_eq_true rfl, Nat.le_of_ble_eq_true rfl⟩ ⟨Nat.zero_le _, Nat.zero_le _⟩ hl.1 (Nat.le_of_ble_eq_true rfl) rfl dX5_widest_103 (fun H locs hP hD hS => ?_)
      refine lv_i2l hx hb dX5_widest_106 rfl ?_
      exact mM_lret (h := hX5_widest M n so) (((if_neg h0).trans (if_pos h3)).trans (by rw [← hcc, ho])) hx hb hr hlocks hP hD hS dX5_widest_107
    | some w9, ho =>
      have hl : lv_has ls 6 [(5, .int (nI i9)), (3, .long w9), (2, .int 1), (0, .ref r), (1, .int so)] := hl
      refine lv_iload hx hb dX5_widest_28 (lv_at hl 0 rfl) ?_
      refine lv_aload_n hx hb dX5_widest_30 rfl (lv_at hl 3 rfl) ?_
      refine mw_get G hgf (hP 0 _ rfl) rfl inX5 1 (by decide) qw3_163 rfl dX5_widest_31 ?_
      rw [show (M.1 14 0) = nI n from hn]
      refine lv_icmp_ge (tgt := 93) hx hb dX5_widest_34 (by decide) (fun _ => ?_) (fun h => absurd hge h)
      refine lv_iload_n hx hb dX5_widest_93 rfl (lv_at hl 2 rfl) ?_
      refine lv_if_eq (tgt := 101) hx hb dX5_widest_94 (by decide) (fun h => absurd h (by decide)) (fun _ => ?_)
      refine lv_lload_n hx hb dX5_widest_97 rfl (lv_at hl 1 rfl) ?_
      refine lv_goto (tgt := 107) hx hb dX5_widest_98 (by decide) ?_
      exact mM_lret (h := hX5_widest M n so) (((if_neg h0).trans (if_pos h3)).trans (by rw [← hcc, ho])) hx hb hr hlocks hP hD hS dX5_widest_107
  | succ rem ih =>
    intro i9 hcr o9 ho ls H locs hP hD hS hl
    have hlt : ¬ nI n ≤ nI i9 := nI_ge (by omega) (by omega)
    match o9, ho with
    | none, ho =>
      have hl : lv_has ls 6 [(5, .int (nI i9)), (3, .long 0), (2, .int 0), (0, .ref r), (1, .int so)] := hl
      by_cases hs : M.1 0 i9 = so
      · by_cases hm : M.1 7 i9 ≤ 0
        · refine lv_iload hx hb dX5_widest_28 (lv_at hl 0 rfl) ?_
          refine lv_aload_n hx hb dX5_widest_30 rfl (lv_at hl 3 rfl) ?_
          refine mw_get G hgf (hP 0 _ rfl) rfl inX5 1 (by decide) qw3_163 rfl dX5_widest_31 ?_
          rw [show (M.1 14 0) = nI n from hn]
          refine lv_icmp_ge (tgt := 93) hx hb dX5_widest_34 (by decide) (fun h => absurd h hlt) (fun _ => ?_)
          refine lv_aload_n hx hb dX5_widest_37 rfl (lv_at hl 3 rfl) ?_
          refine mw_get G hgf (hP 0 _ rfl) rfl inX5 2 (by decide) qw3_164 rfl dX5_widest_38 ?_
          refine lv_iload hx hb dX5_widest_41 (lv_at hl 0 rfl) ?_
          refine mN_iald (f := M.1 0) G hgf (hP 1 _ rfl) (k := i9) (rfl) (by omega) (by decide) dX5_widest_43 ?_
          refine lv_iload_n hx hb dX5_widest_44 rfl (lv_at hl 4 rfl) ?_
          refine lv_icmp_ne (tgt := 87) hx hb dX5_widest_45 (by decide) (fun h => absurd hs h) (fun _ => ?_)
          refine lv_aload_n hx hb dX5_widest_48 rfl (lv_at hl 3 rfl) ?_
          refine mw_get G hgf (hP 0 _ rfl) rfl inX5 9 (by decide) qw3_171 rfl dX5_widest_49 ?_
          refine lv_iload hx hb dX5_widest_52 (lv_at hl 0 rfl) ?_
          refine mN_iald (f := M.1 7) G hgf (hP 8 _ rfl) (k := i9) (rfl) (by omega) (by decide) dX5_widest_54 ?_
          refine lv_if_le (tgt := 87) hx hb dX5_widest_55 (by decide) (fun _ => ?_) (fun h => absurd hm h)
          refine lv_iinc (v := (nI i9) + 1) (lv' := [(5, .int ((nI i9) + 1)), (3, .long 0), (2, .int 0), (0, .ref r), (1, .int so)]) hx hb dX5_widest_87 hl (k := 0) rfl rfl (by decide) rfl (fun ls hl => ?_)
          refine lv_goto (tgt := 28) hx hb dX5_widest_90 (by decide) ?_
          have hl := lv_sub (l' := [(5, .int (nI i9 + 1)), (3, .long (mst (none))), (2, .int (fnd (none))), (0, .ref r), (1, .int so)]) hl [0, 1, 2, 3, 4] rfl
          rw [nI_1] at hl
          exact ih (i9 + 1) (by omega) (none) (((show wid M so (i9 + 1) = _ from rfl).trans ((if_pos hs).trans (if_pos hm))).trans (by rw [ho])) _ _ _ hP hD hS hl
        · refine lv_iload hx hb dX5_widest_28 (lv_at hl 0 rfl) ?_
          refine lv_aload_n hx hb dX5_widest_30 rfl (lv_at hl 3 rfl) ?_
          refine mw_get G hgf (hP 0 _ rfl) rfl inX5 1 (by decide) qw3_163 rfl dX5_widest_31 ?_
          rw [show (M.1 14 0) = nI n from hn]
          refine lv_icmp_ge (tgt := 93) hx hb dX5_widest_34 (by decide) (fun h => absurd h hlt) (fun _ => ?_)
          refine lv_aload_n hx hb dX5_widest_37 rfl (lv_at hl 3 rfl) ?_
          refine mw_get G hgf (hP 0 _ rfl) rfl inX5 2 (by decide) qw3_164 rfl dX5_widest_38 ?_
          refine lv_iload hx hb dX5_widest_41 (lv_at hl 0 rfl) ?_
          refine mN_iald (f := M.1 0) G hgf (hP 1 _ rfl) (k := i9) (rfl) (by omega) (by decide) dX5_widest_43 ?_
          refine lv_iload_n hx hb dX5_widest_44 rfl (lv_at hl 4 rfl) ?_
          refine lv_icmp_ne (tgt := 87) hx hb dX5_widest_45 (by decide) (fun h => absurd hs h) (fun _ => ?_)
          refine lv_aload_n hx hb dX5_widest_48 rfl (lv_at hl 3 rfl) ?_
          refine mw_get G hgf (hP 0 _ rfl) rfl inX5 9 (by decide) qw3_171 rfl dX5_widest_49 ?_
          refine lv_iload hx hb dX5_widest_52 (lv_at hl 0 rfl) ?_
          refine mN_iald (f := M.1 7) G hgf (hP 8 _ rfl) (k := i9) (rfl) (by omega) (by decide) dX5_widest_54 ?_
          refine lv_if_le (tgt := 87) hx hb dX5_widest_55 (by decide) (fun h => absurd h hm) (fun _ => ?_)
          refine lv_iload_n hx hb dX5_widest_58 rfl (lv_at hl 2 rfl) ?_
          refine lv_if_eq (tgt := 77) hx hb dX5_widest_59 (by decide) (fun _ => ?_) (fun h => absurd (by decide) h)
          refine lv_aload_n hx hb dX5_widest_77 rfl (lv_at hl 3 rfl) ?_
          refine mw_get G hgf (hP 0 _ rfl) rfl inX5 13 (by decide) qw3_175 rfl dX5_widest_78 ?_
          refine lv_iload hx hb dX5_widest_81 (lv_at hl 0 rfl) ?_
          refine mN_lald (f := M.2 11) G hgf (hP 12 _ rfl) (k := i9) (rfl) (by omega) (by decide) dX5_widest_83 ?_
          refine lv_lstore_n (lv' := [(3, .long (M.2 11 i9)), (5, .int (nI i9)), (2, .int 0), (0, .ref r), (1, .int so)]) hx hb dX5_widest_84 rfl hl (by decide) rfl (fun ls hl => ?_)
          refine lv_iconst (v := 1) hx hb dX5_widest_85 (by decide) ?_
          refine lv_istore_n (lv' := [(2, .int 1), (3, .long (M.2 11 i9)), (5, .int (nI i9)), (0, .ref r), (1, .int so)]) hx hb dX5_widest_86 rfl hl (by decide) rfl (fun ls hl => ?_)
          refine lv_iinc (v := (nI i9) + 1) (lv' := [(5, .int ((nI i9) + 1)), (2, .int 1), (3, .long (M.2 11 i9)), (0, .ref r), (1, .int so)]) hx hb dX5_widest_87 hl (k := 2) rfl rfl (by decide) rfl (fun ls hl => ?_)
          refine lv_goto (tgt := 28) hx hb dX5_widest_90 (by decide) ?_
          have hl := lv_sub (l' := [(5, .int (nI i9 + 1)), (3, .long (mst (some (M.2 11 i9)))), (2, .int (fnd (some (M.2 11 i9)))), (0, .ref r), (1, .int so)]) hl [0, 2, 1, 3, 4] rfl
          rw [nI_1] at hl
          exact ih (i9 + 1) (by omega) (some (M.2 11 i9)) (((show wid M so (i9 + 1) = _ from rfl).trans ((if_pos hs).trans (if_neg hm))).trans (by rw [ho])) _ _ _ hP hD hS hl
      · refine lv_iload hx hb dX5_widest_28 (lv_at hl 0 rfl) ?_
        refine lv_aload_n hx hb dX5_widest_30 rfl (lv_at hl 3 rfl) ?_
        refine mw_get G hgf (hP 0 _ rfl) rfl inX5 1 (by decide) qw3_163 rfl dX5_widest_31 ?_
        rw [show (M.1 14 0) = nI n from hn]
        refine lv_icmp_ge (tgt := 93) hx hb dX5_widest_34 (by decide) (fun h => absurd h hlt) (fun _ => ?_)
        refine lv_aload_n hx hb dX5_widest_37 rfl (lv_at hl 3 rfl) ?_
        refine mw_get G hgf (hP 0 _ rfl) rfl inX5 2 (by decide) qw3_164 rfl dX5_widest_38 ?_
        refine lv_iload hx hb dX5_widest_41 (lv_at hl 0 rfl) ?_
        refine mN_iald (f := M.1 0) G hgf (hP 1 _ rfl) (k := i9) (rfl) (by omega) (by decide) dX5_widest_43 ?_
        refine lv_iload_n hx hb dX5_widest_44 rfl (lv_at hl 4 rfl) ?_
        refine lv_icmp_ne (tgt := 87) hx hb dX5_widest_45 (by decide) (fun _ => ?_) (fun h => absurd h hs)
        refine lv_iinc (v := (nI i9) + 1) (lv' := [(5, .int ((nI i9) + 1)), (3, .long 0), (2, .int 0), (0, .ref r), (1, .int so)]) hx hb dX5_widest_87 hl (k := 0) rfl rfl (by decide) rfl (fun ls hl => ?_)
        refine lv_goto (tgt := 28) hx hb dX5_widest_90 (by decide) ?_
        have hl := lv_sub (l' := [(5, .int (nI i9 + 1)), (3, .long (mst (none))), (2, .int (fnd (none))), (0, .ref r), (1, .int so)]) hl [0, 1, 2, 3, 4] rfl
        rw [nI_1] at hl
        exact ih (i9 + 1) (by omega) (none) (((show wid M so (i9 + 1) = _ from rfl).trans (if_neg hs)).trans (by rw [ho])) _ _ _ hP hD hS hl
    | some w9, ho =>
      have hl : lv_has ls 6 [(5, .int (nI i9)), (3, .long w9), (2, .int 1), (0, .ref r), (1, .int so)] := hl
      by_cases hs : M.1 0 i9 = so
      · by_cases hm : M.1 7 i9 ≤ 0
        · refine lv_iload hx hb dX5_widest_28 (lv_at hl 0 rfl) ?_
          refine lv_aload_n hx hb dX5_widest_30 rfl (lv_at hl 3 rfl) ?_
          refine mw_get G hgf (hP 0 _ rfl) rfl inX5 1 (by decide) qw3_163 rfl dX5_widest_31 ?_
          rw [show (M.1 14 0) = nI n from hn]
          refine lv_icmp_ge (tgt := 93) hx hb dX5_widest_34 (by decide) (fun h => absurd h hlt) (fun _ => ?_)
          refine lv_aload_n hx hb dX5_widest_37 rfl (lv_at hl 3 rfl) ?_
          refine mw_get G hgf (hP 0 _ rfl) rfl inX5 2 (by decide) qw3_164 rfl dX5_widest_38 ?_
          refine lv_iload hx hb dX5_widest_41 (lv_at hl 0 rfl) ?_
          refine mN_iald (f := M.1 0) G hgf (hP 1 _ rfl) (k := i9) (rfl) (by omega) (by decide) dX5_widest_43 ?_
          refine lv_iload_n hx hb dX5_widest_44 rfl (lv_at hl 4 rfl) ?_
          refine lv_icmp_ne (tgt := 87) hx hb dX5_widest_45 (by decide) (fun h => absurd hs h) (fun _ => ?_)
          refine lv_aload_n hx hb dX5_widest_48 rfl (lv_at hl 3 rfl) ?_
          refine mw_get G hgf (hP 0 _ rfl) rfl inX5 9 (by decide) qw3_171 rfl dX5_widest_49 ?_
          refine lv_iload hx hb dX5_widest_52 (lv_at hl 0 rfl) ?_
          refine mN_iald (f := M.1 7) G hgf (hP 8 _ rfl) (k := i9) (rfl) (by omega) (by decide) dX5_widest_54 ?_
          refine lv_if_le (tgt := 87) hx hb dX5_widest_55 (by decide) (fun _ => ?_) (fun h => absurd hm h)
          refine lv_iinc (v := (nI i9) + 1) (lv' := [(5, .int ((nI i9) + 1)), (3, .long w9), (2, .int 1), (0, .ref r), (1, .int so)]) hx hb dX5_widest_87 hl (k := 0) rfl rfl (by decide) rfl (fun ls hl => ?_)
          refine lv_goto (tgt := 28) hx hb dX5_widest_90 (by decide) ?_
          have hl := lv_sub (l' := [(5, .int (nI i9 + 1)), (3, .long (mst (some w9))), (2, .int (fnd (some w9))), (0, .ref r), (1, .int so)]) hl [0, 1, 2, 3, 4] rfl
          rw [nI_1] at hl
          exact ih (i9 + 1) (by omega) (some w9) (((show wid M so (i9 + 1) = _ from rfl).trans ((if_pos hs).trans (if_pos hm))).trans (by rw [ho])) _ _ _ hP hD hS hl
        · refine lv_iload hx hb dX5_widest_28 (lv_at hl 0 rfl) ?_
          refine lv_aload_n hx hb dX5_widest_30 rfl (lv_at hl 3 rfl) ?_
          refine mw_get G hgf (hP 0 _ rfl) rfl inX5 1 (by decide) qw3_163 rfl dX5_widest_31 ?_
          rw [show (M.1 14 0) = nI n from hn]
          refine lv_icmp_ge (tgt := 93) hx hb dX5_widest_34 (by decide) (fun h => absurd h hlt) (fun _ => ?_)
          refine lv_aload_n hx hb dX5_widest_37 rfl (lv_at hl 3 rfl) ?_
          refine mw_get G hgf (hP 0 _ rfl) rfl inX5 2 (by decide) qw3_164 rfl dX5_widest_38 ?_
          refine lv_iload hx hb dX5_widest_41 (lv_at hl 0 rfl) ?_
          refine mN_iald (f := M.1 0) G hgf (hP 1 _ rfl) (k := i9) (rfl) (by omega) (by decide) dX5_widest_43 ?_
          refine lv_iload_n hx hb dX5_widest_44 rfl (lv_at hl 4 rfl) ?_
          refine lv_icmp_ne (tgt := 87) hx hb dX5_widest_45 (by decide) (fun h => absurd hs h) (fun _ => ?_)
          refine lv_aload_n hx hb dX5_widest_48 rfl (lv_at hl 3 rfl) ?_
          refine mw_get G hgf (hP 0 _ rfl) rfl inX5 9 (by decide) qw3_171 rfl dX5_widest_49 ?_
          refine lv_iload hx hb dX5_widest_52 (lv_at hl 0 rfl) ?_
          refine mN_iald (f := M.1 7) G hgf (hP 8 _ rfl) (k := i9) (rfl) (by omega) (by decide) dX5_widest_54 ?_
          refine lv_if_le (tgt := 87) hx hb dX5_widest_55 (by decide) (fun h => absurd h hm) (fun _ => ?_)
          refine lv_iload_n hx hb dX5_widest_58 rfl (lv_at hl 2 rfl) ?_
          refine lv_if_eq (tgt := 77) hx hb dX5_widest_59 (by decide) (fun h => absurd h (by decide)) (fun _ => ?_)
          refine lv_iload_n hx hb dX5_widest_62 rfl (lv_at hl 4 rfl) ?_
          refine lv_lload_n hx hb dX5_widest_63 rfl (lv_at hl 1 rfl) ?_
          refine lv_aload_n hx hb dX5_widest_64 rfl (lv_at hl 3 rfl) ?_
          refine mw_get G hgf (hP 0 _ rfl) rfl inX5 13 (by decide) qw3_175 rfl dX5_widest_65 ?_
          refine lv_iload hx hb dX5_widest_68 (lv_at hl 0 rfl) ?_
          refine mN_lald (f := M.2 11) G hgf (hP 12 _ rfl) (k := i9) (rfl) (by omega) (by decide) dX5_widest_70 ?_
          refine kS G (cvX5_greater l D so w9 (M.2 11 i9)) okX5_greater hgf trivial qw4_81 ⟨Nat.le_of_ble_eq_true rfl, Nat.le_of_ble_eq_true rfl⟩ ⟨Nat.zero_le _, Nat.zero_le _⟩ hl.1 (Nat.le_of_ble_eq_true rfl) rfl dX5_widest_71 ?_
          refine lv_goto (tgt := 84) hx hb dX5_widest_74 (by decide) ?_
          refine lv_lstore_n (lv' := [(3, .long (fX5_greater so w9 (M.2 11 i9))), (5, .int (nI i9)), (2, .int 1), (0, .ref r), (1, .int so)]) hx hb dX5_widest_84 rfl hl (by decide) rfl (fun ls hl => ?_)
          refine lv_iconst (v := 1) hx hb dX5_widest_85 (by decide) ?_
          refine lv_istore_n (lv' := [(2, .int 1), (3, .long (fX5_greater so w9 (M.2 11 i9))), (5, .int (nI i9)), (0, .ref r), (1, .int so)]) hx hb dX5_widest_86 rfl hl (by decide) rfl (fun ls hl => ?_)
          refine lv_iinc (v := (nI i9) + 1) (lv' := [(5, .int ((nI i9) + 1)), (2, .int 1), (3, .long (fX5_greater so w9 (M.2 11 i9))), (0, .ref r), (1, .int so)]) hx hb dX5_widest_87 hl (k := 2) rfl rfl (by decide) rfl (fun ls hl => ?_)
          refine lv_goto (tgt := 28) hx hb dX5_widest_90 (by decide) ?_
          have hl := lv_sub (l' := [(5, .int (nI i9 + 1)), (3, .long (mst (some (fX5_greater so w9 (M.2 11 i9))))), (2, .int (fnd (some (fX5_greater so w9 (M.2 11 i9))))), (0, .ref r), (1, .int so)]) hl [0, 2, 1, 3, 4] rfl
          rw [nI_1] at hl
          exact ih (i9 + 1) (by omega) (some (fX5_greater so w9 (M.2 11 i9))) (((show wid M so (i9 + 1) = _ from rfl).trans ((if_pos hs).trans (if_neg hm))).trans (by rw [ho])) _ _ _ hP hD hS hl
      · refine lv_iload hx hb dX5_widest_28 (lv_at hl 0 rfl) ?_
        refine lv_aload_n hx hb dX5_widest_30 rfl (lv_at hl 3 rfl) ?_
        refine mw_get G hgf (hP 0 _ rfl) rfl inX5 1 (by decide) qw3_163 rfl dX5_widest_31 ?_
        rw [show (M.1 14 0) = nI n from hn]
        refine lv_icmp_ge (tgt := 93) hx hb dX5_widest_34 (by decide) (fun h => absurd h hlt) (fun _ => ?_)
        refine lv_aload_n hx hb dX5_widest_37 rfl (lv_at hl 3 rfl) ?_
        refine mw_get G hgf (hP 0 _ rfl) rfl inX5 2 (by decide) qw3_164 rfl dX5_widest_38 ?_
        refine lv_iload hx hb dX5_widest_41 (lv_at hl 0 rfl) ?_
        refine mN_iald (f := M.1 0) G hgf (hP 1 _ rfl) (k := i9) (rfl) (by omega) (by decide) dX5_widest_43 ?_
        refine lv_iload_n hx hb dX5_widest_44 rfl (lv_at hl 4 rfl) ?_
        refine lv_icmp_ne (tgt := 87) hx hb dX5_widest_45 (by decide) (fun _ => ?_) (fun h => absurd h hs)
        refine lv_iinc (v := (nI i9) + 1) (lv' := [(5, .int ((nI i9) + 1)), (3, .long w9), (2, .int 1), (0, .ref r), (1, .int so)]) hx hb dX5_widest_87 hl (k := 0) rfl rfl (by decide) rfl (fun ls hl => ?_)
        refine lv_goto (tgt := 28) hx hb dX5_widest_90 (by decide) ?_
        have hl := lv_sub (l' := [(5, .int (nI i9 + 1)), (3, .long (mst (some w9))), (2, .int (fnd (some w9))), (0, .ref r), (1, .int so)]) hl [0, 1, 2, 3, 4] rfl
        rw [nI_1] at hl
        exact ih (i9 + 1) (by omega) (some w9) (((show wid M so (i9 + 1) = _ from rfl).trans (if_neg hs)).trans (by rw [ho])) _ _ _ hP hD hS hl
set_option maxRecDepth 100000 in
set_option maxHeartbeats 4000000 in
theorem cqX5_widest (l : Launch) (D : mG) (r : Nat) (ma : Nat → Nat) (t : Int32) (M : MSt) {n : Nat} (hn8 : n ≤ 8) (hn : M.1 14 0 = nI n) (so : Int32) : cQ l D yX5_widest cX5_widest 6 (some .long) (rmP 4) (wM D r ma t M) [.ref r, .int so] (some (.long (hX5_widest M n so).1)) (wM D r ma (hX5_widest M n so).2.1 (hX5_widest M n so).2.2) := by
  refine cQ_of (by decide) (Nat.le_of_ble_eq_true rfl) ?_
  intro p e s m below meth c ls A hx hb hr hlocks G hnm hgf hA hP hD hS hl
  have hl : lv_has ls 6 [(0, .ref r), (1, .int so)] := hl
  refine lv_aload_n hx hb dX5_widest_0 rfl (lv_at hl 0 rfl) ?_
  refine lv_iconst (v := 0) hx hb dX5_widest_1 (by decide) ?_
  refine mw_put (w1 := wM D r ma 0 M) G hgf hP hD hS 0 rfl rfl inX5 tyX5_ok nmX5 0 (by decide) qw3_162 rfl rfl rfl rfl (Nat.le_of_ble_eq_true rfl) rfl dX5_widest_2 (fun H locs hP hD hS => ?_)
  refine lv_iload_n hx hb dX5_widest_5 rfl (lv_at hl 1 rfl) ?_
  refine lv_if_lt (tgt := 14) hx hb dX5_widest_6 (by decide) (fun c_1 => ?_) (fun c_1 => ?_)
  · refine lv_aload_n hx hb dX5_widest_14 rfl (lv_at hl 0 rfl) ?_
    refine lv_iconst (v := 1) hx hb dX5_widest_15 (by decide) ?_
    refine kQ (C := RX5) (wr := []) (w1 := wM D r ma 1 M) G (cqX5_fail l D r ma 0 M 1) okX5_fail hgf hP hD hS hA [0, 1, 2, 3, 4, 5, 6, 7, 8, 9, 10, 11, 12, 13, 14] [] rfl rfl rfl rfl (by decide) (mw_recv hgf (hP 0 _ rfl) rfl) qw3_228 ⟨Nat.le_of_ble_eq_true rfl, Nat.le_of_ble_eq_true rfl⟩ ⟨Nat.zero_le _, Nat.zero_le _⟩ hl.1 (Nat.le_of_ble_eq_true rfl) rfl dX5_widest_16 (fun H locs hP hD hS => ?_)
    refine lv_i2l hx hb dX5_widest_19 rfl ?_
    exact mM_lret (h := hX5_widest M n so) ((if_pos c_1).trans (rfl)) hx hb hr hlocks hP hD hS dX5_widest_20
  · refine lv_iload_n hx hb dX5_widest_9 rfl (lv_at hl 1 rfl) ?_
    refine lv_iconst (v := 3) hx hb dX5_widest_10 (by decide) ?_
    refine lv_icmp_le (tgt := 21) hx hb dX5_widest_11 (by decide) (fun c_2 => ?_) (fun c_2 => ?_)
    · refine lv_iconst (v := 0) hx hb dX5_widest_21 (by decide) ?_
      refine lv_istore_n (lv' := [(2, .int 0), (0, .ref r), (1, .int so)]) hx hb dX5_widest_22 rfl hl (by decide) rfl (fun ls hl => ?_)
      refine lv_lconst (v := 0) hx hb dX5_widest_23 (by decide) ?_
      refine lv_lstore_n (lv' := [(3, .long 0), (2, .int 0), (0, .ref r), (1, .int so)]) hx hb dX5_widest_24 rfl hl (by decide) rfl (fun ls hl => ?_)
      refine lv_iconst (v := 0) hx hb dX5_widest_25 (by decide) ?_
      refine lv_istore (lv' := [(5, .int 0), (3, .long 0), (2, .int 0), (0, .ref r), (1, .int so)]) hx hb dX5_widest_26 hl (by decide) rfl (fun ls hl => ?_)
      exact lpX5_widest hx hb hr hlocks G hgf hA hn8 hn c_1 c_2 n 0 (by omega) none rfl ls _ _ hP hD hS (lv_sub hl [0, 1, 2, 3, 4] rfl)
    · refine lv_aload_n hx hb dX5_widest_14 rfl (lv_at hl 0 rfl) ?_
      refine lv_iconst (v := 1) hx hb dX5_widest_15 (by decide) ?_
      refine kQ (C := RX5) (wr := []) (w1 := wM D r ma 1 M) G (cqX5_fail l D r ma 0 M 1) okX5_fail hgf hP hD hS hA [0, 1, 2, 3, 4, 5, 6, 7, 8, 9, 10, 11, 12, 13, 14] [] rfl rfl rfl rfl (by decide) (mw_recv hgf (hP 0 _ rfl) rfl) qw3_228 ⟨Nat.le_of_ble_eq_true rfl, Nat.le_of_ble_eq_true rfl⟩ ⟨Nat.zero_le _, Nat.zero_le _⟩ hl.1 (Nat.le_of_ble_eq_true rfl) rfl dX5_widest_16 (fun H locs hP hD hS => ?_)
      refine lv_i2l hx hb dX5_widest_19 rfl ?_
      exact mM_lret (h := hX5_widest M n so) ((if_neg c_1).trans ((if_neg c_2).trans (rfl))) hx hb hr hlocks hP hD hS dX5_widest_20
